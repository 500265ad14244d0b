section JN4_0
abbrev w_X11_add : cw_W := ([152, 501, 556, 600], [], [27, 29], [])
abbrev w_X11_fork : cw_W := ([152, 501, 552, 556, 600], [], [27, 29], [])
abbrev w_X11_freeze : cw_W := ([100, 101, 102, 103, 301, 554, 556, 600], [], [20, 33], [])
abbrev w_X11_show : cw_W := ([301, 400, 401, 402, 403, 453, 454, 556, 600], [], [20, 21, 22, 23, 33], [])
abbrev w_X11_meet : cw_W := ([301, 400, 401, 403, 453, 454, 556, 600], [], [20, 21, 22, 23, 33], [])
abbrev w_X11_spoil : cw_W := ([556, 600], [], [27, 29], [])
abbrev w_X11_push : cw_W := ([301, 600], [], [20], [])
set_option maxRecDepth 100000 in
set_option maxHeartbeats 4000000 in
theorem t_X11_push (Γ : hp_G) (l : Launch) (α : hp_T) (g : GC α) (a0 : Nat) (k0 : hp_K α a0 = 12) (a1 : Int32) : Met l yX11_push (hp_ws yX11_push cX11_push 2 (some .int)) (hp_rm 1 0 0) (hp_Pc Γ α [.ref a0, .int a1]) (hp_Qi Γ (fun r β => cw w_X11_push α β)) 0 0 (hp_A Γ) := by
  refine hp_start (by decide) ?_
  intro p e s m below meth c C hr hlk B0 hnm
  have C : hp_C Γ p m c cX11_push 2 s ([.ref a0, .int a1] : List Value).toArray RX11 := C
  have hx := C.1.1
  have hb := C.1.2.1
  have hown := C.1.2.2.2.1
  have hts := C.1.2.2.2.2
  have B : hp_B Γ (cw w_X11_push) s α α s.heap [] := ⟨B0.1, B0.2.1, cw_rf g⟩
  have lit0 : (0 : Int32).toInt = 0 := by decide
  have lit1 : (1 : Int32).toInt = 1 := by decide
  have lit3 : (3 : Int32).toInt = 3 := by decide
  have lit64 : (64 : Int32).toInt = 64 := by decide
  have hl := lv_entry ([.ref a0, .int a1]) (n := 2) (Nat.le_of_ble_eq_true rfl)
  show W p l e (hp_rm 1 0 0) s m ([.ref a0, .int a1] : List Value).toArray below meth c s.heap [] 0 0 (MQ below (hp_Qi Γ (fun r β => cw w_X11_push α β)) ([.ref a0, .int a1] : List Value).toArray s 0 0 (hp_A Γ)) (entryFrame m ([.ref a0, .int a1] : List Value).toArray 2)
  rw [lg_entry_eq]
  generalize (lg_sl ([.ref a0, .int a1]) ++ List.replicate (2 - (lg_sl ([.ref a0, .int a1])).length) Slot.unset).toArray = ls at hl ⊢
  have hl : lv_has ls 2 [(0, .ref a0), (1, .int a1)] := hl
  refine lv_aload_n hx hb dX11_push_0 rfl (lv_at hl 0 rfl) (hp_n (n := 1) rfl ?_)
  refine lv_iload_n hx hb dX11_push_1 rfl (lv_at hl 1 rfl) (hp_n (n := 2) rfl ?_)
  refine q_ci (pc' := 5) B (hp_runV (As := [.int a1]) (rest := []) C B (t_X11_isMark Γ l α B.2.2.1 a0 (cw_k B.2.2 k0) a1) lb_X11_isMark lv_X11_isMark lk_X11_188 (cw_k B.2.2 k0) rfl (by decide) rfl hl.1 rfl (Nat.le_of_ble_eq_true rfl) dX11_push_2 ⟨Nat.le_refl _, Nat.le_refl _⟩) (fun _ _ h => by rw [h.1]; exact B.2.2) rfl (fun rh_1 αh_1 Hh_1 Lh_1 ph_1 Bh_1 => ?_)
  rw [ph_1.1] at Bh_1
  have zh_1 := ph_1.2
  refine lv_if_ne (tgt := 14) hx hb dX11_push_5 (by decide) (fun c_2 => ?_) (fun c_2 => hp_n (n := 8) rfl ?_)
  ·
    have jc_2 := il_ne c_2
    refine lv_aload_n hx hb dX11_push_14 rfl (lv_at hl 0 rfl) (hp_n (n := 15) rfl ?_)
    refine q_getr (κ := 12) (k := 3) (φ := 603) (pc' := 18) C Bh_1 (cw_k Bh_1.2.2 k0) fl_X11_26 rfl rfl rfl (cw_r Bh_1.2.2 k0 rfl rfl (by decide) (by decide)) dX11_push_15 rfl (fun b_3 eb_3 kb_3 => ?_)
    refine q_geti (κ := 6) (k := 1) (φ := 301) (pc' := 21) C Bh_1 (cw_k Bh_1.2.2 kb_3) fl_X11_132 rfl rfl rfl dX11_push_18 rfl (fun x_4 ex_4 => ?_)
    refine lv_bipush (v := 64) hx hb dX11_push_21 (by decide) (hp_n (n := 23) rfl ?_)
    refine lv_icmp_lt (tgt := 32) hx hb dX11_push_23 (by decide) (fun c_5 => ?_) (fun c_5 => hp_n (n := 26) rfl ?_)
    ·
      have jc_5 := il_lt c_5
      refine lv_aload_n hx hb dX11_push_32 rfl (lv_at hl 0 rfl) (hp_n (n := 33) rfl ?_)
      refine q_gets (κ := 12) (k := 3) (φ := 603) (pc' := 36) C Bh_1 (cw_k Bh_1.2.2 k0) fl_X11_26 rfl rfl rfl eb_3 dX11_push_33 rfl ?_
      refine lv_iload_n hx hb dX11_push_36 rfl (lv_at hl 1 rfl) (hp_n (n := 37) rfl ?_)
      refine q_cv (pc' := 40) Bh_1 (hp_runV (As := [.int a1]) (rest := []) C Bh_1 (t_X5_put Γ l α Bh_1.2.2.1 b_3 (cw_k Bh_1.2.2 kb_3) a1) lb_X5_put lv_X5_put lk_X11_259 (cw_k Bh_1.2.2 kb_3) rfl (by decide) rfl hl.1 rfl (Nat.le_of_ble_eq_true rfl) dX11_push_37 ⟨Nat.le_refl _, Nat.le_refl _⟩) (fun _ h => cw_tr Bh_1.2.2 h (by decide)) rfl (fun αh_6 Hh_6 Lh_6 ph_6 Bh_6 => ?_)
      refine lv_aload_n hx hb dX11_push_40 rfl (lv_at hl 0 rfl) (hp_n (n := 41) rfl ?_)
      refine lv_aload_n hx hb dX11_push_41 rfl (lv_at hl 0 rfl) (hp_n (n := 42) rfl ?_)
      have t_7 : b_3 = hp_R αh_6 603 a0 := by rw [cw_R ph_6 a0 (by decide)]; exact eb_3
      refine q_gets (κ := 12) (k := 3) (φ := 603) (pc' := 45) C Bh_6 (cw_k Bh_6.2.2 k0) fl_X11_26 rfl rfl rfl t_7 dX11_push_42 rfl ?_
      refine q_geti (κ := 6) (k := 1) (φ := 301) (pc' := 48) C Bh_6 (cw_k Bh_6.2.2 kb_3) fl_X11_132 rfl rfl rfl dX11_push_45 rfl (fun x_8 ex_8 => ?_)
      refine q_ci (pc' := 51) Bh_6 (hp_runV (As := [.int x_8]) (rest := []) C Bh_6 (t_X11_answer Γ l αh_6 Bh_6.2.2.1 a0 (cw_k Bh_6.2.2 k0) x_8) lb_X11_answer lv_X11_answer lk_X11_115 (cw_k Bh_6.2.2 k0) rfl (by decide) rfl hl.1 rfl (Nat.le_of_ble_eq_true rfl) dX11_push_48 ⟨Nat.le_refl _, Nat.le_refl _⟩) (fun _ _ h => cw_tr Bh_6.2.2 h (by decide)) rfl (fun rh_9 αh_9 Hh_9 Lh_9 ph_9 Bh_9 => ?_)
      exact q_iret C Bh_9 hr hlk Bh_9.2.2 dX11_push_51
    ·
      have jc_5 := il_nlt c_5
      refine lv_aload_n hx hb dX11_push_26 rfl (lv_at hl 0 rfl) (hp_n (n := 27) rfl ?_)
      refine lv_iconst (v := 3) hx hb dX11_push_27 (by decide) (hp_n (n := 28) rfl ?_)
      refine q_ci (pc' := 31) Bh_1 (hp_runV (As := [.int 3]) (rest := []) C Bh_1 (t_X11_refuse Γ l α Bh_1.2.2.1 a0 (cw_k Bh_1.2.2 k0) 3) lb_X11_refuse lv_X11_refuse lk_X11_98 (cw_k Bh_1.2.2 k0) rfl (by decide) rfl hl.1 rfl (Nat.le_of_ble_eq_true rfl) dX11_push_28 ⟨Nat.le_refl _, Nat.le_refl _⟩) (fun _ _ h => cw_tr Bh_1.2.2 h (by decide)) rfl (fun rh_10 αh_10 Hh_10 Lh_10 ph_10 Bh_10 => ?_)
      exact q_iret C Bh_10 hr hlk Bh_10.2.2 dX11_push_31
  ·
    have jc_2 := il_eq c_2
    refine lv_aload_n hx hb dX11_push_8 rfl (lv_at hl 0 rfl) (hp_n (n := 9) rfl ?_)
    refine lv_iconst (v := 1) hx hb dX11_push_9 (by decide) (hp_n (n := 10) rfl ?_)
    refine q_ci (pc' := 13) Bh_1 (hp_runV (As := [.int 1]) (rest := []) C Bh_1 (t_X11_refuse Γ l α Bh_1.2.2.1 a0 (cw_k Bh_1.2.2 k0) 1) lb_X11_refuse lv_X11_refuse lk_X11_98 (cw_k Bh_1.2.2 k0) rfl (by decide) rfl hl.1 rfl (Nat.le_of_ble_eq_true rfl) dX11_push_10 ⟨Nat.le_refl _, Nat.le_refl _⟩) (fun _ _ h => cw_tr Bh_1.2.2 h (by decide)) rfl (fun rh_11 αh_11 Hh_11 Lh_11 ph_11 Bh_11 => ?_)
    exact q_iret C Bh_11 hr hlk Bh_11.2.2 dX11_push_13
abbrev w_X11_poke : cw_W := ([600], [], [20], [])
set_option maxRecDepth 100000 in
set_option maxHeartbeats 4000000 in
theorem t_X11_poke (Γ : hp_G) (l : Launch) (α : hp_T) (g : GC α) (a0 : Nat) (k0 : hp_K α a0 = 12) (a1 : Int32) (a2 : Int32) : Met l yX11_poke (hp_ws yX11_poke cX11_poke 4 (some .int)) (hp_rm 1 0 0) (hp_Pc Γ α [.ref a0, .int a1, .int a2]) (hp_Qi Γ (fun r β => cw w_X11_poke α β)) 0 0 (hp_A Γ) := by
  refine hp_start (by decide) ?_
  intro p e s m below meth c C hr hlk B0 hnm
  have C : hp_C Γ p m c cX11_poke 4 s ([.ref a0, .int a1, .int a2] : List Value).toArray RX11 := C
  have hx := C.1.1
  have hb := C.1.2.1
  have hown := C.1.2.2.2.1
  have hts := C.1.2.2.2.2
  have B : hp_B Γ (cw w_X11_poke) s α α s.heap [] := ⟨B0.1, B0.2.1, cw_rf g⟩
  have lit0 : (0 : Int32).toInt = 0 := by decide
  have lit1 : (1 : Int32).toInt = 1 := by decide
  have lit5 : (5 : Int32).toInt = 5 := by decide
  have hl := lv_entry ([.ref a0, .int a1, .int a2]) (n := 4) (Nat.le_of_ble_eq_true rfl)
  show W p l e (hp_rm 1 0 0) s m ([.ref a0, .int a1, .int a2] : List Value).toArray below meth c s.heap [] 0 0 (MQ below (hp_Qi Γ (fun r β => cw w_X11_poke α β)) ([.ref a0, .int a1, .int a2] : List Value).toArray s 0 0 (hp_A Γ)) (entryFrame m ([.ref a0, .int a1, .int a2] : List Value).toArray 4)
  rw [lg_entry_eq]
  generalize (lg_sl ([.ref a0, .int a1, .int a2]) ++ List.replicate (4 - (lg_sl ([.ref a0, .int a1, .int a2])).length) Slot.unset).toArray = ls at hl ⊢
  have hl : lv_has ls 4 [(0, .ref a0), (1, .int a1), (2, .int a2)] := hl
  refine lv_iload_n hx hb dX11_poke_0 rfl (lv_at hl 1 rfl) (hp_n (n := 1) rfl ?_)
  have J12 : ∀ (Hh_1 : Heap) (Lh_1 : List Loc) (Bh_1 : hp_B Γ (cw w_X11_poke) s α α Hh_1 Lh_1) (ls : Array Slot) (hl : lv_has ls 4 [(0, .ref a0)]), W p l e (hp_rm 1 0 0) s m ([.ref a0, .int a1, .int a2] : List Value).toArray below meth c Hh_1 Lh_1 0 0 (MQ below (hp_Qi Γ (fun r β => cw w_X11_poke α β)) ([.ref a0, .int a1, .int a2] : List Value).toArray s 0 0 (hp_A Γ)) (F0 m 12 ls []) := by
    intro Hh_1 Lh_1 Bh_1 ls hl
    refine lv_aload_n hx hb dX11_poke_12 rfl (lv_at hl 0 rfl) (hp_n (n := 13) rfl ?_)
    refine lv_iconst (v := 1) hx hb dX11_poke_13 (by decide) (hp_n (n := 14) rfl ?_)
    refine q_ci (pc' := 17) Bh_1 (hp_runV (As := [.int 1]) (rest := []) C Bh_1 (t_X11_refuse Γ l α Bh_1.2.2.1 a0 (cw_k Bh_1.2.2 k0) 1) lb_X11_refuse lv_X11_refuse lk_X11_98 (cw_k Bh_1.2.2 k0) rfl (by decide) rfl hl.1 rfl (Nat.le_of_ble_eq_true rfl) dX11_poke_14 ⟨Nat.le_refl _, Nat.le_refl _⟩) (fun _ _ h => cw_tr Bh_1.2.2 h (by decide)) rfl (fun rh_2 αh_2 Hh_2 Lh_2 ph_2 Bh_2 => ?_)
    exact q_iret C Bh_2 hr hlk Bh_2.2.2 dX11_poke_17
  refine lv_if_lt (tgt := 12) hx hb dX11_poke_1 (by decide) (fun c_3 => ?_) (fun c_3 => hp_n (n := 4) rfl ?_)
  ·
    have jc_3 := il_lt c_3
    exact J12 s.heap [] B ls (lv_sub hl [0] rfl)
  ·
    have jc_3 := il_nlt c_3
    refine lv_aload_n hx hb dX11_poke_4 rfl (lv_at hl 0 rfl) (hp_n (n := 5) rfl ?_)
    refine lv_iload_n hx hb dX11_poke_5 rfl (lv_at hl 2 rfl) (hp_n (n := 6) rfl ?_)
    refine q_ci (pc' := 9) B (hp_runV (As := [.int a2]) (rest := []) C B (t_X11_isMark Γ l α B.2.2.1 a0 (cw_k B.2.2 k0) a2) lb_X11_isMark lv_X11_isMark lk_X11_188 (cw_k B.2.2 k0) rfl (by decide) rfl hl.1 rfl (Nat.le_of_ble_eq_true rfl) dX11_poke_6 ⟨Nat.le_refl _, Nat.le_refl _⟩) (fun _ _ h => by rw [h.1]; exact B.2.2) rfl (fun rh_4 αh_4 Hh_4 Lh_4 ph_4 Bh_4 => ?_)
    rw [ph_4.1] at Bh_4
    have zh_4 := ph_4.2
    refine lv_if_ne (tgt := 18) hx hb dX11_poke_9 (by decide) (fun c_5 => ?_) (fun c_5 => hp_n (n := 12) rfl ?_)
    ·
      have jc_5 := il_ne c_5
      refine lv_iload_n hx hb dX11_poke_18 rfl (lv_at hl 1 rfl) (hp_n (n := 19) rfl ?_)
      refine lv_aload_n hx hb dX11_poke_19 rfl (lv_at hl 0 rfl) (hp_n (n := 20) rfl ?_)
      refine q_getr (κ := 12) (k := 3) (φ := 603) (pc' := 23) C Bh_4 (cw_k Bh_4.2.2 k0) fl_X11_26 rfl rfl rfl (cw_r Bh_4.2.2 k0 rfl rfl (by decide) (by decide)) dX11_poke_20 rfl (fun b_6 eb_6 kb_6 => ?_)
      refine q_geti (κ := 6) (k := 1) (φ := 301) (pc' := 26) C Bh_4 (cw_k Bh_4.2.2 kb_6) fl_X11_132 rfl rfl rfl dX11_poke_23 rfl (fun x_7 ex_7 => ?_)
      refine lv_icmp_lt (tgt := 35) hx hb dX11_poke_26 (by decide) (fun c_8 => ?_) (fun c_8 => hp_n (n := 29) rfl ?_)
      ·
        have jc_8 := il_lt c_8
        refine lv_aload_n hx hb dX11_poke_35 rfl (lv_at hl 0 rfl) (hp_n (n := 36) rfl ?_)
        refine q_gets (κ := 12) (k := 3) (φ := 603) (pc' := 39) C Bh_4 (cw_k Bh_4.2.2 k0) fl_X11_26 rfl rfl rfl eb_6 dX11_poke_36 rfl ?_
        refine lv_iload_n hx hb dX11_poke_39 rfl (lv_at hl 1 rfl) (hp_n (n := 40) rfl ?_)
        refine q_ci (pc' := 43) Bh_4 (hp_runV (As := [.int a1]) (rest := []) C Bh_4 (t_X5_at Γ l α Bh_4.2.2.1 b_6 (cw_k Bh_4.2.2 kb_6) a1) lb_X5_at lv_X5_at lk_X11_135 (cw_k Bh_4.2.2 kb_6) rfl (by decide) rfl hl.1 rfl (Nat.le_of_ble_eq_true rfl) dX11_poke_40 ⟨Nat.le_refl _, Nat.le_refl _⟩) (fun _ _ h => by rw [h]; exact Bh_4.2.2) rfl (fun rh_9 αh_9 Hh_9 Lh_9 ph_9 Bh_9 => ?_)
        rw [ph_9] at Bh_9
        refine lv_istore_n (lv' := [(3, .int rh_9), (0, .ref a0), (1, .int a1), (2, .int a2)]) hx hb dX11_poke_43 rfl hl (by decide) rfl (fun ls hl => hp_n (n := 44) rfl ?_)
        refine lv_aload_n hx hb dX11_poke_44 rfl (lv_at hl 1 rfl) (hp_n (n := 45) rfl ?_)
        refine q_gets (κ := 12) (k := 3) (φ := 603) (pc' := 48) C Bh_9 (cw_k Bh_9.2.2 k0) fl_X11_26 rfl rfl rfl eb_6 dX11_poke_45 rfl ?_
        refine lv_iload_n hx hb dX11_poke_48 rfl (lv_at hl 2 rfl) (hp_n (n := 49) rfl ?_)
        refine lv_iload_n hx hb dX11_poke_49 rfl (lv_at hl 3 rfl) (hp_n (n := 50) rfl ?_)
        refine q_cv (pc' := 53) Bh_9 (hp_runV (As := [.int a1, .int a2]) (rest := []) C Bh_9 (t_X5_change Γ l α Bh_9.2.2.1 b_6 (cw_k Bh_9.2.2 kb_6) a1 a2) lb_X5_change lv_X5_change lk_X11_260 (cw_k Bh_9.2.2 kb_6) rfl (by decide) rfl hl.1 rfl (Nat.le_of_ble_eq_true rfl) dX11_poke_50 ⟨Nat.le_refl _, Nat.le_refl _⟩) (fun _ h => cw_tr Bh_9.2.2 h (by decide)) rfl (fun αh_10 Hh_10 Lh_10 ph_10 Bh_10 => ?_)
        refine lv_aload_n hx hb dX11_poke_53 rfl (lv_at hl 1 rfl) (hp_n (n := 54) rfl ?_)
        refine lv_iload_n hx hb dX11_poke_54 rfl (lv_at hl 0 rfl) (hp_n (n := 55) rfl ?_)
        refine q_ci (pc' := 58) Bh_10 (hp_runV (As := [.int rh_9]) (rest := []) C Bh_10 (t_X11_answer Γ l αh_10 Bh_10.2.2.1 a0 (cw_k Bh_10.2.2 k0) rh_9) lb_X11_answer lv_X11_answer lk_X11_115 (cw_k Bh_10.2.2 k0) rfl (by decide) rfl hl.1 rfl (Nat.le_of_ble_eq_true rfl) dX11_poke_55 ⟨Nat.le_refl _, Nat.le_refl _⟩) (fun _ _ h => cw_tr Bh_10.2.2 h (by decide)) rfl (fun rh_11 αh_11 Hh_11 Lh_11 ph_11 Bh_11 => ?_)
        exact q_iret C Bh_11 hr hlk Bh_11.2.2 dX11_poke_58
      ·
        have jc_8 := il_nlt c_8
        refine lv_aload_n hx hb dX11_poke_29 rfl (lv_at hl 0 rfl) (hp_n (n := 30) rfl ?_)
        refine lv_iconst (v := 5) hx hb dX11_poke_30 (by decide) (hp_n (n := 31) rfl ?_)
        refine q_ci (pc' := 34) Bh_4 (hp_runV (As := [.int 5]) (rest := []) C Bh_4 (t_X11_refuse Γ l α Bh_4.2.2.1 a0 (cw_k Bh_4.2.2 k0) 5) lb_X11_refuse lv_X11_refuse lk_X11_98 (cw_k Bh_4.2.2 k0) rfl (by decide) rfl hl.1 rfl (Nat.le_of_ble_eq_true rfl) dX11_poke_31 ⟨Nat.le_refl _, Nat.le_refl _⟩) (fun _ _ h => cw_tr Bh_4.2.2 h (by decide)) rfl (fun rh_12 αh_12 Hh_12 Lh_12 ph_12 Bh_12 => ?_)
        exact q_iret C Bh_12 hr hlk Bh_12.2.2 dX11_poke_34
    ·
      have jc_5 := il_eq c_5
      exact J12 Hh_4 Lh_4 Bh_4 ls (lv_sub hl [0] rfl)
abbrev w_X11_pad : cw_W := ([600], [], [], [])
set_option maxRecDepth 100000 in
set_option maxHeartbeats 4000000 in
theorem t_X11_pad (Γ : hp_G) (l : Launch) (α : hp_T) (g : GC α) (a0 : Nat) (k0 : hp_K α a0 = 12) (a1 : Int32) : Met l yX11_pad (hp_ws yX11_pad cX11_pad 2 (some .int)) (hp_rm 1 0 0) (hp_Pc Γ α [.ref a0, .int a1]) (hp_Qi Γ (fun r β => cw w_X11_pad α β)) 0 0 (hp_A Γ) := by
  refine hp_start (by decide) ?_
  intro p e s m below meth c C hr hlk B0 hnm
  have C : hp_C Γ p m c cX11_pad 2 s ([.ref a0, .int a1] : List Value).toArray RX11 := C
  have hx := C.1.1
  have hb := C.1.2.1
  have hown := C.1.2.2.2.1
  have hts := C.1.2.2.2.2
  have B : hp_B Γ (cw w_X11_pad) s α α s.heap [] := ⟨B0.1, B0.2.1, cw_rf g⟩
  have lit0 : (0 : Int32).toInt = 0 := by decide
  have lit1 : (1 : Int32).toInt = 1 := by decide
  have lit5 : (5 : Int32).toInt = 5 := by decide
  have hl := lv_entry ([.ref a0, .int a1]) (n := 2) (Nat.le_of_ble_eq_true rfl)
  show W p l e (hp_rm 1 0 0) s m ([.ref a0, .int a1] : List Value).toArray below meth c s.heap [] 0 0 (MQ below (hp_Qi Γ (fun r β => cw w_X11_pad α β)) ([.ref a0, .int a1] : List Value).toArray s 0 0 (hp_A Γ)) (entryFrame m ([.ref a0, .int a1] : List Value).toArray 2)
  rw [lg_entry_eq]
  generalize (lg_sl ([.ref a0, .int a1]) ++ List.replicate (2 - (lg_sl ([.ref a0, .int a1])).length) Slot.unset).toArray = ls at hl ⊢
  have hl : lv_has ls 2 [(0, .ref a0), (1, .int a1)] := hl
  refine lv_iload_n hx hb dX11_pad_0 rfl (lv_at hl 1 rfl) (hp_n (n := 1) rfl ?_)
  refine lv_if_ge (tgt := 10) hx hb dX11_pad_1 (by decide) (fun c_1 => ?_) (fun c_1 => hp_n (n := 4) rfl ?_)
  ·
    have jc_1 := il_le c_1
    refine lv_iload_n hx hb dX11_pad_10 rfl (lv_at hl 1 rfl) (hp_n (n := 11) rfl ?_)
    refine lv_aload_n hx hb dX11_pad_11 rfl (lv_at hl 0 rfl) (hp_n (n := 12) rfl ?_)
    refine q_getr (κ := 12) (k := 3) (φ := 603) (pc' := 15) C B (cw_k B.2.2 k0) fl_X11_26 rfl rfl rfl (cw_r B.2.2 k0 rfl rfl (by decide) (by decide)) dX11_pad_12 rfl (fun b_2 eb_2 kb_2 => ?_)
    refine q_geti (κ := 6) (k := 1) (φ := 301) (pc' := 18) C B (cw_k B.2.2 kb_2) fl_X11_132 rfl rfl rfl dX11_pad_15 rfl (fun x_3 ex_3 => ?_)
    refine lv_icmp_ge (tgt := 36) hx hb dX11_pad_18 (by decide) (fun c_4 => ?_) (fun c_4 => hp_n (n := 21) rfl ?_)
    ·
      have jc_4 := il_le c_4
      refine lv_aload_n hx hb dX11_pad_36 rfl (lv_at hl 0 rfl) (hp_n (n := 37) rfl ?_)
      refine lv_iconst (v := 5) hx hb dX11_pad_37 (by decide) (hp_n (n := 38) rfl ?_)
      refine q_ci (pc' := 41) B (hp_runV (As := [.int 5]) (rest := []) C B (t_X11_refuse Γ l α B.2.2.1 a0 (cw_k B.2.2 k0) 5) lb_X11_refuse lv_X11_refuse lk_X11_98 (cw_k B.2.2 k0) rfl (by decide) rfl hl.1 rfl (Nat.le_of_ble_eq_true rfl) dX11_pad_38 ⟨Nat.le_refl _, Nat.le_refl _⟩) (fun _ _ h => cw_tr B.2.2 h (by decide)) rfl (fun rh_5 αh_5 Hh_5 Lh_5 ph_5 Bh_5 => ?_)
      exact q_iret C Bh_5 hr hlk Bh_5.2.2 dX11_pad_41
    ·
      have jc_4 := il_nle c_4
      refine lv_aload_n hx hb dX11_pad_21 rfl (lv_at hl 0 rfl) (hp_n (n := 22) rfl ?_)
      refine lv_aload_n hx hb dX11_pad_22 rfl (lv_at hl 0 rfl) (hp_n (n := 23) rfl ?_)
      refine q_gets (κ := 12) (k := 3) (φ := 603) (pc' := 26) C B (cw_k B.2.2 k0) fl_X11_26 rfl rfl rfl eb_2 dX11_pad_23 rfl ?_
      refine lv_iload_n hx hb dX11_pad_26 rfl (lv_at hl 1 rfl) (hp_n (n := 27) rfl ?_)
      refine q_ci (pc' := 30) B (hp_runV (As := [.int a1]) (rest := [.ref a0]) C B (t_X5_at Γ l α B.2.2.1 b_2 (cw_k B.2.2 kb_2) a1) lb_X5_at lv_X5_at lk_X11_135 (cw_k B.2.2 kb_2) rfl (by decide) rfl hl.1 rfl (Nat.le_of_ble_eq_true rfl) dX11_pad_27 ⟨Nat.le_refl _, Nat.le_refl _⟩) (fun _ _ h => by rw [h]; exact B.2.2) rfl (fun rh_6 αh_6 Hh_6 Lh_6 ph_6 Bh_6 => ?_)
      rw [ph_6] at Bh_6
      refine q_ci (pc' := 33) Bh_6 (hp_runV (As := [.int rh_6]) (rest := []) C Bh_6 (t_X11_answer Γ l α Bh_6.2.2.1 a0 (cw_k Bh_6.2.2 k0) rh_6) lb_X11_answer lv_X11_answer lk_X11_115 (cw_k Bh_6.2.2 k0) rfl (by decide) rfl hl.1 rfl (Nat.le_of_ble_eq_true rfl) dX11_pad_30 ⟨Nat.le_refl _, Nat.le_refl _⟩) (fun _ _ h => cw_tr Bh_6.2.2 h (by decide)) rfl (fun rh_7 αh_7 Hh_7 Lh_7 ph_7 Bh_7 => ?_)
      refine lv_goto (tgt := 41) hx hb dX11_pad_33 (by decide) ?_
      exact q_iret C Bh_7 hr hlk Bh_7.2.2 dX11_pad_41
  ·
    have jc_1 := il_nle c_1
    refine lv_aload_n hx hb dX11_pad_4 rfl (lv_at hl 0 rfl) (hp_n (n := 5) rfl ?_)
    refine lv_iconst (v := 1) hx hb dX11_pad_5 (by decide) (hp_n (n := 6) rfl ?_)
    refine q_ci (pc' := 9) B (hp_runV (As := [.int 1]) (rest := []) C B (t_X11_refuse Γ l α B.2.2.1 a0 (cw_k B.2.2 k0) 1) lb_X11_refuse lv_X11_refuse lk_X11_98 (cw_k B.2.2 k0) rfl (by decide) rfl hl.1 rfl (Nat.le_of_ble_eq_true rfl) dX11_pad_6 ⟨Nat.le_refl _, Nat.le_refl _⟩) (fun _ _ h => cw_tr B.2.2 h (by decide)) rfl (fun rh_8 αh_8 Hh_8 Lh_8 ph_8 Bh_8 => ?_)
    exact q_iret C Bh_8 hr hlk Bh_8.2.2 dX11_pad_9
abbrev w_X11_cut : cw_W := ([301, 600], [], [], [])
set_option maxRecDepth 100000 in
set_option maxHeartbeats 4000000 in
theorem t_X11_cut (Γ : hp_G) (l : Launch) (α : hp_T) (g : GC α) (a0 : Nat) (k0 : hp_K α a0 = 12) (a1 : Int32) : Met l yX11_cut (hp_ws yX11_cut cX11_cut 2 (some .int)) (hp_rm 1 0 0) (hp_Pc Γ α [.ref a0, .int a1]) (hp_Qi Γ (fun r β => cw w_X11_cut α β)) 0 0 (hp_A Γ) := by
  refine hp_start (by decide) ?_
  intro p e s m below meth c C hr hlk B0 hnm
  have C : hp_C Γ p m c cX11_cut 2 s ([.ref a0, .int a1] : List Value).toArray RX11 := C
  have hx := C.1.1
  have hb := C.1.2.1
  have hown := C.1.2.2.2.1
  have hts := C.1.2.2.2.2
  have B : hp_B Γ (cw w_X11_cut) s α α s.heap [] := ⟨B0.1, B0.2.1, cw_rf g⟩
  have lit0 : (0 : Int32).toInt = 0 := by decide
  have lit1 : (1 : Int32).toInt = 1 := by decide
  have lit5 : (5 : Int32).toInt = 5 := by decide
  have hl := lv_entry ([.ref a0, .int a1]) (n := 2) (Nat.le_of_ble_eq_true rfl)
  show W p l e (hp_rm 1 0 0) s m ([.ref a0, .int a1] : List Value).toArray below meth c s.heap [] 0 0 (MQ below (hp_Qi Γ (fun r β => cw w_X11_cut α β)) ([.ref a0, .int a1] : List Value).toArray s 0 0 (hp_A Γ)) (entryFrame m ([.ref a0, .int a1] : List Value).toArray 2)
  rw [lg_entry_eq]
  generalize (lg_sl ([.ref a0, .int a1]) ++ List.replicate (2 - (lg_sl ([.ref a0, .int a1])).length) Slot.unset).toArray = ls at hl ⊢
  have hl : lv_has ls 2 [(0, .ref a0), (1, .int a1)] := hl
  refine lv_iload_n hx hb dX11_cut_0 rfl (lv_at hl 1 rfl) (hp_n (n := 1) rfl ?_)
  refine lv_if_ge (tgt := 10) hx hb dX11_cut_1 (by decide) (fun c_1 => ?_) (fun c_1 => hp_n (n := 4) rfl ?_)
  ·
    have jc_1 := il_le c_1
    refine lv_iload_n hx hb dX11_cut_10 rfl (lv_at hl 1 rfl) (hp_n (n := 11) rfl ?_)
    refine lv_aload_n hx hb dX11_cut_11 rfl (lv_at hl 0 rfl) (hp_n (n := 12) rfl ?_)
    refine q_getr (κ := 12) (k := 3) (φ := 603) (pc' := 15) C B (cw_k B.2.2 k0) fl_X11_26 rfl rfl rfl (cw_r B.2.2 k0 rfl rfl (by decide) (by decide)) dX11_cut_12 rfl (fun b_2 eb_2 kb_2 => ?_)
    refine q_geti (κ := 6) (k := 1) (φ := 301) (pc' := 18) C B (cw_k B.2.2 kb_2) fl_X11_132 rfl rfl rfl dX11_cut_15 rfl (fun x_3 ex_3 => ?_)
    refine lv_icmp_le (tgt := 27) hx hb dX11_cut_18 (by decide) (fun c_4 => ?_) (fun c_4 => hp_n (n := 21) rfl ?_)
    ·
      have jc_4 := il_le c_4
      refine lv_aload_n hx hb dX11_cut_27 rfl (lv_at hl 0 rfl) (hp_n (n := 28) rfl ?_)
      refine q_gets (κ := 12) (k := 3) (φ := 603) (pc' := 31) C B (cw_k B.2.2 k0) fl_X11_26 rfl rfl rfl eb_2 dX11_cut_28 rfl ?_
      refine lv_iload_n hx hb dX11_cut_31 rfl (lv_at hl 1 rfl) (hp_n (n := 32) rfl ?_)
      refine q_cv (pc' := 35) B (hp_runV (As := [.int a1]) (rest := []) C B (t_X5_shorten Γ l α B.2.2.1 b_2 (cw_k B.2.2 kb_2) a1) lb_X5_shorten lv_X5_shorten lk_X11_109 (cw_k B.2.2 kb_2) rfl (by decide) rfl hl.1 rfl (Nat.le_of_ble_eq_true rfl) dX11_cut_32 ⟨Nat.le_refl _, Nat.le_refl _⟩) (fun _ h => cw_tr B.2.2 h (by decide)) rfl (fun αh_5 Hh_5 Lh_5 ph_5 Bh_5 => ?_)
      refine lv_aload_n hx hb dX11_cut_35 rfl (lv_at hl 0 rfl) (hp_n (n := 36) rfl ?_)
      refine lv_iload_n hx hb dX11_cut_36 rfl (lv_at hl 1 rfl) (hp_n (n := 37) rfl ?_)
      refine q_ci (pc' := 40) Bh_5 (hp_runV (As := [.int a1]) (rest := []) C Bh_5 (t_X11_answer Γ l αh_5 Bh_5.2.2.1 a0 (cw_k Bh_5.2.2 k0) a1) lb_X11_answer lv_X11_answer lk_X11_115 (cw_k Bh_5.2.2 k0) rfl (by decide) rfl hl.1 rfl (Nat.le_of_ble_eq_true rfl) dX11_cut_37 ⟨Nat.le_refl _, Nat.le_refl _⟩) (fun _ _ h => cw_tr Bh_5.2.2 h (by decide)) rfl (fun rh_6 αh_6 Hh_6 Lh_6 ph_6 Bh_6 => ?_)
      exact q_iret C Bh_6 hr hlk Bh_6.2.2 dX11_cut_40
    ·
      have jc_4 := il_nle c_4
      refine lv_aload_n hx hb dX11_cut_21 rfl (lv_at hl 0 rfl) (hp_n (n := 22) rfl ?_)
      refine lv_iconst (v := 5) hx hb dX11_cut_22 (by decide) (hp_n (n := 23) rfl ?_)
      refine q_ci (pc' := 26) B (hp_runV (As := [.int 5]) (rest := []) C B (t_X11_refuse Γ l α B.2.2.1 a0 (cw_k B.2.2 k0) 5) lb_X11_refuse lv_X11_refuse lk_X11_98 (cw_k B.2.2 k0) rfl (by decide) rfl hl.1 rfl (Nat.le_of_ble_eq_true rfl) dX11_cut_23 ⟨Nat.le_refl _, Nat.le_refl _⟩) (fun _ _ h => cw_tr B.2.2 h (by decide)) rfl (fun rh_7 αh_7 Hh_7 Lh_7 ph_7 Bh_7 => ?_)
      exact q_iret C Bh_7 hr hlk Bh_7.2.2 dX11_cut_26
  ·
    have jc_1 := il_nle c_1
    refine lv_aload_n hx hb dX11_cut_4 rfl (lv_at hl 0 rfl) (hp_n (n := 5) rfl ?_)
    refine lv_iconst (v := 1) hx hb dX11_cut_5 (by decide) (hp_n (n := 6) rfl ?_)
    refine q_ci (pc' := 9) B (hp_runV (As := [.int 1]) (rest := []) C B (t_X11_refuse Γ l α B.2.2.1 a0 (cw_k B.2.2 k0) 1) lb_X11_refuse lv_X11_refuse lk_X11_98 (cw_k B.2.2 k0) rfl (by decide) rfl hl.1 rfl (Nat.le_of_ble_eq_true rfl) dX11_cut_6 ⟨Nat.le_refl _, Nat.le_refl _⟩) (fun _ _ h => cw_tr B.2.2 h (by decide)) rfl (fun rh_8 αh_8 Hh_8 Lh_8 ph_8 Bh_8 => ?_)
    exact q_iret C Bh_8 hr hlk Bh_8.2.2 dX11_cut_9
abbrev w_X11_include : cw_W := ([301, 453, 454, 600], [], [20, 21, 22, 23, 33], [])
set_option maxRecDepth 100000 in
set_option maxHeartbeats 4000000 in
theorem t_X11_include (Γ : hp_G) (l : Launch) (α : hp_T) (g : GC α) (a0 : Nat) (k0 : hp_K α a0 = 12) (a1 : Int32) (a2 : Int32) (a3 : Int32) : Met l yX11_include (hp_ws yX11_include cX11_include 6 (some .int)) (hp_rm 4 0 0) (hp_Pc Γ α [.ref a0, .int a1, .int a2, .int a3]) (hp_Qi Γ (fun r β => cw w_X11_include α β)) 0 0 (hp_A Γ) := by
  refine hp_start (by decide) ?_
  intro p e s m below meth c C hr hlk B0 hnm
  have C : hp_C Γ p m c cX11_include 6 s ([.ref a0, .int a1, .int a2, .int a3] : List Value).toArray RX11 := C
  have hx := C.1.1
  have hb := C.1.2.1
  have hown := C.1.2.2.2.1
  have hts := C.1.2.2.2.2
  have B : hp_B Γ (cw w_X11_include) s α α s.heap [] := ⟨B0.1, B0.2.1, cw_rf g⟩
  have lit0 : (0 : Int32).toInt = 0 := by decide
  have hl := lv_entry ([.ref a0, .int a1, .int a2, .int a3]) (n := 6) (Nat.le_of_ble_eq_true rfl)
  show W p l e (hp_rm 4 0 0) s m ([.ref a0, .int a1, .int a2, .int a3] : List Value).toArray below meth c s.heap [] 0 0 (MQ below (hp_Qi Γ (fun r β => cw w_X11_include α β)) ([.ref a0, .int a1, .int a2, .int a3] : List Value).toArray s 0 0 (hp_A Γ)) (entryFrame m ([.ref a0, .int a1, .int a2, .int a3] : List Value).toArray 6)
  rw [lg_entry_eq]
  generalize (lg_sl ([.ref a0, .int a1, .int a2, .int a3]) ++ List.replicate (6 - (lg_sl ([.ref a0, .int a1, .int a2, .int a3])).length) Slot.unset).toArray = ls at hl ⊢
  have hl : lv_has ls 6 [(0, .ref a0), (1, .int a1), (2, .int a2), (3, .int a3)] := hl
  refine lv_aload_n hx hb dX11_include_0 rfl (lv_at hl 0 rfl) (hp_n (n := 1) rfl ?_)
  refine q_getr (κ := 12) (k := 1) (φ := 601) (pc' := 4) C B (cw_k B.2.2 k0) fl_X11_16 rfl rfl rfl (cw_r B.2.2 k0 rfl rfl (by decide) (by decide)) dX11_include_1 rfl (fun b_1 eb_1 kb_1 => ?_)
  refine lv_iload_n hx hb dX11_include_4 rfl (lv_at hl 1 rfl) (hp_n (n := 5) rfl ?_)
  refine q_cq (pc' := 8) B (hp_runV (As := [.int a1]) (rest := []) C B (t_X10_logAt Γ l α B.2.2.1 b_1 (cw_k B.2.2 kb_1) a1) lb_X10_logAt lv_X10_logAt lk_X11_163 (cw_k B.2.2 kb_1) rfl (by decide) rfl hl.1 rfl (Nat.le_of_ble_eq_true rfl) dX11_include_5 ⟨Nat.le_refl _, Nat.le_refl _⟩) (fun _ _ h => by rw [h.1]; exact B.2.2) rfl (fun rh_2 αh_2 Hh_2 Lh_2 ph_2 Bh_2 => ?_)
  rw [ph_2.1] at Bh_2
  rcases rh_2 with _ | bh_2
  ·
    refine lv_astoreN (lv' := [(4, .null), (0, .ref a0), (1, .int a1), (2, .int a2), (3, .int a3)]) hx hb dX11_include_8 hl (by decide) rfl (fun ls hl => hp_n (n := 10) rfl ?_)
    refine lv_aloadN hx hb dX11_include_10 (lv_at hl 0 rfl) (hp_n (n := 12) rfl ?_)
    refine lv_iload_n hx hb dX11_include_12 rfl (lv_at hl 3 rfl) (hp_n (n := 13) rfl ?_)
    refine lv_iload_n hx hb dX11_include_13 rfl (lv_at hl 4 rfl) (hp_n (n := 14) rfl ?_)
    refine q_ci (pc' := 17) Bh_2 (hp_runS (As := [va_rf none, .int a2, .int a3]) (rest := []) C Bh_2 (t_X11_wrongInclusion Γ l α Bh_2.2.2.1 none (fun b h => by cases h) a2 a3) lb_X11_wrongInclusion ls_X11_wrongInclusion lk_X11_264 rfl (by decide) rfl hl.1 rfl (Nat.le_of_ble_eq_true rfl) dX11_include_14 ⟨Nat.le_refl _, Nat.le_refl _⟩) (fun _ _ h => by rw [h]; exact Bh_2.2.2) rfl (fun rh_3 αh_3 Hh_3 Lh_3 ph_3 Bh_3 => ?_)
    rw [ph_3] at Bh_3
    refine lv_istore (lv' := [(5, .int rh_3), (4, .null), (0, .ref a0), (1, .int a1), (2, .int a2), (3, .int a3)]) hx hb dX11_include_17 hl (by decide) rfl (fun ls hl => hp_n (n := 19) rfl ?_)
    refine lv_iload hx hb dX11_include_19 (lv_at hl 0 rfl) (hp_n (n := 21) rfl ?_)
    refine lv_if_eq (tgt := 31) hx hb dX11_include_21 (by decide) (fun c_4 => ?_) (fun c_4 => hp_n (n := 24) rfl ?_)
    ·
      have jc_4 := il_eq c_4
      refine lv_aload_n hx hb dX11_include_31 rfl (lv_at hl 2 rfl) (hp_n (n := 32) rfl ?_)
      refine q_getr (κ := 12) (k := 12) (φ := 612) (pc' := 35) C Bh_3 (cw_k Bh_3.2.2 k0) fl_X11_62 rfl rfl rfl (cw_r Bh_3.2.2 k0 rfl rfl (by decide) (by decide)) dX11_include_32 rfl (fun b_5 eb_5 kb_5 => ?_)
      refine lv_iload_n hx hb dX11_include_35 rfl (lv_at hl 4 rfl) (hp_n (n := 36) rfl ?_)
      refine lv_iload_n hx hb dX11_include_36 rfl (lv_at hl 5 rfl) (hp_n (n := 37) rfl ?_)
      refine q_cv (pc' := 40) Bh_3 (hp_runV (As := [.int a2, .int a3]) (rest := []) C Bh_3 (t_X8_toThing Γ l α Bh_3.2.2.1 b_5 (cw_k Bh_3.2.2 kb_5) a2 a3) lb_X8_toThing lv_X8_toThing lk_X11_267 (cw_k Bh_3.2.2 kb_5) rfl (by decide) rfl hl.1 rfl (Nat.le_of_ble_eq_true rfl) dX11_include_37 ⟨Nat.le_refl _, Nat.le_refl _⟩) (fun _ h => cw_tr Bh_3.2.2 h (by decide)) rfl (fun αh_6 Hh_6 Lh_6 ph_6 Bh_6 => ?_)
      refine lv_aload_n hx hb dX11_include_40 rfl (lv_at hl 2 rfl) (hp_n (n := 41) rfl ?_)
      have t_7 : b_1 = hp_R αh_6 601 a0 := by rw [cw_R ph_6 a0 (by decide)]; exact eb_1
      refine q_gets (κ := 12) (k := 1) (φ := 601) (pc' := 44) C Bh_6 (cw_k Bh_6.2.2 k0) fl_X11_16 rfl rfl rfl t_7 dX11_include_41 rfl ?_
      refine lv_aload_n hx hb dX11_include_44 rfl (lv_at hl 2 rfl) (hp_n (n := 45) rfl ?_)
      have t_8 : b_5 = hp_R αh_6 612 a0 := by rw [cw_R ph_6 a0 (by decide)]; exact eb_5
      refine q_gets (κ := 12) (k := 12) (φ := 612) (pc' := 48) C Bh_6 (cw_k Bh_6.2.2 k0) fl_X11_62 rfl rfl rfl t_8 dX11_include_45 rfl ?_
      refine lv_aloadN hx hb dX11_include_48 (lv_at hl 1 rfl) (hp_n (n := 50) rfl ?_)
      refine lv_aload_n hx hb dX11_include_50 rfl (lv_at hl 2 rfl) (hp_n (n := 51) rfl ?_)
      refine q_getr (κ := 12) (k := 3) (φ := 603) (pc' := 54) C Bh_6 (cw_k Bh_6.2.2 k0) fl_X11_26 rfl rfl rfl (cw_r Bh_6.2.2 k0 rfl rfl (by decide) (by decide)) dX11_include_51 rfl (fun b_9 eb_9 kb_9 => ?_)
      refine q_cv (pc' := 57) Bh_6 (hp_runV (As := [.ref b_5, va_rf none, .ref b_9]) (rest := []) C Bh_6 (t_X10_marksAlong Γ l αh_6 Bh_6.2.2.1 b_1 (cw_k Bh_6.2.2 kb_1) b_5 (cw_k Bh_6.2.2 kb_5) none (fun b h => by cases h) b_9 (cw_k Bh_6.2.2 kb_9)) lb_X10_marksAlong lv_X10_marksAlong lk_X11_270 (cw_k Bh_6.2.2 kb_1) rfl (by decide) rfl hl.1 rfl (Nat.le_of_ble_eq_true rfl) dX11_include_54 ⟨Nat.le_refl _, Nat.le_refl _⟩) (fun _ h => cw_tr Bh_6.2.2 h (by decide)) rfl (fun αh_10 Hh_10 Lh_10 ph_10 Bh_10 => ?_)
      refine lv_aload_n hx hb dX11_include_57 rfl (lv_at hl 2 rfl) (hp_n (n := 58) rfl ?_)
      refine lv_aload_n hx hb dX11_include_58 rfl (lv_at hl 2 rfl) (hp_n (n := 59) rfl ?_)
      have t_11 : b_9 = hp_R αh_10 603 a0 := by rw [cw_R ph_10 a0 (by decide)]; exact eb_9
      refine q_gets (κ := 12) (k := 3) (φ := 603) (pc' := 62) C Bh_10 (cw_k Bh_10.2.2 k0) fl_X11_26 rfl rfl rfl t_11 dX11_include_59 rfl ?_
      refine q_geti (κ := 6) (k := 1) (φ := 301) (pc' := 65) C Bh_10 (cw_k Bh_10.2.2 kb_9) fl_X11_132 rfl rfl rfl dX11_include_62 rfl (fun x_12 ex_12 => ?_)
      refine q_ci (pc' := 68) Bh_10 (hp_runV (As := [.int x_12]) (rest := []) C Bh_10 (t_X11_answer Γ l αh_10 Bh_10.2.2.1 a0 (cw_k Bh_10.2.2 k0) x_12) lb_X11_answer lv_X11_answer lk_X11_115 (cw_k Bh_10.2.2 k0) rfl (by decide) rfl hl.1 rfl (Nat.le_of_ble_eq_true rfl) dX11_include_65 ⟨Nat.le_refl _, Nat.le_refl _⟩) (fun _ _ h => cw_tr Bh_10.2.2 h (by decide)) rfl (fun rh_13 αh_13 Hh_13 Lh_13 ph_13 Bh_13 => ?_)
      exact q_iret C Bh_13 hr hlk Bh_13.2.2 dX11_include_68
    ·
      have jc_4 := il_ne c_4
      refine lv_aload_n hx hb dX11_include_24 rfl (lv_at hl 2 rfl) (hp_n (n := 25) rfl ?_)
      refine lv_iload hx hb dX11_include_25 (lv_at hl 0 rfl) (hp_n (n := 27) rfl ?_)
      refine q_ci (pc' := 30) Bh_3 (hp_runV (As := [.int rh_3]) (rest := []) C Bh_3 (t_X11_refuse Γ l α Bh_3.2.2.1 a0 (cw_k Bh_3.2.2 k0) rh_3) lb_X11_refuse lv_X11_refuse lk_X11_98 (cw_k Bh_3.2.2 k0) rfl (by decide) rfl hl.1 rfl (Nat.le_of_ble_eq_true rfl) dX11_include_27 ⟨Nat.le_refl _, Nat.le_refl _⟩) (fun _ _ h => cw_tr Bh_3.2.2 h (by decide)) rfl (fun rh_14 αh_14 Hh_14 Lh_14 ph_14 Bh_14 => ?_)
      exact q_iret C Bh_14 hr hlk Bh_14.2.2 dX11_include_30
  ·
    have kbh_2 : hp_K α bh_2 = 3 := cw_k' Bh_2.2.2 (ph_2.2 bh_2 rfl)
    refine lv_astore (lv' := [(4, .ref bh_2), (0, .ref a0), (1, .int a1), (2, .int a2), (3, .int a3)]) hx hb dX11_include_8 hl (by decide) rfl (fun ls hl => hp_n (n := 10) rfl ?_)
    refine lv_aload hx hb dX11_include_10 (lv_at hl 0 rfl) (hp_n (n := 12) rfl ?_)
    refine lv_iload_n hx hb dX11_include_12 rfl (lv_at hl 3 rfl) (hp_n (n := 13) rfl ?_)
    refine lv_iload_n hx hb dX11_include_13 rfl (lv_at hl 4 rfl) (hp_n (n := 14) rfl ?_)
    refine q_ci (pc' := 17) Bh_2 (hp_runS (As := [va_rf (some bh_2), .int a2, .int a3]) (rest := []) C Bh_2 (t_X11_wrongInclusion Γ l α Bh_2.2.2.1 (some bh_2) (fun b h => by cases h; exact (cw_k Bh_2.2.2 kbh_2)) a2 a3) lb_X11_wrongInclusion ls_X11_wrongInclusion lk_X11_264 rfl (by decide) rfl hl.1 rfl (Nat.le_of_ble_eq_true rfl) dX11_include_14 ⟨Nat.le_refl _, Nat.le_refl _⟩) (fun _ _ h => by rw [h]; exact Bh_2.2.2) rfl (fun rh_15 αh_15 Hh_15 Lh_15 ph_15 Bh_15 => ?_)
    rw [ph_15] at Bh_15
    refine lv_istore (lv' := [(5, .int rh_15), (4, .ref bh_2), (0, .ref a0), (1, .int a1), (2, .int a2), (3, .int a3)]) hx hb dX11_include_17 hl (by decide) rfl (fun ls hl => hp_n (n := 19) rfl ?_)
    refine lv_iload hx hb dX11_include_19 (lv_at hl 0 rfl) (hp_n (n := 21) rfl ?_)
    refine lv_if_eq (tgt := 31) hx hb dX11_include_21 (by decide) (fun c_16 => ?_) (fun c_16 => hp_n (n := 24) rfl ?_)
    ·
      have jc_16 := il_eq c_16
      refine lv_aload_n hx hb dX11_include_31 rfl (lv_at hl 2 rfl) (hp_n (n := 32) rfl ?_)
      refine q_getr (κ := 12) (k := 12) (φ := 612) (pc' := 35) C Bh_15 (cw_k Bh_15.2.2 k0) fl_X11_62 rfl rfl rfl (cw_r Bh_15.2.2 k0 rfl rfl (by decide) (by decide)) dX11_include_32 rfl (fun b_17 eb_17 kb_17 => ?_)
      refine lv_iload_n hx hb dX11_include_35 rfl (lv_at hl 4 rfl) (hp_n (n := 36) rfl ?_)
      refine lv_iload_n hx hb dX11_include_36 rfl (lv_at hl 5 rfl) (hp_n (n := 37) rfl ?_)
      refine q_cv (pc' := 40) Bh_15 (hp_runV (As := [.int a2, .int a3]) (rest := []) C Bh_15 (t_X8_toThing Γ l α Bh_15.2.2.1 b_17 (cw_k Bh_15.2.2 kb_17) a2 a3) lb_X8_toThing lv_X8_toThing lk_X11_267 (cw_k Bh_15.2.2 kb_17) rfl (by decide) rfl hl.1 rfl (Nat.le_of_ble_eq_true rfl) dX11_include_37 ⟨Nat.le_refl _, Nat.le_refl _⟩) (fun _ h => cw_tr Bh_15.2.2 h (by decide)) rfl (fun αh_18 Hh_18 Lh_18 ph_18 Bh_18 => ?_)
      refine lv_aload_n hx hb dX11_include_40 rfl (lv_at hl 2 rfl) (hp_n (n := 41) rfl ?_)
      have t_19 : b_1 = hp_R αh_18 601 a0 := by rw [cw_R ph_18 a0 (by decide)]; exact eb_1
      refine q_gets (κ := 12) (k := 1) (φ := 601) (pc' := 44) C Bh_18 (cw_k Bh_18.2.2 k0) fl_X11_16 rfl rfl rfl t_19 dX11_include_41 rfl ?_
      refine lv_aload_n hx hb dX11_include_44 rfl (lv_at hl 2 rfl) (hp_n (n := 45) rfl ?_)
      have t_20 : b_17 = hp_R αh_18 612 a0 := by rw [cw_R ph_18 a0 (by decide)]; exact eb_17
      refine q_gets (κ := 12) (k := 12) (φ := 612) (pc' := 48) C Bh_18 (cw_k Bh_18.2.2 k0) fl_X11_62 rfl rfl rfl t_20 dX11_include_45 rfl ?_
      refine lv_aload hx hb dX11_include_48 (lv_at hl 1 rfl) (hp_n (n := 50) rfl ?_)
      refine lv_aload_n hx hb dX11_include_50 rfl (lv_at hl 2 rfl) (hp_n (n := 51) rfl ?_)
      refine q_getr (κ := 12) (k := 3) (φ := 603) (pc' := 54) C Bh_18 (cw_k Bh_18.2.2 k0) fl_X11_26 rfl rfl rfl (cw_r Bh_18.2.2 k0 rfl rfl (by decide) (by decide)) dX11_include_51 rfl (fun b_21 eb_21 kb_21 => ?_)
      refine q_cv (pc' := 57) Bh_18 (hp_runV (As := [.ref b_17, va_rf (some bh_2), .ref b_21]) (rest := []) C Bh_18 (t_X10_marksAlong Γ l αh_18 Bh_18.2.2.1 b_1 (cw_k Bh_18.2.2 kb_1) b_17 (cw_k Bh_18.2.2 kb_17) (some bh_2) (fun b h => by cases h; exact (cw_k Bh_18.2.2 kbh_2)) b_21 (cw_k Bh_18.2.2 kb_21)) lb_X10_marksAlong lv_X10_marksAlong lk_X11_270 (cw_k Bh_18.2.2 kb_1) rfl (by decide) rfl hl.1 rfl (Nat.le_of_ble_eq_true rfl) dX11_include_54 ⟨Nat.le_refl _, Nat.le_refl _⟩) (fun _ h => cw_tr Bh_18.2.2 h (by decide)) rfl (fun αh_22 Hh_22 Lh_22 ph_22 Bh_22 => ?_)
      refine lv_aload_n hx hb dX11_include_57 rfl (lv_at hl 2 rfl) (hp_n (n := 58) rfl ?_)
      refine lv_aload_n hx hb dX11_include_58 rfl (lv_at hl 2 rfl) (hp_n (n := 59) rfl ?_)
      have t_23 : b_21 = hp_R αh_22 603 a0 := by rw [cw_R ph_22 a0 (by decide)]; exact eb_21
      refine q_gets (κ := 12) (k := 3) (φ := 603) (pc' := 62) C Bh_22 (cw_k Bh_22.2.2 k0) fl_X11_26 rfl rfl rfl t_23 dX11_include_59 rfl ?_
      refine q_geti (κ := 6) (k := 1) (φ := 301) (pc' := 65) C Bh_22 (cw_k Bh_22.2.2 kb_21) fl_X11_132 rfl rfl rfl dX11_include_62 rfl (fun x_24 ex_24 => ?_)
      refine q_ci (pc' := 68) Bh_22 (hp_runV (As := [.int x_24]) (rest := []) C Bh_22 (t_X11_answer Γ l αh_22 Bh_22.2.2.1 a0 (cw_k Bh_22.2.2 k0) x_24) lb_X11_answer lv_X11_answer lk_X11_115 (cw_k Bh_22.2.2 k0) rfl (by decide) rfl hl.1 rfl (Nat.le_of_ble_eq_true rfl) dX11_include_65 ⟨Nat.le_refl _, Nat.le_refl _⟩) (fun _ _ h => cw_tr Bh_22.2.2 h (by decide)) rfl (fun rh_25 αh_25 Hh_25 Lh_25 ph_25 Bh_25 => ?_)
      exact q_iret C Bh_25 hr hlk Bh_25.2.2 dX11_include_68
    ·
      have jc_16 := il_ne c_16
      refine lv_aload_n hx hb dX11_include_24 rfl (lv_at hl 2 rfl) (hp_n (n := 25) rfl ?_)
      refine lv_iload hx hb dX11_include_25 (lv_at hl 0 rfl) (hp_n (n := 27) rfl ?_)
      refine q_ci (pc' := 30) Bh_15 (hp_runV (As := [.int rh_15]) (rest := []) C Bh_15 (t_X11_refuse Γ l α Bh_15.2.2.1 a0 (cw_k Bh_15.2.2 k0) rh_15) lb_X11_refuse lv_X11_refuse lk_X11_98 (cw_k Bh_15.2.2 k0) rfl (by decide) rfl hl.1 rfl (Nat.le_of_ble_eq_true rfl) dX11_include_27 ⟨Nat.le_refl _, Nat.le_refl _⟩) (fun _ _ h => cw_tr Bh_15.2.2 h (by decide)) rfl (fun rh_26 αh_26 Hh_26 Lh_26 ph_26 Bh_26 => ?_)
      exact q_iret C Bh_26 hr hlk Bh_26.2.2 dX11_include_30
abbrev w_X11_grow : cw_W := ([301, 453, 454, 600], [], [20, 21, 22, 23, 33], [])
set_option maxRecDepth 100000 in
set_option maxHeartbeats 4000000 in
theorem t_X11_grow (Γ : hp_G) (l : Launch) (α : hp_T) (g : GC α) (a0 : Nat) (k0 : hp_K α a0 = 12) (a1 : Int32) (a2 : Int32) (a3 : Int32) : Met l yX11_grow (hp_ws yX11_grow cX11_grow 6 (some .int)) (hp_rm 4 0 0) (hp_Pc Γ α [.ref a0, .int a1, .int a2, .int a3]) (hp_Qi Γ (fun r β => cw w_X11_grow α β)) 0 0 (hp_A Γ) := by
  refine hp_start (by decide) ?_
  intro p e s m below meth c C hr hlk B0 hnm
  have C : hp_C Γ p m c cX11_grow 6 s ([.ref a0, .int a1, .int a2, .int a3] : List Value).toArray RX11 := C
  have hx := C.1.1
  have hb := C.1.2.1
  have hown := C.1.2.2.2.1
  have hts := C.1.2.2.2.2
  have B : hp_B Γ (cw w_X11_grow) s α α s.heap [] := ⟨B0.1, B0.2.1, cw_rf g⟩
  have lit0 : (0 : Int32).toInt = 0 := by decide
  have hl := lv_entry ([.ref a0, .int a1, .int a2, .int a3]) (n := 6) (Nat.le_of_ble_eq_true rfl)
  show W p l e (hp_rm 4 0 0) s m ([.ref a0, .int a1, .int a2, .int a3] : List Value).toArray below meth c s.heap [] 0 0 (MQ below (hp_Qi Γ (fun r β => cw w_X11_grow α β)) ([.ref a0, .int a1, .int a2, .int a3] : List Value).toArray s 0 0 (hp_A Γ)) (entryFrame m ([.ref a0, .int a1, .int a2, .int a3] : List Value).toArray 6)
  rw [lg_entry_eq]
  generalize (lg_sl ([.ref a0, .int a1, .int a2, .int a3]) ++ List.replicate (6 - (lg_sl ([.ref a0, .int a1, .int a2, .int a3])).length) Slot.unset).toArray = ls at hl ⊢
  have hl : lv_has ls 6 [(0, .ref a0), (1, .int a1), (2, .int a2), (3, .int a3)] := hl
  refine lv_aload_n hx hb dX11_grow_0 rfl (lv_at hl 0 rfl) (hp_n (n := 1) rfl ?_)
  refine q_getr (κ := 12) (k := 1) (φ := 601) (pc' := 4) C B (cw_k B.2.2 k0) fl_X11_16 rfl rfl rfl (cw_r B.2.2 k0 rfl rfl (by decide) (by decide)) dX11_grow_1 rfl (fun b_1 eb_1 kb_1 => ?_)
  refine lv_iload_n hx hb dX11_grow_4 rfl (lv_at hl 1 rfl) (hp_n (n := 5) rfl ?_)
  refine q_cq (pc' := 8) B (hp_runV (As := [.int a1]) (rest := []) C B (t_X10_logAt Γ l α B.2.2.1 b_1 (cw_k B.2.2 kb_1) a1) lb_X10_logAt lv_X10_logAt lk_X11_163 (cw_k B.2.2 kb_1) rfl (by decide) rfl hl.1 rfl (Nat.le_of_ble_eq_true rfl) dX11_grow_5 ⟨Nat.le_refl _, Nat.le_refl _⟩) (fun _ _ h => by rw [h.1]; exact B.2.2) rfl (fun rh_2 αh_2 Hh_2 Lh_2 ph_2 Bh_2 => ?_)
  rw [ph_2.1] at Bh_2
  rcases rh_2 with _ | bh_2
  ·
    refine lv_astoreN (lv' := [(4, .null), (0, .ref a0), (1, .int a1), (2, .int a2), (3, .int a3)]) hx hb dX11_grow_8 hl (by decide) rfl (fun ls hl => hp_n (n := 10) rfl ?_)
    refine lv_aloadN hx hb dX11_grow_10 (lv_at hl 0 rfl) (hp_n (n := 12) rfl ?_)
    refine lv_iload_n hx hb dX11_grow_12 rfl (lv_at hl 3 rfl) (hp_n (n := 13) rfl ?_)
    refine lv_iload_n hx hb dX11_grow_13 rfl (lv_at hl 4 rfl) (hp_n (n := 14) rfl ?_)
    refine q_ci (pc' := 17) Bh_2 (hp_runS (As := [va_rf none, .int a2, .int a3]) (rest := []) C Bh_2 (t_X11_wrongGrowth Γ l α Bh_2.2.2.1 none (fun b h => by cases h) a2 a3) lb_X11_wrongGrowth ls_X11_wrongGrowth lk_X11_180 rfl (by decide) rfl hl.1 rfl (Nat.le_of_ble_eq_true rfl) dX11_grow_14 ⟨Nat.le_refl _, Nat.le_refl _⟩) (fun _ _ h => by rw [h]; exact Bh_2.2.2) rfl (fun rh_3 αh_3 Hh_3 Lh_3 ph_3 Bh_3 => ?_)
    rw [ph_3] at Bh_3
    refine lv_istore (lv' := [(5, .int rh_3), (4, .null), (0, .ref a0), (1, .int a1), (2, .int a2), (3, .int a3)]) hx hb dX11_grow_17 hl (by decide) rfl (fun ls hl => hp_n (n := 19) rfl ?_)
    refine lv_iload hx hb dX11_grow_19 (lv_at hl 0 rfl) (hp_n (n := 21) rfl ?_)
    refine lv_if_eq (tgt := 31) hx hb dX11_grow_21 (by decide) (fun c_4 => ?_) (fun c_4 => hp_n (n := 24) rfl ?_)
    ·
      have jc_4 := il_eq c_4
      refine lv_aload_n hx hb dX11_grow_31 rfl (lv_at hl 2 rfl) (hp_n (n := 32) rfl ?_)
      refine q_getr (κ := 12) (k := 12) (φ := 612) (pc' := 35) C Bh_3 (cw_k Bh_3.2.2 k0) fl_X11_62 rfl rfl rfl (cw_r Bh_3.2.2 k0 rfl rfl (by decide) (by decide)) dX11_grow_32 rfl (fun b_5 eb_5 kb_5 => ?_)
      refine lv_iload_n hx hb dX11_grow_35 rfl (lv_at hl 4 rfl) (hp_n (n := 36) rfl ?_)
      refine lv_iload_n hx hb dX11_grow_36 rfl (lv_at hl 5 rfl) (hp_n (n := 37) rfl ?_)
      refine q_cv (pc' := 40) Bh_3 (hp_runV (As := [.int a2, .int a3]) (rest := []) C Bh_3 (t_X8_toGrowth Γ l α Bh_3.2.2.1 b_5 (cw_k Bh_3.2.2 kb_5) a2 a3) lb_X8_toGrowth lv_X8_toGrowth lk_X11_274 (cw_k Bh_3.2.2 kb_5) rfl (by decide) rfl hl.1 rfl (Nat.le_of_ble_eq_true rfl) dX11_grow_37 ⟨Nat.le_refl _, Nat.le_refl _⟩) (fun _ h => cw_tr Bh_3.2.2 h (by decide)) rfl (fun αh_6 Hh_6 Lh_6 ph_6 Bh_6 => ?_)
      refine lv_aload_n hx hb dX11_grow_40 rfl (lv_at hl 2 rfl) (hp_n (n := 41) rfl ?_)
      have t_7 : b_1 = hp_R αh_6 601 a0 := by rw [cw_R ph_6 a0 (by decide)]; exact eb_1
      refine q_gets (κ := 12) (k := 1) (φ := 601) (pc' := 44) C Bh_6 (cw_k Bh_6.2.2 k0) fl_X11_16 rfl rfl rfl t_7 dX11_grow_41 rfl ?_
      refine lv_aload_n hx hb dX11_grow_44 rfl (lv_at hl 2 rfl) (hp_n (n := 45) rfl ?_)
      have t_8 : b_5 = hp_R αh_6 612 a0 := by rw [cw_R ph_6 a0 (by decide)]; exact eb_5
      refine q_gets (κ := 12) (k := 12) (φ := 612) (pc' := 48) C Bh_6 (cw_k Bh_6.2.2 k0) fl_X11_62 rfl rfl rfl t_8 dX11_grow_45 rfl ?_
      refine lv_aloadN hx hb dX11_grow_48 (lv_at hl 1 rfl) (hp_n (n := 50) rfl ?_)
      refine lv_aload_n hx hb dX11_grow_50 rfl (lv_at hl 2 rfl) (hp_n (n := 51) rfl ?_)
      refine q_getr (κ := 12) (k := 3) (φ := 603) (pc' := 54) C Bh_6 (cw_k Bh_6.2.2 k0) fl_X11_26 rfl rfl rfl (cw_r Bh_6.2.2 k0 rfl rfl (by decide) (by decide)) dX11_grow_51 rfl (fun b_9 eb_9 kb_9 => ?_)
      refine q_cv (pc' := 57) Bh_6 (hp_runV (As := [.ref b_5, va_rf none, .ref b_9]) (rest := []) C Bh_6 (t_X10_marksAlong Γ l αh_6 Bh_6.2.2.1 b_1 (cw_k Bh_6.2.2 kb_1) b_5 (cw_k Bh_6.2.2 kb_5) none (fun b h => by cases h) b_9 (cw_k Bh_6.2.2 kb_9)) lb_X10_marksAlong lv_X10_marksAlong lk_X11_270 (cw_k Bh_6.2.2 kb_1) rfl (by decide) rfl hl.1 rfl (Nat.le_of_ble_eq_true rfl) dX11_grow_54 ⟨Nat.le_refl _, Nat.le_refl _⟩) (fun _ h => cw_tr Bh_6.2.2 h (by decide)) rfl (fun αh_10 Hh_10 Lh_10 ph_10 Bh_10 => ?_)
      refine lv_aload_n hx hb dX11_grow_57 rfl (lv_at hl 2 rfl) (hp_n (n := 58) rfl ?_)
      refine lv_aload_n hx hb dX11_grow_58 rfl (lv_at hl 2 rfl) (hp_n (n := 59) rfl ?_)
      have t_11 : b_9 = hp_R αh_10 603 a0 := by rw [cw_R ph_10 a0 (by decide)]; exact eb_9
      refine q_gets (κ := 12) (k := 3) (φ := 603) (pc' := 62) C Bh_10 (cw_k Bh_10.2.2 k0) fl_X11_26 rfl rfl rfl t_11 dX11_grow_59 rfl ?_
      refine q_geti (κ := 6) (k := 1) (φ := 301) (pc' := 65) C Bh_10 (cw_k Bh_10.2.2 kb_9) fl_X11_132 rfl rfl rfl dX11_grow_62 rfl (fun x_12 ex_12 => ?_)
      refine q_ci (pc' := 68) Bh_10 (hp_runV (As := [.int x_12]) (rest := []) C Bh_10 (t_X11_answer Γ l αh_10 Bh_10.2.2.1 a0 (cw_k Bh_10.2.2 k0) x_12) lb_X11_answer lv_X11_answer lk_X11_115 (cw_k Bh_10.2.2 k0) rfl (by decide) rfl hl.1 rfl (Nat.le_of_ble_eq_true rfl) dX11_grow_65 ⟨Nat.le_refl _, Nat.le_refl _⟩) (fun _ _ h => cw_tr Bh_10.2.2 h (by decide)) rfl (fun rh_13 αh_13 Hh_13 Lh_13 ph_13 Bh_13 => ?_)
      exact q_iret C Bh_13 hr hlk Bh_13.2.2 dX11_grow_68
    ·
      have jc_4 := il_ne c_4
      refine lv_aload_n hx hb dX11_grow_24 rfl (lv_at hl 2 rfl) (hp_n (n := 25) rfl ?_)
      refine lv_iload hx hb dX11_grow_25 (lv_at hl 0 rfl) (hp_n (n := 27) rfl ?_)
      refine q_ci (pc' := 30) Bh_3 (hp_runV (As := [.int rh_3]) (rest := []) C Bh_3 (t_X11_refuse Γ l α Bh_3.2.2.1 a0 (cw_k Bh_3.2.2 k0) rh_3) lb_X11_refuse lv_X11_refuse lk_X11_98 (cw_k Bh_3.2.2 k0) rfl (by decide) rfl hl.1 rfl (Nat.le_of_ble_eq_true rfl) dX11_grow_27 ⟨Nat.le_refl _, Nat.le_refl _⟩) (fun _ _ h => cw_tr Bh_3.2.2 h (by decide)) rfl (fun rh_14 αh_14 Hh_14 Lh_14 ph_14 Bh_14 => ?_)
      exact q_iret C Bh_14 hr hlk Bh_14.2.2 dX11_grow_30
  ·
    have kbh_2 : hp_K α bh_2 = 3 := cw_k' Bh_2.2.2 (ph_2.2 bh_2 rfl)
    refine lv_astore (lv' := [(4, .ref bh_2), (0, .ref a0), (1, .int a1), (2, .int a2), (3, .int a3)]) hx hb dX11_grow_8 hl (by decide) rfl (fun ls hl => hp_n (n := 10) rfl ?_)
    refine lv_aload hx hb dX11_grow_10 (lv_at hl 0 rfl) (hp_n (n := 12) rfl ?_)
    refine lv_iload_n hx hb dX11_grow_12 rfl (lv_at hl 3 rfl) (hp_n (n := 13) rfl ?_)
    refine lv_iload_n hx hb dX11_grow_13 rfl (lv_at hl 4 rfl) (hp_n (n := 14) rfl ?_)
    refine q_ci (pc' := 17) Bh_2 (hp_runS (As := [va_rf (some bh_2), .int a2, .int a3]) (rest := []) C Bh_2 (t_X11_wrongGrowth Γ l α Bh_2.2.2.1 (some bh_2) (fun b h => by cases h; exact (cw_k Bh_2.2.2 kbh_2)) a2 a3) lb_X11_wrongGrowth ls_X11_wrongGrowth lk_X11_180 rfl (by decide) rfl hl.1 rfl (Nat.le_of_ble_eq_true rfl) dX11_grow_14 ⟨Nat.le_refl _, Nat.le_refl _⟩) (fun _ _ h => by rw [h]; exact Bh_2.2.2) rfl (fun rh_15 αh_15 Hh_15 Lh_15 ph_15 Bh_15 => ?_)
    rw [ph_15] at Bh_15
    refine lv_istore (lv' := [(5, .int rh_15), (4, .ref bh_2), (0, .ref a0), (1, .int a1), (2, .int a2), (3, .int a3)]) hx hb dX11_grow_17 hl (by decide) rfl (fun ls hl => hp_n (n := 19) rfl ?_)
    refine lv_iload hx hb dX11_grow_19 (lv_at hl 0 rfl) (hp_n (n := 21) rfl ?_)
    refine lv_if_eq (tgt := 31) hx hb dX11_grow_21 (by decide) (fun c_16 => ?_) (fun c_16 => hp_n (n := 24) rfl ?_)
    ·
      have jc_16 := il_eq c_16
      refine lv_aload_n hx hb dX11_grow_31 rfl (lv_at hl 2 rfl) (hp_n (n := 32) rfl ?_)
      refine q_getr (κ := 12) (k := 12) (φ := 612) (pc' := 35) C Bh_15 (cw_k Bh_15.2.2 k0) fl_X11_62 rfl rfl rfl (cw_r Bh_15.2.2 k0 rfl rfl (by decide) (by decide)) dX11_grow_32 rfl (fun b_17 eb_17 kb_17 => ?_)
      refine lv_iload_n hx hb dX11_grow_35 rfl (lv_at hl 4 rfl) (hp_n (n := 36) rfl ?_)
      refine lv_iload_n hx hb dX11_grow_36 rfl (lv_at hl 5 rfl) (hp_n (n := 37) rfl ?_)
      refine q_cv (pc' := 40) Bh_15 (hp_runV (As := [.int a2, .int a3]) (rest := []) C Bh_15 (t_X8_toGrowth Γ l α Bh_15.2.2.1 b_17 (cw_k Bh_15.2.2 kb_17) a2 a3) lb_X8_toGrowth lv_X8_toGrowth lk_X11_274 (cw_k Bh_15.2.2 kb_17) rfl (by decide) rfl hl.1 rfl (Nat.le_of_ble_eq_true rfl) dX11_grow_37 ⟨Nat.le_refl _, Nat.le_refl _⟩) (fun _ h => cw_tr Bh_15.2.2 h (by decide)) rfl (fun αh_18 Hh_18 Lh_18 ph_18 Bh_18 => ?_)
      refine lv_aload_n hx hb dX11_grow_40 rfl (lv_at hl 2 rfl) (hp_n (n := 41) rfl ?_)
      have t_19 : b_1 = hp_R αh_18 601 a0 := by rw [cw_R ph_18 a0 (by decide)]; exact eb_1
      refine q_gets (κ := 12) (k := 1) (φ := 601) (pc' := 44) C Bh_18 (cw_k Bh_18.2.2 k0) fl_X11_16 rfl rfl rfl t_19 dX11_grow_41 rfl ?_
      refine lv_aload_n hx hb dX11_grow_44 rfl (lv_at hl 2 rfl) (hp_n (n := 45) rfl ?_)
      have t_20 : b_17 = hp_R αh_18 612 a0 := by rw [cw_R ph_18 a0 (by decide)]; exact eb_17
      refine q_gets (κ := 12) (k := 12) (φ := 612) (pc' := 48) C Bh_18 (cw_k Bh_18.2.2 k0) fl_X11_62 rfl rfl rfl t_20 dX11_grow_45 rfl ?_
      refine lv_aload hx hb dX11_grow_48 (lv_at hl 1 rfl) (hp_n (n := 50) rfl ?_)
      refine lv_aload_n hx hb dX11_grow_50 rfl (lv_at hl 2 rfl) (hp_n (n := 51) rfl ?_)
      refine q_getr (κ := 12) (k := 3) (φ := 603) (pc' := 54) C Bh_18 (cw_k Bh_18.2.2 k0) fl_X11_26 rfl rfl rfl (cw_r Bh_18.2.2 k0 rfl rfl (by decide) (by decide)) dX11_grow_51 rfl (fun b_21 eb_21 kb_21 => ?_)
      refine q_cv (pc' := 57) Bh_18 (hp_runV (As := [.ref b_17, va_rf (some bh_2), .ref b_21]) (rest := []) C Bh_18 (t_X10_marksAlong Γ l αh_18 Bh_18.2.2.1 b_1 (cw_k Bh_18.2.2 kb_1) b_17 (cw_k Bh_18.2.2 kb_17) (some bh_2) (fun b h => by cases h; exact (cw_k Bh_18.2.2 kbh_2)) b_21 (cw_k Bh_18.2.2 kb_21)) lb_X10_marksAlong lv_X10_marksAlong lk_X11_270 (cw_k Bh_18.2.2 kb_1) rfl (by decide) rfl hl.1 rfl (Nat.le_of_ble_eq_true rfl) dX11_grow_54 ⟨Nat.le_refl _, Nat.le_refl _⟩) (fun _ h => cw_tr Bh_18.2.2 h (by decide)) rfl (fun αh_22 Hh_22 Lh_22 ph_22 Bh_22 => ?_)
      refine lv_aload_n hx hb dX11_grow_57 rfl (lv_at hl 2 rfl) (hp_n (n := 58) rfl ?_)
      refine lv_aload_n hx hb dX11_grow_58 rfl (lv_at hl 2 rfl) (hp_n (n := 59) rfl ?_)
      have t_23 : b_21 = hp_R αh_22 603 a0 := by rw [cw_R ph_22 a0 (by decide)]; exact eb_21
      refine q_gets (κ := 12) (k := 3) (φ := 603) (pc' := 62) C Bh_22 (cw_k Bh_22.2.2 k0) fl_X11_26 rfl rfl rfl t_23 dX11_grow_59 rfl ?_
      refine q_geti (κ := 6) (k := 1) (φ := 301) (pc' := 65) C Bh_22 (cw_k Bh_22.2.2 kb_21) fl_X11_132 rfl rfl rfl dX11_grow_62 rfl (fun x_24 ex_24 => ?_)
      refine q_ci (pc' := 68) Bh_22 (hp_runV (As := [.int x_24]) (rest := []) C Bh_22 (t_X11_answer Γ l αh_22 Bh_22.2.2.1 a0 (cw_k Bh_22.2.2 k0) x_24) lb_X11_answer lv_X11_answer lk_X11_115 (cw_k Bh_22.2.2 k0) rfl (by decide) rfl hl.1 rfl (Nat.le_of_ble_eq_true rfl) dX11_grow_65 ⟨Nat.le_refl _, Nat.le_refl _⟩) (fun _ _ h => cw_tr Bh_22.2.2 h (by decide)) rfl (fun rh_25 αh_25 Hh_25 Lh_25 ph_25 Bh_25 => ?_)
      exact q_iret C Bh_25 hr hlk Bh_25.2.2 dX11_grow_68
    ·
      have jc_16 := il_ne c_16
      refine lv_aload_n hx hb dX11_grow_24 rfl (lv_at hl 2 rfl) (hp_n (n := 25) rfl ?_)
      refine lv_iload hx hb dX11_grow_25 (lv_at hl 0 rfl) (hp_n (n := 27) rfl ?_)
      refine q_ci (pc' := 30) Bh_15 (hp_runV (As := [.int rh_15]) (rest := []) C Bh_15 (t_X11_refuse Γ l α Bh_15.2.2.1 a0 (cw_k Bh_15.2.2 k0) rh_15) lb_X11_refuse lv_X11_refuse lk_X11_98 (cw_k Bh_15.2.2 k0) rfl (by decide) rfl hl.1 rfl (Nat.le_of_ble_eq_true rfl) dX11_grow_27 ⟨Nat.le_refl _, Nat.le_refl _⟩) (fun _ _ h => cw_tr Bh_15.2.2 h (by decide)) rfl (fun rh_26 αh_26 Hh_26 Lh_26 ph_26 Bh_26 => ?_)
      exact q_iret C Bh_26 hr hlk Bh_26.2.2 dX11_grow_30
abbrev w_X11_bundle : cw_W := ([301, 453, 454, 600], [], [20, 21, 22, 23, 33], [])
set_option maxRecDepth 100000 in
set_option maxHeartbeats 4000000 in
theorem t_X11_bundle (Γ : hp_G) (l : Launch) (α : hp_T) (g : GC α) (a0 : Nat) (k0 : hp_K α a0 = 12) (a1 : Int32) (a2 : Int32) (a3 : Int32) : Met l yX11_bundle (hp_ws yX11_bundle cX11_bundle 5 (some .int)) (hp_rm 5 0 0) (hp_Pc Γ α [.ref a0, .int a1, .int a2, .int a3]) (hp_Qi Γ (fun r β => cw w_X11_bundle α β)) 0 0 (hp_A Γ) := by
  refine hp_start (by decide) ?_
  intro p e s m below meth c C hr hlk B0 hnm
  have C : hp_C Γ p m c cX11_bundle 5 s ([.ref a0, .int a1, .int a2, .int a3] : List Value).toArray RX11 := C
  have hx := C.1.1
  have hb := C.1.2.1
  have hown := C.1.2.2.2.1
  have hts := C.1.2.2.2.2
  have B : hp_B Γ (cw w_X11_bundle) s α α s.heap [] := ⟨B0.1, B0.2.1, cw_rf g⟩
  have lit0 : (0 : Int32).toInt = 0 := by decide
  have lit1 : (1 : Int32).toInt = 1 := by decide
  have lit2 : (2 : Int32).toInt = 2 := by decide
  have lit5 : (5 : Int32).toInt = 5 := by decide
  have hl := lv_entry ([.ref a0, .int a1, .int a2, .int a3]) (n := 5) (Nat.le_of_ble_eq_true rfl)
  show W p l e (hp_rm 5 0 0) s m ([.ref a0, .int a1, .int a2, .int a3] : List Value).toArray below meth c s.heap [] 0 0 (MQ below (hp_Qi Γ (fun r β => cw w_X11_bundle α β)) ([.ref a0, .int a1, .int a2, .int a3] : List Value).toArray s 0 0 (hp_A Γ)) (entryFrame m ([.ref a0, .int a1, .int a2, .int a3] : List Value).toArray 5)
  rw [lg_entry_eq]
  generalize (lg_sl ([.ref a0, .int a1, .int a2, .int a3]) ++ List.replicate (5 - (lg_sl ([.ref a0, .int a1, .int a2, .int a3])).length) Slot.unset).toArray = ls at hl ⊢
  have hl : lv_has ls 5 [(0, .ref a0), (1, .int a1), (2, .int a2), (3, .int a3)] := hl
  refine lv_iload_n hx hb dX11_bundle_0 rfl (lv_at hl 3 rfl) (hp_n (n := 1) rfl ?_)
  have J11 : ∀ (Hh_1 : Heap) (Lh_1 : List Loc) (Bh_1 : hp_B Γ (cw w_X11_bundle) s α α Hh_1 Lh_1) (ls : Array Slot) (hl : lv_has ls 5 [(0, .ref a0)]), W p l e (hp_rm 5 0 0) s m ([.ref a0, .int a1, .int a2, .int a3] : List Value).toArray below meth c Hh_1 Lh_1 0 0 (MQ below (hp_Qi Γ (fun r β => cw w_X11_bundle α β)) ([.ref a0, .int a1, .int a2, .int a3] : List Value).toArray s 0 0 (hp_A Γ)) (F0 m 11 ls []) := by
    intro Hh_1 Lh_1 Bh_1 ls hl
    refine lv_aload_n hx hb dX11_bundle_11 rfl (lv_at hl 0 rfl) (hp_n (n := 12) rfl ?_)
    refine lv_iconst (v := 1) hx hb dX11_bundle_12 (by decide) (hp_n (n := 13) rfl ?_)
    refine q_ci (pc' := 16) Bh_1 (hp_runV (As := [.int 1]) (rest := []) C Bh_1 (t_X11_refuse Γ l α Bh_1.2.2.1 a0 (cw_k Bh_1.2.2 k0) 1) lb_X11_refuse lv_X11_refuse lk_X11_98 (cw_k Bh_1.2.2 k0) rfl (by decide) rfl hl.1 rfl (Nat.le_of_ble_eq_true rfl) dX11_bundle_13 ⟨Nat.le_refl _, Nat.le_refl _⟩) (fun _ _ h => cw_tr Bh_1.2.2 h (by decide)) rfl (fun rh_2 αh_2 Hh_2 Lh_2 ph_2 Bh_2 => ?_)
    exact q_iret C Bh_2 hr hlk Bh_2.2.2 dX11_bundle_16
  refine lv_if_lt (tgt := 11) hx hb dX11_bundle_1 (by decide) (fun c_3 => ?_) (fun c_3 => hp_n (n := 4) rfl ?_)
  ·
    have jc_3 := il_lt c_3
    exact J11 s.heap [] B ls (lv_sub hl [0] rfl)
  ·
    have jc_3 := il_nlt c_3
    refine lv_iload_n hx hb dX11_bundle_4 rfl (lv_at hl 2 rfl) (hp_n (n := 5) rfl ?_)
    refine q_ci (pc' := 8) B (hp_runS (As := [.int a2]) (rest := []) C B (t_X11_isSet Γ l α B.2.2.1 a2) lb_X11_isSet ls_X11_isSet lk_X11_277 rfl (by decide) rfl hl.1 rfl (Nat.le_of_ble_eq_true rfl) dX11_bundle_5 ⟨Nat.le_refl _, Nat.le_refl _⟩) (fun _ _ h => by rw [h.1]; exact B.2.2) rfl (fun rh_4 αh_4 Hh_4 Lh_4 ph_4 Bh_4 => ?_)
    rw [ph_4.1] at Bh_4
    have zh_4 := ph_4.2
    refine lv_if_ne (tgt := 17) hx hb dX11_bundle_8 (by decide) (fun c_5 => ?_) (fun c_5 => hp_n (n := 11) rfl ?_)
    ·
      have jc_5 := il_ne c_5
      refine lv_aload_n hx hb dX11_bundle_17 rfl (lv_at hl 0 rfl) (hp_n (n := 18) rfl ?_)
      refine q_getr (κ := 12) (k := 1) (φ := 601) (pc' := 21) C Bh_4 (cw_k Bh_4.2.2 k0) fl_X11_16 rfl rfl rfl (cw_r Bh_4.2.2 k0 rfl rfl (by decide) (by decide)) dX11_bundle_18 rfl (fun b_6 eb_6 kb_6 => ?_)
      refine lv_iload_n hx hb dX11_bundle_21 rfl (lv_at hl 1 rfl) (hp_n (n := 22) rfl ?_)
      refine q_cq (pc' := 25) Bh_4 (hp_runV (As := [.int a1]) (rest := []) C Bh_4 (t_X10_logAt Γ l α Bh_4.2.2.1 b_6 (cw_k Bh_4.2.2 kb_6) a1) lb_X10_logAt lv_X10_logAt lk_X11_163 (cw_k Bh_4.2.2 kb_6) rfl (by decide) rfl hl.1 rfl (Nat.le_of_ble_eq_true rfl) dX11_bundle_22 ⟨Nat.le_refl _, Nat.le_refl _⟩) (fun _ _ h => by rw [h.1]; exact Bh_4.2.2) rfl (fun rh_7 αh_7 Hh_7 Lh_7 ph_7 Bh_7 => ?_)
      rw [ph_7.1] at Bh_7
      rcases rh_7 with _ | bh_7
      ·
        refine lv_astoreN (lv' := [(4, .null), (0, .ref a0), (1, .int a1), (2, .int a2), (3, .int a3)]) hx hb dX11_bundle_25 hl (by decide) rfl (fun ls hl => hp_n (n := 27) rfl ?_)
        refine lv_aloadN hx hb dX11_bundle_27 (lv_at hl 0 rfl) (hp_n (n := 29) rfl ?_)
        refine lv_ifnonnullN hx hb dX11_bundle_29 (hp_n (n := 32) rfl ?_)
        refine lv_aload_n hx hb dX11_bundle_32 rfl (lv_at hl 1 rfl) (hp_n (n := 33) rfl ?_)
        refine lv_iconst (v := 2) hx hb dX11_bundle_33 (by decide) (hp_n (n := 34) rfl ?_)
        refine q_ci (pc' := 37) Bh_7 (hp_runV (As := [.int 2]) (rest := []) C Bh_7 (t_X11_refuse Γ l α Bh_7.2.2.1 a0 (cw_k Bh_7.2.2 k0) 2) lb_X11_refuse lv_X11_refuse lk_X11_98 (cw_k Bh_7.2.2 k0) rfl (by decide) rfl hl.1 rfl (Nat.le_of_ble_eq_true rfl) dX11_bundle_34 ⟨Nat.le_refl _, Nat.le_refl _⟩) (fun _ _ h => cw_tr Bh_7.2.2 h (by decide)) rfl (fun rh_8 αh_8 Hh_8 Lh_8 ph_8 Bh_8 => ?_)
        exact q_iret C Bh_8 hr hlk Bh_8.2.2 dX11_bundle_37
      ·
        have kbh_7 : hp_K α bh_7 = 3 := cw_k' Bh_7.2.2 (ph_7.2 bh_7 rfl)
        refine lv_astore (lv' := [(4, .ref bh_7), (0, .ref a0), (1, .int a1), (2, .int a2), (3, .int a3)]) hx hb dX11_bundle_25 hl (by decide) rfl (fun ls hl => hp_n (n := 27) rfl ?_)
        refine lv_aload hx hb dX11_bundle_27 (lv_at hl 0 rfl) (hp_n (n := 29) rfl ?_)
        refine lv_ifnonnull (tgt := 38) hx hb dX11_bundle_29 (by decide) ?_
        refine lv_iload_n hx hb dX11_bundle_38 rfl (lv_at hl 4 rfl) (hp_n (n := 39) rfl ?_)
        refine lv_aload hx hb dX11_bundle_39 (lv_at hl 0 rfl) (hp_n (n := 41) rfl ?_)
        refine q_geti (κ := 3) (k := 2) (φ := 152) (pc' := 44) C Bh_7 (cw_k Bh_7.2.2 kbh_7) fl_X11_167 rfl rfl rfl dX11_bundle_41 rfl (fun x_9 ex_9 => ?_)
        have J55 : ∀ (Hh_10 : Heap) (Lh_10 : List Loc) (Bh_10 : hp_B Γ (cw w_X11_bundle) s α α Hh_10 Lh_10) (ls : Array Slot) (hl : lv_has ls 5 [(0, .ref a0)]), W p l e (hp_rm 5 0 0) s m ([.ref a0, .int a1, .int a2, .int a3] : List Value).toArray below meth c Hh_10 Lh_10 0 0 (MQ below (hp_Qi Γ (fun r β => cw w_X11_bundle α β)) ([.ref a0, .int a1, .int a2, .int a3] : List Value).toArray s 0 0 (hp_A Γ)) (F0 m 55 ls []) := by
          intro Hh_10 Lh_10 Bh_10 ls hl
          refine lv_aload_n hx hb dX11_bundle_55 rfl (lv_at hl 0 rfl) (hp_n (n := 56) rfl ?_)
          refine lv_iconst (v := 5) hx hb dX11_bundle_56 (by decide) (hp_n (n := 57) rfl ?_)
          refine q_ci (pc' := 60) Bh_10 (hp_runV (As := [.int 5]) (rest := []) C Bh_10 (t_X11_refuse Γ l α Bh_10.2.2.1 a0 (cw_k Bh_10.2.2 k0) 5) lb_X11_refuse lv_X11_refuse lk_X11_98 (cw_k Bh_10.2.2 k0) rfl (by decide) rfl hl.1 rfl (Nat.le_of_ble_eq_true rfl) dX11_bundle_57 ⟨Nat.le_refl _, Nat.le_refl _⟩) (fun _ _ h => cw_tr Bh_10.2.2 h (by decide)) rfl (fun rh_11 αh_11 Hh_11 Lh_11 ph_11 Bh_11 => ?_)
          exact q_iret C Bh_11 hr hlk Bh_11.2.2 dX11_bundle_60
        refine lv_icmp_gt (tgt := 55) hx hb dX11_bundle_44 (by decide) (fun c_12 => ?_) (fun c_12 => hp_n (n := 47) rfl ?_)
        ·
          have jc_12 := il_lt c_12
          exact J55 Hh_7 Lh_7 Bh_7 ls (lv_sub hl [1] rfl)
        ·
          have jc_12 := il_nlt c_12
          refine lv_iload_n hx hb dX11_bundle_47 rfl (lv_at hl 3 rfl) (hp_n (n := 48) rfl ?_)
          refine lv_iload_n hx hb dX11_bundle_48 rfl (lv_at hl 4 rfl) (hp_n (n := 49) rfl ?_)
          refine q_ci (pc' := 52) Bh_7 (hp_runS (As := [.int a2, .int a3]) (rest := []) C Bh_7 (t_X11_lieBelow Γ l α Bh_7.2.2.1 a2 a3) lb_X11_lieBelow ls_X11_lieBelow lk_X11_280 rfl (by decide) rfl hl.1 rfl (Nat.le_of_ble_eq_true rfl) dX11_bundle_49 ⟨Nat.le_refl _, Nat.le_refl _⟩) (fun _ _ h => by rw [h.1]; exact Bh_7.2.2) rfl (fun rh_13 αh_13 Hh_13 Lh_13 ph_13 Bh_13 => ?_)
          rw [ph_13.1] at Bh_13
          have zh_13 := ph_13.2
          refine lv_if_ne (tgt := 61) hx hb dX11_bundle_52 (by decide) (fun c_14 => ?_) (fun c_14 => hp_n (n := 55) rfl ?_)
          ·
            have jc_14 := il_ne c_14
            refine lv_aload_n hx hb dX11_bundle_61 rfl (lv_at hl 1 rfl) (hp_n (n := 62) rfl ?_)
            refine q_getr (κ := 12) (k := 12) (φ := 612) (pc' := 65) C Bh_13 (cw_k Bh_13.2.2 k0) fl_X11_62 rfl rfl rfl (cw_r Bh_13.2.2 k0 rfl rfl (by decide) (by decide)) dX11_bundle_62 rfl (fun b_15 eb_15 kb_15 => ?_)
            refine lv_iload_n hx hb dX11_bundle_65 rfl (lv_at hl 3 rfl) (hp_n (n := 66) rfl ?_)
            refine lv_iload_n hx hb dX11_bundle_66 rfl (lv_at hl 4 rfl) (hp_n (n := 67) rfl ?_)
            refine q_cv (pc' := 70) Bh_13 (hp_runV (As := [.int a2, .int a3]) (rest := []) C Bh_13 (t_X8_toBundle Γ l α Bh_13.2.2.1 b_15 (cw_k Bh_13.2.2 kb_15) a2 a3) lb_X8_toBundle lv_X8_toBundle lk_X11_284 (cw_k Bh_13.2.2 kb_15) rfl (by decide) rfl hl.1 rfl (Nat.le_of_ble_eq_true rfl) dX11_bundle_67 ⟨Nat.le_refl _, Nat.le_refl _⟩) (fun _ h => cw_tr Bh_13.2.2 h (by decide)) rfl (fun αh_16 Hh_16 Lh_16 ph_16 Bh_16 => ?_)
            refine lv_aload_n hx hb dX11_bundle_70 rfl (lv_at hl 1 rfl) (hp_n (n := 71) rfl ?_)
            have t_17 : b_6 = hp_R αh_16 601 a0 := by rw [cw_R ph_16 a0 (by decide)]; exact eb_6
            refine q_gets (κ := 12) (k := 1) (φ := 601) (pc' := 74) C Bh_16 (cw_k Bh_16.2.2 k0) fl_X11_16 rfl rfl rfl t_17 dX11_bundle_71 rfl ?_
            refine lv_aload_n hx hb dX11_bundle_74 rfl (lv_at hl 1 rfl) (hp_n (n := 75) rfl ?_)
            have t_18 : b_15 = hp_R αh_16 612 a0 := by rw [cw_R ph_16 a0 (by decide)]; exact eb_15
            refine q_gets (κ := 12) (k := 12) (φ := 612) (pc' := 78) C Bh_16 (cw_k Bh_16.2.2 k0) fl_X11_62 rfl rfl rfl t_18 dX11_bundle_75 rfl ?_
            refine lv_aload hx hb dX11_bundle_78 (lv_at hl 0 rfl) (hp_n (n := 80) rfl ?_)
            refine lv_aload_n hx hb dX11_bundle_80 rfl (lv_at hl 1 rfl) (hp_n (n := 81) rfl ?_)
            refine q_getr (κ := 12) (k := 3) (φ := 603) (pc' := 84) C Bh_16 (cw_k Bh_16.2.2 k0) fl_X11_26 rfl rfl rfl (cw_r Bh_16.2.2 k0 rfl rfl (by decide) (by decide)) dX11_bundle_81 rfl (fun b_19 eb_19 kb_19 => ?_)
            refine q_cv (pc' := 87) Bh_16 (hp_runV (As := [.ref b_15, va_rf (some bh_7), .ref b_19]) (rest := []) C Bh_16 (t_X10_marksAlong Γ l αh_16 Bh_16.2.2.1 b_6 (cw_k Bh_16.2.2 kb_6) b_15 (cw_k Bh_16.2.2 kb_15) (some bh_7) (fun b h => by cases h; exact (cw_k Bh_16.2.2 kbh_7)) b_19 (cw_k Bh_16.2.2 kb_19)) lb_X10_marksAlong lv_X10_marksAlong lk_X11_270 (cw_k Bh_16.2.2 kb_6) rfl (by decide) rfl hl.1 rfl (Nat.le_of_ble_eq_true rfl) dX11_bundle_84 ⟨Nat.le_refl _, Nat.le_refl _⟩) (fun _ h => cw_tr Bh_16.2.2 h (by decide)) rfl (fun αh_20 Hh_20 Lh_20 ph_20 Bh_20 => ?_)
            refine lv_aload_n hx hb dX11_bundle_87 rfl (lv_at hl 1 rfl) (hp_n (n := 88) rfl ?_)
            refine lv_aload_n hx hb dX11_bundle_88 rfl (lv_at hl 1 rfl) (hp_n (n := 89) rfl ?_)
            have t_21 : b_19 = hp_R αh_20 603 a0 := by rw [cw_R ph_20 a0 (by decide)]; exact eb_19
            refine q_gets (κ := 12) (k := 3) (φ := 603) (pc' := 92) C Bh_20 (cw_k Bh_20.2.2 k0) fl_X11_26 rfl rfl rfl t_21 dX11_bundle_89 rfl ?_
            refine q_geti (κ := 6) (k := 1) (φ := 301) (pc' := 95) C Bh_20 (cw_k Bh_20.2.2 kb_19) fl_X11_132 rfl rfl rfl dX11_bundle_92 rfl (fun x_22 ex_22 => ?_)
            refine q_ci (pc' := 98) Bh_20 (hp_runV (As := [.int x_22]) (rest := []) C Bh_20 (t_X11_answer Γ l αh_20 Bh_20.2.2.1 a0 (cw_k Bh_20.2.2 k0) x_22) lb_X11_answer lv_X11_answer lk_X11_115 (cw_k Bh_20.2.2 k0) rfl (by decide) rfl hl.1 rfl (Nat.le_of_ble_eq_true rfl) dX11_bundle_95 ⟨Nat.le_refl _, Nat.le_refl _⟩) (fun _ _ h => cw_tr Bh_20.2.2 h (by decide)) rfl (fun rh_23 αh_23 Hh_23 Lh_23 ph_23 Bh_23 => ?_)
            exact q_iret C Bh_23 hr hlk Bh_23.2.2 dX11_bundle_98
          ·
            have jc_14 := il_eq c_14
            exact J55 Hh_13 Lh_13 Bh_13 ls (lv_sub hl [1] rfl)
    ·
      have jc_5 := il_eq c_5
      exact J11 Hh_4 Lh_4 Bh_4 ls (lv_sub hl [0] rfl)
abbrev w_X11_peaks : cw_W := ([301, 600], [], [20, 33], [])
abbrev w_X11_extend : cw_W := ([301, 600], [], [20], [])
set_option maxRecDepth 100000 in
set_option maxHeartbeats 4000000 in
theorem t_X11_extend (Γ : hp_G) (l : Launch) (α : hp_T) (g : GC α) (a0 : Nat) (k0 : hp_K α a0 = 12) (a1 : Int32) (a2 : Int32) : Met l yX11_extend (hp_ws yX11_extend cX11_extend 3 (some .int)) (hp_rm 2 0 0) (hp_Pc Γ α [.ref a0, .int a1, .int a2]) (hp_Qi Γ (fun r β => cw w_X11_extend α β)) 0 0 (hp_A Γ) := by
  refine hp_start (by decide) ?_
  intro p e s m below meth c C hr hlk B0 hnm
  have C : hp_C Γ p m c cX11_extend 3 s ([.ref a0, .int a1, .int a2] : List Value).toArray RX11 := C
  have hx := C.1.1
  have hb := C.1.2.1
  have hown := C.1.2.2.2.1
  have hts := C.1.2.2.2.2
  have B : hp_B Γ (cw w_X11_extend) s α α s.heap [] := ⟨B0.1, B0.2.1, cw_rf g⟩
  have lit0 : (0 : Int32).toInt = 0 := by decide
  have lit1 : (1 : Int32).toInt = 1 := by decide
  have lit5 : (5 : Int32).toInt = 5 := by decide
  have lit1000000 : (1000000 : Int32).toInt = 1000000 := by decide
  have hl := lv_entry ([.ref a0, .int a1, .int a2]) (n := 3) (Nat.le_of_ble_eq_true rfl)
  show W p l e (hp_rm 2 0 0) s m ([.ref a0, .int a1, .int a2] : List Value).toArray below meth c s.heap [] 0 0 (MQ below (hp_Qi Γ (fun r β => cw w_X11_extend α β)) ([.ref a0, .int a1, .int a2] : List Value).toArray s 0 0 (hp_A Γ)) (entryFrame m ([.ref a0, .int a1, .int a2] : List Value).toArray 3)
  rw [lg_entry_eq]
  generalize (lg_sl ([.ref a0, .int a1, .int a2]) ++ List.replicate (3 - (lg_sl ([.ref a0, .int a1, .int a2])).length) Slot.unset).toArray = ls at hl ⊢
  have hl : lv_has ls 3 [(0, .ref a0), (1, .int a1), (2, .int a2)] := hl
  refine lv_iload_n hx hb dX11_extend_0 rfl (lv_at hl 1 rfl) (hp_n (n := 1) rfl ?_)
  have J19 : ∀ (Hh_1 : Heap) (Lh_1 : List Loc) (Bh_1 : hp_B Γ (cw w_X11_extend) s α α Hh_1 Lh_1) (ls : Array Slot) (hl : lv_has ls 3 [(0, .ref a0)]), W p l e (hp_rm 2 0 0) s m ([.ref a0, .int a1, .int a2] : List Value).toArray below meth c Hh_1 Lh_1 0 0 (MQ below (hp_Qi Γ (fun r β => cw w_X11_extend α β)) ([.ref a0, .int a1, .int a2] : List Value).toArray s 0 0 (hp_A Γ)) (F0 m 19 ls []) := by
    intro Hh_1 Lh_1 Bh_1 ls hl
    refine lv_aload_n hx hb dX11_extend_19 rfl (lv_at hl 0 rfl) (hp_n (n := 20) rfl ?_)
    refine lv_iconst (v := 1) hx hb dX11_extend_20 (by decide) (hp_n (n := 21) rfl ?_)
    refine q_ci (pc' := 24) Bh_1 (hp_runV (As := [.int 1]) (rest := []) C Bh_1 (t_X11_refuse Γ l α Bh_1.2.2.1 a0 (cw_k Bh_1.2.2 k0) 1) lb_X11_refuse lv_X11_refuse lk_X11_98 (cw_k Bh_1.2.2 k0) rfl (by decide) rfl hl.1 rfl (Nat.le_of_ble_eq_true rfl) dX11_extend_21 ⟨Nat.le_refl _, Nat.le_refl _⟩) (fun _ _ h => cw_tr Bh_1.2.2 h (by decide)) rfl (fun rh_2 αh_2 Hh_2 Lh_2 ph_2 Bh_2 => ?_)
    exact q_iret C Bh_2 hr hlk Bh_2.2.2 dX11_extend_24
  refine lv_if_lt (tgt := 19) hx hb dX11_extend_1 (by decide) (fun c_3 => ?_) (fun c_3 => hp_n (n := 4) rfl ?_)
  ·
    have jc_3 := il_lt c_3
    exact J19 s.heap [] B ls (lv_sub hl [0] rfl)
  ·
    have jc_3 := il_nlt c_3
    refine lv_iload_n hx hb dX11_extend_4 rfl (lv_at hl 1 rfl) (hp_n (n := 5) rfl ?_)
    refine lv_ldcw hx hb hown (hts _ kc_X11_291) dX11_extend_5 (hp_n (n := 8) rfl ?_)
    refine lv_icmp_gt (tgt := 19) hx hb dX11_extend_8 (by decide) (fun c_4 => ?_) (fun c_4 => hp_n (n := 11) rfl ?_)
    ·
      have jc_4 := il_lt c_4
      exact J19 s.heap [] B ls (lv_sub hl [0] rfl)
    ·
      have jc_4 := il_nlt c_4
      refine lv_aload_n hx hb dX11_extend_11 rfl (lv_at hl 0 rfl) (hp_n (n := 12) rfl ?_)
      refine lv_iload_n hx hb dX11_extend_12 rfl (lv_at hl 2 rfl) (hp_n (n := 13) rfl ?_)
      refine q_ci (pc' := 16) B (hp_runV (As := [.int a2]) (rest := []) C B (t_X11_isMark Γ l α B.2.2.1 a0 (cw_k B.2.2 k0) a2) lb_X11_isMark lv_X11_isMark lk_X11_188 (cw_k B.2.2 k0) rfl (by decide) rfl hl.1 rfl (Nat.le_of_ble_eq_true rfl) dX11_extend_13 ⟨Nat.le_refl _, Nat.le_refl _⟩) (fun _ _ h => by rw [h.1]; exact B.2.2) rfl (fun rh_5 αh_5 Hh_5 Lh_5 ph_5 Bh_5 => ?_)
      rw [ph_5.1] at Bh_5
      have zh_5 := ph_5.2
      refine lv_if_ne (tgt := 25) hx hb dX11_extend_16 (by decide) (fun c_6 => ?_) (fun c_6 => hp_n (n := 19) rfl ?_)
      ·
        have jc_6 := il_ne c_6
        refine lv_aload_n hx hb dX11_extend_25 rfl (lv_at hl 0 rfl) (hp_n (n := 26) rfl ?_)
        refine q_getr (κ := 12) (k := 3) (φ := 603) (pc' := 29) C Bh_5 (cw_k Bh_5.2.2 k0) fl_X11_26 rfl rfl rfl (cw_r Bh_5.2.2 k0 rfl rfl (by decide) (by decide)) dX11_extend_26 rfl (fun b_7 eb_7 kb_7 => ?_)
        refine q_geti (κ := 6) (k := 1) (φ := 301) (pc' := 32) C Bh_5 (cw_k Bh_5.2.2 kb_7) fl_X11_132 rfl rfl rfl dX11_extend_29 rfl (fun x_8 ex_8 => ?_)
        refine lv_iload_n hx hb dX11_extend_32 rfl (lv_at hl 1 rfl) (hp_n (n := 33) rfl ?_)
        refine q_ci (pc' := 36) Bh_5 (hp_runS (As := [.int a1]) (rest := [.int x_8]) C Bh_5 (t_J6_bitCount_0f7a4 Γ l α Bh_5.2.2.1 a1) lb_J6_bitCount_0f7a4 ls_J6_bitCount_0f7a4 lk_X11_292 rfl (by decide) rfl hl.1 rfl (Nat.le_of_ble_eq_true rfl) dX11_extend_33 ⟨Nat.le_refl _, Nat.le_refl _⟩) (fun _ _ h => by rw [h]; exact Bh_5.2.2) rfl (fun rh_9 αh_9 Hh_9 Lh_9 ph_9 Bh_9 => ?_)
        rw [ph_9] at Bh_9
        refine lv_icmp_eq (tgt := 45) hx hb dX11_extend_36 (by decide) (fun c_10 => ?_) (fun c_10 => hp_n (n := 39) rfl ?_)
        ·
          have jc_10 := il_eq c_10
          refine lv_aload_n hx hb dX11_extend_45 rfl (lv_at hl 0 rfl) (hp_n (n := 46) rfl ?_)
          refine q_gets (κ := 12) (k := 3) (φ := 603) (pc' := 49) C Bh_9 (cw_k Bh_9.2.2 k0) fl_X11_26 rfl rfl rfl eb_7 dX11_extend_46 rfl ?_
          refine lv_aload_n hx hb dX11_extend_49 rfl (lv_at hl 0 rfl) (hp_n (n := 50) rfl ?_)
          refine q_getr (κ := 12) (k := 1) (φ := 601) (pc' := 53) C Bh_9 (cw_k Bh_9.2.2 k0) fl_X11_16 rfl rfl rfl (cw_r Bh_9.2.2 k0 rfl rfl (by decide) (by decide)) dX11_extend_50 rfl (fun b_11 eb_11 kb_11 => ?_)
          refine q_geti (κ := 11) (k := 0) (φ := 550) (pc' := 56) C Bh_9 (cw_k Bh_9.2.2 kb_11) fl_X11_122 rfl rfl rfl dX11_extend_53 rfl (fun x_12 ex_12 => ?_)
          refine lv_iload_n hx hb dX11_extend_56 rfl (lv_at hl 1 rfl) (hp_n (n := 57) rfl ?_)
          refine lv_iload_n hx hb dX11_extend_57 rfl (lv_at hl 2 rfl) (hp_n (n := 58) rfl ?_)
          refine q_cv (pc' := 61) Bh_9 (hp_runV (As := [.int x_12, .int a1, .int a2]) (rest := []) C Bh_9 (t_X5_putPeak Γ l α Bh_9.2.2.1 b_7 (cw_k Bh_9.2.2 kb_7) x_12 a1 a2) lb_X5_putPeak lv_X5_putPeak lk_X11_297 (cw_k Bh_9.2.2 kb_7) rfl (by decide) rfl hl.1 rfl (Nat.le_of_ble_eq_true rfl) dX11_extend_58 ⟨Nat.le_refl _, Nat.le_refl _⟩) (fun _ h => cw_tr Bh_9.2.2 h (by decide)) rfl (fun αh_13 Hh_13 Lh_13 ph_13 Bh_13 => ?_)
          refine lv_aload_n hx hb dX11_extend_61 rfl (lv_at hl 0 rfl) (hp_n (n := 62) rfl ?_)
          refine lv_aload_n hx hb dX11_extend_62 rfl (lv_at hl 0 rfl) (hp_n (n := 63) rfl ?_)
          have t_14 : b_7 = hp_R αh_13 603 a0 := by rw [cw_R ph_13 a0 (by decide)]; exact eb_7
          refine q_gets (κ := 12) (k := 3) (φ := 603) (pc' := 66) C Bh_13 (cw_k Bh_13.2.2 k0) fl_X11_26 rfl rfl rfl t_14 dX11_extend_63 rfl ?_
          refine q_geti (κ := 6) (k := 1) (φ := 301) (pc' := 69) C Bh_13 (cw_k Bh_13.2.2 kb_7) fl_X11_132 rfl rfl rfl dX11_extend_66 rfl (fun x_15 ex_15 => ?_)
          refine q_ci (pc' := 72) Bh_13 (hp_runV (As := [.int x_15]) (rest := []) C Bh_13 (t_X11_answer Γ l αh_13 Bh_13.2.2.1 a0 (cw_k Bh_13.2.2 k0) x_15) lb_X11_answer lv_X11_answer lk_X11_115 (cw_k Bh_13.2.2 k0) rfl (by decide) rfl hl.1 rfl (Nat.le_of_ble_eq_true rfl) dX11_extend_69 ⟨Nat.le_refl _, Nat.le_refl _⟩) (fun _ _ h => cw_tr Bh_13.2.2 h (by decide)) rfl (fun rh_16 αh_16 Hh_16 Lh_16 ph_16 Bh_16 => ?_)
          exact q_iret C Bh_16 hr hlk Bh_16.2.2 dX11_extend_72
        ·
          have jc_10 := il_ne c_10
          refine lv_aload_n hx hb dX11_extend_39 rfl (lv_at hl 0 rfl) (hp_n (n := 40) rfl ?_)
          refine lv_iconst (v := 5) hx hb dX11_extend_40 (by decide) (hp_n (n := 41) rfl ?_)
          refine q_ci (pc' := 44) Bh_9 (hp_runV (As := [.int 5]) (rest := []) C Bh_9 (t_X11_refuse Γ l α Bh_9.2.2.1 a0 (cw_k Bh_9.2.2 k0) 5) lb_X11_refuse lv_X11_refuse lk_X11_98 (cw_k Bh_9.2.2 k0) rfl (by decide) rfl hl.1 rfl (Nat.le_of_ble_eq_true rfl) dX11_extend_41 ⟨Nat.le_refl _, Nat.le_refl _⟩) (fun _ _ h => cw_tr Bh_9.2.2 h (by decide)) rfl (fun rh_17 αh_17 Hh_17 Lh_17 ph_17 Bh_17 => ?_)
          exact q_iret C Bh_17 hr hlk Bh_17.2.2 dX11_extend_44
      ·
        have jc_6 := il_eq c_6
        exact J19 Hh_5 Lh_5 Bh_5 ls (lv_sub hl [0] rfl)
abbrev w_X11_checks : cw_W := ([453, 454, 600], [], [21, 22, 23], [])
set_option maxRecDepth 100000 in
set_option maxHeartbeats 4000000 in
theorem t_X11_checks (Γ : hp_G) (l : Launch) (α : hp_T) (g : GC α) (a0 : Nat) (k0 : hp_K α a0 = 12) (a1 : Int32) (a2 : Int32) (a3 : Int32) (a4 : Int32) : Met l yX11_checks (hp_ws yX11_checks cX11_checks 5 (some .int)) (hp_rm 4 0 0) (hp_Pc Γ α [.ref a0, .int a1, .int a2, .int a3, .int a4]) (hp_Qi Γ (fun r β => cw w_X11_checks α β)) 0 0 (hp_A Γ) := by
  refine hp_start (by decide) ?_
  intro p e s m below meth c C hr hlk B0 hnm
  have C : hp_C Γ p m c cX11_checks 5 s ([.ref a0, .int a1, .int a2, .int a3, .int a4] : List Value).toArray RX11 := C
  have hx := C.1.1
  have hb := C.1.2.1
  have hown := C.1.2.2.2.1
  have hts := C.1.2.2.2.2
  have B : hp_B Γ (cw w_X11_checks) s α α s.heap [] := ⟨B0.1, B0.2.1, cw_rf g⟩
  have lit0 : (0 : Int32).toInt = 0 := by decide
  have lit1 : (1 : Int32).toInt = 1 := by decide
  have hl := lv_entry ([.ref a0, .int a1, .int a2, .int a3, .int a4]) (n := 5) (Nat.le_of_ble_eq_true rfl)
  show W p l e (hp_rm 4 0 0) s m ([.ref a0, .int a1, .int a2, .int a3, .int a4] : List Value).toArray below meth c s.heap [] 0 0 (MQ below (hp_Qi Γ (fun r β => cw w_X11_checks α β)) ([.ref a0, .int a1, .int a2, .int a3, .int a4] : List Value).toArray s 0 0 (hp_A Γ)) (entryFrame m ([.ref a0, .int a1, .int a2, .int a3, .int a4] : List Value).toArray 5)
  rw [lg_entry_eq]
  generalize (lg_sl ([.ref a0, .int a1, .int a2, .int a3, .int a4]) ++ List.replicate (5 - (lg_sl ([.ref a0, .int a1, .int a2, .int a3, .int a4])).length) Slot.unset).toArray = ls at hl ⊢
  have hl : lv_has ls 5 [(0, .ref a0), (1, .int a1), (2, .int a2), (3, .int a3), (4, .int a4)] := hl
  refine lv_iload_n hx hb dX11_checks_0 rfl (lv_at hl 2 rfl) (hp_n (n := 1) rfl ?_)
  refine lv_iload_n hx hb dX11_checks_1 rfl (lv_at hl 3 rfl) (hp_n (n := 2) rfl ?_)
  refine q_ci (pc' := 5) B (hp_runS (As := [.int a2, .int a3]) (rest := []) C B (t_X11_isThing Γ l α B.2.2.1 a2 a3) lb_X11_isThing ls_X11_isThing lk_X11_301 rfl (by decide) rfl hl.1 rfl (Nat.le_of_ble_eq_true rfl) dX11_checks_2 ⟨Nat.le_refl _, Nat.le_refl _⟩) (fun _ _ h => by rw [h.1]; exact B.2.2) rfl (fun rh_1 αh_1 Hh_1 Lh_1 ph_1 Bh_1 => ?_)
  rw [ph_1.1] at Bh_1
  have zh_1 := ph_1.2
  have J25 : ∀ (Hh_2 : Heap) (Lh_2 : List Loc) (Bh_2 : hp_B Γ (cw w_X11_checks) s α α Hh_2 Lh_2) (ls : Array Slot) (hl : lv_has ls 5 [(0, .ref a0)]), W p l e (hp_rm 4 0 0) s m ([.ref a0, .int a1, .int a2, .int a3, .int a4] : List Value).toArray below meth c Hh_2 Lh_2 0 0 (MQ below (hp_Qi Γ (fun r β => cw w_X11_checks α β)) ([.ref a0, .int a1, .int a2, .int a3, .int a4] : List Value).toArray s 0 0 (hp_A Γ)) (F0 m 25 ls []) := by
    intro Hh_2 Lh_2 Bh_2 ls hl
    refine lv_aload_n hx hb dX11_checks_25 rfl (lv_at hl 0 rfl) (hp_n (n := 26) rfl ?_)
    refine lv_iconst (v := 1) hx hb dX11_checks_26 (by decide) (hp_n (n := 27) rfl ?_)
    refine q_ci (pc' := 30) Bh_2 (hp_runV (As := [.int 1]) (rest := []) C Bh_2 (t_X11_refuse Γ l α Bh_2.2.2.1 a0 (cw_k Bh_2.2.2 k0) 1) lb_X11_refuse lv_X11_refuse lk_X11_98 (cw_k Bh_2.2.2 k0) rfl (by decide) rfl hl.1 rfl (Nat.le_of_ble_eq_true rfl) dX11_checks_27 ⟨Nat.le_refl _, Nat.le_refl _⟩) (fun _ _ h => cw_tr Bh_2.2.2 h (by decide)) rfl (fun rh_3 αh_3 Hh_3 Lh_3 ph_3 Bh_3 => ?_)
    exact q_iret C Bh_3 hr hlk Bh_3.2.2 dX11_checks_30
  refine lv_if_eq (tgt := 25) hx hb dX11_checks_5 (by decide) (fun c_4 => ?_) (fun c_4 => hp_n (n := 8) rfl ?_)
  ·
    have jc_4 := il_eq c_4
    exact J25 Hh_1 Lh_1 Bh_1 ls (lv_sub hl [0] rfl)
  ·
    have jc_4 := il_ne c_4
    refine lv_aload_n hx hb dX11_checks_8 rfl (lv_at hl 0 rfl) (hp_n (n := 9) rfl ?_)
    refine lv_iload_n hx hb dX11_checks_9 rfl (lv_at hl 1 rfl) (hp_n (n := 10) rfl ?_)
    refine q_ci (pc' := 13) Bh_1 (hp_runV (As := [.int a1]) (rest := []) C Bh_1 (t_X11_isMark Γ l α Bh_1.2.2.1 a0 (cw_k Bh_1.2.2 k0) a1) lb_X11_isMark lv_X11_isMark lk_X11_188 (cw_k Bh_1.2.2 k0) rfl (by decide) rfl hl.1 rfl (Nat.le_of_ble_eq_true rfl) dX11_checks_10 ⟨Nat.le_refl _, Nat.le_refl _⟩) (fun _ _ h => by rw [h.1]; exact Bh_1.2.2) rfl (fun rh_5 αh_5 Hh_5 Lh_5 ph_5 Bh_5 => ?_)
    rw [ph_5.1] at Bh_5
    have zh_5 := ph_5.2
    refine lv_if_eq (tgt := 25) hx hb dX11_checks_13 (by decide) (fun c_6 => ?_) (fun c_6 => hp_n (n := 16) rfl ?_)
    ·
      have jc_6 := il_eq c_6
      exact J25 Hh_5 Lh_5 Bh_5 ls (lv_sub hl [0] rfl)
    ·
      have jc_6 := il_ne c_6
      refine lv_aload_n hx hb dX11_checks_16 rfl (lv_at hl 0 rfl) (hp_n (n := 17) rfl ?_)
      refine lv_iload hx hb dX11_checks_17 (lv_at hl 4 rfl) (hp_n (n := 19) rfl ?_)
      refine q_ci (pc' := 22) Bh_5 (hp_runV (As := [.int a4]) (rest := []) C Bh_5 (t_X11_isMark Γ l α Bh_5.2.2.1 a0 (cw_k Bh_5.2.2 k0) a4) lb_X11_isMark lv_X11_isMark lk_X11_188 (cw_k Bh_5.2.2 k0) rfl (by decide) rfl hl.1 rfl (Nat.le_of_ble_eq_true rfl) dX11_checks_19 ⟨Nat.le_refl _, Nat.le_refl _⟩) (fun _ _ h => by rw [h.1]; exact Bh_5.2.2) rfl (fun rh_7 αh_7 Hh_7 Lh_7 ph_7 Bh_7 => ?_)
      rw [ph_7.1] at Bh_7
      have zh_7 := ph_7.2
      refine lv_if_ne (tgt := 31) hx hb dX11_checks_22 (by decide) (fun c_8 => ?_) (fun c_8 => hp_n (n := 25) rfl ?_)
      ·
        have jc_8 := il_ne c_8
        refine lv_aload_n hx hb dX11_checks_31 rfl (lv_at hl 0 rfl) (hp_n (n := 32) rfl ?_)
        refine q_getr (κ := 12) (k := 12) (φ := 612) (pc' := 35) C Bh_7 (cw_k Bh_7.2.2 k0) fl_X11_62 rfl rfl rfl (cw_r Bh_7.2.2 k0 rfl rfl (by decide) (by decide)) dX11_checks_32 rfl (fun b_9 eb_9 kb_9 => ?_)
        refine lv_iload_n hx hb dX11_checks_35 rfl (lv_at hl 2 rfl) (hp_n (n := 36) rfl ?_)
        refine lv_iload_n hx hb dX11_checks_36 rfl (lv_at hl 3 rfl) (hp_n (n := 37) rfl ?_)
        refine q_cv (pc' := 40) Bh_7 (hp_runV (As := [.int a2, .int a3]) (rest := []) C Bh_7 (t_X8_toThing Γ l α Bh_7.2.2.1 b_9 (cw_k Bh_7.2.2 kb_9) a2 a3) lb_X8_toThing lv_X8_toThing lk_X11_267 (cw_k Bh_7.2.2 kb_9) rfl (by decide) rfl hl.1 rfl (Nat.le_of_ble_eq_true rfl) dX11_checks_37 ⟨Nat.le_refl _, Nat.le_refl _⟩) (fun _ h => cw_tr Bh_7.2.2 h (by decide)) rfl (fun αh_10 Hh_10 Lh_10 ph_10 Bh_10 => ?_)
        refine lv_aload_n hx hb dX11_checks_40 rfl (lv_at hl 0 rfl) (hp_n (n := 41) rfl ?_)
        refine lv_aload_n hx hb dX11_checks_41 rfl (lv_at hl 0 rfl) (hp_n (n := 42) rfl ?_)
        have t_11 : b_9 = hp_R αh_10 612 a0 := by rw [cw_R ph_10 a0 (by decide)]; exact eb_9
        refine q_gets (κ := 12) (k := 12) (φ := 612) (pc' := 45) C Bh_10 (cw_k Bh_10.2.2 k0) fl_X11_62 rfl rfl rfl t_11 dX11_checks_42 rfl ?_
        refine lv_aload_n hx hb dX11_checks_45 rfl (lv_at hl 0 rfl) (hp_n (n := 46) rfl ?_)
        refine q_getr (κ := 12) (k := 1) (φ := 601) (pc' := 49) C Bh_10 (cw_k Bh_10.2.2 k0) fl_X11_16 rfl rfl rfl (cw_r Bh_10.2.2 k0 rfl rfl (by decide) (by decide)) dX11_checks_46 rfl (fun b_12 eb_12 kb_12 => ?_)
        refine q_geti (κ := 11) (k := 0) (φ := 550) (pc' := 52) C Bh_10 (cw_k Bh_10.2.2 kb_12) fl_X11_122 rfl rfl rfl dX11_checks_49 rfl (fun x_13 ex_13 => ?_)
        refine lv_aload_n hx hb dX11_checks_52 rfl (lv_at hl 0 rfl) (hp_n (n := 53) rfl ?_)
        refine q_getr (κ := 12) (k := 3) (φ := 603) (pc' := 56) C Bh_10 (cw_k Bh_10.2.2 k0) fl_X11_26 rfl rfl rfl (cw_r Bh_10.2.2 k0 rfl rfl (by decide) (by decide)) dX11_checks_53 rfl (fun b_14 eb_14 kb_14 => ?_)
        refine lv_iload_n hx hb dX11_checks_56 rfl (lv_at hl 1 rfl) (hp_n (n := 57) rfl ?_)
        refine lv_iload hx hb dX11_checks_57 (lv_at hl 4 rfl) (hp_n (n := 59) rfl ?_)
        refine q_ci (pc' := 62) Bh_10 (hp_runV (As := [.int x_13, .ref b_14, .int a1, .int a4]) (rest := [.ref a0]) C Bh_10 (t_X8_whyInclusion Γ l αh_10 Bh_10.2.2.1 b_9 (cw_k Bh_10.2.2 kb_9) x_13 b_14 (cw_k Bh_10.2.2 kb_14) a1 a4) lb_X8_whyInclusion lv_X8_whyInclusion lk_X11_304 (cw_k Bh_10.2.2 kb_9) rfl (by decide) rfl hl.1 rfl (Nat.le_of_ble_eq_true rfl) dX11_checks_59 ⟨Nat.le_refl _, Nat.le_refl _⟩) (fun _ _ h => by rw [h]; exact Bh_10.2.2) rfl (fun rh_15 αh_15 Hh_15 Lh_15 ph_15 Bh_15 => ?_)
        rw [ph_15] at Bh_15
        refine q_ci (pc' := 65) Bh_15 (hp_runV (As := [.int rh_15]) (rest := []) C Bh_15 (t_X11_answer Γ l αh_10 Bh_15.2.2.1 a0 (cw_k Bh_15.2.2 k0) rh_15) lb_X11_answer lv_X11_answer lk_X11_115 (cw_k Bh_15.2.2 k0) rfl (by decide) rfl hl.1 rfl (Nat.le_of_ble_eq_true rfl) dX11_checks_62 ⟨Nat.le_refl _, Nat.le_refl _⟩) (fun _ _ h => cw_tr Bh_15.2.2 h (by decide)) rfl (fun rh_16 αh_16 Hh_16 Lh_16 ph_16 Bh_16 => ?_)
        exact q_iret C Bh_16 hr hlk Bh_16.2.2 dX11_checks_65
      ·
        have jc_8 := il_eq c_8
        exact J25 Hh_7 Lh_7 Bh_7 ls (lv_sub hl [0] rfl)
abbrev w_X11_growth : cw_W := ([453, 454, 600], [], [21, 22, 23], [])
set_option maxRecDepth 100000 in
set_option maxHeartbeats 4000000 in
theorem t_X11_growth (Γ : hp_G) (l : Launch) (α : hp_T) (g : GC α) (a0 : Nat) (k0 : hp_K α a0 = 12) (a1 : Int32) (a2 : Int32) (a3 : Int32) (a4 : Int32) : Met l yX11_growth (hp_ws yX11_growth cX11_growth 5 (some .int)) (hp_rm 5 0 0) (hp_Pc Γ α [.ref a0, .int a1, .int a2, .int a3, .int a4]) (hp_Qi Γ (fun r β => cw w_X11_growth α β)) 0 0 (hp_A Γ) := by
  refine hp_start (by decide) ?_
  intro p e s m below meth c C hr hlk B0 hnm
  have C : hp_C Γ p m c cX11_growth 5 s ([.ref a0, .int a1, .int a2, .int a3, .int a4] : List Value).toArray RX11 := C
  have hx := C.1.1
  have hb := C.1.2.1
  have hown := C.1.2.2.2.1
  have hts := C.1.2.2.2.2
  have B : hp_B Γ (cw w_X11_growth) s α α s.heap [] := ⟨B0.1, B0.2.1, cw_rf g⟩
  have lit0 : (0 : Int32).toInt = 0 := by decide
  have lit1 : (1 : Int32).toInt = 1 := by decide
  have hl := lv_entry ([.ref a0, .int a1, .int a2, .int a3, .int a4]) (n := 5) (Nat.le_of_ble_eq_true rfl)
  show W p l e (hp_rm 5 0 0) s m ([.ref a0, .int a1, .int a2, .int a3, .int a4] : List Value).toArray below meth c s.heap [] 0 0 (MQ below (hp_Qi Γ (fun r β => cw w_X11_growth α β)) ([.ref a0, .int a1, .int a2, .int a3, .int a4] : List Value).toArray s 0 0 (hp_A Γ)) (entryFrame m ([.ref a0, .int a1, .int a2, .int a3, .int a4] : List Value).toArray 5)
  rw [lg_entry_eq]
  generalize (lg_sl ([.ref a0, .int a1, .int a2, .int a3, .int a4]) ++ List.replicate (5 - (lg_sl ([.ref a0, .int a1, .int a2, .int a3, .int a4])).length) Slot.unset).toArray = ls at hl ⊢
  have hl : lv_has ls 5 [(0, .ref a0), (1, .int a1), (2, .int a2), (3, .int a3), (4, .int a4)] := hl
  refine lv_iload_n hx hb dX11_growth_0 rfl (lv_at hl 1 rfl) (hp_n (n := 1) rfl ?_)
  have J26 : ∀ (Hh_1 : Heap) (Lh_1 : List Loc) (Bh_1 : hp_B Γ (cw w_X11_growth) s α α Hh_1 Lh_1) (ls : Array Slot) (hl : lv_has ls 5 [(0, .ref a0)]), W p l e (hp_rm 5 0 0) s m ([.ref a0, .int a1, .int a2, .int a3, .int a4] : List Value).toArray below meth c Hh_1 Lh_1 0 0 (MQ below (hp_Qi Γ (fun r β => cw w_X11_growth α β)) ([.ref a0, .int a1, .int a2, .int a3, .int a4] : List Value).toArray s 0 0 (hp_A Γ)) (F0 m 26 ls []) := by
    intro Hh_1 Lh_1 Bh_1 ls hl
    refine lv_aload_n hx hb dX11_growth_26 rfl (lv_at hl 0 rfl) (hp_n (n := 27) rfl ?_)
    refine lv_iconst (v := 1) hx hb dX11_growth_27 (by decide) (hp_n (n := 28) rfl ?_)
    refine q_ci (pc' := 31) Bh_1 (hp_runV (As := [.int 1]) (rest := []) C Bh_1 (t_X11_refuse Γ l α Bh_1.2.2.1 a0 (cw_k Bh_1.2.2 k0) 1) lb_X11_refuse lv_X11_refuse lk_X11_98 (cw_k Bh_1.2.2 k0) rfl (by decide) rfl hl.1 rfl (Nat.le_of_ble_eq_true rfl) dX11_growth_28 ⟨Nat.le_refl _, Nat.le_refl _⟩) (fun _ _ h => cw_tr Bh_1.2.2 h (by decide)) rfl (fun rh_2 αh_2 Hh_2 Lh_2 ph_2 Bh_2 => ?_)
    exact q_iret C Bh_2 hr hlk Bh_2.2.2 dX11_growth_31
  refine lv_if_lt (tgt := 26) hx hb dX11_growth_1 (by decide) (fun c_3 => ?_) (fun c_3 => hp_n (n := 4) rfl ?_)
  ·
    have jc_3 := il_lt c_3
    exact J26 s.heap [] B ls (lv_sub hl [0] rfl)
  ·
    have jc_3 := il_nlt c_3
    refine lv_iload_n hx hb dX11_growth_4 rfl (lv_at hl 1 rfl) (hp_n (n := 5) rfl ?_)
    refine lv_iload_n hx hb dX11_growth_5 rfl (lv_at hl 3 rfl) (hp_n (n := 6) rfl ?_)
    refine lv_icmp_gt (tgt := 26) hx hb dX11_growth_6 (by decide) (fun c_4 => ?_) (fun c_4 => hp_n (n := 9) rfl ?_)
    ·
      have jc_4 := il_lt c_4
      exact J26 s.heap [] B ls (lv_sub hl [0] rfl)
    ·
      have jc_4 := il_nlt c_4
      refine lv_aload_n hx hb dX11_growth_9 rfl (lv_at hl 0 rfl) (hp_n (n := 10) rfl ?_)
      refine lv_iload_n hx hb dX11_growth_10 rfl (lv_at hl 2 rfl) (hp_n (n := 11) rfl ?_)
      refine q_ci (pc' := 14) B (hp_runV (As := [.int a2]) (rest := []) C B (t_X11_isMark Γ l α B.2.2.1 a0 (cw_k B.2.2 k0) a2) lb_X11_isMark lv_X11_isMark lk_X11_188 (cw_k B.2.2 k0) rfl (by decide) rfl hl.1 rfl (Nat.le_of_ble_eq_true rfl) dX11_growth_11 ⟨Nat.le_refl _, Nat.le_refl _⟩) (fun _ _ h => by rw [h.1]; exact B.2.2) rfl (fun rh_5 αh_5 Hh_5 Lh_5 ph_5 Bh_5 => ?_)
      rw [ph_5.1] at Bh_5
      have zh_5 := ph_5.2
      refine lv_if_eq (tgt := 26) hx hb dX11_growth_14 (by decide) (fun c_6 => ?_) (fun c_6 => hp_n (n := 17) rfl ?_)
      ·
        have jc_6 := il_eq c_6
        exact J26 Hh_5 Lh_5 Bh_5 ls (lv_sub hl [0] rfl)
      ·
        have jc_6 := il_ne c_6
        refine lv_aload_n hx hb dX11_growth_17 rfl (lv_at hl 0 rfl) (hp_n (n := 18) rfl ?_)
        refine lv_iload hx hb dX11_growth_18 (lv_at hl 4 rfl) (hp_n (n := 20) rfl ?_)
        refine q_ci (pc' := 23) Bh_5 (hp_runV (As := [.int a4]) (rest := []) C Bh_5 (t_X11_isMark Γ l α Bh_5.2.2.1 a0 (cw_k Bh_5.2.2 k0) a4) lb_X11_isMark lv_X11_isMark lk_X11_188 (cw_k Bh_5.2.2 k0) rfl (by decide) rfl hl.1 rfl (Nat.le_of_ble_eq_true rfl) dX11_growth_20 ⟨Nat.le_refl _, Nat.le_refl _⟩) (fun _ _ h => by rw [h.1]; exact Bh_5.2.2) rfl (fun rh_7 αh_7 Hh_7 Lh_7 ph_7 Bh_7 => ?_)
        rw [ph_7.1] at Bh_7
        have zh_7 := ph_7.2
        refine lv_if_ne (tgt := 32) hx hb dX11_growth_23 (by decide) (fun c_8 => ?_) (fun c_8 => hp_n (n := 26) rfl ?_)
        ·
          have jc_8 := il_ne c_8
          refine lv_aload_n hx hb dX11_growth_32 rfl (lv_at hl 0 rfl) (hp_n (n := 33) rfl ?_)
          refine lv_aload_n hx hb dX11_growth_33 rfl (lv_at hl 0 rfl) (hp_n (n := 34) rfl ?_)
          refine q_getr (κ := 12) (k := 12) (φ := 612) (pc' := 37) C Bh_7 (cw_k Bh_7.2.2 k0) fl_X11_62 rfl rfl rfl (cw_r Bh_7.2.2 k0 rfl rfl (by decide) (by decide)) dX11_growth_34 rfl (fun b_9 eb_9 kb_9 => ?_)
          refine lv_aload_n hx hb dX11_growth_37 rfl (lv_at hl 0 rfl) (hp_n (n := 38) rfl ?_)
          refine q_getr (κ := 12) (k := 1) (φ := 601) (pc' := 41) C Bh_7 (cw_k Bh_7.2.2 k0) fl_X11_16 rfl rfl rfl (cw_r Bh_7.2.2 k0 rfl rfl (by decide) (by decide)) dX11_growth_38 rfl (fun b_10 eb_10 kb_10 => ?_)
          refine q_geti (κ := 11) (k := 0) (φ := 550) (pc' := 44) C Bh_7 (cw_k Bh_7.2.2 kb_10) fl_X11_122 rfl rfl rfl dX11_growth_41 rfl (fun x_11 ex_11 => ?_)
          refine lv_aload_n hx hb dX11_growth_44 rfl (lv_at hl 0 rfl) (hp_n (n := 45) rfl ?_)
          refine q_getr (κ := 12) (k := 3) (φ := 603) (pc' := 48) C Bh_7 (cw_k Bh_7.2.2 k0) fl_X11_26 rfl rfl rfl (cw_r Bh_7.2.2 k0 rfl rfl (by decide) (by decide)) dX11_growth_45 rfl (fun b_12 eb_12 kb_12 => ?_)
          refine lv_iload_n hx hb dX11_growth_48 rfl (lv_at hl 1 rfl) (hp_n (n := 49) rfl ?_)
          refine lv_iload_n hx hb dX11_growth_49 rfl (lv_at hl 2 rfl) (hp_n (n := 50) rfl ?_)
          refine lv_iload_n hx hb dX11_growth_50 rfl (lv_at hl 3 rfl) (hp_n (n := 51) rfl ?_)
          refine lv_iload hx hb dX11_growth_51 (lv_at hl 4 rfl) (hp_n (n := 53) rfl ?_)
          refine q_ci (pc' := 56) Bh_7 (hp_runV (As := [.int x_11, .ref b_12, .int a1, .int a2, .int a3, .int a4]) (rest := [.ref a0]) C Bh_7 (t_X8_whyGrowth Γ l α Bh_7.2.2.1 b_9 (cw_k Bh_7.2.2 kb_9) x_11 b_12 (cw_k Bh_7.2.2 kb_12) a1 a2 a3 a4) lb_X8_whyGrowth lv_X8_whyGrowth lk_X11_308 (cw_k Bh_7.2.2 kb_9) rfl (by decide) rfl hl.1 rfl (Nat.le_of_ble_eq_true rfl) dX11_growth_53 ⟨Nat.le_refl _, Nat.le_refl _⟩) (fun _ _ h => cw_tr Bh_7.2.2 h (by decide)) rfl (fun rh_13 αh_13 Hh_13 Lh_13 ph_13 Bh_13 => ?_)
          refine q_ci (pc' := 59) Bh_13 (hp_runV (As := [.int rh_13]) (rest := []) C Bh_13 (t_X11_answer Γ l αh_13 Bh_13.2.2.1 a0 (cw_k Bh_13.2.2 k0) rh_13) lb_X11_answer lv_X11_answer lk_X11_115 (cw_k Bh_13.2.2 k0) rfl (by decide) rfl hl.1 rfl (Nat.le_of_ble_eq_true rfl) dX11_growth_56 ⟨Nat.le_refl _, Nat.le_refl _⟩) (fun _ _ h => cw_tr Bh_13.2.2 h (by decide)) rfl (fun rh_14 αh_14 Hh_14 Lh_14 ph_14 Bh_14 => ?_)
          exact q_iret C Bh_14 hr hlk Bh_14.2.2 dX11_growth_59
        ·
          have jc_8 := il_eq c_8
          exact J26 Hh_7 Lh_7 Bh_7 ls (lv_sub hl [0] rfl)
abbrev w_X11_bundled : cw_W := ([50, 52, 53, 54, 453, 454, 600], [51], [21, 22, 23], [])
set_option maxRecDepth 100000 in
set_option maxHeartbeats 4000000 in
theorem t_X11_bundled (Γ : hp_G) (l : Launch) (α : hp_T) (g : GC α) (a0 : Nat) (k0 : hp_K α a0 = 12) (a1 : Int32) (a2 : Int32) (a3 : Int32) : Met l yX11_bundled (hp_ws yX11_bundled cX11_bundled 4 (some .int)) (hp_rm 46 0 0) (hp_Pc Γ α [.ref a0, .int a1, .int a2, .int a3]) (hp_Qi Γ (fun r β => cw w_X11_bundled α β)) 0 0 (hp_A Γ) := by
  refine hp_start (by decide) ?_
  intro p e s m below meth c C hr hlk B0 hnm
  have C : hp_C Γ p m c cX11_bundled 4 s ([.ref a0, .int a1, .int a2, .int a3] : List Value).toArray RX11 := C
  have hx := C.1.1
  have hb := C.1.2.1
  have hown := C.1.2.2.2.1
  have hts := C.1.2.2.2.2
  have B : hp_B Γ (cw w_X11_bundled) s α α s.heap [] := ⟨B0.1, B0.2.1, cw_rf g⟩
  have lit0 : (0 : Int32).toInt = 0 := by decide
  have lit1 : (1 : Int32).toInt = 1 := by decide
  have hl := lv_entry ([.ref a0, .int a1, .int a2, .int a3]) (n := 4) (Nat.le_of_ble_eq_true rfl)
  show W p l e (hp_rm 46 0 0) s m ([.ref a0, .int a1, .int a2, .int a3] : List Value).toArray below meth c s.heap [] 0 0 (MQ below (hp_Qi Γ (fun r β => cw w_X11_bundled α β)) ([.ref a0, .int a1, .int a2, .int a3] : List Value).toArray s 0 0 (hp_A Γ)) (entryFrame m ([.ref a0, .int a1, .int a2, .int a3] : List Value).toArray 4)
  rw [lg_entry_eq]
  generalize (lg_sl ([.ref a0, .int a1, .int a2, .int a3]) ++ List.replicate (4 - (lg_sl ([.ref a0, .int a1, .int a2, .int a3])).length) Slot.unset).toArray = ls at hl ⊢
  have hl : lv_has ls 4 [(0, .ref a0), (1, .int a1), (2, .int a2), (3, .int a3)] := hl
  refine lv_iload_n hx hb dX11_bundled_0 rfl (lv_at hl 1 rfl) (hp_n (n := 1) rfl ?_)
  refine q_ci (pc' := 4) B (hp_runS (As := [.int a1]) (rest := []) C B (t_X11_isSet Γ l α B.2.2.1 a1) lb_X11_isSet ls_X11_isSet lk_X11_277 rfl (by decide) rfl hl.1 rfl (Nat.le_of_ble_eq_true rfl) dX11_bundled_1 ⟨Nat.le_refl _, Nat.le_refl _⟩) (fun _ _ h => by rw [h.1]; exact B.2.2) rfl (fun rh_1 αh_1 Hh_1 Lh_1 ph_1 Bh_1 => ?_)
  rw [ph_1.1] at Bh_1
  have zh_1 := ph_1.2
  have J23 : ∀ (Hh_2 : Heap) (Lh_2 : List Loc) (Bh_2 : hp_B Γ (cw w_X11_bundled) s α α Hh_2 Lh_2) (ls : Array Slot) (hl : lv_has ls 4 [(0, .ref a0)]), W p l e (hp_rm 46 0 0) s m ([.ref a0, .int a1, .int a2, .int a3] : List Value).toArray below meth c Hh_2 Lh_2 0 0 (MQ below (hp_Qi Γ (fun r β => cw w_X11_bundled α β)) ([.ref a0, .int a1, .int a2, .int a3] : List Value).toArray s 0 0 (hp_A Γ)) (F0 m 23 ls []) := by
    intro Hh_2 Lh_2 Bh_2 ls hl
    refine lv_aload_n hx hb dX11_bundled_23 rfl (lv_at hl 0 rfl) (hp_n (n := 24) rfl ?_)
    refine lv_iconst (v := 1) hx hb dX11_bundled_24 (by decide) (hp_n (n := 25) rfl ?_)
    refine q_ci (pc' := 28) Bh_2 (hp_runV (As := [.int 1]) (rest := []) C Bh_2 (t_X11_refuse Γ l α Bh_2.2.2.1 a0 (cw_k Bh_2.2.2 k0) 1) lb_X11_refuse lv_X11_refuse lk_X11_98 (cw_k Bh_2.2.2 k0) rfl (by decide) rfl hl.1 rfl (Nat.le_of_ble_eq_true rfl) dX11_bundled_25 ⟨Nat.le_refl _, Nat.le_refl _⟩) (fun _ _ h => cw_tr Bh_2.2.2 h (by decide)) rfl (fun rh_3 αh_3 Hh_3 Lh_3 ph_3 Bh_3 => ?_)
    exact q_iret C Bh_3 hr hlk Bh_3.2.2 dX11_bundled_28
  refine lv_if_eq (tgt := 23) hx hb dX11_bundled_4 (by decide) (fun c_4 => ?_) (fun c_4 => hp_n (n := 7) rfl ?_)
  ·
    have jc_4 := il_eq c_4
    exact J23 Hh_1 Lh_1 Bh_1 ls (lv_sub hl [0] rfl)
  ·
    have jc_4 := il_ne c_4
    refine lv_iload_n hx hb dX11_bundled_7 rfl (lv_at hl 1 rfl) (hp_n (n := 8) rfl ?_)
    refine lv_iload_n hx hb dX11_bundled_8 rfl (lv_at hl 2 rfl) (hp_n (n := 9) rfl ?_)
    refine q_ci (pc' := 12) Bh_1 (hp_runS (As := [.int a1, .int a2]) (rest := []) C Bh_1 (t_X11_lieBelow Γ l α Bh_1.2.2.1 a1 a2) lb_X11_lieBelow ls_X11_lieBelow lk_X11_280 rfl (by decide) rfl hl.1 rfl (Nat.le_of_ble_eq_true rfl) dX11_bundled_9 ⟨Nat.le_refl _, Nat.le_refl _⟩) (fun _ _ h => by rw [h.1]; exact Bh_1.2.2) rfl (fun rh_5 αh_5 Hh_5 Lh_5 ph_5 Bh_5 => ?_)
    rw [ph_5.1] at Bh_5
    have zh_5 := ph_5.2
    refine lv_if_eq (tgt := 23) hx hb dX11_bundled_12 (by decide) (fun c_6 => ?_) (fun c_6 => hp_n (n := 15) rfl ?_)
    ·
      have jc_6 := il_eq c_6
      exact J23 Hh_5 Lh_5 Bh_5 ls (lv_sub hl [0] rfl)
    ·
      have jc_6 := il_ne c_6
      refine lv_aload_n hx hb dX11_bundled_15 rfl (lv_at hl 0 rfl) (hp_n (n := 16) rfl ?_)
      refine lv_iload_n hx hb dX11_bundled_16 rfl (lv_at hl 3 rfl) (hp_n (n := 17) rfl ?_)
      refine q_ci (pc' := 20) Bh_5 (hp_runV (As := [.int a3]) (rest := []) C Bh_5 (t_X11_isMark Γ l α Bh_5.2.2.1 a0 (cw_k Bh_5.2.2 k0) a3) lb_X11_isMark lv_X11_isMark lk_X11_188 (cw_k Bh_5.2.2 k0) rfl (by decide) rfl hl.1 rfl (Nat.le_of_ble_eq_true rfl) dX11_bundled_17 ⟨Nat.le_refl _, Nat.le_refl _⟩) (fun _ _ h => by rw [h.1]; exact Bh_5.2.2) rfl (fun rh_7 αh_7 Hh_7 Lh_7 ph_7 Bh_7 => ?_)
      rw [ph_7.1] at Bh_7
      have zh_7 := ph_7.2
      refine lv_if_ne (tgt := 29) hx hb dX11_bundled_20 (by decide) (fun c_8 => ?_) (fun c_8 => hp_n (n := 23) rfl ?_)
      ·
        have jc_8 := il_ne c_8
        refine lv_aload_n hx hb dX11_bundled_29 rfl (lv_at hl 0 rfl) (hp_n (n := 30) rfl ?_)
        refine q_getr (κ := 12) (k := 12) (φ := 612) (pc' := 33) C Bh_7 (cw_k Bh_7.2.2 k0) fl_X11_62 rfl rfl rfl (cw_r Bh_7.2.2 k0 rfl rfl (by decide) (by decide)) dX11_bundled_30 rfl (fun b_9 eb_9 kb_9 => ?_)
        refine lv_iload_n hx hb dX11_bundled_33 rfl (lv_at hl 1 rfl) (hp_n (n := 34) rfl ?_)
        refine lv_iload_n hx hb dX11_bundled_34 rfl (lv_at hl 2 rfl) (hp_n (n := 35) rfl ?_)
        refine q_cv (pc' := 38) Bh_7 (hp_runV (As := [.int a1, .int a2]) (rest := []) C Bh_7 (t_X8_toBundle Γ l α Bh_7.2.2.1 b_9 (cw_k Bh_7.2.2 kb_9) a1 a2) lb_X8_toBundle lv_X8_toBundle lk_X11_284 (cw_k Bh_7.2.2 kb_9) rfl (by decide) rfl hl.1 rfl (Nat.le_of_ble_eq_true rfl) dX11_bundled_35 ⟨Nat.le_refl _, Nat.le_refl _⟩) (fun _ h => cw_tr Bh_7.2.2 h (by decide)) rfl (fun αh_10 Hh_10 Lh_10 ph_10 Bh_10 => ?_)
        refine lv_aload_n hx hb dX11_bundled_38 rfl (lv_at hl 0 rfl) (hp_n (n := 39) rfl ?_)
        refine lv_aload_n hx hb dX11_bundled_39 rfl (lv_at hl 0 rfl) (hp_n (n := 40) rfl ?_)
        refine q_getr (κ := 12) (k := 15) (φ := 615) (pc' := 43) C Bh_10 (cw_k Bh_10.2.2 k0) fl_X11_75 rfl rfl rfl (cw_r Bh_10.2.2 k0 rfl rfl (by decide) (by decide)) dX11_bundled_40 rfl (fun b_11 eb_11 kb_11 => ?_)
        refine lv_aload_n hx hb dX11_bundled_43 rfl (lv_at hl 0 rfl) (hp_n (n := 44) rfl ?_)
        refine q_getr (κ := 12) (k := 1) (φ := 601) (pc' := 47) C Bh_10 (cw_k Bh_10.2.2 k0) fl_X11_16 rfl rfl rfl (cw_r Bh_10.2.2 k0 rfl rfl (by decide) (by decide)) dX11_bundled_44 rfl (fun b_12 eb_12 kb_12 => ?_)
        refine q_geti (κ := 11) (k := 0) (φ := 550) (pc' := 50) C Bh_10 (cw_k Bh_10.2.2 kb_12) fl_X11_122 rfl rfl rfl dX11_bundled_47 rfl (fun x_13 ex_13 => ?_)
        refine lv_aload_n hx hb dX11_bundled_50 rfl (lv_at hl 0 rfl) (hp_n (n := 51) rfl ?_)
        refine q_getr (κ := 12) (k := 3) (φ := 603) (pc' := 54) C Bh_10 (cw_k Bh_10.2.2 k0) fl_X11_26 rfl rfl rfl (cw_r Bh_10.2.2 k0 rfl rfl (by decide) (by decide)) dX11_bundled_51 rfl (fun b_14 eb_14 kb_14 => ?_)
        refine lv_iload_n hx hb dX11_bundled_54 rfl (lv_at hl 1 rfl) (hp_n (n := 55) rfl ?_)
        refine lv_iload_n hx hb dX11_bundled_55 rfl (lv_at hl 2 rfl) (hp_n (n := 56) rfl ?_)
        refine lv_aload_n hx hb dX11_bundled_56 rfl (lv_at hl 0 rfl) (hp_n (n := 57) rfl ?_)
        have t_15 : b_9 = hp_R αh_10 612 a0 := by rw [cw_R ph_10 a0 (by decide)]; exact eb_9
        refine q_gets (κ := 12) (k := 12) (φ := 612) (pc' := 60) C Bh_10 (cw_k Bh_10.2.2 k0) fl_X11_62 rfl rfl rfl t_15 dX11_bundled_57 rfl ?_
        refine q_geti (κ := 9) (k := 3) (φ := 453) (pc' := 63) C Bh_10 (cw_k Bh_10.2.2 kb_9) fl_X11_312 rfl rfl rfl dX11_bundled_60 rfl (fun x_16 ex_16 => ?_)
        obtain ⟨gx_16a, gx_16b⟩ : 0 ≤ x_16.toInt ∧ x_16.toInt ≤ 64 := by rw [ex_16]; exact Bh_10.2.2.1.1 453 b_9 rfl
        refine lv_iload_n hx hb dX11_bundled_63 rfl (lv_at hl 3 rfl) (hp_n (n := 64) rfl ?_)
        refine q_ci (pc' := 67) Bh_10 (hp_runV (As := [.int x_13, .ref b_14, .int a1, .int a2, .int x_16, .int a3]) (rest := [.ref a0]) C Bh_10 (t_X0_why Γ l αh_10 Bh_10.2.2.1 b_11 (cw_k Bh_10.2.2 kb_11) x_13 b_14 (cw_k Bh_10.2.2 kb_14) a1 a2 x_16 a3) lb_X0_why lv_X0_why lk_X11_313 (cw_k Bh_10.2.2 kb_11) rfl (by decide) rfl hl.1 rfl (Nat.le_of_ble_eq_true rfl) dX11_bundled_64 ⟨Nat.le_refl _, Nat.le_refl _⟩) (fun _ _ h => cw_tr Bh_10.2.2 h (by decide)) rfl (fun rh_17 αh_17 Hh_17 Lh_17 ph_17 Bh_17 => ?_)
        refine q_ci (pc' := 70) Bh_17 (hp_runV (As := [.int rh_17]) (rest := []) C Bh_17 (t_X11_answer Γ l αh_17 Bh_17.2.2.1 a0 (cw_k Bh_17.2.2 k0) rh_17) lb_X11_answer lv_X11_answer lk_X11_115 (cw_k Bh_17.2.2 k0) rfl (by decide) rfl hl.1 rfl (Nat.le_of_ble_eq_true rfl) dX11_bundled_67 ⟨Nat.le_refl _, Nat.le_refl _⟩) (fun _ _ h => cw_tr Bh_17.2.2 h (by decide)) rfl (fun rh_18 αh_18 Hh_18 Lh_18 ph_18 Bh_18 => ?_)
        exact q_iret C Bh_18 hr hlk Bh_18.2.2 dX11_bundled_70
      ·
        have jc_8 := il_eq c_8
        exact J23 Hh_7 Lh_7 Bh_7 ls (lv_sub hl [0] rfl)
abbrev w_X11_fold : cw_W := ([600], [], [], [])
set_option maxRecDepth 100000 in
set_option maxHeartbeats 4000000 in
theorem t_X11_fold (Γ : hp_G) (l : Launch) (α : hp_T) (g : GC α) (a0 : Nat) (k0 : hp_K α a0 = 12) : Met l yX11_fold (hp_ws yX11_fold cX11_fold 1 (some .int)) (hp_rm 2 0 0) (hp_Pc Γ α [.ref a0]) (hp_Qi Γ (fun r β => cw w_X11_fold α β)) 0 0 (hp_A Γ) := by
  refine hp_start (by decide) ?_
  intro p e s m below meth c C hr hlk B0 hnm
  have C : hp_C Γ p m c cX11_fold 1 s ([.ref a0] : List Value).toArray RX11 := C
  have hx := C.1.1
  have hb := C.1.2.1
  have hown := C.1.2.2.2.1
  have hts := C.1.2.2.2.2
  have B : hp_B Γ (cw w_X11_fold) s α α s.heap [] := ⟨B0.1, B0.2.1, cw_rf g⟩
  have hl := lv_entry ([.ref a0]) (n := 1) (Nat.le_of_ble_eq_true rfl)
  show W p l e (hp_rm 2 0 0) s m ([.ref a0] : List Value).toArray below meth c s.heap [] 0 0 (MQ below (hp_Qi Γ (fun r β => cw w_X11_fold α β)) ([.ref a0] : List Value).toArray s 0 0 (hp_A Γ)) (entryFrame m ([.ref a0] : List Value).toArray 1)
  rw [lg_entry_eq]
  generalize (lg_sl ([.ref a0]) ++ List.replicate (1 - (lg_sl ([.ref a0])).length) Slot.unset).toArray = ls at hl ⊢
  have hl : lv_has ls 1 [(0, .ref a0)] := hl
  refine lv_aload_n hx hb dX11_fold_0 rfl (lv_at hl 0 rfl) (hp_n (n := 1) rfl ?_)
  refine lv_aload_n hx hb dX11_fold_1 rfl (lv_at hl 0 rfl) (hp_n (n := 2) rfl ?_)
  refine q_getr (κ := 12) (k := 3) (φ := 603) (pc' := 5) C B (cw_k B.2.2 k0) fl_X11_26 rfl rfl rfl (cw_r B.2.2 k0 rfl rfl (by decide) (by decide)) dX11_fold_2 rfl (fun b_1 eb_1 kb_1 => ?_)
  refine lv_aload_n hx hb dX11_fold_5 rfl (lv_at hl 0 rfl) (hp_n (n := 6) rfl ?_)
  refine q_getr (κ := 12) (k := 1) (φ := 601) (pc' := 9) C B (cw_k B.2.2 k0) fl_X11_16 rfl rfl rfl (cw_r B.2.2 k0 rfl rfl (by decide) (by decide)) dX11_fold_6 rfl (fun b_2 eb_2 kb_2 => ?_)
  refine q_geti (κ := 11) (k := 0) (φ := 550) (pc' := 12) C B (cw_k B.2.2 kb_2) fl_X11_122 rfl rfl rfl dX11_fold_9 rfl (fun x_3 ex_3 => ?_)
  refine q_ci (pc' := 15) B (hp_runV (As := [.int x_3]) (rest := [.ref a0]) C B (t_X5_foldedPeaks Γ l α B.2.2.1 b_1 (cw_k B.2.2 kb_1) x_3) lb_X5_foldedPeaks lv_X5_foldedPeaks lk_X11_316 (cw_k B.2.2 kb_1) rfl (by decide) rfl hl.1 rfl (Nat.le_of_ble_eq_true rfl) dX11_fold_12 ⟨Nat.le_refl _, Nat.le_refl _⟩) (fun _ _ h => by rw [h]; exact B.2.2) rfl (fun rh_4 αh_4 Hh_4 Lh_4 ph_4 Bh_4 => ?_)
  rw [ph_4] at Bh_4
  refine q_ci (pc' := 18) Bh_4 (hp_runV (As := [.int rh_4]) (rest := []) C Bh_4 (t_X11_answer Γ l α Bh_4.2.2.1 a0 (cw_k Bh_4.2.2 k0) rh_4) lb_X11_answer lv_X11_answer lk_X11_115 (cw_k Bh_4.2.2 k0) rfl (by decide) rfl hl.1 rfl (Nat.le_of_ble_eq_true rfl) dX11_fold_15 ⟨Nat.le_refl _, Nat.le_refl _⟩) (fun _ _ h => cw_tr Bh_4.2.2 h (by decide)) rfl (fun rh_5 αh_5 Hh_5 Lh_5 ph_5 Bh_5 => ?_)
  exact q_iret C Bh_5 hr hlk Bh_5.2.2 dX11_fold_18
abbrev w_X11_steps : cw_W := ([453, 454, 600], [], [21, 22, 23], [])
set_option maxRecDepth 100000 in
set_option maxHeartbeats 4000000 in
theorem t_X11_steps (Γ : hp_G) (l : Launch) (α : hp_T) (g : GC α) (a0 : Nat) (k0 : hp_K α a0 = 12) (a1 : Int32) (a2 : Int32) : Met l yX11_steps (hp_ws yX11_steps cX11_steps 3 (some .int)) (hp_rm 4 0 0) (hp_Pc Γ α [.ref a0, .int a1, .int a2]) (hp_Qi Γ (fun r β => cw w_X11_steps α β)) 0 0 (hp_A Γ) := by
  refine hp_start (by decide) ?_
  intro p e s m below meth c C hr hlk B0 hnm
  have C : hp_C Γ p m c cX11_steps 3 s ([.ref a0, .int a1, .int a2] : List Value).toArray RX11 := C
  have hx := C.1.1
  have hb := C.1.2.1
  have hown := C.1.2.2.2.1
  have hts := C.1.2.2.2.2
  have B : hp_B Γ (cw w_X11_steps) s α α s.heap [] := ⟨B0.1, B0.2.1, cw_rf g⟩
  have lit0 : (0 : Int32).toInt = 0 := by decide
  have lit1 : (1 : Int32).toInt = 1 := by decide
  have hl := lv_entry ([.ref a0, .int a1, .int a2]) (n := 3) (Nat.le_of_ble_eq_true rfl)
  show W p l e (hp_rm 4 0 0) s m ([.ref a0, .int a1, .int a2] : List Value).toArray below meth c s.heap [] 0 0 (MQ below (hp_Qi Γ (fun r β => cw w_X11_steps α β)) ([.ref a0, .int a1, .int a2] : List Value).toArray s 0 0 (hp_A Γ)) (entryFrame m ([.ref a0, .int a1, .int a2] : List Value).toArray 3)
  rw [lg_entry_eq]
  generalize (lg_sl ([.ref a0, .int a1, .int a2]) ++ List.replicate (3 - (lg_sl ([.ref a0, .int a1, .int a2])).length) Slot.unset).toArray = ls at hl ⊢
  have hl : lv_has ls 3 [(0, .ref a0), (1, .int a1), (2, .int a2)] := hl
  refine lv_iload_n hx hb dX11_steps_0 rfl (lv_at hl 1 rfl) (hp_n (n := 1) rfl ?_)
  refine lv_iload_n hx hb dX11_steps_1 rfl (lv_at hl 2 rfl) (hp_n (n := 2) rfl ?_)
  refine q_ci (pc' := 5) B (hp_runS (As := [.int a1, .int a2]) (rest := []) C B (t_X11_isThing Γ l α B.2.2.1 a1 a2) lb_X11_isThing ls_X11_isThing lk_X11_301 rfl (by decide) rfl hl.1 rfl (Nat.le_of_ble_eq_true rfl) dX11_steps_2 ⟨Nat.le_refl _, Nat.le_refl _⟩) (fun _ _ h => by rw [h.1]; exact B.2.2) rfl (fun rh_1 αh_1 Hh_1 Lh_1 ph_1 Bh_1 => ?_)
  rw [ph_1.1] at Bh_1
  have zh_1 := ph_1.2
  refine lv_if_ne (tgt := 14) hx hb dX11_steps_5 (by decide) (fun c_2 => ?_) (fun c_2 => hp_n (n := 8) rfl ?_)
  ·
    have jc_2 := il_ne c_2
    refine lv_aload_n hx hb dX11_steps_14 rfl (lv_at hl 0 rfl) (hp_n (n := 15) rfl ?_)
    refine q_getr (κ := 12) (k := 12) (φ := 612) (pc' := 18) C Bh_1 (cw_k Bh_1.2.2 k0) fl_X11_62 rfl rfl rfl (cw_r Bh_1.2.2 k0 rfl rfl (by decide) (by decide)) dX11_steps_15 rfl (fun b_3 eb_3 kb_3 => ?_)
    refine lv_iload_n hx hb dX11_steps_18 rfl (lv_at hl 1 rfl) (hp_n (n := 19) rfl ?_)
    refine lv_iload_n hx hb dX11_steps_19 rfl (lv_at hl 2 rfl) (hp_n (n := 20) rfl ?_)
    refine q_cv (pc' := 23) Bh_1 (hp_runV (As := [.int a1, .int a2]) (rest := []) C Bh_1 (t_X8_toThing Γ l α Bh_1.2.2.1 b_3 (cw_k Bh_1.2.2 kb_3) a1 a2) lb_X8_toThing lv_X8_toThing lk_X11_267 (cw_k Bh_1.2.2 kb_3) rfl (by decide) rfl hl.1 rfl (Nat.le_of_ble_eq_true rfl) dX11_steps_20 ⟨Nat.le_refl _, Nat.le_refl _⟩) (fun _ h => cw_tr Bh_1.2.2 h (by decide)) rfl (fun αh_4 Hh_4 Lh_4 ph_4 Bh_4 => ?_)
    refine lv_aload_n hx hb dX11_steps_23 rfl (lv_at hl 0 rfl) (hp_n (n := 24) rfl ?_)
    refine lv_aload_n hx hb dX11_steps_24 rfl (lv_at hl 0 rfl) (hp_n (n := 25) rfl ?_)
    have t_5 : b_3 = hp_R αh_4 612 a0 := by rw [cw_R ph_4 a0 (by decide)]; exact eb_3
    refine q_gets (κ := 12) (k := 12) (φ := 612) (pc' := 28) C Bh_4 (cw_k Bh_4.2.2 k0) fl_X11_62 rfl rfl rfl t_5 dX11_steps_25 rfl ?_
    refine q_geti (κ := 9) (k := 3) (φ := 453) (pc' := 31) C Bh_4 (cw_k Bh_4.2.2 kb_3) fl_X11_312 rfl rfl rfl dX11_steps_28 rfl (fun x_6 ex_6 => ?_)
    obtain ⟨gx_6a, gx_6b⟩ : 0 ≤ x_6.toInt ∧ x_6.toInt ≤ 64 := by rw [ex_6]; exact Bh_4.2.2.1.1 453 b_3 rfl
    refine q_ci (pc' := 34) Bh_4 (hp_runV (As := [.int x_6]) (rest := []) C Bh_4 (t_X11_answer Γ l αh_4 Bh_4.2.2.1 a0 (cw_k Bh_4.2.2 k0) x_6) lb_X11_answer lv_X11_answer lk_X11_115 (cw_k Bh_4.2.2 k0) rfl (by decide) rfl hl.1 rfl (Nat.le_of_ble_eq_true rfl) dX11_steps_31 ⟨Nat.le_refl _, Nat.le_refl _⟩) (fun _ _ h => cw_tr Bh_4.2.2 h (by decide)) rfl (fun rh_7 αh_7 Hh_7 Lh_7 ph_7 Bh_7 => ?_)
    exact q_iret C Bh_7 hr hlk Bh_7.2.2 dX11_steps_34
  ·
    have jc_2 := il_eq c_2
    refine lv_aload_n hx hb dX11_steps_8 rfl (lv_at hl 0 rfl) (hp_n (n := 9) rfl ?_)
    refine lv_iconst (v := 1) hx hb dX11_steps_9 (by decide) (hp_n (n := 10) rfl ?_)
    refine q_ci (pc' := 13) Bh_1 (hp_runV (As := [.int 1]) (rest := []) C Bh_1 (t_X11_refuse Γ l α Bh_1.2.2.1 a0 (cw_k Bh_1.2.2 k0) 1) lb_X11_refuse lv_X11_refuse lk_X11_98 (cw_k Bh_1.2.2 k0) rfl (by decide) rfl hl.1 rfl (Nat.le_of_ble_eq_true rfl) dX11_steps_10 ⟨Nat.le_refl _, Nat.le_refl _⟩) (fun _ _ h => cw_tr Bh_1.2.2 h (by decide)) rfl (fun rh_8 αh_8 Hh_8 Lh_8 ph_8 Bh_8 => ?_)
    exact q_iret C Bh_8 hr hlk Bh_8.2.2 dX11_steps_13
abbrev w_X11_climbs : cw_W := ([453, 454, 600], [], [21, 22, 23], [])
set_option maxRecDepth 100000 in
set_option maxHeartbeats 4000000 in
theorem t_X11_climbs (Γ : hp_G) (l : Launch) (α : hp_T) (g : GC α) (a0 : Nat) (k0 : hp_K α a0 = 12) (a1 : Int32) (a2 : Int32) : Met l yX11_climbs (hp_ws yX11_climbs cX11_climbs 3 (some .int)) (hp_rm 4 0 0) (hp_Pc Γ α [.ref a0, .int a1, .int a2]) (hp_Qi Γ (fun r β => cw w_X11_climbs α β)) 0 0 (hp_A Γ) := by
  refine hp_start (by decide) ?_
  intro p e s m below meth c C hr hlk B0 hnm
  have C : hp_C Γ p m c cX11_climbs 3 s ([.ref a0, .int a1, .int a2] : List Value).toArray RX11 := C
  have hx := C.1.1
  have hb := C.1.2.1
  have hown := C.1.2.2.2.1
  have hts := C.1.2.2.2.2
  have B : hp_B Γ (cw w_X11_climbs) s α α s.heap [] := ⟨B0.1, B0.2.1, cw_rf g⟩
  have lit0 : (0 : Int32).toInt = 0 := by decide
  have lit1 : (1 : Int32).toInt = 1 := by decide
  have hl := lv_entry ([.ref a0, .int a1, .int a2]) (n := 3) (Nat.le_of_ble_eq_true rfl)
  show W p l e (hp_rm 4 0 0) s m ([.ref a0, .int a1, .int a2] : List Value).toArray below meth c s.heap [] 0 0 (MQ below (hp_Qi Γ (fun r β => cw w_X11_climbs α β)) ([.ref a0, .int a1, .int a2] : List Value).toArray s 0 0 (hp_A Γ)) (entryFrame m ([.ref a0, .int a1, .int a2] : List Value).toArray 3)
  rw [lg_entry_eq]
  generalize (lg_sl ([.ref a0, .int a1, .int a2]) ++ List.replicate (3 - (lg_sl ([.ref a0, .int a1, .int a2])).length) Slot.unset).toArray = ls at hl ⊢
  have hl : lv_has ls 3 [(0, .ref a0), (1, .int a1), (2, .int a2)] := hl
  refine lv_iload_n hx hb dX11_climbs_0 rfl (lv_at hl 1 rfl) (hp_n (n := 1) rfl ?_)
  have J9 : ∀ (Hh_1 : Heap) (Lh_1 : List Loc) (Bh_1 : hp_B Γ (cw w_X11_climbs) s α α Hh_1 Lh_1) (ls : Array Slot) (hl : lv_has ls 3 [(0, .ref a0)]), W p l e (hp_rm 4 0 0) s m ([.ref a0, .int a1, .int a2] : List Value).toArray below meth c Hh_1 Lh_1 0 0 (MQ below (hp_Qi Γ (fun r β => cw w_X11_climbs α β)) ([.ref a0, .int a1, .int a2] : List Value).toArray s 0 0 (hp_A Γ)) (F0 m 9 ls []) := by
    intro Hh_1 Lh_1 Bh_1 ls hl
    refine lv_aload_n hx hb dX11_climbs_9 rfl (lv_at hl 0 rfl) (hp_n (n := 10) rfl ?_)
    refine lv_iconst (v := 1) hx hb dX11_climbs_10 (by decide) (hp_n (n := 11) rfl ?_)
    refine q_ci (pc' := 14) Bh_1 (hp_runV (As := [.int 1]) (rest := []) C Bh_1 (t_X11_refuse Γ l α Bh_1.2.2.1 a0 (cw_k Bh_1.2.2 k0) 1) lb_X11_refuse lv_X11_refuse lk_X11_98 (cw_k Bh_1.2.2 k0) rfl (by decide) rfl hl.1 rfl (Nat.le_of_ble_eq_true rfl) dX11_climbs_11 ⟨Nat.le_refl _, Nat.le_refl _⟩) (fun _ _ h => cw_tr Bh_1.2.2 h (by decide)) rfl (fun rh_2 αh_2 Hh_2 Lh_2 ph_2 Bh_2 => ?_)
    exact q_iret C Bh_2 hr hlk Bh_2.2.2 dX11_climbs_14
  refine lv_if_lt (tgt := 9) hx hb dX11_climbs_1 (by decide) (fun c_3 => ?_) (fun c_3 => hp_n (n := 4) rfl ?_)
  ·
    have jc_3 := il_lt c_3
    exact J9 s.heap [] B ls (lv_sub hl [0] rfl)
  ·
    have jc_3 := il_nlt c_3
    refine lv_iload_n hx hb dX11_climbs_4 rfl (lv_at hl 1 rfl) (hp_n (n := 5) rfl ?_)
    refine lv_iload_n hx hb dX11_climbs_5 rfl (lv_at hl 2 rfl) (hp_n (n := 6) rfl ?_)
    refine lv_icmp_le (tgt := 15) hx hb dX11_climbs_6 (by decide) (fun c_4 => ?_) (fun c_4 => hp_n (n := 9) rfl ?_)
    ·
      have jc_4 := il_le c_4
      refine lv_aload_n hx hb dX11_climbs_15 rfl (lv_at hl 0 rfl) (hp_n (n := 16) rfl ?_)
      refine q_getr (κ := 12) (k := 12) (φ := 612) (pc' := 19) C B (cw_k B.2.2 k0) fl_X11_62 rfl rfl rfl (cw_r B.2.2 k0 rfl rfl (by decide) (by decide)) dX11_climbs_16 rfl (fun b_5 eb_5 kb_5 => ?_)
      refine lv_iload_n hx hb dX11_climbs_19 rfl (lv_at hl 1 rfl) (hp_n (n := 20) rfl ?_)
      refine lv_iload_n hx hb dX11_climbs_20 rfl (lv_at hl 2 rfl) (hp_n (n := 21) rfl ?_)
      refine q_cv (pc' := 24) B (hp_runV (As := [.int a1, .int a2]) (rest := []) C B (t_X8_toGrowth Γ l α B.2.2.1 b_5 (cw_k B.2.2 kb_5) a1 a2) lb_X8_toGrowth lv_X8_toGrowth lk_X11_274 (cw_k B.2.2 kb_5) rfl (by decide) rfl hl.1 rfl (Nat.le_of_ble_eq_true rfl) dX11_climbs_21 ⟨Nat.le_refl _, Nat.le_refl _⟩) (fun _ h => cw_tr B.2.2 h (by decide)) rfl (fun αh_6 Hh_6 Lh_6 ph_6 Bh_6 => ?_)
      refine lv_aload_n hx hb dX11_climbs_24 rfl (lv_at hl 0 rfl) (hp_n (n := 25) rfl ?_)
      refine lv_aload_n hx hb dX11_climbs_25 rfl (lv_at hl 0 rfl) (hp_n (n := 26) rfl ?_)
      have t_7 : b_5 = hp_R αh_6 612 a0 := by rw [cw_R ph_6 a0 (by decide)]; exact eb_5
      refine q_gets (κ := 12) (k := 12) (φ := 612) (pc' := 29) C Bh_6 (cw_k Bh_6.2.2 k0) fl_X11_62 rfl rfl rfl t_7 dX11_climbs_26 rfl ?_
      refine q_geti (κ := 9) (k := 3) (φ := 453) (pc' := 32) C Bh_6 (cw_k Bh_6.2.2 kb_5) fl_X11_312 rfl rfl rfl dX11_climbs_29 rfl (fun x_8 ex_8 => ?_)
      obtain ⟨gx_8a, gx_8b⟩ : 0 ≤ x_8.toInt ∧ x_8.toInt ≤ 64 := by rw [ex_8]; exact Bh_6.2.2.1.1 453 b_5 rfl
      refine q_ci (pc' := 35) Bh_6 (hp_runV (As := [.int x_8]) (rest := []) C Bh_6 (t_X11_answer Γ l αh_6 Bh_6.2.2.1 a0 (cw_k Bh_6.2.2 k0) x_8) lb_X11_answer lv_X11_answer lk_X11_115 (cw_k Bh_6.2.2 k0) rfl (by decide) rfl hl.1 rfl (Nat.le_of_ble_eq_true rfl) dX11_climbs_32 ⟨Nat.le_refl _, Nat.le_refl _⟩) (fun _ _ h => cw_tr Bh_6.2.2 h (by decide)) rfl (fun rh_9 αh_9 Hh_9 Lh_9 ph_9 Bh_9 => ?_)
      exact q_iret C Bh_9 hr hlk Bh_9.2.2 dX11_climbs_35
    ·
      have jc_4 := il_nle c_4
      exact J9 s.heap [] B ls (lv_sub hl [0] rfl)
abbrev w_X11_agree : cw_W := ([600], [], [33], [])
set_option maxRecDepth 100000 in
set_option maxHeartbeats 4000000 in
theorem t_X11_agree (Γ : hp_G) (l : Launch) (α : hp_T) (g : GC α) (a0 : Nat) (k0 : hp_K α a0 = 12) (a1 : Int32) (a2 : Int32) : Met l yX11_agree (hp_ws yX11_agree cX11_agree 5 (some .int)) (hp_rm 5 0 0) (hp_Pc Γ α [.ref a0, .int a1, .int a2]) (hp_Qi Γ (fun r β => cw w_X11_agree α β)) 0 0 (hp_A Γ) := by
  refine hp_start (by decide) ?_
  intro p e s m below meth c C hr hlk B0 hnm
  have C : hp_C Γ p m c cX11_agree 5 s ([.ref a0, .int a1, .int a2] : List Value).toArray RX11 := C
  have hx := C.1.1
  have hb := C.1.2.1
  have hown := C.1.2.2.2.1
  have hts := C.1.2.2.2.2
  have B : hp_B Γ (cw w_X11_agree) s α α s.heap [] := ⟨B0.1, B0.2.1, cw_rf g⟩
  have lit0 : (0 : Int32).toInt = 0 := by decide
  have lit1 : (1 : Int32).toInt = 1 := by decide
  have lit2 : (2 : Int32).toInt = 2 := by decide
  have hl := lv_entry ([.ref a0, .int a1, .int a2]) (n := 5) (Nat.le_of_ble_eq_true rfl)
  show W p l e (hp_rm 5 0 0) s m ([.ref a0, .int a1, .int a2] : List Value).toArray below meth c s.heap [] 0 0 (MQ below (hp_Qi Γ (fun r β => cw w_X11_agree α β)) ([.ref a0, .int a1, .int a2] : List Value).toArray s 0 0 (hp_A Γ)) (entryFrame m ([.ref a0, .int a1, .int a2] : List Value).toArray 5)
  rw [lg_entry_eq]
  generalize (lg_sl ([.ref a0, .int a1, .int a2]) ++ List.replicate (5 - (lg_sl ([.ref a0, .int a1, .int a2])).length) Slot.unset).toArray = ls at hl ⊢
  have hl : lv_has ls 5 [(0, .ref a0), (1, .int a1), (2, .int a2)] := hl
  refine lv_aload_n hx hb dX11_agree_0 rfl (lv_at hl 0 rfl) (hp_n (n := 1) rfl ?_)
  refine q_getr (κ := 12) (k := 1) (φ := 601) (pc' := 4) C B (cw_k B.2.2 k0) fl_X11_16 rfl rfl rfl (cw_r B.2.2 k0 rfl rfl (by decide) (by decide)) dX11_agree_1 rfl (fun b_1 eb_1 kb_1 => ?_)
  refine lv_iload_n hx hb dX11_agree_4 rfl (lv_at hl 1 rfl) (hp_n (n := 5) rfl ?_)
  refine q_cq (pc' := 8) B (hp_runV (As := [.int a1]) (rest := []) C B (t_X10_watcherAt Γ l α B.2.2.1 b_1 (cw_k B.2.2 kb_1) a1) lb_X10_watcherAt lv_X10_watcherAt lk_X11_220 (cw_k B.2.2 kb_1) rfl (by decide) rfl hl.1 rfl (Nat.le_of_ble_eq_true rfl) dX11_agree_5 ⟨Nat.le_refl _, Nat.le_refl _⟩) (fun _ _ h => by rw [h.1]; exact B.2.2) rfl (fun rh_2 αh_2 Hh_2 Lh_2 ph_2 Bh_2 => ?_)
  rw [ph_2.1] at Bh_2
  rcases rh_2 with _ | bh_2
  ·
    refine lv_astore_nN (lv' := [(3, .null), (0, .ref a0), (1, .int a1), (2, .int a2)]) hx hb dX11_agree_8 rfl hl (by decide) rfl (fun ls hl => hp_n (n := 9) rfl ?_)
    refine lv_aload_n hx hb dX11_agree_9 rfl (lv_at hl 1 rfl) (hp_n (n := 10) rfl ?_)
    refine q_gets (κ := 12) (k := 1) (φ := 601) (pc' := 13) C Bh_2 (cw_k Bh_2.2.2 k0) fl_X11_16 rfl rfl rfl eb_1 dX11_agree_10 rfl ?_
    refine lv_iload_n hx hb dX11_agree_13 rfl (lv_at hl 3 rfl) (hp_n (n := 14) rfl ?_)
    refine q_cq (pc' := 17) Bh_2 (hp_runV (As := [.int a2]) (rest := []) C Bh_2 (t_X10_watcherAt Γ l α Bh_2.2.2.1 b_1 (cw_k Bh_2.2.2 kb_1) a2) lb_X10_watcherAt lv_X10_watcherAt lk_X11_220 (cw_k Bh_2.2.2 kb_1) rfl (by decide) rfl hl.1 rfl (Nat.le_of_ble_eq_true rfl) dX11_agree_14 ⟨Nat.le_refl _, Nat.le_refl _⟩) (fun _ _ h => by rw [h.1]; exact Bh_2.2.2) rfl (fun rh_3 αh_3 Hh_3 Lh_3 ph_3 Bh_3 => ?_)
    rw [ph_3.1] at Bh_3
    rcases rh_3 with _ | bh_3
    ·
      refine lv_astoreN (lv' := [(4, .null), (3, .null), (0, .ref a0), (1, .int a1), (2, .int a2)]) hx hb dX11_agree_17 hl (by decide) rfl (fun ls hl => hp_n (n := 19) rfl ?_)
      refine lv_aload_nN hx hb dX11_agree_19 rfl (lv_at hl 1 rfl) (hp_n (n := 20) rfl ?_)
      have J28 : ∀ (Hh_4 : Heap) (Lh_4 : List Loc) (Bh_4 : hp_B Γ (cw w_X11_agree) s α α Hh_4 Lh_4) (ls : Array Slot) (hl : lv_has ls 5 [(0, .ref a0)]), W p l e (hp_rm 5 0 0) s m ([.ref a0, .int a1, .int a2] : List Value).toArray below meth c Hh_4 Lh_4 0 0 (MQ below (hp_Qi Γ (fun r β => cw w_X11_agree α β)) ([.ref a0, .int a1, .int a2] : List Value).toArray s 0 0 (hp_A Γ)) (F0 m 28 ls []) := by
        intro Hh_4 Lh_4 Bh_4 ls hl
        refine lv_aload_n hx hb dX11_agree_28 rfl (lv_at hl 0 rfl) (hp_n (n := 29) rfl ?_)
        refine lv_iconst (v := 2) hx hb dX11_agree_29 (by decide) (hp_n (n := 30) rfl ?_)
        refine q_ci (pc' := 33) Bh_4 (hp_runV (As := [.int 2]) (rest := []) C Bh_4 (t_X11_refuse Γ l α Bh_4.2.2.1 a0 (cw_k Bh_4.2.2 k0) 2) lb_X11_refuse lv_X11_refuse lk_X11_98 (cw_k Bh_4.2.2 k0) rfl (by decide) rfl hl.1 rfl (Nat.le_of_ble_eq_true rfl) dX11_agree_30 ⟨Nat.le_refl _, Nat.le_refl _⟩) (fun _ _ h => cw_tr Bh_4.2.2 h (by decide)) rfl (fun rh_5 αh_5 Hh_5 Lh_5 ph_5 Bh_5 => ?_)
        exact q_iret C Bh_5 hr hlk Bh_5.2.2 dX11_agree_33
      refine lv_ifnullN (tgt := 28) hx hb dX11_agree_20 (by decide) ?_
      exact J28 Hh_3 Lh_3 Bh_3 ls (lv_sub hl [2] rfl)
    ·
      have kbh_3 : hp_K α bh_3 = 8 := cw_k' Bh_3.2.2 (ph_3.2 bh_3 rfl)
      refine lv_astore (lv' := [(4, .ref bh_3), (3, .null), (0, .ref a0), (1, .int a1), (2, .int a2)]) hx hb dX11_agree_17 hl (by decide) rfl (fun ls hl => hp_n (n := 19) rfl ?_)
      refine lv_aload_nN hx hb dX11_agree_19 rfl (lv_at hl 1 rfl) (hp_n (n := 20) rfl ?_)
      have J28 : ∀ (Hh_6 : Heap) (Lh_6 : List Loc) (Bh_6 : hp_B Γ (cw w_X11_agree) s α α Hh_6 Lh_6) (ls : Array Slot) (hl : lv_has ls 5 [(0, .ref a0)]), W p l e (hp_rm 5 0 0) s m ([.ref a0, .int a1, .int a2] : List Value).toArray below meth c Hh_6 Lh_6 0 0 (MQ below (hp_Qi Γ (fun r β => cw w_X11_agree α β)) ([.ref a0, .int a1, .int a2] : List Value).toArray s 0 0 (hp_A Γ)) (F0 m 28 ls []) := by
        intro Hh_6 Lh_6 Bh_6 ls hl
        refine lv_aload_n hx hb dX11_agree_28 rfl (lv_at hl 0 rfl) (hp_n (n := 29) rfl ?_)
        refine lv_iconst (v := 2) hx hb dX11_agree_29 (by decide) (hp_n (n := 30) rfl ?_)
        refine q_ci (pc' := 33) Bh_6 (hp_runV (As := [.int 2]) (rest := []) C Bh_6 (t_X11_refuse Γ l α Bh_6.2.2.1 a0 (cw_k Bh_6.2.2 k0) 2) lb_X11_refuse lv_X11_refuse lk_X11_98 (cw_k Bh_6.2.2 k0) rfl (by decide) rfl hl.1 rfl (Nat.le_of_ble_eq_true rfl) dX11_agree_30 ⟨Nat.le_refl _, Nat.le_refl _⟩) (fun _ _ h => cw_tr Bh_6.2.2 h (by decide)) rfl (fun rh_7 αh_7 Hh_7 Lh_7 ph_7 Bh_7 => ?_)
        exact q_iret C Bh_7 hr hlk Bh_7.2.2 dX11_agree_33
      refine lv_ifnullN (tgt := 28) hx hb dX11_agree_20 (by decide) ?_
      exact J28 Hh_3 Lh_3 Bh_3 ls (lv_sub hl [2] rfl)
  ·
    have kbh_2 : hp_K α bh_2 = 8 := cw_k' Bh_2.2.2 (ph_2.2 bh_2 rfl)
    refine lv_astore_n (lv' := [(3, .ref bh_2), (0, .ref a0), (1, .int a1), (2, .int a2)]) hx hb dX11_agree_8 rfl hl (by decide) rfl (fun ls hl => hp_n (n := 9) rfl ?_)
    refine lv_aload_n hx hb dX11_agree_9 rfl (lv_at hl 1 rfl) (hp_n (n := 10) rfl ?_)
    refine q_gets (κ := 12) (k := 1) (φ := 601) (pc' := 13) C Bh_2 (cw_k Bh_2.2.2 k0) fl_X11_16 rfl rfl rfl eb_1 dX11_agree_10 rfl ?_
    refine lv_iload_n hx hb dX11_agree_13 rfl (lv_at hl 3 rfl) (hp_n (n := 14) rfl ?_)
    refine q_cq (pc' := 17) Bh_2 (hp_runV (As := [.int a2]) (rest := []) C Bh_2 (t_X10_watcherAt Γ l α Bh_2.2.2.1 b_1 (cw_k Bh_2.2.2 kb_1) a2) lb_X10_watcherAt lv_X10_watcherAt lk_X11_220 (cw_k Bh_2.2.2 kb_1) rfl (by decide) rfl hl.1 rfl (Nat.le_of_ble_eq_true rfl) dX11_agree_14 ⟨Nat.le_refl _, Nat.le_refl _⟩) (fun _ _ h => by rw [h.1]; exact Bh_2.2.2) rfl (fun rh_8 αh_8 Hh_8 Lh_8 ph_8 Bh_8 => ?_)
    rw [ph_8.1] at Bh_8
    rcases rh_8 with _ | bh_8
    ·
      refine lv_astoreN (lv' := [(4, .null), (3, .ref bh_2), (0, .ref a0), (1, .int a1), (2, .int a2)]) hx hb dX11_agree_17 hl (by decide) rfl (fun ls hl => hp_n (n := 19) rfl ?_)
      refine lv_aload_n hx hb dX11_agree_19 rfl (lv_at hl 1 rfl) (hp_n (n := 20) rfl ?_)
      have J28 : ∀ (Hh_9 : Heap) (Lh_9 : List Loc) (Bh_9 : hp_B Γ (cw w_X11_agree) s α α Hh_9 Lh_9) (ls : Array Slot) (hl : lv_has ls 5 [(0, .ref a0)]), W p l e (hp_rm 5 0 0) s m ([.ref a0, .int a1, .int a2] : List Value).toArray below meth c Hh_9 Lh_9 0 0 (MQ below (hp_Qi Γ (fun r β => cw w_X11_agree α β)) ([.ref a0, .int a1, .int a2] : List Value).toArray s 0 0 (hp_A Γ)) (F0 m 28 ls []) := by
        intro Hh_9 Lh_9 Bh_9 ls hl
        refine lv_aload_n hx hb dX11_agree_28 rfl (lv_at hl 0 rfl) (hp_n (n := 29) rfl ?_)
        refine lv_iconst (v := 2) hx hb dX11_agree_29 (by decide) (hp_n (n := 30) rfl ?_)
        refine q_ci (pc' := 33) Bh_9 (hp_runV (As := [.int 2]) (rest := []) C Bh_9 (t_X11_refuse Γ l α Bh_9.2.2.1 a0 (cw_k Bh_9.2.2 k0) 2) lb_X11_refuse lv_X11_refuse lk_X11_98 (cw_k Bh_9.2.2 k0) rfl (by decide) rfl hl.1 rfl (Nat.le_of_ble_eq_true rfl) dX11_agree_30 ⟨Nat.le_refl _, Nat.le_refl _⟩) (fun _ _ h => cw_tr Bh_9.2.2 h (by decide)) rfl (fun rh_10 αh_10 Hh_10 Lh_10 ph_10 Bh_10 => ?_)
        exact q_iret C Bh_10 hr hlk Bh_10.2.2 dX11_agree_33
      refine lv_ifnull hx hb dX11_agree_20 (hp_n (n := 23) rfl ?_)
      refine lv_aloadN hx hb dX11_agree_23 (lv_at hl 0 rfl) (hp_n (n := 25) rfl ?_)
      refine lv_ifnonnullN hx hb dX11_agree_25 (hp_n (n := 28) rfl ?_)
      exact J28 Hh_8 Lh_8 Bh_8 ls (lv_sub hl [2] rfl)
    ·
      have kbh_8 : hp_K α bh_8 = 8 := cw_k' Bh_8.2.2 (ph_8.2 bh_8 rfl)
      refine lv_astore (lv' := [(4, .ref bh_8), (3, .ref bh_2), (0, .ref a0), (1, .int a1), (2, .int a2)]) hx hb dX11_agree_17 hl (by decide) rfl (fun ls hl => hp_n (n := 19) rfl ?_)
      refine lv_aload_n hx hb dX11_agree_19 rfl (lv_at hl 1 rfl) (hp_n (n := 20) rfl ?_)
      have J28 : ∀ (Hh_11 : Heap) (Lh_11 : List Loc) (Bh_11 : hp_B Γ (cw w_X11_agree) s α α Hh_11 Lh_11) (ls : Array Slot) (hl : lv_has ls 5 [(0, .ref a0)]), W p l e (hp_rm 5 0 0) s m ([.ref a0, .int a1, .int a2] : List Value).toArray below meth c Hh_11 Lh_11 0 0 (MQ below (hp_Qi Γ (fun r β => cw w_X11_agree α β)) ([.ref a0, .int a1, .int a2] : List Value).toArray s 0 0 (hp_A Γ)) (F0 m 28 ls []) := by
        intro Hh_11 Lh_11 Bh_11 ls hl
        refine lv_aload_n hx hb dX11_agree_28 rfl (lv_at hl 0 rfl) (hp_n (n := 29) rfl ?_)
        refine lv_iconst (v := 2) hx hb dX11_agree_29 (by decide) (hp_n (n := 30) rfl ?_)
        refine q_ci (pc' := 33) Bh_11 (hp_runV (As := [.int 2]) (rest := []) C Bh_11 (t_X11_refuse Γ l α Bh_11.2.2.1 a0 (cw_k Bh_11.2.2 k0) 2) lb_X11_refuse lv_X11_refuse lk_X11_98 (cw_k Bh_11.2.2 k0) rfl (by decide) rfl hl.1 rfl (Nat.le_of_ble_eq_true rfl) dX11_agree_30 ⟨Nat.le_refl _, Nat.le_refl _⟩) (fun _ _ h => cw_tr Bh_11.2.2 h (by decide)) rfl (fun rh_12 αh_12 Hh_12 Lh_12 ph_12 Bh_12 => ?_)
        exact q_iret C Bh_12 hr hlk Bh_12.2.2 dX11_agree_33
      refine lv_ifnull hx hb dX11_agree_20 (hp_n (n := 23) rfl ?_)
      refine lv_aload hx hb dX11_agree_23 (lv_at hl 0 rfl) (hp_n (n := 25) rfl ?_)
      refine lv_ifnonnull (tgt := 34) hx hb dX11_agree_25 (by decide) ?_
      refine lv_aload_n hx hb dX11_agree_34 rfl (lv_at hl 2 rfl) (hp_n (n := 35) rfl ?_)
      refine lv_aload_n hx hb dX11_agree_35 rfl (lv_at hl 2 rfl) (hp_n (n := 36) rfl ?_)
      refine q_gets (κ := 12) (k := 1) (φ := 601) (pc' := 39) C Bh_8 (cw_k Bh_8.2.2 k0) fl_X11_16 rfl rfl rfl eb_1 dX11_agree_36 rfl ?_
      refine lv_aload_n hx hb dX11_agree_39 rfl (lv_at hl 1 rfl) (hp_n (n := 40) rfl ?_)
      refine lv_aload hx hb dX11_agree_40 (lv_at hl 0 rfl) (hp_n (n := 42) rfl ?_)
      refine q_ci (pc' := 45) Bh_8 (hp_runV (As := [va_rf (some bh_2), va_rf (some bh_8)]) (rest := [.ref a0]) C Bh_8 (t_X10_doAgree Γ l α Bh_8.2.2.1 b_1 (cw_k Bh_8.2.2 kb_1) (some bh_2) (fun b h => by cases h; exact (cw_k Bh_8.2.2 kbh_2)) (some bh_8) (fun b h => by cases h; exact (cw_k Bh_8.2.2 kbh_8))) lb_X10_doAgree lv_X10_doAgree lk_X11_319 (cw_k Bh_8.2.2 kb_1) rfl (by decide) rfl hl.1 rfl (Nat.le_of_ble_eq_true rfl) dX11_agree_42 ⟨Nat.le_refl _, Nat.le_refl _⟩) (fun _ _ h => cw_tr Bh_8.2.2 h.1 (by decide)) rfl (fun rh_13 αh_13 Hh_13 Lh_13 ph_13 Bh_13 => ?_)
      have zh_13 := ph_13.2
      refine lv_if_eq (tgt := 52) hx hb dX11_agree_45 (by decide) (fun c_14 => ?_) (fun c_14 => hp_n (n := 48) rfl ?_)
      ·
        have jc_14 := il_eq c_14
        refine lv_iconst (v := 0) hx hb dX11_agree_52 (by decide) (hp_n (n := 53) rfl ?_)
        refine q_ci (pc' := 56) Bh_13 (hp_runV (As := [.int 0]) (rest := []) C Bh_13 (t_X11_answer Γ l αh_13 Bh_13.2.2.1 a0 (cw_k Bh_13.2.2 k0) 0) lb_X11_answer lv_X11_answer lk_X11_115 (cw_k Bh_13.2.2 k0) rfl (by decide) rfl hl.1 rfl (Nat.le_of_ble_eq_true rfl) dX11_agree_53 ⟨Nat.le_refl _, Nat.le_refl _⟩) (fun _ _ h => cw_tr Bh_13.2.2 h (by decide)) rfl (fun rh_15 αh_15 Hh_15 Lh_15 ph_15 Bh_15 => ?_)
        exact q_iret C Bh_15 hr hlk Bh_15.2.2 dX11_agree_56
      ·
        have jc_14 := il_ne c_14
        refine lv_iconst (v := 1) hx hb dX11_agree_48 (by decide) (hp_n (n := 49) rfl ?_)
        refine lv_goto (tgt := 53) hx hb dX11_agree_49 (by decide) ?_
        refine q_ci (pc' := 56) Bh_13 (hp_runV (As := [.int 1]) (rest := []) C Bh_13 (t_X11_answer Γ l αh_13 Bh_13.2.2.1 a0 (cw_k Bh_13.2.2 k0) 1) lb_X11_answer lv_X11_answer lk_X11_115 (cw_k Bh_13.2.2 k0) rfl (by decide) rfl hl.1 rfl (Nat.le_of_ble_eq_true rfl) dX11_agree_53 ⟨Nat.le_refl _, Nat.le_refl _⟩) (fun _ _ h => cw_tr Bh_13.2.2 h (by decide)) rfl (fun rh_16 αh_16 Hh_16 Lh_16 ph_16 Bh_16 => ?_)
        exact q_iret C Bh_16 hr hlk Bh_16.2.2 dX11_agree_56
abbrev w_X11_where : cw_W := ([600], [], [], [])
set_option maxRecDepth 100000 in
set_option maxHeartbeats 4000000 in
theorem t_X11_where (Γ : hp_G) (l : Launch) (α : hp_T) (g : GC α) (a0 : Nat) (k0 : hp_K α a0 = 12) (a1 : Int32) (a2 : Int32) : Met l yX11_where (hp_ws yX11_where cX11_where 5 (some .int)) (hp_rm 3 0 0) (hp_Pc Γ α [.ref a0, .int a1, .int a2]) (hp_Qi Γ (fun r β => cw w_X11_where α β)) 0 0 (hp_A Γ) := by
  refine hp_start (by decide) ?_
  intro p e s m below meth c C hr hlk B0 hnm
  have C : hp_C Γ p m c cX11_where 5 s ([.ref a0, .int a1, .int a2] : List Value).toArray RX11 := C
  have hx := C.1.1
  have hb := C.1.2.1
  have hown := C.1.2.2.2.1
  have hts := C.1.2.2.2.2
  have B : hp_B Γ (cw w_X11_where) s α α s.heap [] := ⟨B0.1, B0.2.1, cw_rf g⟩
  have lit0 : (0 : Int32).toInt = 0 := by decide
  have lit1 : (1 : Int32).toInt = 1 := by decide
  have lit2 : (2 : Int32).toInt = 2 := by decide
  have lit5 : (5 : Int32).toInt = 5 := by decide
  have hl := lv_entry ([.ref a0, .int a1, .int a2]) (n := 5) (Nat.le_of_ble_eq_true rfl)
  show W p l e (hp_rm 3 0 0) s m ([.ref a0, .int a1, .int a2] : List Value).toArray below meth c s.heap [] 0 0 (MQ below (hp_Qi Γ (fun r β => cw w_X11_where α β)) ([.ref a0, .int a1, .int a2] : List Value).toArray s 0 0 (hp_A Γ)) (entryFrame m ([.ref a0, .int a1, .int a2] : List Value).toArray 5)
  rw [lg_entry_eq]
  generalize (lg_sl ([.ref a0, .int a1, .int a2]) ++ List.replicate (5 - (lg_sl ([.ref a0, .int a1, .int a2])).length) Slot.unset).toArray = ls at hl ⊢
  have hl : lv_has ls 5 [(0, .ref a0), (1, .int a1), (2, .int a2)] := hl
  refine lv_iload_n hx hb dX11_where_0 rfl (lv_at hl 2 rfl) (hp_n (n := 1) rfl ?_)
  have J9 : ∀ (Hh_1 : Heap) (Lh_1 : List Loc) (Bh_1 : hp_B Γ (cw w_X11_where) s α α Hh_1 Lh_1) (ls : Array Slot) (hl : lv_has ls 5 [(0, .ref a0)]), W p l e (hp_rm 3 0 0) s m ([.ref a0, .int a1, .int a2] : List Value).toArray below meth c Hh_1 Lh_1 0 0 (MQ below (hp_Qi Γ (fun r β => cw w_X11_where α β)) ([.ref a0, .int a1, .int a2] : List Value).toArray s 0 0 (hp_A Γ)) (F0 m 9 ls []) := by
    intro Hh_1 Lh_1 Bh_1 ls hl
    refine lv_aload_n hx hb dX11_where_9 rfl (lv_at hl 0 rfl) (hp_n (n := 10) rfl ?_)
    refine lv_iconst (v := 1) hx hb dX11_where_10 (by decide) (hp_n (n := 11) rfl ?_)
    refine q_ci (pc' := 14) Bh_1 (hp_runV (As := [.int 1]) (rest := []) C Bh_1 (t_X11_refuse Γ l α Bh_1.2.2.1 a0 (cw_k Bh_1.2.2 k0) 1) lb_X11_refuse lv_X11_refuse lk_X11_98 (cw_k Bh_1.2.2 k0) rfl (by decide) rfl hl.1 rfl (Nat.le_of_ble_eq_true rfl) dX11_where_11 ⟨Nat.le_refl _, Nat.le_refl _⟩) (fun _ _ h => cw_tr Bh_1.2.2 h (by decide)) rfl (fun rh_2 αh_2 Hh_2 Lh_2 ph_2 Bh_2 => ?_)
    exact q_iret C Bh_2 hr hlk Bh_2.2.2 dX11_where_14
  refine lv_if_lt (tgt := 9) hx hb dX11_where_1 (by decide) (fun c_3 => ?_) (fun c_3 => hp_n (n := 4) rfl ?_)
  ·
    have jc_3 := il_lt c_3
    exact J9 s.heap [] B ls (lv_sub hl [0] rfl)
  ·
    have jc_3 := il_nlt c_3
    refine lv_iload_n hx hb dX11_where_4 rfl (lv_at hl 2 rfl) (hp_n (n := 5) rfl ?_)
    refine lv_iconst (v := 1) hx hb dX11_where_5 (by decide) (hp_n (n := 6) rfl ?_)
    refine lv_icmp_le (tgt := 15) hx hb dX11_where_6 (by decide) (fun c_4 => ?_) (fun c_4 => hp_n (n := 9) rfl ?_)
    ·
      have jc_4 := il_le c_4
      refine lv_aload_n hx hb dX11_where_15 rfl (lv_at hl 0 rfl) (hp_n (n := 16) rfl ?_)
      refine q_getr (κ := 12) (k := 1) (φ := 601) (pc' := 19) C B (cw_k B.2.2 k0) fl_X11_16 rfl rfl rfl (cw_r B.2.2 k0 rfl rfl (by decide) (by decide)) dX11_where_16 rfl (fun b_5 eb_5 kb_5 => ?_)
      refine lv_iload_n hx hb dX11_where_19 rfl (lv_at hl 1 rfl) (hp_n (n := 20) rfl ?_)
      refine q_cq (pc' := 23) B (hp_runV (As := [.int a1]) (rest := []) C B (t_X10_logAt Γ l α B.2.2.1 b_5 (cw_k B.2.2 kb_5) a1) lb_X10_logAt lv_X10_logAt lk_X11_163 (cw_k B.2.2 kb_5) rfl (by decide) rfl hl.1 rfl (Nat.le_of_ble_eq_true rfl) dX11_where_20 ⟨Nat.le_refl _, Nat.le_refl _⟩) (fun _ _ h => by rw [h.1]; exact B.2.2) rfl (fun rh_6 αh_6 Hh_6 Lh_6 ph_6 Bh_6 => ?_)
      rw [ph_6.1] at Bh_6
      rcases rh_6 with _ | bh_6
      ·
        refine lv_astore_nN (lv' := [(3, .null), (0, .ref a0), (1, .int a1), (2, .int a2)]) hx hb dX11_where_23 rfl hl (by decide) rfl (fun ls hl => hp_n (n := 24) rfl ?_)
        refine lv_aload_nN hx hb dX11_where_24 rfl (lv_at hl 0 rfl) (hp_n (n := 25) rfl ?_)
        refine lv_ifnonnullN hx hb dX11_where_25 (hp_n (n := 28) rfl ?_)
        refine lv_aload_n hx hb dX11_where_28 rfl (lv_at hl 1 rfl) (hp_n (n := 29) rfl ?_)
        refine lv_iconst (v := 2) hx hb dX11_where_29 (by decide) (hp_n (n := 30) rfl ?_)
        refine q_ci (pc' := 33) Bh_6 (hp_runV (As := [.int 2]) (rest := []) C Bh_6 (t_X11_refuse Γ l α Bh_6.2.2.1 a0 (cw_k Bh_6.2.2 k0) 2) lb_X11_refuse lv_X11_refuse lk_X11_98 (cw_k Bh_6.2.2 k0) rfl (by decide) rfl hl.1 rfl (Nat.le_of_ble_eq_true rfl) dX11_where_30 ⟨Nat.le_refl _, Nat.le_refl _⟩) (fun _ _ h => cw_tr Bh_6.2.2 h (by decide)) rfl (fun rh_7 αh_7 Hh_7 Lh_7 ph_7 Bh_7 => ?_)
        exact q_iret C Bh_7 hr hlk Bh_7.2.2 dX11_where_33
      ·
        have kbh_6 : hp_K α bh_6 = 3 := cw_k' Bh_6.2.2 (ph_6.2 bh_6 rfl)
        refine lv_astore_n (lv' := [(3, .ref bh_6), (0, .ref a0), (1, .int a1), (2, .int a2)]) hx hb dX11_where_23 rfl hl (by decide) rfl (fun ls hl => hp_n (n := 24) rfl ?_)
        refine lv_aload_n hx hb dX11_where_24 rfl (lv_at hl 0 rfl) (hp_n (n := 25) rfl ?_)
        refine lv_ifnonnull (tgt := 34) hx hb dX11_where_25 (by decide) ?_
        refine lv_iload_n hx hb dX11_where_34 rfl (lv_at hl 3 rfl) (hp_n (n := 35) rfl ?_)
        refine lv_iconst (v := 1) hx hb dX11_where_35 (by decide) (hp_n (n := 36) rfl ?_)
        refine lv_icmp_ne (tgt := 52) hx hb dX11_where_36 (by decide) (fun c_8 => ?_) (fun c_8 => hp_n (n := 39) rfl ?_)
        ·
          have jc_8 := il_ne c_8
          refine lv_aload_n hx hb dX11_where_52 rfl (lv_at hl 0 rfl) (hp_n (n := 53) rfl ?_)
          refine lv_aload_n hx hb dX11_where_53 rfl (lv_at hl 1 rfl) (hp_n (n := 54) rfl ?_)
          refine q_getr (κ := 12) (k := 6) (φ := 606) (pc' := 57) C Bh_6 (cw_k Bh_6.2.2 k0) fl_X11_40 rfl rfl rfl (cw_r Bh_6.2.2 k0 rfl rfl (by decide) (by decide)) dX11_where_54 rfl (fun b_9 eb_9 kb_9 => ?_)
          refine q_ci (pc' := 60) Bh_6 (hp_runV (As := [.ref b_9]) (rest := []) C Bh_6 (t_X2_firstLike Γ l α Bh_6.2.2.1 bh_6 (cw_k Bh_6.2.2 kbh_6) b_9 (cw_k Bh_6.2.2 kb_9)) lb_X2_firstLike lv_X2_firstLike lk_X11_327 (cw_k Bh_6.2.2 kbh_6) rfl (by decide) rfl hl.1 rfl (Nat.le_of_ble_eq_true rfl) dX11_where_57 ⟨Nat.le_refl _, Nat.le_refl _⟩) (fun _ _ h => by rw [h]; exact Bh_6.2.2) rfl (fun rh_10 αh_10 Hh_10 Lh_10 ph_10 Bh_10 => ?_)
          rw [ph_10] at Bh_10
          refine lv_istore (lv' := [(4, .int rh_10), (3, .ref bh_6), (0, .ref a0), (1, .int a1), (2, .int a2)]) hx hb dX11_where_60 hl (by decide) rfl (fun ls hl => hp_n (n := 62) rfl ?_)
          refine lv_iload hx hb dX11_where_62 (lv_at hl 0 rfl) (hp_n (n := 64) rfl ?_)
          refine lv_if_ge (tgt := 75) hx hb dX11_where_64 (by decide) (fun c_11 => ?_) (fun c_11 => hp_n (n := 67) rfl ?_)
          ·
            have jc_11 := il_le c_11
            refine lv_aload_n hx hb dX11_where_75 rfl (lv_at hl 2 rfl) (hp_n (n := 76) rfl ?_)
            refine lv_iload hx hb dX11_where_76 (lv_at hl 0 rfl) (hp_n (n := 78) rfl ?_)
            refine q_ci (pc' := 81) Bh_10 (hp_runV (As := [.int rh_10]) (rest := []) C Bh_10 (t_X11_answer Γ l α Bh_10.2.2.1 a0 (cw_k Bh_10.2.2 k0) rh_10) lb_X11_answer lv_X11_answer lk_X11_115 (cw_k Bh_10.2.2 k0) rfl (by decide) rfl hl.1 rfl (Nat.le_of_ble_eq_true rfl) dX11_where_78 ⟨Nat.le_refl _, Nat.le_refl _⟩) (fun _ _ h => cw_tr Bh_10.2.2 h (by decide)) rfl (fun rh_12 αh_12 Hh_12 Lh_12 ph_12 Bh_12 => ?_)
            exact q_iret C Bh_12 hr hlk Bh_12.2.2 dX11_where_81
          ·
            have jc_11 := il_nle c_11
            refine lv_aload_n hx hb dX11_where_67 rfl (lv_at hl 2 rfl) (hp_n (n := 68) rfl ?_)
            refine lv_iconst (v := 5) hx hb dX11_where_68 (by decide) (hp_n (n := 69) rfl ?_)
            refine q_ci (pc' := 72) Bh_10 (hp_runV (As := [.int 5]) (rest := []) C Bh_10 (t_X11_refuse Γ l α Bh_10.2.2.1 a0 (cw_k Bh_10.2.2 k0) 5) lb_X11_refuse lv_X11_refuse lk_X11_98 (cw_k Bh_10.2.2 k0) rfl (by decide) rfl hl.1 rfl (Nat.le_of_ble_eq_true rfl) dX11_where_69 ⟨Nat.le_refl _, Nat.le_refl _⟩) (fun _ _ h => cw_tr Bh_10.2.2 h (by decide)) rfl (fun rh_13 αh_13 Hh_13 Lh_13 ph_13 Bh_13 => ?_)
            refine lv_goto (tgt := 81) hx hb dX11_where_72 (by decide) ?_
            exact q_iret C Bh_13 hr hlk Bh_13.2.2 dX11_where_81
        ·
          have jc_8 := il_eq c_8
          refine lv_aload_n hx hb dX11_where_39 rfl (lv_at hl 1 rfl) (hp_n (n := 40) rfl ?_)
          refine lv_aload_n hx hb dX11_where_40 rfl (lv_at hl 0 rfl) (hp_n (n := 41) rfl ?_)
          refine lv_aload_n hx hb dX11_where_41 rfl (lv_at hl 1 rfl) (hp_n (n := 42) rfl ?_)
          refine q_getr (κ := 12) (k := 6) (φ := 606) (pc' := 45) C Bh_6 (cw_k Bh_6.2.2 k0) fl_X11_40 rfl rfl rfl (cw_r Bh_6.2.2 k0 rfl rfl (by decide) (by decide)) dX11_where_42 rfl (fun b_14 eb_14 kb_14 => ?_)
          refine q_ci (pc' := 48) Bh_6 (hp_runV (As := [.ref b_14]) (rest := [.ref a0]) C Bh_6 (t_X2_countLike Γ l α Bh_6.2.2.1 bh_6 (cw_k Bh_6.2.2 kbh_6) b_14 (cw_k Bh_6.2.2 kb_14)) lb_X2_countLike lv_X2_countLike lk_X11_323 (cw_k Bh_6.2.2 kbh_6) rfl (by decide) rfl hl.1 rfl (Nat.le_of_ble_eq_true rfl) dX11_where_45 ⟨Nat.le_refl _, Nat.le_refl _⟩) (fun _ _ h => by rw [h]; exact Bh_6.2.2) rfl (fun rh_15 αh_15 Hh_15 Lh_15 ph_15 Bh_15 => ?_)
          rw [ph_15] at Bh_15
          refine q_ci (pc' := 51) Bh_15 (hp_runV (As := [.int rh_15]) (rest := []) C Bh_15 (t_X11_answer Γ l α Bh_15.2.2.1 a0 (cw_k Bh_15.2.2 k0) rh_15) lb_X11_answer lv_X11_answer lk_X11_115 (cw_k Bh_15.2.2 k0) rfl (by decide) rfl hl.1 rfl (Nat.le_of_ble_eq_true rfl) dX11_where_48 ⟨Nat.le_refl _, Nat.le_refl _⟩) (fun _ _ h => cw_tr Bh_15.2.2 h (by decide)) rfl (fun rh_16 αh_16 Hh_16 Lh_16 ph_16 Bh_16 => ?_)
          exact q_iret C Bh_16 hr hlk Bh_16.2.2 dX11_where_51
    ·
      have jc_4 := il_nle c_4
      exact J9 s.heap [] B ls (lv_sub hl [0] rfl)
abbrev w_X11_tree : cw_W := ([453, 454, 600], [], [21, 22, 23, 33], [])
set_option maxRecDepth 100000 in
set_option maxHeartbeats 4000000 in
theorem t_X11_tree (Γ : hp_G) (l : Launch) (α : hp_T) (g : GC α) (a0 : Nat) (k0 : hp_K α a0 = 12) (a1 : Int32) (a2 : Int32) (a3 : Int32) (a4 : Int32) : Met l yX11_tree (hp_ws yX11_tree cX11_tree 7 (some .int)) (hp_rm 4 0 0) (hp_Pc Γ α [.ref a0, .int a1, .int a2, .int a3, .int a4]) (hp_Qi Γ (fun r β => cw w_X11_tree α β)) 0 0 (hp_A Γ) := by
  refine hp_start (by decide) ?_
  intro p e s m below meth c C hr hlk B0 hnm
  have C : hp_C Γ p m c cX11_tree 7 s ([.ref a0, .int a1, .int a2, .int a3, .int a4] : List Value).toArray RX11 := C
  have hx := C.1.1
  have hb := C.1.2.1
  have hown := C.1.2.2.2.1
  have hts := C.1.2.2.2.2
  have B : hp_B Γ (cw w_X11_tree) s α α s.heap [] := ⟨B0.1, B0.2.1, cw_rf g⟩
  have lit0 : (0 : Int32).toInt = 0 := by decide
  have lit1 : (1 : Int32).toInt = 1 := by decide
  have lit2 : (2 : Int32).toInt = 2 := by decide
  have lit5 : (5 : Int32).toInt = 5 := by decide
  have hl := lv_entry ([.ref a0, .int a1, .int a2, .int a3, .int a4]) (n := 7) (Nat.le_of_ble_eq_true rfl)
  show W p l e (hp_rm 4 0 0) s m ([.ref a0, .int a1, .int a2, .int a3, .int a4] : List Value).toArray below meth c s.heap [] 0 0 (MQ below (hp_Qi Γ (fun r β => cw w_X11_tree α β)) ([.ref a0, .int a1, .int a2, .int a3, .int a4] : List Value).toArray s 0 0 (hp_A Γ)) (entryFrame m ([.ref a0, .int a1, .int a2, .int a3, .int a4] : List Value).toArray 7)
  rw [lg_entry_eq]
  generalize (lg_sl ([.ref a0, .int a1, .int a2, .int a3, .int a4]) ++ List.replicate (7 - (lg_sl ([.ref a0, .int a1, .int a2, .int a3, .int a4])).length) Slot.unset).toArray = ls at hl ⊢
  have hl : lv_has ls 7 [(0, .ref a0), (1, .int a1), (2, .int a2), (3, .int a3), (4, .int a4)] := hl
  refine lv_iload_n hx hb dX11_tree_0 rfl (lv_at hl 3 rfl) (hp_n (n := 1) rfl ?_)
  have J15 : ∀ (Hh_1 : Heap) (Lh_1 : List Loc) (Bh_1 : hp_B Γ (cw w_X11_tree) s α α Hh_1 Lh_1) (ls : Array Slot) (hl : lv_has ls 7 [(0, .ref a0)]), W p l e (hp_rm 4 0 0) s m ([.ref a0, .int a1, .int a2, .int a3, .int a4] : List Value).toArray below meth c Hh_1 Lh_1 0 0 (MQ below (hp_Qi Γ (fun r β => cw w_X11_tree α β)) ([.ref a0, .int a1, .int a2, .int a3, .int a4] : List Value).toArray s 0 0 (hp_A Γ)) (F0 m 15 ls []) := by
    intro Hh_1 Lh_1 Bh_1 ls hl
    refine lv_aload_n hx hb dX11_tree_15 rfl (lv_at hl 0 rfl) (hp_n (n := 16) rfl ?_)
    refine lv_iconst (v := 1) hx hb dX11_tree_16 (by decide) (hp_n (n := 17) rfl ?_)
    refine q_ci (pc' := 20) Bh_1 (hp_runV (As := [.int 1]) (rest := []) C Bh_1 (t_X11_refuse Γ l α Bh_1.2.2.1 a0 (cw_k Bh_1.2.2 k0) 1) lb_X11_refuse lv_X11_refuse lk_X11_98 (cw_k Bh_1.2.2 k0) rfl (by decide) rfl hl.1 rfl (Nat.le_of_ble_eq_true rfl) dX11_tree_17 ⟨Nat.le_refl _, Nat.le_refl _⟩) (fun _ _ h => cw_tr Bh_1.2.2 h (by decide)) rfl (fun rh_2 αh_2 Hh_2 Lh_2 ph_2 Bh_2 => ?_)
    exact q_iret C Bh_2 hr hlk Bh_2.2.2 dX11_tree_20
  refine lv_if_lt (tgt := 15) hx hb dX11_tree_1 (by decide) (fun c_3 => ?_) (fun c_3 => hp_n (n := 4) rfl ?_)
  ·
    have jc_3 := il_lt c_3
    exact J15 s.heap [] B ls (lv_sub hl [0] rfl)
  ·
    have jc_3 := il_nlt c_3
    refine lv_iload hx hb dX11_tree_4 (lv_at hl 4 rfl) (hp_n (n := 6) rfl ?_)
    refine lv_if_lt (tgt := 15) hx hb dX11_tree_6 (by decide) (fun c_4 => ?_) (fun c_4 => hp_n (n := 9) rfl ?_)
    ·
      have jc_4 := il_lt c_4
      exact J15 s.heap [] B ls (lv_sub hl [0] rfl)
    ·
      have jc_4 := il_nlt c_4
      refine lv_iload hx hb dX11_tree_9 (lv_at hl 4 rfl) (hp_n (n := 11) rfl ?_)
      refine lv_iconst (v := 2) hx hb dX11_tree_11 (by decide) (hp_n (n := 12) rfl ?_)
      refine lv_icmp_le (tgt := 21) hx hb dX11_tree_12 (by decide) (fun c_5 => ?_) (fun c_5 => hp_n (n := 15) rfl ?_)
      ·
        have jc_5 := il_le c_5
        refine lv_aload_n hx hb dX11_tree_21 rfl (lv_at hl 0 rfl) (hp_n (n := 22) rfl ?_)
        refine q_getr (κ := 12) (k := 1) (φ := 601) (pc' := 25) C B (cw_k B.2.2 k0) fl_X11_16 rfl rfl rfl (cw_r B.2.2 k0 rfl rfl (by decide) (by decide)) dX11_tree_22 rfl (fun b_6 eb_6 kb_6 => ?_)
        refine lv_iload_n hx hb dX11_tree_25 rfl (lv_at hl 1 rfl) (hp_n (n := 26) rfl ?_)
        refine q_cq (pc' := 29) B (hp_runV (As := [.int a1]) (rest := []) C B (t_X10_logAt Γ l α B.2.2.1 b_6 (cw_k B.2.2 kb_6) a1) lb_X10_logAt lv_X10_logAt lk_X11_163 (cw_k B.2.2 kb_6) rfl (by decide) rfl hl.1 rfl (Nat.le_of_ble_eq_true rfl) dX11_tree_26 ⟨Nat.le_refl _, Nat.le_refl _⟩) (fun _ _ h => by rw [h.1]; exact B.2.2) rfl (fun rh_7 αh_7 Hh_7 Lh_7 ph_7 Bh_7 => ?_)
        rw [ph_7.1] at Bh_7
        rcases rh_7 with _ | bh_7
        ·
          refine lv_astoreN (lv' := [(5, .null), (0, .ref a0), (1, .int a1), (2, .int a2), (3, .int a3), (4, .int a4)]) hx hb dX11_tree_29 hl (by decide) rfl (fun ls hl => hp_n (n := 31) rfl ?_)
          refine lv_aloadN hx hb dX11_tree_31 (lv_at hl 0 rfl) (hp_n (n := 33) rfl ?_)
          refine lv_iconst (v := 0) hx hb dX11_tree_33 (by decide) (hp_n (n := 34) rfl ?_)
          refine lv_iload_n hx hb dX11_tree_34 rfl (lv_at hl 3 rfl) (hp_n (n := 35) rfl ?_)
          refine q_ci (pc' := 38) Bh_7 (hp_runS (As := [va_rf none, .int 0, .int a2]) (rest := []) C Bh_7 (t_X11_wrongGrowth Γ l α Bh_7.2.2.1 none (fun b h => by cases h) 0 a2) lb_X11_wrongGrowth ls_X11_wrongGrowth lk_X11_180 rfl (by decide) rfl hl.1 rfl (Nat.le_of_ble_eq_true rfl) dX11_tree_35 ⟨Nat.le_refl _, Nat.le_refl _⟩) (fun _ _ h => by rw [h]; exact Bh_7.2.2) rfl (fun rh_8 αh_8 Hh_8 Lh_8 ph_8 Bh_8 => ?_)
          rw [ph_8] at Bh_8
          refine lv_istore (lv' := [(6, .int rh_8), (5, .null), (0, .ref a0), (1, .int a1), (2, .int a2), (3, .int a3), (4, .int a4)]) hx hb dX11_tree_38 hl (by decide) rfl (fun ls hl => hp_n (n := 40) rfl ?_)
          refine lv_iload hx hb dX11_tree_40 (lv_at hl 0 rfl) (hp_n (n := 42) rfl ?_)
          refine lv_if_eq (tgt := 52) hx hb dX11_tree_42 (by decide) (fun c_9 => ?_) (fun c_9 => hp_n (n := 45) rfl ?_)
          ·
            have jc_9 := il_eq c_9
            refine lv_iload_n hx hb dX11_tree_52 rfl (lv_at hl 5 rfl) (hp_n (n := 53) rfl ?_)
            refine lv_iconst (v := 2) hx hb dX11_tree_53 (by decide) (hp_n (n := 54) rfl ?_)
            refine lv_iload_n hx hb dX11_tree_54 rfl (lv_at hl 4 rfl) (hp_n (n := 55) rfl ?_)
            refine lv_imul hx hb dX11_tree_55 (hp_n (n := 56) rfl (lv_topi (fun x_10 ex_10 => ?_)))
            refine lv_iconst (v := 2) hx hb dX11_tree_56 (by decide) (hp_n (n := 57) rfl ?_)
            refine lv_isub hx hb dX11_tree_57 (hp_n (n := 58) rfl (lv_topi (fun x_11 ex_11 => ?_)))
            refine lv_icmp_le (tgt := 67) hx hb dX11_tree_58 (by decide) (fun c_12 => ?_) (fun c_12 => hp_n (n := 61) rfl ?_)
            ·
              have jc_12 := il_le c_12
              refine lv_aload_n hx hb dX11_tree_67 rfl (lv_at hl 2 rfl) (hp_n (n := 68) rfl ?_)
              refine q_getr (κ := 12) (k := 12) (φ := 612) (pc' := 71) C Bh_8 (cw_k Bh_8.2.2 k0) fl_X11_62 rfl rfl rfl (cw_r Bh_8.2.2 k0 rfl rfl (by decide) (by decide)) dX11_tree_68 rfl (fun b_13 eb_13 kb_13 => ?_)
              refine lv_iload_n hx hb dX11_tree_71 rfl (lv_at hl 5 rfl) (hp_n (n := 72) rfl ?_)
              refine lv_iload_n hx hb dX11_tree_72 rfl (lv_at hl 4 rfl) (hp_n (n := 73) rfl ?_)
              refine q_cv (pc' := 76) Bh_8 (hp_runV (As := [.int a3, .int a2]) (rest := []) C Bh_8 (t_X8_toTree Γ l α Bh_8.2.2.1 b_13 (cw_k Bh_8.2.2 kb_13) a3 a2) lb_X8_toTree lv_X8_toTree lk_X11_330 (cw_k Bh_8.2.2 kb_13) rfl (by decide) rfl hl.1 rfl (Nat.le_of_ble_eq_true rfl) dX11_tree_73 ⟨Nat.le_refl _, Nat.le_refl _⟩) (fun _ h => cw_tr Bh_8.2.2 h (by decide)) rfl (fun αh_14 Hh_14 Lh_14 ph_14 Bh_14 => ?_)
              refine lv_iload hx hb dX11_tree_76 (lv_at hl 6 rfl) (hp_n (n := 78) rfl ?_)
              refine lv_if_ne (tgt := 94) hx hb dX11_tree_78 (by decide) (fun c_15 => ?_) (fun c_15 => hp_n (n := 81) rfl ?_)
              ·
                have jc_15 := il_ne c_15
                refine lv_aload_n hx hb dX11_tree_94 rfl (lv_at hl 2 rfl) (hp_n (n := 95) rfl ?_)
                refine lv_iload hx hb dX11_tree_95 (lv_at hl 6 rfl) (hp_n (n := 97) rfl ?_)
                refine lv_iconst (v := 1) hx hb dX11_tree_97 (by decide) (hp_n (n := 98) rfl ?_)
                refine lv_icmp_ne (tgt := 112) hx hb dX11_tree_98 (by decide) (fun c_16 => ?_) (fun c_16 => hp_n (n := 101) rfl ?_)
                ·
                  have jc_16 := il_ne c_16
                  refine lv_aload_n hx hb dX11_tree_112 rfl (lv_at hl 2 rfl) (hp_n (n := 113) rfl ?_)
                  have t_17 : b_6 = hp_R αh_14 601 a0 := by rw [cw_R ph_14 a0 (by decide)]; exact eb_6
                  refine q_gets (κ := 12) (k := 1) (φ := 601) (pc' := 116) C Bh_14 (cw_k Bh_14.2.2 k0) fl_X11_16 rfl rfl rfl t_17 dX11_tree_113 rfl ?_
                  refine lv_aloadN hx hb dX11_tree_116 (lv_at hl 1 rfl) (hp_n (n := 118) rfl ?_)
                  refine lv_aload_n hx hb dX11_tree_118 rfl (lv_at hl 2 rfl) (hp_n (n := 119) rfl ?_)
                  have t_18 : b_13 = hp_R αh_14 612 a0 := by rw [cw_R ph_14 a0 (by decide)]; exact eb_13
                  refine q_gets (κ := 12) (k := 12) (φ := 612) (pc' := 122) C Bh_14 (cw_k Bh_14.2.2 k0) fl_X11_62 rfl rfl rfl t_18 dX11_tree_119 rfl ?_
                  refine lv_iconst (v := 0) hx hb dX11_tree_122 (by decide) (hp_n (n := 123) rfl ?_)
                  refine q_ci (pc' := 126) Bh_14 (hp_runV (As := [.int 0]) (rest := [.null, .ref b_6, .ref a0]) C Bh_14 (t_X8_firstAt Γ l αh_14 Bh_14.2.2.1 b_13 (cw_k Bh_14.2.2 kb_13) 0) lb_X8_firstAt lv_X8_firstAt lk_X11_333 (cw_k Bh_14.2.2 kb_13) rfl (by decide) rfl hl.1 rfl (Nat.le_of_ble_eq_true rfl) dX11_tree_123 ⟨Nat.le_refl _, Nat.le_refl _⟩) (fun _ _ h => by rw [h]; exact Bh_14.2.2) rfl (fun rh_19 αh_19 Hh_19 Lh_19 ph_19 Bh_19 => ?_)
                  rw [ph_19] at Bh_19
                  refine lv_aload_n hx hb dX11_tree_126 rfl (lv_at hl 2 rfl) (hp_n (n := 127) rfl ?_)
                  refine q_gets (κ := 12) (k := 12) (φ := 612) (pc' := 130) C Bh_19 (cw_k Bh_19.2.2 k0) fl_X11_62 rfl rfl rfl t_18 dX11_tree_127 rfl ?_
                  refine lv_iconst (v := 0) hx hb dX11_tree_130 (by decide) (hp_n (n := 131) rfl ?_)
                  refine q_ci (pc' := 134) Bh_19 (hp_runV (As := [.int 0]) (rest := [.int rh_19, .null, .ref b_6, .ref a0]) C Bh_19 (t_X8_manyAt Γ l αh_14 Bh_19.2.2.1 b_13 (cw_k Bh_19.2.2 kb_13) 0) lb_X8_manyAt lv_X8_manyAt lk_X11_336 (cw_k Bh_19.2.2 kb_13) rfl (by decide) rfl hl.1 rfl (Nat.le_of_ble_eq_true rfl) dX11_tree_131 ⟨Nat.le_refl _, Nat.le_refl _⟩) (fun _ _ h => by rw [h]; exact Bh_19.2.2) rfl (fun rh_20 αh_20 Hh_20 Lh_20 ph_20 Bh_20 => ?_)
                  rw [ph_20] at Bh_20
                  refine q_ci (pc' := 137) Bh_20 (hp_runV (As := [va_rf none, .int rh_19, .int rh_20]) (rest := [.ref a0]) C Bh_20 (t_X10_treeMark Γ l αh_14 Bh_20.2.2.1 b_6 (cw_k Bh_20.2.2 kb_6) none (fun b h => by cases h) rh_19 rh_20) lb_X10_treeMark lv_X10_treeMark lk_X11_339 (cw_k Bh_20.2.2 kb_6) rfl (by decide) rfl hl.1 rfl (Nat.le_of_ble_eq_true rfl) dX11_tree_134 ⟨Nat.le_refl _, Nat.le_refl _⟩) (fun _ _ h => cw_tr Bh_20.2.2 h (by decide)) rfl (fun rh_21 αh_21 Hh_21 Lh_21 ph_21 Bh_21 => ?_)
                  refine q_ci (pc' := 140) Bh_21 (hp_runV (As := [.int rh_21]) (rest := []) C Bh_21 (t_X11_answer Γ l αh_21 Bh_21.2.2.1 a0 (cw_k Bh_21.2.2 k0) rh_21) lb_X11_answer lv_X11_answer lk_X11_115 (cw_k Bh_21.2.2 k0) rfl (by decide) rfl hl.1 rfl (Nat.le_of_ble_eq_true rfl) dX11_tree_137 ⟨Nat.le_refl _, Nat.le_refl _⟩) (fun _ _ h => cw_tr Bh_21.2.2 h (by decide)) rfl (fun rh_22 αh_22 Hh_22 Lh_22 ph_22 Bh_22 => ?_)
                  exact q_iret C Bh_22 hr hlk Bh_22.2.2 dX11_tree_140
                ·
                  have jc_16 := il_eq c_16
                  refine lv_aload_n hx hb dX11_tree_101 rfl (lv_at hl 2 rfl) (hp_n (n := 102) rfl ?_)
                  have t_23 : b_13 = hp_R αh_14 612 a0 := by rw [cw_R ph_14 a0 (by decide)]; exact eb_13
                  refine q_gets (κ := 12) (k := 12) (φ := 612) (pc' := 105) C Bh_14 (cw_k Bh_14.2.2 k0) fl_X11_62 rfl rfl rfl t_23 dX11_tree_102 rfl ?_
                  refine lv_iconst (v := 0) hx hb dX11_tree_105 (by decide) (hp_n (n := 106) rfl ?_)
                  refine q_ci (pc' := 109) Bh_14 (hp_runV (As := [.int 0]) (rest := [.ref a0]) C Bh_14 (t_X8_manyAt Γ l αh_14 Bh_14.2.2.1 b_13 (cw_k Bh_14.2.2 kb_13) 0) lb_X8_manyAt lv_X8_manyAt lk_X11_336 (cw_k Bh_14.2.2 kb_13) rfl (by decide) rfl hl.1 rfl (Nat.le_of_ble_eq_true rfl) dX11_tree_106 ⟨Nat.le_refl _, Nat.le_refl _⟩) (fun _ _ h => by rw [h]; exact Bh_14.2.2) rfl (fun rh_24 αh_24 Hh_24 Lh_24 ph_24 Bh_24 => ?_)
                  rw [ph_24] at Bh_24
                  refine lv_goto (tgt := 137) hx hb dX11_tree_109 (by decide) ?_
                  refine q_ci (pc' := 140) Bh_24 (hp_runV (As := [.int rh_24]) (rest := []) C Bh_24 (t_X11_answer Γ l αh_14 Bh_24.2.2.1 a0 (cw_k Bh_24.2.2 k0) rh_24) lb_X11_answer lv_X11_answer lk_X11_115 (cw_k Bh_24.2.2 k0) rfl (by decide) rfl hl.1 rfl (Nat.le_of_ble_eq_true rfl) dX11_tree_137 ⟨Nat.le_refl _, Nat.le_refl _⟩) (fun _ _ h => cw_tr Bh_24.2.2 h (by decide)) rfl (fun rh_25 αh_25 Hh_25 Lh_25 ph_25 Bh_25 => ?_)
                  exact q_iret C Bh_25 hr hlk Bh_25.2.2 dX11_tree_140
              ·
                have jc_15 := il_eq c_15
                refine lv_aload_n hx hb dX11_tree_81 rfl (lv_at hl 2 rfl) (hp_n (n := 82) rfl ?_)
                refine lv_aload_n hx hb dX11_tree_82 rfl (lv_at hl 2 rfl) (hp_n (n := 83) rfl ?_)
                have t_26 : b_13 = hp_R αh_14 612 a0 := by rw [cw_R ph_14 a0 (by decide)]; exact eb_13
                refine q_gets (κ := 12) (k := 12) (φ := 612) (pc' := 86) C Bh_14 (cw_k Bh_14.2.2 k0) fl_X11_62 rfl rfl rfl t_26 dX11_tree_83 rfl ?_
                refine lv_iconst (v := 0) hx hb dX11_tree_86 (by decide) (hp_n (n := 87) rfl ?_)
                refine q_ci (pc' := 90) Bh_14 (hp_runV (As := [.int 0]) (rest := [.ref a0]) C Bh_14 (t_X8_firstAt Γ l αh_14 Bh_14.2.2.1 b_13 (cw_k Bh_14.2.2 kb_13) 0) lb_X8_firstAt lv_X8_firstAt lk_X11_333 (cw_k Bh_14.2.2 kb_13) rfl (by decide) rfl hl.1 rfl (Nat.le_of_ble_eq_true rfl) dX11_tree_87 ⟨Nat.le_refl _, Nat.le_refl _⟩) (fun _ _ h => by rw [h]; exact Bh_14.2.2) rfl (fun rh_27 αh_27 Hh_27 Lh_27 ph_27 Bh_27 => ?_)
                rw [ph_27] at Bh_27
                refine q_ci (pc' := 93) Bh_27 (hp_runV (As := [.int rh_27]) (rest := []) C Bh_27 (t_X11_answer Γ l αh_14 Bh_27.2.2.1 a0 (cw_k Bh_27.2.2 k0) rh_27) lb_X11_answer lv_X11_answer lk_X11_115 (cw_k Bh_27.2.2 k0) rfl (by decide) rfl hl.1 rfl (Nat.le_of_ble_eq_true rfl) dX11_tree_90 ⟨Nat.le_refl _, Nat.le_refl _⟩) (fun _ _ h => cw_tr Bh_27.2.2 h (by decide)) rfl (fun rh_28 αh_28 Hh_28 Lh_28 ph_28 Bh_28 => ?_)
                exact q_iret C Bh_28 hr hlk Bh_28.2.2 dX11_tree_93
            ·
              have jc_12 := il_nle c_12
              refine lv_aload_n hx hb dX11_tree_61 rfl (lv_at hl 2 rfl) (hp_n (n := 62) rfl ?_)
              refine lv_iconst (v := 5) hx hb dX11_tree_62 (by decide) (hp_n (n := 63) rfl ?_)
              refine q_ci (pc' := 66) Bh_8 (hp_runV (As := [.int 5]) (rest := []) C Bh_8 (t_X11_refuse Γ l α Bh_8.2.2.1 a0 (cw_k Bh_8.2.2 k0) 5) lb_X11_refuse lv_X11_refuse lk_X11_98 (cw_k Bh_8.2.2 k0) rfl (by decide) rfl hl.1 rfl (Nat.le_of_ble_eq_true rfl) dX11_tree_63 ⟨Nat.le_refl _, Nat.le_refl _⟩) (fun _ _ h => cw_tr Bh_8.2.2 h (by decide)) rfl (fun rh_29 αh_29 Hh_29 Lh_29 ph_29 Bh_29 => ?_)
              exact q_iret C Bh_29 hr hlk Bh_29.2.2 dX11_tree_66
          ·
            have jc_9 := il_ne c_9
            refine lv_aload_n hx hb dX11_tree_45 rfl (lv_at hl 2 rfl) (hp_n (n := 46) rfl ?_)
            refine lv_iload hx hb dX11_tree_46 (lv_at hl 0 rfl) (hp_n (n := 48) rfl ?_)
            refine q_ci (pc' := 51) Bh_8 (hp_runV (As := [.int rh_8]) (rest := []) C Bh_8 (t_X11_refuse Γ l α Bh_8.2.2.1 a0 (cw_k Bh_8.2.2 k0) rh_8) lb_X11_refuse lv_X11_refuse lk_X11_98 (cw_k Bh_8.2.2 k0) rfl (by decide) rfl hl.1 rfl (Nat.le_of_ble_eq_true rfl) dX11_tree_48 ⟨Nat.le_refl _, Nat.le_refl _⟩) (fun _ _ h => cw_tr Bh_8.2.2 h (by decide)) rfl (fun rh_30 αh_30 Hh_30 Lh_30 ph_30 Bh_30 => ?_)
            exact q_iret C Bh_30 hr hlk Bh_30.2.2 dX11_tree_51
        ·
          have kbh_7 : hp_K α bh_7 = 3 := cw_k' Bh_7.2.2 (ph_7.2 bh_7 rfl)
          refine lv_astore (lv' := [(5, .ref bh_7), (0, .ref a0), (1, .int a1), (2, .int a2), (3, .int a3), (4, .int a4)]) hx hb dX11_tree_29 hl (by decide) rfl (fun ls hl => hp_n (n := 31) rfl ?_)
          refine lv_aload hx hb dX11_tree_31 (lv_at hl 0 rfl) (hp_n (n := 33) rfl ?_)
          refine lv_iconst (v := 0) hx hb dX11_tree_33 (by decide) (hp_n (n := 34) rfl ?_)
          refine lv_iload_n hx hb dX11_tree_34 rfl (lv_at hl 3 rfl) (hp_n (n := 35) rfl ?_)
          refine q_ci (pc' := 38) Bh_7 (hp_runS (As := [va_rf (some bh_7), .int 0, .int a2]) (rest := []) C Bh_7 (t_X11_wrongGrowth Γ l α Bh_7.2.2.1 (some bh_7) (fun b h => by cases h; exact (cw_k Bh_7.2.2 kbh_7)) 0 a2) lb_X11_wrongGrowth ls_X11_wrongGrowth lk_X11_180 rfl (by decide) rfl hl.1 rfl (Nat.le_of_ble_eq_true rfl) dX11_tree_35 ⟨Nat.le_refl _, Nat.le_refl _⟩) (fun _ _ h => by rw [h]; exact Bh_7.2.2) rfl (fun rh_31 αh_31 Hh_31 Lh_31 ph_31 Bh_31 => ?_)
          rw [ph_31] at Bh_31
          refine lv_istore (lv' := [(6, .int rh_31), (5, .ref bh_7), (0, .ref a0), (1, .int a1), (2, .int a2), (3, .int a3), (4, .int a4)]) hx hb dX11_tree_38 hl (by decide) rfl (fun ls hl => hp_n (n := 40) rfl ?_)
          refine lv_iload hx hb dX11_tree_40 (lv_at hl 0 rfl) (hp_n (n := 42) rfl ?_)
          refine lv_if_eq (tgt := 52) hx hb dX11_tree_42 (by decide) (fun c_32 => ?_) (fun c_32 => hp_n (n := 45) rfl ?_)
          ·
            have jc_32 := il_eq c_32
            refine lv_iload_n hx hb dX11_tree_52 rfl (lv_at hl 5 rfl) (hp_n (n := 53) rfl ?_)
            refine lv_iconst (v := 2) hx hb dX11_tree_53 (by decide) (hp_n (n := 54) rfl ?_)
            refine lv_iload_n hx hb dX11_tree_54 rfl (lv_at hl 4 rfl) (hp_n (n := 55) rfl ?_)
            refine lv_imul hx hb dX11_tree_55 (hp_n (n := 56) rfl (lv_topi (fun x_33 ex_33 => ?_)))
            refine lv_iconst (v := 2) hx hb dX11_tree_56 (by decide) (hp_n (n := 57) rfl ?_)
            refine lv_isub hx hb dX11_tree_57 (hp_n (n := 58) rfl (lv_topi (fun x_34 ex_34 => ?_)))
            refine lv_icmp_le (tgt := 67) hx hb dX11_tree_58 (by decide) (fun c_35 => ?_) (fun c_35 => hp_n (n := 61) rfl ?_)
            ·
              have jc_35 := il_le c_35
              refine lv_aload_n hx hb dX11_tree_67 rfl (lv_at hl 2 rfl) (hp_n (n := 68) rfl ?_)
              refine q_getr (κ := 12) (k := 12) (φ := 612) (pc' := 71) C Bh_31 (cw_k Bh_31.2.2 k0) fl_X11_62 rfl rfl rfl (cw_r Bh_31.2.2 k0 rfl rfl (by decide) (by decide)) dX11_tree_68 rfl (fun b_36 eb_36 kb_36 => ?_)
              refine lv_iload_n hx hb dX11_tree_71 rfl (lv_at hl 5 rfl) (hp_n (n := 72) rfl ?_)
              refine lv_iload_n hx hb dX11_tree_72 rfl (lv_at hl 4 rfl) (hp_n (n := 73) rfl ?_)
              refine q_cv (pc' := 76) Bh_31 (hp_runV (As := [.int a3, .int a2]) (rest := []) C Bh_31 (t_X8_toTree Γ l α Bh_31.2.2.1 b_36 (cw_k Bh_31.2.2 kb_36) a3 a2) lb_X8_toTree lv_X8_toTree lk_X11_330 (cw_k Bh_31.2.2 kb_36) rfl (by decide) rfl hl.1 rfl (Nat.le_of_ble_eq_true rfl) dX11_tree_73 ⟨Nat.le_refl _, Nat.le_refl _⟩) (fun _ h => cw_tr Bh_31.2.2 h (by decide)) rfl (fun αh_37 Hh_37 Lh_37 ph_37 Bh_37 => ?_)
              refine lv_iload hx hb dX11_tree_76 (lv_at hl 6 rfl) (hp_n (n := 78) rfl ?_)
              refine lv_if_ne (tgt := 94) hx hb dX11_tree_78 (by decide) (fun c_38 => ?_) (fun c_38 => hp_n (n := 81) rfl ?_)
              ·
                have jc_38 := il_ne c_38
                refine lv_aload_n hx hb dX11_tree_94 rfl (lv_at hl 2 rfl) (hp_n (n := 95) rfl ?_)
                refine lv_iload hx hb dX11_tree_95 (lv_at hl 6 rfl) (hp_n (n := 97) rfl ?_)
                refine lv_iconst (v := 1) hx hb dX11_tree_97 (by decide) (hp_n (n := 98) rfl ?_)
                refine lv_icmp_ne (tgt := 112) hx hb dX11_tree_98 (by decide) (fun c_39 => ?_) (fun c_39 => hp_n (n := 101) rfl ?_)
                ·
                  have jc_39 := il_ne c_39
                  refine lv_aload_n hx hb dX11_tree_112 rfl (lv_at hl 2 rfl) (hp_n (n := 113) rfl ?_)
                  have t_40 : b_6 = hp_R αh_37 601 a0 := by rw [cw_R ph_37 a0 (by decide)]; exact eb_6
                  refine q_gets (κ := 12) (k := 1) (φ := 601) (pc' := 116) C Bh_37 (cw_k Bh_37.2.2 k0) fl_X11_16 rfl rfl rfl t_40 dX11_tree_113 rfl ?_
                  refine lv_aload hx hb dX11_tree_116 (lv_at hl 1 rfl) (hp_n (n := 118) rfl ?_)
                  refine lv_aload_n hx hb dX11_tree_118 rfl (lv_at hl 2 rfl) (hp_n (n := 119) rfl ?_)
                  have t_41 : b_36 = hp_R αh_37 612 a0 := by rw [cw_R ph_37 a0 (by decide)]; exact eb_36
                  refine q_gets (κ := 12) (k := 12) (φ := 612) (pc' := 122) C Bh_37 (cw_k Bh_37.2.2 k0) fl_X11_62 rfl rfl rfl t_41 dX11_tree_119 rfl ?_
                  refine lv_iconst (v := 0) hx hb dX11_tree_122 (by decide) (hp_n (n := 123) rfl ?_)
                  refine q_ci (pc' := 126) Bh_37 (hp_runV (As := [.int 0]) (rest := [.ref bh_7, .ref b_6, .ref a0]) C Bh_37 (t_X8_firstAt Γ l αh_37 Bh_37.2.2.1 b_36 (cw_k Bh_37.2.2 kb_36) 0) lb_X8_firstAt lv_X8_firstAt lk_X11_333 (cw_k Bh_37.2.2 kb_36) rfl (by decide) rfl hl.1 rfl (Nat.le_of_ble_eq_true rfl) dX11_tree_123 ⟨Nat.le_refl _, Nat.le_refl _⟩) (fun _ _ h => by rw [h]; exact Bh_37.2.2) rfl (fun rh_42 αh_42 Hh_42 Lh_42 ph_42 Bh_42 => ?_)
                  rw [ph_42] at Bh_42
                  refine lv_aload_n hx hb dX11_tree_126 rfl (lv_at hl 2 rfl) (hp_n (n := 127) rfl ?_)
                  refine q_gets (κ := 12) (k := 12) (φ := 612) (pc' := 130) C Bh_42 (cw_k Bh_42.2.2 k0) fl_X11_62 rfl rfl rfl t_41 dX11_tree_127 rfl ?_
                  refine lv_iconst (v := 0) hx hb dX11_tree_130 (by decide) (hp_n (n := 131) rfl ?_)
                  refine q_ci (pc' := 134) Bh_42 (hp_runV (As := [.int 0]) (rest := [.int rh_42, .ref bh_7, .ref b_6, .ref a0]) C Bh_42 (t_X8_manyAt Γ l αh_37 Bh_42.2.2.1 b_36 (cw_k Bh_42.2.2 kb_36) 0) lb_X8_manyAt lv_X8_manyAt lk_X11_336 (cw_k Bh_42.2.2 kb_36) rfl (by decide) rfl hl.1 rfl (Nat.le_of_ble_eq_true rfl) dX11_tree_131 ⟨Nat.le_refl _, Nat.le_refl _⟩) (fun _ _ h => by rw [h]; exact Bh_42.2.2) rfl (fun rh_43 αh_43 Hh_43 Lh_43 ph_43 Bh_43 => ?_)
                  rw [ph_43] at Bh_43
                  refine q_ci (pc' := 137) Bh_43 (hp_runV (As := [va_rf (some bh_7), .int rh_42, .int rh_43]) (rest := [.ref a0]) C Bh_43 (t_X10_treeMark Γ l αh_37 Bh_43.2.2.1 b_6 (cw_k Bh_43.2.2 kb_6) (some bh_7) (fun b h => by cases h; exact (cw_k Bh_43.2.2 kbh_7)) rh_42 rh_43) lb_X10_treeMark lv_X10_treeMark lk_X11_339 (cw_k Bh_43.2.2 kb_6) rfl (by decide) rfl hl.1 rfl (Nat.le_of_ble_eq_true rfl) dX11_tree_134 ⟨Nat.le_refl _, Nat.le_refl _⟩) (fun _ _ h => cw_tr Bh_43.2.2 h (by decide)) rfl (fun rh_44 αh_44 Hh_44 Lh_44 ph_44 Bh_44 => ?_)
                  refine q_ci (pc' := 140) Bh_44 (hp_runV (As := [.int rh_44]) (rest := []) C Bh_44 (t_X11_answer Γ l αh_44 Bh_44.2.2.1 a0 (cw_k Bh_44.2.2 k0) rh_44) lb_X11_answer lv_X11_answer lk_X11_115 (cw_k Bh_44.2.2 k0) rfl (by decide) rfl hl.1 rfl (Nat.le_of_ble_eq_true rfl) dX11_tree_137 ⟨Nat.le_refl _, Nat.le_refl _⟩) (fun _ _ h => cw_tr Bh_44.2.2 h (by decide)) rfl (fun rh_45 αh_45 Hh_45 Lh_45 ph_45 Bh_45 => ?_)
                  exact q_iret C Bh_45 hr hlk Bh_45.2.2 dX11_tree_140
                ·
                  have jc_39 := il_eq c_39
                  refine lv_aload_n hx hb dX11_tree_101 rfl (lv_at hl 2 rfl) (hp_n (n := 102) rfl ?_)
                  have t_46 : b_36 = hp_R αh_37 612 a0 := by rw [cw_R ph_37 a0 (by decide)]; exact eb_36
                  refine q_gets (κ := 12) (k := 12) (φ := 612) (pc' := 105) C Bh_37 (cw_k Bh_37.2.2 k0) fl_X11_62 rfl rfl rfl t_46 dX11_tree_102 rfl ?_
                  refine lv_iconst (v := 0) hx hb dX11_tree_105 (by decide) (hp_n (n := 106) rfl ?_)
                  refine q_ci (pc' := 109) Bh_37 (hp_runV (As := [.int 0]) (rest := [.ref a0]) C Bh_37 (t_X8_manyAt Γ l αh_37 Bh_37.2.2.1 b_36 (cw_k Bh_37.2.2 kb_36) 0) lb_X8_manyAt lv_X8_manyAt lk_X11_336 (cw_k Bh_37.2.2 kb_36) rfl (by decide) rfl hl.1 rfl (Nat.le_of_ble_eq_true rfl) dX11_tree_106 ⟨Nat.le_refl _, Nat.le_refl _⟩) (fun _ _ h => by rw [h]; exact Bh_37.2.2) rfl (fun rh_47 αh_47 Hh_47 Lh_47 ph_47 Bh_47 => ?_)
                  rw [ph_47] at Bh_47
                  refine lv_goto (tgt := 137) hx hb dX11_tree_109 (by decide) ?_
                  refine q_ci (pc' := 140) Bh_47 (hp_runV (As := [.int rh_47]) (rest := []) C Bh_47 (t_X11_answer Γ l αh_37 Bh_47.2.2.1 a0 (cw_k Bh_47.2.2 k0) rh_47) lb_X11_answer lv_X11_answer lk_X11_115 (cw_k Bh_47.2.2 k0) rfl (by decide) rfl hl.1 rfl (Nat.le_of_ble_eq_true rfl) dX11_tree_137 ⟨Nat.le_refl _, Nat.le_refl _⟩) (fun _ _ h => cw_tr Bh_47.2.2 h (by decide)) rfl (fun rh_48 αh_48 Hh_48 Lh_48 ph_48 Bh_48 => ?_)
                  exact q_iret C Bh_48 hr hlk Bh_48.2.2 dX11_tree_140
              ·
                have jc_38 := il_eq c_38
                refine lv_aload_n hx hb dX11_tree_81 rfl (lv_at hl 2 rfl) (hp_n (n := 82) rfl ?_)
                refine lv_aload_n hx hb dX11_tree_82 rfl (lv_at hl 2 rfl) (hp_n (n := 83) rfl ?_)
                have t_49 : b_36 = hp_R αh_37 612 a0 := by rw [cw_R ph_37 a0 (by decide)]; exact eb_36
                refine q_gets (κ := 12) (k := 12) (φ := 612) (pc' := 86) C Bh_37 (cw_k Bh_37.2.2 k0) fl_X11_62 rfl rfl rfl t_49 dX11_tree_83 rfl ?_
                refine lv_iconst (v := 0) hx hb dX11_tree_86 (by decide) (hp_n (n := 87) rfl ?_)
                refine q_ci (pc' := 90) Bh_37 (hp_runV (As := [.int 0]) (rest := [.ref a0]) C Bh_37 (t_X8_firstAt Γ l αh_37 Bh_37.2.2.1 b_36 (cw_k Bh_37.2.2 kb_36) 0) lb_X8_firstAt lv_X8_firstAt lk_X11_333 (cw_k Bh_37.2.2 kb_36) rfl (by decide) rfl hl.1 rfl (Nat.le_of_ble_eq_true rfl) dX11_tree_87 ⟨Nat.le_refl _, Nat.le_refl _⟩) (fun _ _ h => by rw [h]; exact Bh_37.2.2) rfl (fun rh_50 αh_50 Hh_50 Lh_50 ph_50 Bh_50 => ?_)
                rw [ph_50] at Bh_50
                refine q_ci (pc' := 93) Bh_50 (hp_runV (As := [.int rh_50]) (rest := []) C Bh_50 (t_X11_answer Γ l αh_37 Bh_50.2.2.1 a0 (cw_k Bh_50.2.2 k0) rh_50) lb_X11_answer lv_X11_answer lk_X11_115 (cw_k Bh_50.2.2 k0) rfl (by decide) rfl hl.1 rfl (Nat.le_of_ble_eq_true rfl) dX11_tree_90 ⟨Nat.le_refl _, Nat.le_refl _⟩) (fun _ _ h => cw_tr Bh_50.2.2 h (by decide)) rfl (fun rh_51 αh_51 Hh_51 Lh_51 ph_51 Bh_51 => ?_)
                exact q_iret C Bh_51 hr hlk Bh_51.2.2 dX11_tree_93
            ·
              have jc_35 := il_nle c_35
              refine lv_aload_n hx hb dX11_tree_61 rfl (lv_at hl 2 rfl) (hp_n (n := 62) rfl ?_)
              refine lv_iconst (v := 5) hx hb dX11_tree_62 (by decide) (hp_n (n := 63) rfl ?_)
              refine q_ci (pc' := 66) Bh_31 (hp_runV (As := [.int 5]) (rest := []) C Bh_31 (t_X11_refuse Γ l α Bh_31.2.2.1 a0 (cw_k Bh_31.2.2 k0) 5) lb_X11_refuse lv_X11_refuse lk_X11_98 (cw_k Bh_31.2.2 k0) rfl (by decide) rfl hl.1 rfl (Nat.le_of_ble_eq_true rfl) dX11_tree_63 ⟨Nat.le_refl _, Nat.le_refl _⟩) (fun _ _ h => cw_tr Bh_31.2.2 h (by decide)) rfl (fun rh_52 αh_52 Hh_52 Lh_52 ph_52 Bh_52 => ?_)
              exact q_iret C Bh_52 hr hlk Bh_52.2.2 dX11_tree_66
          ·
            have jc_32 := il_ne c_32
            refine lv_aload_n hx hb dX11_tree_45 rfl (lv_at hl 2 rfl) (hp_n (n := 46) rfl ?_)
            refine lv_iload hx hb dX11_tree_46 (lv_at hl 0 rfl) (hp_n (n := 48) rfl ?_)
            refine q_ci (pc' := 51) Bh_31 (hp_runV (As := [.int rh_31]) (rest := []) C Bh_31 (t_X11_refuse Γ l α Bh_31.2.2.1 a0 (cw_k Bh_31.2.2 k0) rh_31) lb_X11_refuse lv_X11_refuse lk_X11_98 (cw_k Bh_31.2.2 k0) rfl (by decide) rfl hl.1 rfl (Nat.le_of_ble_eq_true rfl) dX11_tree_48 ⟨Nat.le_refl _, Nat.le_refl _⟩) (fun _ _ h => cw_tr Bh_31.2.2 h (by decide)) rfl (fun rh_53 αh_53 Hh_53 Lh_53 ph_53 Bh_53 => ?_)
            exact q_iret C Bh_53 hr hlk Bh_53.2.2 dX11_tree_51
      ·
        have jc_5 := il_nle c_5
        exact J15 s.heap [] B ls (lv_sub hl [0] rfl)
abbrev w_X11_proves : cw_W := ([301, 453, 454, 600], [], [20, 21, 22, 23, 33], [])
set_option maxRecDepth 100000 in
set_option maxHeartbeats 4000000 in
theorem t_X11_proves (Γ : hp_G) (l : Launch) (α : hp_T) (g : GC α) (a0 : Nat) (k0 : hp_K α a0 = 12) (a1 : Int32) (a2 : Int32) : Met l yX11_proves (hp_ws yX11_proves cX11_proves 6 (some .int)) (hp_rm 6 0 0) (hp_Pc Γ α [.ref a0, .int a1, .int a2]) (hp_Qi Γ (fun r β => cw w_X11_proves α β)) 0 0 (hp_A Γ) := by
  refine hp_start (by decide) ?_
  intro p e s m below meth c C hr hlk B0 hnm
  have C : hp_C Γ p m c cX11_proves 6 s ([.ref a0, .int a1, .int a2] : List Value).toArray RX11 := C
  have hx := C.1.1
  have hb := C.1.2.1
  have hown := C.1.2.2.2.1
  have hts := C.1.2.2.2.2
  have B : hp_B Γ (cw w_X11_proves) s α α s.heap [] := ⟨B0.1, B0.2.1, cw_rf g⟩
  have lit0 : (0 : Int32).toInt = 0 := by decide
  have lit1 : (1 : Int32).toInt = 1 := by decide
  have lit5 : (5 : Int32).toInt = 5 := by decide
  have hl := lv_entry ([.ref a0, .int a1, .int a2]) (n := 6) (Nat.le_of_ble_eq_true rfl)
  show W p l e (hp_rm 6 0 0) s m ([.ref a0, .int a1, .int a2] : List Value).toArray below meth c s.heap [] 0 0 (MQ below (hp_Qi Γ (fun r β => cw w_X11_proves α β)) ([.ref a0, .int a1, .int a2] : List Value).toArray s 0 0 (hp_A Γ)) (entryFrame m ([.ref a0, .int a1, .int a2] : List Value).toArray 6)
  rw [lg_entry_eq]
  generalize (lg_sl ([.ref a0, .int a1, .int a2]) ++ List.replicate (6 - (lg_sl ([.ref a0, .int a1, .int a2])).length) Slot.unset).toArray = ls at hl ⊢
  have hl : lv_has ls 6 [(0, .ref a0), (1, .int a1), (2, .int a2)] := hl
  refine lv_iload_n hx hb dX11_proves_0 rfl (lv_at hl 1 rfl) (hp_n (n := 1) rfl ?_)
  have J8 : ∀ (Hh_1 : Heap) (Lh_1 : List Loc) (Bh_1 : hp_B Γ (cw w_X11_proves) s α α Hh_1 Lh_1) (ls : Array Slot) (hl : lv_has ls 6 [(0, .ref a0)]), W p l e (hp_rm 6 0 0) s m ([.ref a0, .int a1, .int a2] : List Value).toArray below meth c Hh_1 Lh_1 0 0 (MQ below (hp_Qi Γ (fun r β => cw w_X11_proves α β)) ([.ref a0, .int a1, .int a2] : List Value).toArray s 0 0 (hp_A Γ)) (F0 m 8 ls []) := by
    intro Hh_1 Lh_1 Bh_1 ls hl
    refine lv_aload_n hx hb dX11_proves_8 rfl (lv_at hl 0 rfl) (hp_n (n := 9) rfl ?_)
    refine lv_iconst (v := 1) hx hb dX11_proves_9 (by decide) (hp_n (n := 10) rfl ?_)
    refine q_ci (pc' := 13) Bh_1 (hp_runV (As := [.int 1]) (rest := []) C Bh_1 (t_X11_refuse Γ l α Bh_1.2.2.1 a0 (cw_k Bh_1.2.2 k0) 1) lb_X11_refuse lv_X11_refuse lk_X11_98 (cw_k Bh_1.2.2 k0) rfl (by decide) rfl hl.1 rfl (Nat.le_of_ble_eq_true rfl) dX11_proves_10 ⟨Nat.le_refl _, Nat.le_refl _⟩) (fun _ _ h => cw_tr Bh_1.2.2 h (by decide)) rfl (fun rh_2 αh_2 Hh_2 Lh_2 ph_2 Bh_2 => ?_)
    exact q_iret C Bh_2 hr hlk Bh_2.2.2 dX11_proves_13
  refine lv_if_lt (tgt := 8) hx hb dX11_proves_1 (by decide) (fun c_3 => ?_) (fun c_3 => hp_n (n := 4) rfl ?_)
  ·
    have jc_3 := il_lt c_3
    exact J8 s.heap [] B ls (lv_sub hl [0] rfl)
  ·
    have jc_3 := il_nlt c_3
    refine lv_iload_n hx hb dX11_proves_4 rfl (lv_at hl 2 rfl) (hp_n (n := 5) rfl ?_)
    refine lv_if_ge (tgt := 14) hx hb dX11_proves_5 (by decide) (fun c_4 => ?_) (fun c_4 => hp_n (n := 8) rfl ?_)
    ·
      have jc_4 := il_le c_4
      refine lv_aload_n hx hb dX11_proves_14 rfl (lv_at hl 0 rfl) (hp_n (n := 15) rfl ?_)
      refine q_getr (κ := 12) (k := 1) (φ := 601) (pc' := 18) C B (cw_k B.2.2 k0) fl_X11_16 rfl rfl rfl (cw_r B.2.2 k0 rfl rfl (by decide) (by decide)) dX11_proves_15 rfl (fun b_5 eb_5 kb_5 => ?_)
      refine lv_iload_n hx hb dX11_proves_18 rfl (lv_at hl 1 rfl) (hp_n (n := 19) rfl ?_)
      refine q_cq (pc' := 22) B (hp_runV (As := [.int a1]) (rest := []) C B (t_X10_frozenAt Γ l α B.2.2.1 b_5 (cw_k B.2.2 kb_5) a1) lb_X10_frozenAt lv_X10_frozenAt lk_X11_198 (cw_k B.2.2 kb_5) rfl (by decide) rfl hl.1 rfl (Nat.le_of_ble_eq_true rfl) dX11_proves_19 ⟨Nat.le_refl _, Nat.le_refl _⟩) (fun _ _ h => by rw [h.1]; exact B.2.2) rfl (fun rh_6 αh_6 Hh_6 Lh_6 ph_6 Bh_6 => ?_)
      rw [ph_6.1] at Bh_6
      rcases rh_6 with _ | bh_6
      ·
        refine lv_astore_nN (lv' := [(3, .null), (0, .ref a0), (1, .int a1), (2, .int a2)]) hx hb dX11_proves_22 rfl hl (by decide) rfl (fun ls hl => hp_n (n := 23) rfl ?_)
        refine lv_aload_n hx hb dX11_proves_23 rfl (lv_at hl 1 rfl) (hp_n (n := 24) rfl ?_)
        refine q_gets (κ := 12) (k := 1) (φ := 601) (pc' := 27) C Bh_6 (cw_k Bh_6.2.2 k0) fl_X11_16 rfl rfl rfl eb_5 dX11_proves_24 rfl ?_
        refine lv_iload_n hx hb dX11_proves_27 rfl (lv_at hl 3 rfl) (hp_n (n := 28) rfl ?_)
        refine q_cq (pc' := 31) Bh_6 (hp_runV (As := [.int a2]) (rest := []) C Bh_6 (t_X10_frozenAt Γ l α Bh_6.2.2.1 b_5 (cw_k Bh_6.2.2 kb_5) a2) lb_X10_frozenAt lv_X10_frozenAt lk_X11_198 (cw_k Bh_6.2.2 kb_5) rfl (by decide) rfl hl.1 rfl (Nat.le_of_ble_eq_true rfl) dX11_proves_28 ⟨Nat.le_refl _, Nat.le_refl _⟩) (fun _ _ h => by rw [h.1]; exact Bh_6.2.2) rfl (fun rh_7 αh_7 Hh_7 Lh_7 ph_7 Bh_7 => ?_)
        rw [ph_7.1] at Bh_7
        rcases rh_7 with _ | bh_7
        ·
          refine lv_astoreN (lv' := [(4, .null), (3, .null), (0, .ref a0), (1, .int a1), (2, .int a2)]) hx hb dX11_proves_31 hl (by decide) rfl (fun ls hl => hp_n (n := 33) rfl ?_)
          refine lv_aload_nN hx hb dX11_proves_33 rfl (lv_at hl 1 rfl) (hp_n (n := 34) rfl ?_)
          have J54 : ∀ (Hh_8 : Heap) (Lh_8 : List Loc) (Bh_8 : hp_B Γ (cw w_X11_proves) s α α Hh_8 Lh_8) (ls : Array Slot) (hl : lv_has ls 6 [(0, .ref a0)]), W p l e (hp_rm 6 0 0) s m ([.ref a0, .int a1, .int a2] : List Value).toArray below meth c Hh_8 Lh_8 0 0 (MQ below (hp_Qi Γ (fun r β => cw w_X11_proves α β)) ([.ref a0, .int a1, .int a2] : List Value).toArray s 0 0 (hp_A Γ)) (F0 m 54 ls []) := by
            intro Hh_8 Lh_8 Bh_8 ls hl
            refine lv_aload_n hx hb dX11_proves_54 rfl (lv_at hl 0 rfl) (hp_n (n := 55) rfl ?_)
            refine lv_iconst (v := 5) hx hb dX11_proves_55 (by decide) (hp_n (n := 56) rfl ?_)
            refine q_ci (pc' := 59) Bh_8 (hp_runV (As := [.int 5]) (rest := []) C Bh_8 (t_X11_refuse Γ l α Bh_8.2.2.1 a0 (cw_k Bh_8.2.2 k0) 5) lb_X11_refuse lv_X11_refuse lk_X11_98 (cw_k Bh_8.2.2 k0) rfl (by decide) rfl hl.1 rfl (Nat.le_of_ble_eq_true rfl) dX11_proves_56 ⟨Nat.le_refl _, Nat.le_refl _⟩) (fun _ _ h => cw_tr Bh_8.2.2 h (by decide)) rfl (fun rh_9 αh_9 Hh_9 Lh_9 ph_9 Bh_9 => ?_)
            exact q_iret C Bh_9 hr hlk Bh_9.2.2 dX11_proves_59
          refine lv_ifnullN (tgt := 54) hx hb dX11_proves_34 (by decide) ?_
          exact J54 Hh_7 Lh_7 Bh_7 ls (lv_sub hl [2] rfl)
        ·
          have kbh_7 : hp_K α bh_7 = 2 := cw_k' Bh_7.2.2 (ph_7.2 bh_7 rfl)
          refine lv_astore (lv' := [(4, .ref bh_7), (3, .null), (0, .ref a0), (1, .int a1), (2, .int a2)]) hx hb dX11_proves_31 hl (by decide) rfl (fun ls hl => hp_n (n := 33) rfl ?_)
          refine lv_aload_nN hx hb dX11_proves_33 rfl (lv_at hl 1 rfl) (hp_n (n := 34) rfl ?_)
          have J54 : ∀ (Hh_10 : Heap) (Lh_10 : List Loc) (Bh_10 : hp_B Γ (cw w_X11_proves) s α α Hh_10 Lh_10) (ls : Array Slot) (hl : lv_has ls 6 [(0, .ref a0)]), W p l e (hp_rm 6 0 0) s m ([.ref a0, .int a1, .int a2] : List Value).toArray below meth c Hh_10 Lh_10 0 0 (MQ below (hp_Qi Γ (fun r β => cw w_X11_proves α β)) ([.ref a0, .int a1, .int a2] : List Value).toArray s 0 0 (hp_A Γ)) (F0 m 54 ls []) := by
            intro Hh_10 Lh_10 Bh_10 ls hl
            refine lv_aload_n hx hb dX11_proves_54 rfl (lv_at hl 0 rfl) (hp_n (n := 55) rfl ?_)
            refine lv_iconst (v := 5) hx hb dX11_proves_55 (by decide) (hp_n (n := 56) rfl ?_)
            refine q_ci (pc' := 59) Bh_10 (hp_runV (As := [.int 5]) (rest := []) C Bh_10 (t_X11_refuse Γ l α Bh_10.2.2.1 a0 (cw_k Bh_10.2.2 k0) 5) lb_X11_refuse lv_X11_refuse lk_X11_98 (cw_k Bh_10.2.2 k0) rfl (by decide) rfl hl.1 rfl (Nat.le_of_ble_eq_true rfl) dX11_proves_56 ⟨Nat.le_refl _, Nat.le_refl _⟩) (fun _ _ h => cw_tr Bh_10.2.2 h (by decide)) rfl (fun rh_11 αh_11 Hh_11 Lh_11 ph_11 Bh_11 => ?_)
            exact q_iret C Bh_11 hr hlk Bh_11.2.2 dX11_proves_59
          refine lv_ifnullN (tgt := 54) hx hb dX11_proves_34 (by decide) ?_
          exact J54 Hh_7 Lh_7 Bh_7 ls (lv_sub hl [2] rfl)
      ·
        have kbh_6 : hp_K α bh_6 = 2 := cw_k' Bh_6.2.2 (ph_6.2 bh_6 rfl)
        refine lv_astore_n (lv' := [(3, .ref bh_6), (0, .ref a0), (1, .int a1), (2, .int a2)]) hx hb dX11_proves_22 rfl hl (by decide) rfl (fun ls hl => hp_n (n := 23) rfl ?_)
        refine lv_aload_n hx hb dX11_proves_23 rfl (lv_at hl 1 rfl) (hp_n (n := 24) rfl ?_)
        refine q_gets (κ := 12) (k := 1) (φ := 601) (pc' := 27) C Bh_6 (cw_k Bh_6.2.2 k0) fl_X11_16 rfl rfl rfl eb_5 dX11_proves_24 rfl ?_
        refine lv_iload_n hx hb dX11_proves_27 rfl (lv_at hl 3 rfl) (hp_n (n := 28) rfl ?_)
        refine q_cq (pc' := 31) Bh_6 (hp_runV (As := [.int a2]) (rest := []) C Bh_6 (t_X10_frozenAt Γ l α Bh_6.2.2.1 b_5 (cw_k Bh_6.2.2 kb_5) a2) lb_X10_frozenAt lv_X10_frozenAt lk_X11_198 (cw_k Bh_6.2.2 kb_5) rfl (by decide) rfl hl.1 rfl (Nat.le_of_ble_eq_true rfl) dX11_proves_28 ⟨Nat.le_refl _, Nat.le_refl _⟩) (fun _ _ h => by rw [h.1]; exact Bh_6.2.2) rfl (fun rh_12 αh_12 Hh_12 Lh_12 ph_12 Bh_12 => ?_)
        rw [ph_12.1] at Bh_12
        rcases rh_12 with _ | bh_12
        ·
          refine lv_astoreN (lv' := [(4, .null), (3, .ref bh_6), (0, .ref a0), (1, .int a1), (2, .int a2)]) hx hb dX11_proves_31 hl (by decide) rfl (fun ls hl => hp_n (n := 33) rfl ?_)
          refine lv_aload_n hx hb dX11_proves_33 rfl (lv_at hl 1 rfl) (hp_n (n := 34) rfl ?_)
          have J54 : ∀ (Hh_13 : Heap) (Lh_13 : List Loc) (Bh_13 : hp_B Γ (cw w_X11_proves) s α α Hh_13 Lh_13) (ls : Array Slot) (hl : lv_has ls 6 [(0, .ref a0)]), W p l e (hp_rm 6 0 0) s m ([.ref a0, .int a1, .int a2] : List Value).toArray below meth c Hh_13 Lh_13 0 0 (MQ below (hp_Qi Γ (fun r β => cw w_X11_proves α β)) ([.ref a0, .int a1, .int a2] : List Value).toArray s 0 0 (hp_A Γ)) (F0 m 54 ls []) := by
            intro Hh_13 Lh_13 Bh_13 ls hl
            refine lv_aload_n hx hb dX11_proves_54 rfl (lv_at hl 0 rfl) (hp_n (n := 55) rfl ?_)
            refine lv_iconst (v := 5) hx hb dX11_proves_55 (by decide) (hp_n (n := 56) rfl ?_)
            refine q_ci (pc' := 59) Bh_13 (hp_runV (As := [.int 5]) (rest := []) C Bh_13 (t_X11_refuse Γ l α Bh_13.2.2.1 a0 (cw_k Bh_13.2.2 k0) 5) lb_X11_refuse lv_X11_refuse lk_X11_98 (cw_k Bh_13.2.2 k0) rfl (by decide) rfl hl.1 rfl (Nat.le_of_ble_eq_true rfl) dX11_proves_56 ⟨Nat.le_refl _, Nat.le_refl _⟩) (fun _ _ h => cw_tr Bh_13.2.2 h (by decide)) rfl (fun rh_14 αh_14 Hh_14 Lh_14 ph_14 Bh_14 => ?_)
            exact q_iret C Bh_14 hr hlk Bh_14.2.2 dX11_proves_59
          refine lv_ifnull hx hb dX11_proves_34 (hp_n (n := 37) rfl ?_)
          refine lv_aloadN hx hb dX11_proves_37 (lv_at hl 0 rfl) (hp_n (n := 39) rfl ?_)
          refine lv_ifnullN (tgt := 54) hx hb dX11_proves_39 (by decide) ?_
          exact J54 Hh_12 Lh_12 Bh_12 ls (lv_sub hl [2] rfl)
        ·
          have kbh_12 : hp_K α bh_12 = 2 := cw_k' Bh_12.2.2 (ph_12.2 bh_12 rfl)
          refine lv_astore (lv' := [(4, .ref bh_12), (3, .ref bh_6), (0, .ref a0), (1, .int a1), (2, .int a2)]) hx hb dX11_proves_31 hl (by decide) rfl (fun ls hl => hp_n (n := 33) rfl ?_)
          refine lv_aload_n hx hb dX11_proves_33 rfl (lv_at hl 1 rfl) (hp_n (n := 34) rfl ?_)
          have J54 : ∀ (Hh_15 : Heap) (Lh_15 : List Loc) (Bh_15 : hp_B Γ (cw w_X11_proves) s α α Hh_15 Lh_15) (ls : Array Slot) (hl : lv_has ls 6 [(0, .ref a0)]), W p l e (hp_rm 6 0 0) s m ([.ref a0, .int a1, .int a2] : List Value).toArray below meth c Hh_15 Lh_15 0 0 (MQ below (hp_Qi Γ (fun r β => cw w_X11_proves α β)) ([.ref a0, .int a1, .int a2] : List Value).toArray s 0 0 (hp_A Γ)) (F0 m 54 ls []) := by
            intro Hh_15 Lh_15 Bh_15 ls hl
            refine lv_aload_n hx hb dX11_proves_54 rfl (lv_at hl 0 rfl) (hp_n (n := 55) rfl ?_)
            refine lv_iconst (v := 5) hx hb dX11_proves_55 (by decide) (hp_n (n := 56) rfl ?_)
            refine q_ci (pc' := 59) Bh_15 (hp_runV (As := [.int 5]) (rest := []) C Bh_15 (t_X11_refuse Γ l α Bh_15.2.2.1 a0 (cw_k Bh_15.2.2 k0) 5) lb_X11_refuse lv_X11_refuse lk_X11_98 (cw_k Bh_15.2.2 k0) rfl (by decide) rfl hl.1 rfl (Nat.le_of_ble_eq_true rfl) dX11_proves_56 ⟨Nat.le_refl _, Nat.le_refl _⟩) (fun _ _ h => cw_tr Bh_15.2.2 h (by decide)) rfl (fun rh_16 αh_16 Hh_16 Lh_16 ph_16 Bh_16 => ?_)
            exact q_iret C Bh_16 hr hlk Bh_16.2.2 dX11_proves_59
          refine lv_ifnull hx hb dX11_proves_34 (hp_n (n := 37) rfl ?_)
          refine lv_aload hx hb dX11_proves_37 (lv_at hl 0 rfl) (hp_n (n := 39) rfl ?_)
          refine lv_ifnull hx hb dX11_proves_39 (hp_n (n := 42) rfl ?_)
          refine lv_aload_n hx hb dX11_proves_42 rfl (lv_at hl 1 rfl) (hp_n (n := 43) rfl ?_)
          refine q_geti (κ := 2) (k := 1) (φ := 101) (pc' := 46) C Bh_12 (cw_k Bh_12.2.2 kbh_6) fl_X11_207 rfl rfl rfl dX11_proves_43 rfl (fun x_17 ex_17 => ?_)
          refine lv_aload hx hb dX11_proves_46 (lv_at hl 0 rfl) (hp_n (n := 48) rfl ?_)
          refine q_geti (κ := 2) (k := 1) (φ := 101) (pc' := 51) C Bh_12 (cw_k Bh_12.2.2 kbh_12) fl_X11_207 rfl rfl rfl dX11_proves_48 rfl (fun x_18 ex_18 => ?_)
          refine lv_icmp_le (tgt := 60) hx hb dX11_proves_51 (by decide) (fun c_19 => ?_) (fun c_19 => hp_n (n := 54) rfl ?_)
          ·
            have jc_19 := il_le c_19
            refine lv_aload_n hx hb dX11_proves_60 rfl (lv_at hl 2 rfl) (hp_n (n := 61) rfl ?_)
            refine q_gets (κ := 12) (k := 1) (φ := 601) (pc' := 64) C Bh_12 (cw_k Bh_12.2.2 k0) fl_X11_16 rfl rfl rfl eb_5 dX11_proves_61 rfl ?_
            refine lv_aload hx hb dX11_proves_64 (lv_at hl 0 rfl) (hp_n (n := 66) rfl ?_)
            refine q_geti (κ := 2) (k := 0) (φ := 100) (pc' := 69) C Bh_12 (cw_k Bh_12.2.2 kbh_12) fl_X11_202 rfl rfl rfl dX11_proves_66 rfl (fun x_20 ex_20 => ?_)
            refine q_cq (pc' := 72) Bh_12 (hp_runV (As := [.int x_20]) (rest := []) C Bh_12 (t_X10_logAt Γ l α Bh_12.2.2.1 b_5 (cw_k Bh_12.2.2 kb_5) x_20) lb_X10_logAt lv_X10_logAt lk_X11_163 (cw_k Bh_12.2.2 kb_5) rfl (by decide) rfl hl.1 rfl (Nat.le_of_ble_eq_true rfl) dX11_proves_69 ⟨Nat.le_refl _, Nat.le_refl _⟩) (fun _ _ h => by rw [h.1]; exact Bh_12.2.2) rfl (fun rh_21 αh_21 Hh_21 Lh_21 ph_21 Bh_21 => ?_)
            rw [ph_21.1] at Bh_21
            rcases rh_21 with _ | bh_21
            ·
              refine lv_astoreN (lv' := [(5, .null), (4, .ref bh_12), (3, .ref bh_6), (0, .ref a0), (1, .int a1), (2, .int a2)]) hx hb dX11_proves_72 hl (by decide) rfl (fun ls hl => hp_n (n := 74) rfl ?_)
              refine lv_aload_n hx hb dX11_proves_74 rfl (lv_at hl 3 rfl) (hp_n (n := 75) rfl ?_)
              refine lv_aload_n hx hb dX11_proves_75 rfl (lv_at hl 3 rfl) (hp_n (n := 76) rfl ?_)
              refine q_gets (κ := 12) (k := 1) (φ := 601) (pc' := 79) C Bh_21 (cw_k Bh_21.2.2 k0) fl_X11_16 rfl rfl rfl eb_5 dX11_proves_76 rfl ?_
              refine lv_aloadN hx hb dX11_proves_79 (lv_at hl 0 rfl) (hp_n (n := 81) rfl ?_)
              refine lv_aload_n hx hb dX11_proves_81 rfl (lv_at hl 2 rfl) (hp_n (n := 82) rfl ?_)
              refine q_getj (κ := 2) (k := 1) (φ := 101) (pc' := 85) C Bh_21 (cw_k Bh_21.2.2 kbh_6) fl_X11_207 rfl rfl rfl ex_17 dX11_proves_82 rfl ?_
              refine lv_aload_n hx hb dX11_proves_85 rfl (lv_at hl 2 rfl) (hp_n (n := 86) rfl ?_)
              refine q_geti (κ := 2) (k := 2) (φ := 102) (pc' := 89) C Bh_21 (cw_k Bh_21.2.2 kbh_6) fl_X11_210 rfl rfl rfl dX11_proves_86 rfl (fun x_22 ex_22 => ?_)
              refine lv_aload hx hb dX11_proves_89 (lv_at hl 1 rfl) (hp_n (n := 91) rfl ?_)
              refine q_getj (κ := 2) (k := 1) (φ := 101) (pc' := 94) C Bh_21 (cw_k Bh_21.2.2 kbh_12) fl_X11_207 rfl rfl rfl ex_18 dX11_proves_91 rfl ?_
              refine lv_aload hx hb dX11_proves_94 (lv_at hl 1 rfl) (hp_n (n := 96) rfl ?_)
              refine q_geti (κ := 2) (k := 2) (φ := 102) (pc' := 99) C Bh_21 (cw_k Bh_21.2.2 kbh_12) fl_X11_210 rfl rfl rfl dX11_proves_96 rfl (fun x_23 ex_23 => ?_)
              refine q_ci (pc' := 102) Bh_21 (hp_runV (As := [va_rf none, .int x_17, .int x_22, .int x_18, .int x_23]) (rest := [.ref a0]) C Bh_21 (t_X10_whyGrown Γ l α Bh_21.2.2.1 b_5 (cw_k Bh_21.2.2 kb_5) none (fun b h => by cases h) x_17 x_22 x_18 x_23) lb_X10_whyGrown lv_X10_whyGrown lk_X11_342 (cw_k Bh_21.2.2 kb_5) rfl (by decide) rfl hl.1 rfl (Nat.le_of_ble_eq_true rfl) dX11_proves_99 ⟨Nat.le_refl _, Nat.le_refl _⟩) (fun _ _ h => cw_tr Bh_21.2.2 h (by decide)) rfl (fun rh_24 αh_24 Hh_24 Lh_24 ph_24 Bh_24 => ?_)
              refine q_ci (pc' := 105) Bh_24 (hp_runV (As := [.int rh_24]) (rest := []) C Bh_24 (t_X11_answer Γ l αh_24 Bh_24.2.2.1 a0 (cw_k Bh_24.2.2 k0) rh_24) lb_X11_answer lv_X11_answer lk_X11_115 (cw_k Bh_24.2.2 k0) rfl (by decide) rfl hl.1 rfl (Nat.le_of_ble_eq_true rfl) dX11_proves_102 ⟨Nat.le_refl _, Nat.le_refl _⟩) (fun _ _ h => cw_tr Bh_24.2.2 h (by decide)) rfl (fun rh_25 αh_25 Hh_25 Lh_25 ph_25 Bh_25 => ?_)
              exact q_iret C Bh_25 hr hlk Bh_25.2.2 dX11_proves_105
            ·
              have kbh_21 : hp_K α bh_21 = 3 := cw_k' Bh_21.2.2 (ph_21.2 bh_21 rfl)
              refine lv_astore (lv' := [(5, .ref bh_21), (4, .ref bh_12), (3, .ref bh_6), (0, .ref a0), (1, .int a1), (2, .int a2)]) hx hb dX11_proves_72 hl (by decide) rfl (fun ls hl => hp_n (n := 74) rfl ?_)
              refine lv_aload_n hx hb dX11_proves_74 rfl (lv_at hl 3 rfl) (hp_n (n := 75) rfl ?_)
              refine lv_aload_n hx hb dX11_proves_75 rfl (lv_at hl 3 rfl) (hp_n (n := 76) rfl ?_)
              refine q_gets (κ := 12) (k := 1) (φ := 601) (pc' := 79) C Bh_21 (cw_k Bh_21.2.2 k0) fl_X11_16 rfl rfl rfl eb_5 dX11_proves_76 rfl ?_
              refine lv_aload hx hb dX11_proves_79 (lv_at hl 0 rfl) (hp_n (n := 81) rfl ?_)
              refine lv_aload_n hx hb dX11_proves_81 rfl (lv_at hl 2 rfl) (hp_n (n := 82) rfl ?_)
              refine q_getj (κ := 2) (k := 1) (φ := 101) (pc' := 85) C Bh_21 (cw_k Bh_21.2.2 kbh_6) fl_X11_207 rfl rfl rfl ex_17 dX11_proves_82 rfl ?_
              refine lv_aload_n hx hb dX11_proves_85 rfl (lv_at hl 2 rfl) (hp_n (n := 86) rfl ?_)
              refine q_geti (κ := 2) (k := 2) (φ := 102) (pc' := 89) C Bh_21 (cw_k Bh_21.2.2 kbh_6) fl_X11_210 rfl rfl rfl dX11_proves_86 rfl (fun x_26 ex_26 => ?_)
              refine lv_aload hx hb dX11_proves_89 (lv_at hl 1 rfl) (hp_n (n := 91) rfl ?_)
              refine q_getj (κ := 2) (k := 1) (φ := 101) (pc' := 94) C Bh_21 (cw_k Bh_21.2.2 kbh_12) fl_X11_207 rfl rfl rfl ex_18 dX11_proves_91 rfl ?_
              refine lv_aload hx hb dX11_proves_94 (lv_at hl 1 rfl) (hp_n (n := 96) rfl ?_)
              refine q_geti (κ := 2) (k := 2) (φ := 102) (pc' := 99) C Bh_21 (cw_k Bh_21.2.2 kbh_12) fl_X11_210 rfl rfl rfl dX11_proves_96 rfl (fun x_27 ex_27 => ?_)
              refine q_ci (pc' := 102) Bh_21 (hp_runV (As := [va_rf (some bh_21), .int x_17, .int x_26, .int x_18, .int x_27]) (rest := [.ref a0]) C Bh_21 (t_X10_whyGrown Γ l α Bh_21.2.2.1 b_5 (cw_k Bh_21.2.2 kb_5) (some bh_21) (fun b h => by cases h; exact (cw_k Bh_21.2.2 kbh_21)) x_17 x_26 x_18 x_27) lb_X10_whyGrown lv_X10_whyGrown lk_X11_342 (cw_k Bh_21.2.2 kb_5) rfl (by decide) rfl hl.1 rfl (Nat.le_of_ble_eq_true rfl) dX11_proves_99 ⟨Nat.le_refl _, Nat.le_refl _⟩) (fun _ _ h => cw_tr Bh_21.2.2 h (by decide)) rfl (fun rh_28 αh_28 Hh_28 Lh_28 ph_28 Bh_28 => ?_)
              refine q_ci (pc' := 105) Bh_28 (hp_runV (As := [.int rh_28]) (rest := []) C Bh_28 (t_X11_answer Γ l αh_28 Bh_28.2.2.1 a0 (cw_k Bh_28.2.2 k0) rh_28) lb_X11_answer lv_X11_answer lk_X11_115 (cw_k Bh_28.2.2 k0) rfl (by decide) rfl hl.1 rfl (Nat.le_of_ble_eq_true rfl) dX11_proves_102 ⟨Nat.le_refl _, Nat.le_refl _⟩) (fun _ _ h => cw_tr Bh_28.2.2 h (by decide)) rfl (fun rh_29 αh_29 Hh_29 Lh_29 ph_29 Bh_29 => ?_)
              exact q_iret C Bh_29 hr hlk Bh_29.2.2 dX11_proves_105
          ·
            have jc_19 := il_nle c_19
            exact J54 Hh_12 Lh_12 Bh_12 ls (lv_sub hl [2] rfl)
    ·
      have jc_4 := il_nle c_4
      exact J8 s.heap [] B ls (lv_sub hl [0] rfl)
abbrev w_X11_longest : cw_W := ([453, 454, 600], [], [21, 22, 23], [])
set_option maxRecDepth 100000 in
set_option maxHeartbeats 4000000 in
theorem t_X11_longest (Γ : hp_G) (l : Launch) (α : hp_T) (g : GC α) (a0 : Nat) (k0 : hp_K α a0 = 12) (a1 : Int32) (a2 : Int32) : Met l yX11_longest (hp_ws yX11_longest cX11_longest 7 (some .int)) (hp_rm 4 0 0) (hp_Pc Γ α [.ref a0, .int a1, .int a2]) (hp_Qi Γ (fun r β => cw w_X11_longest α β)) 0 0 (hp_A Γ) := by
  refine hp_start (by decide) ?_
  intro p e s m below meth c C hr hlk B0 hnm
  have C : hp_C Γ p m c cX11_longest 7 s ([.ref a0, .int a1, .int a2] : List Value).toArray RX11 := C
  have hx := C.1.1
  have hb := C.1.2.1
  have hown := C.1.2.2.2.1
  have hts := C.1.2.2.2.2
  have B : hp_B Γ (cw w_X11_longest) s α α s.heap [] := ⟨B0.1, B0.2.1, cw_rf g⟩
  have lit0 : (0 : Int32).toInt = 0 := by decide
  have lit1 : (1 : Int32).toInt = 1 := by decide
  have lit2 : (2 : Int32).toInt = 2 := by decide
  have lit512 : (512 : Int32).toInt = 512 := by decide
  have hl := lv_entry ([.ref a0, .int a1, .int a2]) (n := 7) (Nat.le_of_ble_eq_true rfl)
  show W p l e (hp_rm 4 0 0) s m ([.ref a0, .int a1, .int a2] : List Value).toArray below meth c s.heap [] 0 0 (MQ below (hp_Qi Γ (fun r β => cw w_X11_longest α β)) ([.ref a0, .int a1, .int a2] : List Value).toArray s 0 0 (hp_A Γ)) (entryFrame m ([.ref a0, .int a1, .int a2] : List Value).toArray 7)
  rw [lg_entry_eq]
  generalize (lg_sl ([.ref a0, .int a1, .int a2]) ++ List.replicate (7 - (lg_sl ([.ref a0, .int a1, .int a2])).length) Slot.unset).toArray = ls at hl ⊢
  have hl : lv_has ls 7 [(0, .ref a0), (1, .int a1), (2, .int a2)] := hl
  refine lv_iload_n hx hb dX11_longest_0 rfl (lv_at hl 1 rfl) (hp_n (n := 1) rfl ?_)
  refine lv_iconst (v := 1) hx hb dX11_longest_1 (by decide) (hp_n (n := 2) rfl ?_)
  have J21 : ∀ (Hh_1 : Heap) (Lh_1 : List Loc) (Bh_1 : hp_B Γ (cw w_X11_longest) s α α Hh_1 Lh_1) (ls : Array Slot) (hl : lv_has ls 7 [(0, .ref a0)]), W p l e (hp_rm 4 0 0) s m ([.ref a0, .int a1, .int a2] : List Value).toArray below meth c Hh_1 Lh_1 0 0 (MQ below (hp_Qi Γ (fun r β => cw w_X11_longest α β)) ([.ref a0, .int a1, .int a2] : List Value).toArray s 0 0 (hp_A Γ)) (F0 m 21 ls []) := by
    intro Hh_1 Lh_1 Bh_1 ls hl
    refine lv_aload_n hx hb dX11_longest_21 rfl (lv_at hl 0 rfl) (hp_n (n := 22) rfl ?_)
    refine lv_iconst (v := 1) hx hb dX11_longest_22 (by decide) (hp_n (n := 23) rfl ?_)
    refine q_ci (pc' := 26) Bh_1 (hp_runV (As := [.int 1]) (rest := []) C Bh_1 (t_X11_refuse Γ l α Bh_1.2.2.1 a0 (cw_k Bh_1.2.2 k0) 1) lb_X11_refuse lv_X11_refuse lk_X11_98 (cw_k Bh_1.2.2 k0) rfl (by decide) rfl hl.1 rfl (Nat.le_of_ble_eq_true rfl) dX11_longest_23 ⟨Nat.le_refl _, Nat.le_refl _⟩) (fun _ _ h => cw_tr Bh_1.2.2 h (by decide)) rfl (fun rh_2 αh_2 Hh_2 Lh_2 ph_2 Bh_2 => ?_)
    exact q_iret C Bh_2 hr hlk Bh_2.2.2 dX11_longest_26
  refine lv_icmp_lt (tgt := 21) hx hb dX11_longest_2 (by decide) (fun c_3 => ?_) (fun c_3 => hp_n (n := 5) rfl ?_)
  ·
    have jc_3 := il_lt c_3
    exact J21 s.heap [] B ls (lv_sub hl [0] rfl)
  ·
    have jc_3 := il_nlt c_3
    refine lv_iload_n hx hb dX11_longest_5 rfl (lv_at hl 1 rfl) (hp_n (n := 6) rfl ?_)
    refine lv_sipush (v := 512) hx hb dX11_longest_6 (by decide) (hp_n (n := 9) rfl ?_)
    refine lv_icmp_gt (tgt := 21) hx hb dX11_longest_9 (by decide) (fun c_4 => ?_) (fun c_4 => hp_n (n := 12) rfl ?_)
    ·
      have jc_4 := il_lt c_4
      exact J21 s.heap [] B ls (lv_sub hl [0] rfl)
    ·
      have jc_4 := il_nlt c_4
      refine lv_iload_n hx hb dX11_longest_12 rfl (lv_at hl 2 rfl) (hp_n (n := 13) rfl ?_)
      refine lv_if_lt (tgt := 21) hx hb dX11_longest_13 (by decide) (fun c_5 => ?_) (fun c_5 => hp_n (n := 16) rfl ?_)
      ·
        have jc_5 := il_lt c_5
        exact J21 s.heap [] B ls (lv_sub hl [0] rfl)
      ·
        have jc_5 := il_nlt c_5
        refine lv_iload_n hx hb dX11_longest_16 rfl (lv_at hl 2 rfl) (hp_n (n := 17) rfl ?_)
        refine lv_iconst (v := 2) hx hb dX11_longest_17 (by decide) (hp_n (n := 18) rfl ?_)
        refine lv_icmp_le (tgt := 27) hx hb dX11_longest_18 (by decide) (fun c_6 => ?_) (fun c_6 => hp_n (n := 21) rfl ?_)
        ·
          have jc_6 := il_le c_6
          refine lv_iconst (v := 0) hx hb dX11_longest_27 (by decide) (hp_n (n := 28) rfl ?_)
          refine lv_istore_n (lv' := [(3, .int 0), (0, .ref a0), (1, .int a1), (2, .int a2)]) hx hb dX11_longest_28 rfl hl (by decide) rfl (fun ls hl => hp_n (n := 29) rfl ?_)
          refine lv_iconst (v := 0) hx hb dX11_longest_29 (by decide) (hp_n (n := 30) rfl ?_)
          refine lv_istore (lv' := [(4, .int 0), (3, .int 0), (0, .ref a0), (1, .int a1), (2, .int a2)]) hx hb dX11_longest_30 hl (by decide) rfl (fun ls hl => hp_n (n := 32) rfl ?_)
          refine lv_iconst (v := 0) hx hb dX11_longest_32 (by decide) (hp_n (n := 33) rfl ?_)
          refine lv_istore (lv' := [(5, .int 0), (4, .int 0), (3, .int 0), (0, .ref a0), (1, .int a1), (2, .int a2)]) hx hb dX11_longest_33 hl (by decide) rfl (fun ls hl => hp_n (n := 35) rfl ?_)
          refine lv_iconst (v := 0) hx hb dX11_longest_35 (by decide) (hp_n (n := 36) rfl ?_)
          have J38 : ∀ (nq : Nat) (αh_7 : hp_T) (Hh_7 : Heap) (Lh_7 : List Loc) (Bh_7 : hp_B Γ (cw w_X11_longest) s α αh_7 Hh_7 Lh_7) (v3_h_7 : Int32) (v4_h_7 : Int32) (v5_h_7 : Int32) (v6_h_7 : Int32) (ih_7_0 : 0 ≤ v6_h_7.toInt) (ls : Array Slot) (hl : lv_has ls 7 [(0, .ref a0), (1, .int a1), (2, .int a2), (3, .int v3_h_7), (4, .int v4_h_7), (5, .int v5_h_7), (6, .int v6_h_7)]) (hmu38 : (2147483647 - v6_h_7.toInt).toNat = nq), W p l e (hp_rm 4 0 0) s m ([.ref a0, .int a1, .int a2] : List Value).toArray below meth c Hh_7 Lh_7 0 0 (MQ below (hp_Qi Γ (fun r β => cw w_X11_longest α β)) ([.ref a0, .int a1, .int a2] : List Value).toArray s 0 0 (hp_A Γ)) (F0 m 38 ls []) := by
            intro nq
            induction nq using Nat.strongRecOn with
            | ind nq ih38 =>
            intro αh_7 Hh_7 Lh_7 Bh_7 v3_h_7 v4_h_7 v5_h_7 v6_h_7 ih_7_0 ls hl hmu38
            have inv38_0 := ih_7_0
            refine lv_iload hx hb dX11_longest_38 (lv_at hl 6 rfl) (hp_n (n := 40) rfl ?_)
            refine lv_iload_n hx hb dX11_longest_40 rfl (lv_at hl 1 rfl) (hp_n (n := 41) rfl ?_)
            refine lv_icmp_ge (tgt := 95) hx hb dX11_longest_41 (by decide) (fun c_8 => ?_) (fun c_8 => hp_n (n := 44) rfl ?_)
            ·
              have jc_8 := il_le c_8
              refine lv_iload_n hx hb dX11_longest_95 rfl (lv_at hl 2 rfl) (hp_n (n := 96) rfl ?_)
              refine lv_if_ne (tgt := 105) hx hb dX11_longest_96 (by decide) (fun c_9 => ?_) (fun c_9 => hp_n (n := 99) rfl ?_)
              ·
                have jc_9 := il_ne c_9
                refine lv_aload_n hx hb dX11_longest_105 rfl (lv_at hl 0 rfl) (hp_n (n := 106) rfl ?_)
                refine lv_iload_n hx hb dX11_longest_106 rfl (lv_at hl 2 rfl) (hp_n (n := 107) rfl ?_)
                refine lv_iconst (v := 1) hx hb dX11_longest_107 (by decide) (hp_n (n := 108) rfl ?_)
                refine lv_icmp_ne (tgt := 116) hx hb dX11_longest_108 (by decide) (fun c_10 => ?_) (fun c_10 => hp_n (n := 111) rfl ?_)
                ·
                  have jc_10 := il_ne c_10
                  refine lv_iload hx hb dX11_longest_116 (lv_at hl 5 rfl) (hp_n (n := 118) rfl ?_)
                  refine q_ci (pc' := 121) Bh_7 (hp_runV (As := [.int v5_h_7]) (rest := []) C Bh_7 (t_X11_answer Γ l αh_7 Bh_7.2.2.1 a0 (cw_k Bh_7.2.2 k0) v5_h_7) lb_X11_answer lv_X11_answer lk_X11_115 (cw_k Bh_7.2.2 k0) rfl (by decide) rfl hl.1 rfl (Nat.le_of_ble_eq_true rfl) dX11_longest_118 ⟨Nat.le_refl _, Nat.le_refl _⟩) (fun _ _ h => cw_tr Bh_7.2.2 h (by decide)) rfl (fun rh_11 αh_11 Hh_11 Lh_11 ph_11 Bh_11 => ?_)
                  exact q_iret C Bh_11 hr hlk Bh_11.2.2 dX11_longest_121
                ·
                  have jc_10 := il_eq c_10
                  refine lv_iload hx hb dX11_longest_111 (lv_at hl 4 rfl) (hp_n (n := 113) rfl ?_)
                  refine lv_goto (tgt := 118) hx hb dX11_longest_113 (by decide) ?_
                  refine q_ci (pc' := 121) Bh_7 (hp_runV (As := [.int v4_h_7]) (rest := []) C Bh_7 (t_X11_answer Γ l αh_7 Bh_7.2.2.1 a0 (cw_k Bh_7.2.2 k0) v4_h_7) lb_X11_answer lv_X11_answer lk_X11_115 (cw_k Bh_7.2.2 k0) rfl (by decide) rfl hl.1 rfl (Nat.le_of_ble_eq_true rfl) dX11_longest_118 ⟨Nat.le_refl _, Nat.le_refl _⟩) (fun _ _ h => cw_tr Bh_7.2.2 h (by decide)) rfl (fun rh_12 αh_12 Hh_12 Lh_12 ph_12 Bh_12 => ?_)
                  exact q_iret C Bh_12 hr hlk Bh_12.2.2 dX11_longest_121
              ·
                have jc_9 := il_eq c_9
                refine lv_aload_n hx hb dX11_longest_99 rfl (lv_at hl 0 rfl) (hp_n (n := 100) rfl ?_)
                refine lv_iload_n hx hb dX11_longest_100 rfl (lv_at hl 3 rfl) (hp_n (n := 101) rfl ?_)
                refine q_ci (pc' := 104) Bh_7 (hp_runV (As := [.int v3_h_7]) (rest := []) C Bh_7 (t_X11_answer Γ l αh_7 Bh_7.2.2.1 a0 (cw_k Bh_7.2.2 k0) v3_h_7) lb_X11_answer lv_X11_answer lk_X11_115 (cw_k Bh_7.2.2 k0) rfl (by decide) rfl hl.1 rfl (Nat.le_of_ble_eq_true rfl) dX11_longest_101 ⟨Nat.le_refl _, Nat.le_refl _⟩) (fun _ _ h => cw_tr Bh_7.2.2 h (by decide)) rfl (fun rh_13 αh_13 Hh_13 Lh_13 ph_13 Bh_13 => ?_)
                exact q_iret C Bh_13 hr hlk Bh_13.2.2 dX11_longest_104
            ·
              have jc_8 := il_nle c_8
              refine lv_aload_n hx hb dX11_longest_44 rfl (lv_at hl 0 rfl) (hp_n (n := 45) rfl ?_)
              refine q_getr (κ := 12) (k := 12) (φ := 612) (pc' := 48) C Bh_7 (cw_k Bh_7.2.2 k0) fl_X11_62 rfl rfl rfl (cw_r Bh_7.2.2 k0 rfl rfl (by decide) (by decide)) dX11_longest_45 rfl (fun b_14 eb_14 kb_14 => ?_)
              refine lv_iload hx hb dX11_longest_48 (lv_at hl 6 rfl) (hp_n (n := 50) rfl ?_)
              refine lv_iload_n hx hb dX11_longest_50 rfl (lv_at hl 1 rfl) (hp_n (n := 51) rfl ?_)
              refine q_cv (pc' := 54) Bh_7 (hp_runV (As := [.int v6_h_7, .int a1]) (rest := []) C Bh_7 (t_X8_toThing Γ l αh_7 Bh_7.2.2.1 b_14 (cw_k Bh_7.2.2 kb_14) v6_h_7 a1) lb_X8_toThing lv_X8_toThing lk_X11_267 (cw_k Bh_7.2.2 kb_14) rfl (by decide) rfl hl.1 rfl (Nat.le_of_ble_eq_true rfl) dX11_longest_51 ⟨Nat.le_refl _, Nat.le_refl _⟩) (fun _ h => cw_tr Bh_7.2.2 h (by decide)) rfl (fun αh_15 Hh_15 Lh_15 ph_15 Bh_15 => ?_)
              refine lv_iload hx hb dX11_longest_54 (lv_at hl 5 rfl) (hp_n (n := 56) rfl ?_)
              refine lv_aload_n hx hb dX11_longest_56 rfl (lv_at hl 0 rfl) (hp_n (n := 57) rfl ?_)
              have t_16 : b_14 = hp_R αh_15 612 a0 := by rw [cw_R ph_15 a0 (by decide)]; exact eb_14
              refine q_gets (κ := 12) (k := 12) (φ := 612) (pc' := 60) C Bh_15 (cw_k Bh_15.2.2 k0) fl_X11_62 rfl rfl rfl t_16 dX11_longest_57 rfl ?_
              refine q_geti (κ := 9) (k := 3) (φ := 453) (pc' := 63) C Bh_15 (cw_k Bh_15.2.2 kb_14) fl_X11_312 rfl rfl rfl dX11_longest_60 rfl (fun x_17 ex_17 => ?_)
              obtain ⟨gx_17a, gx_17b⟩ : 0 ≤ x_17.toInt ∧ x_17.toInt ≤ 64 := by rw [ex_17]; exact Bh_15.2.2.1.1 453 b_14 rfl
              refine lv_iadd hx hb dX11_longest_63 (hp_n (n := 64) rfl (lv_topi (fun x_18 ex_18 => ?_)))
              refine lv_istore (lv' := [(5, .int x_18), (0, .ref a0), (1, .int a1), (2, .int a2), (3, .int v3_h_7), (4, .int v4_h_7), (6, .int v6_h_7)]) hx hb dX11_longest_64 hl (by decide) rfl (fun ls hl => hp_n (n := 66) rfl ?_)
              refine lv_aload_n hx hb dX11_longest_66 rfl (lv_at hl 1 rfl) (hp_n (n := 67) rfl ?_)
              refine q_gets (κ := 12) (k := 12) (φ := 612) (pc' := 70) C Bh_15 (cw_k Bh_15.2.2 k0) fl_X11_62 rfl rfl rfl t_16 dX11_longest_67 rfl ?_
              refine q_getj (κ := 9) (k := 3) (φ := 453) (pc' := 73) C Bh_15 (cw_k Bh_15.2.2 kb_14) fl_X11_312 rfl rfl rfl ex_17 dX11_longest_70 rfl ?_
              refine lv_iload_n hx hb dX11_longest_73 rfl (lv_at hl 4 rfl) (hp_n (n := 74) rfl ?_)
              refine lv_icmp_le (tgt := 89) hx hb dX11_longest_74 (by decide) (fun c_19 => ?_) (fun c_19 => hp_n (n := 77) rfl ?_)
              ·
                have jc_19 := il_le c_19
                obtain ⟨x_20, ex_20⟩ : ∃ y : Int32, y = v6_h_7 + 1 := ⟨_, rfl⟩
                have qx_20 : x_20.toInt = v6_h_7.toInt + 1 := by have q0 := ib_hi a1; have qa := ib_lo v6_h_7; rw [ex_20]; exact ii_add (by omega) (by omega)
                refine lv_iinc (v := x_20) (lv' := [(6, .int x_20), (5, .int x_18), (0, .ref a0), (1, .int a1), (2, .int a2), (3, .int v3_h_7), (4, .int v4_h_7)]) hx hb dX11_longest_89 hl (k := 6) rfl (by rw [ex_20]; rfl) (by decide) rfl (fun ls hl => hp_n (n := 92) rfl ?_)
                refine lv_goto (tgt := 38) hx hb dX11_longest_92 (by decide) ?_
                exact ih38 _ (by have q0 := ib_hi a1; have q1 := ib_lo a1; have qa := ib_hi v6_h_7; have qb := ib_lo v6_h_7; have qc : (v6_h_7 + 1).toInt = v6_h_7.toInt + (1 : Int32).toInt := ii_add (by omega) (by omega); rw [ex_20]; omega) αh_15 Hh_15 Lh_15 Bh_15 v3_h_7 v4_h_7 x_18 x_20 (by omega) ls (lv_sub hl [2, 3, 4, 5, 6, 1, 0] rfl) rfl
              ·
                have jc_19 := il_nle c_19
                refine lv_aload_n hx hb dX11_longest_77 rfl (lv_at hl 1 rfl) (hp_n (n := 78) rfl ?_)
                refine q_gets (κ := 12) (k := 12) (φ := 612) (pc' := 81) C Bh_15 (cw_k Bh_15.2.2 k0) fl_X11_62 rfl rfl rfl t_16 dX11_longest_78 rfl ?_
                refine q_getj (κ := 9) (k := 3) (φ := 453) (pc' := 84) C Bh_15 (cw_k Bh_15.2.2 kb_14) fl_X11_312 rfl rfl rfl ex_17 dX11_longest_81 rfl ?_
                refine lv_istore_n (lv' := [(3, .int x_17), (5, .int x_18), (0, .ref a0), (1, .int a1), (2, .int a2), (4, .int v4_h_7), (6, .int v6_h_7)]) hx hb dX11_longest_84 rfl hl (by decide) rfl (fun ls hl => hp_n (n := 85) rfl ?_)
                refine lv_iload hx hb dX11_longest_85 (lv_at hl 6 rfl) (hp_n (n := 87) rfl ?_)
                refine lv_istore (lv' := [(4, .int v6_h_7), (3, .int x_17), (5, .int x_18), (0, .ref a0), (1, .int a1), (2, .int a2), (6, .int v6_h_7)]) hx hb dX11_longest_87 hl (by decide) rfl (fun ls hl => hp_n (n := 89) rfl ?_)
                obtain ⟨x_21, ex_21⟩ : ∃ y : Int32, y = v6_h_7 + 1 := ⟨_, rfl⟩
                have qx_21 : x_21.toInt = v6_h_7.toInt + 1 := by have q0 := ib_hi a1; have qa := ib_lo v6_h_7; rw [ex_21]; exact ii_add (by omega) (by omega)
                refine lv_iinc (v := x_21) (lv' := [(6, .int x_21), (4, .int v6_h_7), (3, .int x_17), (5, .int x_18), (0, .ref a0), (1, .int a1), (2, .int a2)]) hx hb dX11_longest_89 hl (k := 6) rfl (by rw [ex_21]; rfl) (by decide) rfl (fun ls hl => hp_n (n := 92) rfl ?_)
                refine lv_goto (tgt := 38) hx hb dX11_longest_92 (by decide) ?_
                exact ih38 _ (by have q0 := ib_hi a1; have q1 := ib_lo a1; have qa := ib_hi v6_h_7; have qb := ib_lo v6_h_7; have qc : (v6_h_7 + 1).toInt = v6_h_7.toInt + (1 : Int32).toInt := ii_add (by omega) (by omega); rw [ex_21]; omega) αh_15 Hh_15 Lh_15 Bh_15 x_17 v6_h_7 x_18 x_21 (by omega) ls (lv_sub hl [4, 5, 6, 2, 1, 3, 0] rfl) rfl
          refine lv_istore (lv' := [(6, .int 0), (5, .int 0), (4, .int 0), (3, .int 0), (0, .ref a0), (1, .int a1), (2, .int a2)]) hx hb dX11_longest_36 hl (by decide) rfl (fun ls hl => hp_n (n := 38) rfl ?_)
          exact J38 _ α s.heap [] B 0 0 0 0 (by omega) ls (lv_sub hl [4, 5, 6, 3, 2, 1, 0] rfl) rfl
        ·
          have jc_6 := il_nle c_6
          exact J21 s.heap [] B ls (lv_sub hl [0] rfl)
abbrev w_X11_part : cw_W := ([600], [], [33], [])
set_option maxRecDepth 100000 in
set_option maxHeartbeats 4000000 in
theorem t_X11_part (Γ : hp_G) (l : Launch) (α : hp_T) (g : GC α) (a0 : Nat) (k0 : hp_K α a0 = 12) (a1 : Int32) (a2 : Int32) (a3 : Int32) : Met l yX11_part (hp_ws yX11_part cX11_part 6 (some .int)) (hp_rm 5 0 0) (hp_Pc Γ α [.ref a0, .int a1, .int a2, .int a3]) (hp_Qi Γ (fun r β => cw w_X11_part α β)) 0 0 (hp_A Γ) := by
  refine hp_start (by decide) ?_
  intro p e s m below meth c C hr hlk B0 hnm
  have C : hp_C Γ p m c cX11_part 6 s ([.ref a0, .int a1, .int a2, .int a3] : List Value).toArray RX11 := C
  have hx := C.1.1
  have hb := C.1.2.1
  have hown := C.1.2.2.2.1
  have hts := C.1.2.2.2.2
  have B : hp_B Γ (cw w_X11_part) s α α s.heap [] := ⟨B0.1, B0.2.1, cw_rf g⟩
  have lit0 : (0 : Int32).toInt = 0 := by decide
  have lit1 : (1 : Int32).toInt = 1 := by decide
  have lit2 : (2 : Int32).toInt = 2 := by decide
  have hl := lv_entry ([.ref a0, .int a1, .int a2, .int a3]) (n := 6) (Nat.le_of_ble_eq_true rfl)
  show W p l e (hp_rm 5 0 0) s m ([.ref a0, .int a1, .int a2, .int a3] : List Value).toArray below meth c s.heap [] 0 0 (MQ below (hp_Qi Γ (fun r β => cw w_X11_part α β)) ([.ref a0, .int a1, .int a2, .int a3] : List Value).toArray s 0 0 (hp_A Γ)) (entryFrame m ([.ref a0, .int a1, .int a2, .int a3] : List Value).toArray 6)
  rw [lg_entry_eq]
  generalize (lg_sl ([.ref a0, .int a1, .int a2, .int a3]) ++ List.replicate (6 - (lg_sl ([.ref a0, .int a1, .int a2, .int a3])).length) Slot.unset).toArray = ls at hl ⊢
  have hl : lv_has ls 6 [(0, .ref a0), (1, .int a1), (2, .int a2), (3, .int a3)] := hl
  refine lv_iload_n hx hb dX11_part_0 rfl (lv_at hl 3 rfl) (hp_n (n := 1) rfl ?_)
  have J9 : ∀ (Hh_1 : Heap) (Lh_1 : List Loc) (Bh_1 : hp_B Γ (cw w_X11_part) s α α Hh_1 Lh_1) (ls : Array Slot) (hl : lv_has ls 6 [(0, .ref a0)]), W p l e (hp_rm 5 0 0) s m ([.ref a0, .int a1, .int a2, .int a3] : List Value).toArray below meth c Hh_1 Lh_1 0 0 (MQ below (hp_Qi Γ (fun r β => cw w_X11_part α β)) ([.ref a0, .int a1, .int a2, .int a3] : List Value).toArray s 0 0 (hp_A Γ)) (F0 m 9 ls []) := by
    intro Hh_1 Lh_1 Bh_1 ls hl
    refine lv_aload_n hx hb dX11_part_9 rfl (lv_at hl 0 rfl) (hp_n (n := 10) rfl ?_)
    refine lv_iconst (v := 1) hx hb dX11_part_10 (by decide) (hp_n (n := 11) rfl ?_)
    refine q_ci (pc' := 14) Bh_1 (hp_runV (As := [.int 1]) (rest := []) C Bh_1 (t_X11_refuse Γ l α Bh_1.2.2.1 a0 (cw_k Bh_1.2.2 k0) 1) lb_X11_refuse lv_X11_refuse lk_X11_98 (cw_k Bh_1.2.2 k0) rfl (by decide) rfl hl.1 rfl (Nat.le_of_ble_eq_true rfl) dX11_part_11 ⟨Nat.le_refl _, Nat.le_refl _⟩) (fun _ _ h => cw_tr Bh_1.2.2 h (by decide)) rfl (fun rh_2 αh_2 Hh_2 Lh_2 ph_2 Bh_2 => ?_)
    exact q_iret C Bh_2 hr hlk Bh_2.2.2 dX11_part_14
  refine lv_if_lt (tgt := 9) hx hb dX11_part_1 (by decide) (fun c_3 => ?_) (fun c_3 => hp_n (n := 4) rfl ?_)
  ·
    have jc_3 := il_lt c_3
    exact J9 s.heap [] B ls (lv_sub hl [0] rfl)
  ·
    have jc_3 := il_nlt c_3
    refine lv_iload_n hx hb dX11_part_4 rfl (lv_at hl 3 rfl) (hp_n (n := 5) rfl ?_)
    refine lv_iconst (v := 1) hx hb dX11_part_5 (by decide) (hp_n (n := 6) rfl ?_)
    refine lv_icmp_le (tgt := 15) hx hb dX11_part_6 (by decide) (fun c_4 => ?_) (fun c_4 => hp_n (n := 9) rfl ?_)
    ·
      have jc_4 := il_le c_4
      refine lv_aload_n hx hb dX11_part_15 rfl (lv_at hl 0 rfl) (hp_n (n := 16) rfl ?_)
      refine q_getr (κ := 12) (k := 1) (φ := 601) (pc' := 19) C B (cw_k B.2.2 k0) fl_X11_16 rfl rfl rfl (cw_r B.2.2 k0 rfl rfl (by decide) (by decide)) dX11_part_16 rfl (fun b_5 eb_5 kb_5 => ?_)
      refine lv_iload_n hx hb dX11_part_19 rfl (lv_at hl 1 rfl) (hp_n (n := 20) rfl ?_)
      refine q_cq (pc' := 23) B (hp_runV (As := [.int a1]) (rest := []) C B (t_X10_logAt Γ l α B.2.2.1 b_5 (cw_k B.2.2 kb_5) a1) lb_X10_logAt lv_X10_logAt lk_X11_163 (cw_k B.2.2 kb_5) rfl (by decide) rfl hl.1 rfl (Nat.le_of_ble_eq_true rfl) dX11_part_20 ⟨Nat.le_refl _, Nat.le_refl _⟩) (fun _ _ h => by rw [h.1]; exact B.2.2) rfl (fun rh_6 αh_6 Hh_6 Lh_6 ph_6 Bh_6 => ?_)
      rw [ph_6.1] at Bh_6
      rcases rh_6 with _ | bh_6
      ·
        refine lv_astoreN (lv' := [(4, .null), (0, .ref a0), (1, .int a1), (2, .int a2), (3, .int a3)]) hx hb dX11_part_23 hl (by decide) rfl (fun ls hl => hp_n (n := 25) rfl ?_)
        refine lv_aload_n hx hb dX11_part_25 rfl (lv_at hl 1 rfl) (hp_n (n := 26) rfl ?_)
        refine q_gets (κ := 12) (k := 1) (φ := 601) (pc' := 29) C Bh_6 (cw_k Bh_6.2.2 k0) fl_X11_16 rfl rfl rfl eb_5 dX11_part_26 rfl ?_
        refine lv_iload_n hx hb dX11_part_29 rfl (lv_at hl 3 rfl) (hp_n (n := 30) rfl ?_)
        refine q_cq (pc' := 33) Bh_6 (hp_runV (As := [.int a2]) (rest := []) C Bh_6 (t_X10_logAt Γ l α Bh_6.2.2.1 b_5 (cw_k Bh_6.2.2 kb_5) a2) lb_X10_logAt lv_X10_logAt lk_X11_163 (cw_k Bh_6.2.2 kb_5) rfl (by decide) rfl hl.1 rfl (Nat.le_of_ble_eq_true rfl) dX11_part_30 ⟨Nat.le_refl _, Nat.le_refl _⟩) (fun _ _ h => by rw [h.1]; exact Bh_6.2.2) rfl (fun rh_7 αh_7 Hh_7 Lh_7 ph_7 Bh_7 => ?_)
        rw [ph_7.1] at Bh_7
        rcases rh_7 with _ | bh_7
        ·
          refine lv_astoreN (lv' := [(5, .null), (4, .null), (0, .ref a0), (1, .int a1), (2, .int a2), (3, .int a3)]) hx hb dX11_part_33 hl (by decide) rfl (fun ls hl => hp_n (n := 35) rfl ?_)
          refine lv_aloadN hx hb dX11_part_35 (lv_at hl 1 rfl) (hp_n (n := 37) rfl ?_)
          have J45 : ∀ (Hh_8 : Heap) (Lh_8 : List Loc) (Bh_8 : hp_B Γ (cw w_X11_part) s α α Hh_8 Lh_8) (ls : Array Slot) (hl : lv_has ls 6 [(0, .ref a0)]), W p l e (hp_rm 5 0 0) s m ([.ref a0, .int a1, .int a2, .int a3] : List Value).toArray below meth c Hh_8 Lh_8 0 0 (MQ below (hp_Qi Γ (fun r β => cw w_X11_part α β)) ([.ref a0, .int a1, .int a2, .int a3] : List Value).toArray s 0 0 (hp_A Γ)) (F0 m 45 ls []) := by
            intro Hh_8 Lh_8 Bh_8 ls hl
            refine lv_aload_n hx hb dX11_part_45 rfl (lv_at hl 0 rfl) (hp_n (n := 46) rfl ?_)
            refine lv_iconst (v := 2) hx hb dX11_part_46 (by decide) (hp_n (n := 47) rfl ?_)
            refine q_ci (pc' := 50) Bh_8 (hp_runV (As := [.int 2]) (rest := []) C Bh_8 (t_X11_refuse Γ l α Bh_8.2.2.1 a0 (cw_k Bh_8.2.2 k0) 2) lb_X11_refuse lv_X11_refuse lk_X11_98 (cw_k Bh_8.2.2 k0) rfl (by decide) rfl hl.1 rfl (Nat.le_of_ble_eq_true rfl) dX11_part_47 ⟨Nat.le_refl _, Nat.le_refl _⟩) (fun _ _ h => cw_tr Bh_8.2.2 h (by decide)) rfl (fun rh_9 αh_9 Hh_9 Lh_9 ph_9 Bh_9 => ?_)
            exact q_iret C Bh_9 hr hlk Bh_9.2.2 dX11_part_50
          refine lv_ifnullN (tgt := 45) hx hb dX11_part_37 (by decide) ?_
          exact J45 Hh_7 Lh_7 Bh_7 ls (lv_sub hl [2] rfl)
        ·
          have kbh_7 : hp_K α bh_7 = 3 := cw_k' Bh_7.2.2 (ph_7.2 bh_7 rfl)
          refine lv_astore (lv' := [(5, .ref bh_7), (4, .null), (0, .ref a0), (1, .int a1), (2, .int a2), (3, .int a3)]) hx hb dX11_part_33 hl (by decide) rfl (fun ls hl => hp_n (n := 35) rfl ?_)
          refine lv_aloadN hx hb dX11_part_35 (lv_at hl 1 rfl) (hp_n (n := 37) rfl ?_)
          have J45 : ∀ (Hh_10 : Heap) (Lh_10 : List Loc) (Bh_10 : hp_B Γ (cw w_X11_part) s α α Hh_10 Lh_10) (ls : Array Slot) (hl : lv_has ls 6 [(0, .ref a0)]), W p l e (hp_rm 5 0 0) s m ([.ref a0, .int a1, .int a2, .int a3] : List Value).toArray below meth c Hh_10 Lh_10 0 0 (MQ below (hp_Qi Γ (fun r β => cw w_X11_part α β)) ([.ref a0, .int a1, .int a2, .int a3] : List Value).toArray s 0 0 (hp_A Γ)) (F0 m 45 ls []) := by
            intro Hh_10 Lh_10 Bh_10 ls hl
            refine lv_aload_n hx hb dX11_part_45 rfl (lv_at hl 0 rfl) (hp_n (n := 46) rfl ?_)
            refine lv_iconst (v := 2) hx hb dX11_part_46 (by decide) (hp_n (n := 47) rfl ?_)
            refine q_ci (pc' := 50) Bh_10 (hp_runV (As := [.int 2]) (rest := []) C Bh_10 (t_X11_refuse Γ l α Bh_10.2.2.1 a0 (cw_k Bh_10.2.2 k0) 2) lb_X11_refuse lv_X11_refuse lk_X11_98 (cw_k Bh_10.2.2 k0) rfl (by decide) rfl hl.1 rfl (Nat.le_of_ble_eq_true rfl) dX11_part_47 ⟨Nat.le_refl _, Nat.le_refl _⟩) (fun _ _ h => cw_tr Bh_10.2.2 h (by decide)) rfl (fun rh_11 αh_11 Hh_11 Lh_11 ph_11 Bh_11 => ?_)
            exact q_iret C Bh_11 hr hlk Bh_11.2.2 dX11_part_50
          refine lv_ifnullN (tgt := 45) hx hb dX11_part_37 (by decide) ?_
          exact J45 Hh_7 Lh_7 Bh_7 ls (lv_sub hl [2] rfl)
      ·
        have kbh_6 : hp_K α bh_6 = 3 := cw_k' Bh_6.2.2 (ph_6.2 bh_6 rfl)
        refine lv_astore (lv' := [(4, .ref bh_6), (0, .ref a0), (1, .int a1), (2, .int a2), (3, .int a3)]) hx hb dX11_part_23 hl (by decide) rfl (fun ls hl => hp_n (n := 25) rfl ?_)
        refine lv_aload_n hx hb dX11_part_25 rfl (lv_at hl 1 rfl) (hp_n (n := 26) rfl ?_)
        refine q_gets (κ := 12) (k := 1) (φ := 601) (pc' := 29) C Bh_6 (cw_k Bh_6.2.2 k0) fl_X11_16 rfl rfl rfl eb_5 dX11_part_26 rfl ?_
        refine lv_iload_n hx hb dX11_part_29 rfl (lv_at hl 3 rfl) (hp_n (n := 30) rfl ?_)
        refine q_cq (pc' := 33) Bh_6 (hp_runV (As := [.int a2]) (rest := []) C Bh_6 (t_X10_logAt Γ l α Bh_6.2.2.1 b_5 (cw_k Bh_6.2.2 kb_5) a2) lb_X10_logAt lv_X10_logAt lk_X11_163 (cw_k Bh_6.2.2 kb_5) rfl (by decide) rfl hl.1 rfl (Nat.le_of_ble_eq_true rfl) dX11_part_30 ⟨Nat.le_refl _, Nat.le_refl _⟩) (fun _ _ h => by rw [h.1]; exact Bh_6.2.2) rfl (fun rh_12 αh_12 Hh_12 Lh_12 ph_12 Bh_12 => ?_)
        rw [ph_12.1] at Bh_12
        rcases rh_12 with _ | bh_12
        ·
          refine lv_astoreN (lv' := [(5, .null), (4, .ref bh_6), (0, .ref a0), (1, .int a1), (2, .int a2), (3, .int a3)]) hx hb dX11_part_33 hl (by decide) rfl (fun ls hl => hp_n (n := 35) rfl ?_)
          refine lv_aload hx hb dX11_part_35 (lv_at hl 1 rfl) (hp_n (n := 37) rfl ?_)
          have J45 : ∀ (Hh_13 : Heap) (Lh_13 : List Loc) (Bh_13 : hp_B Γ (cw w_X11_part) s α α Hh_13 Lh_13) (ls : Array Slot) (hl : lv_has ls 6 [(0, .ref a0)]), W p l e (hp_rm 5 0 0) s m ([.ref a0, .int a1, .int a2, .int a3] : List Value).toArray below meth c Hh_13 Lh_13 0 0 (MQ below (hp_Qi Γ (fun r β => cw w_X11_part α β)) ([.ref a0, .int a1, .int a2, .int a3] : List Value).toArray s 0 0 (hp_A Γ)) (F0 m 45 ls []) := by
            intro Hh_13 Lh_13 Bh_13 ls hl
            refine lv_aload_n hx hb dX11_part_45 rfl (lv_at hl 0 rfl) (hp_n (n := 46) rfl ?_)
            refine lv_iconst (v := 2) hx hb dX11_part_46 (by decide) (hp_n (n := 47) rfl ?_)
            refine q_ci (pc' := 50) Bh_13 (hp_runV (As := [.int 2]) (rest := []) C Bh_13 (t_X11_refuse Γ l α Bh_13.2.2.1 a0 (cw_k Bh_13.2.2 k0) 2) lb_X11_refuse lv_X11_refuse lk_X11_98 (cw_k Bh_13.2.2 k0) rfl (by decide) rfl hl.1 rfl (Nat.le_of_ble_eq_true rfl) dX11_part_47 ⟨Nat.le_refl _, Nat.le_refl _⟩) (fun _ _ h => cw_tr Bh_13.2.2 h (by decide)) rfl (fun rh_14 αh_14 Hh_14 Lh_14 ph_14 Bh_14 => ?_)
            exact q_iret C Bh_14 hr hlk Bh_14.2.2 dX11_part_50
          refine lv_ifnull hx hb dX11_part_37 (hp_n (n := 40) rfl ?_)
          refine lv_aloadN hx hb dX11_part_40 (lv_at hl 0 rfl) (hp_n (n := 42) rfl ?_)
          refine lv_ifnonnullN hx hb dX11_part_42 (hp_n (n := 45) rfl ?_)
          exact J45 Hh_12 Lh_12 Bh_12 ls (lv_sub hl [2] rfl)
        ·
          have kbh_12 : hp_K α bh_12 = 3 := cw_k' Bh_12.2.2 (ph_12.2 bh_12 rfl)
          refine lv_astore (lv' := [(5, .ref bh_12), (4, .ref bh_6), (0, .ref a0), (1, .int a1), (2, .int a2), (3, .int a3)]) hx hb dX11_part_33 hl (by decide) rfl (fun ls hl => hp_n (n := 35) rfl ?_)
          refine lv_aload hx hb dX11_part_35 (lv_at hl 1 rfl) (hp_n (n := 37) rfl ?_)
          have J45 : ∀ (Hh_15 : Heap) (Lh_15 : List Loc) (Bh_15 : hp_B Γ (cw w_X11_part) s α α Hh_15 Lh_15) (ls : Array Slot) (hl : lv_has ls 6 [(0, .ref a0)]), W p l e (hp_rm 5 0 0) s m ([.ref a0, .int a1, .int a2, .int a3] : List Value).toArray below meth c Hh_15 Lh_15 0 0 (MQ below (hp_Qi Γ (fun r β => cw w_X11_part α β)) ([.ref a0, .int a1, .int a2, .int a3] : List Value).toArray s 0 0 (hp_A Γ)) (F0 m 45 ls []) := by
            intro Hh_15 Lh_15 Bh_15 ls hl
            refine lv_aload_n hx hb dX11_part_45 rfl (lv_at hl 0 rfl) (hp_n (n := 46) rfl ?_)
            refine lv_iconst (v := 2) hx hb dX11_part_46 (by decide) (hp_n (n := 47) rfl ?_)
            refine q_ci (pc' := 50) Bh_15 (hp_runV (As := [.int 2]) (rest := []) C Bh_15 (t_X11_refuse Γ l α Bh_15.2.2.1 a0 (cw_k Bh_15.2.2 k0) 2) lb_X11_refuse lv_X11_refuse lk_X11_98 (cw_k Bh_15.2.2 k0) rfl (by decide) rfl hl.1 rfl (Nat.le_of_ble_eq_true rfl) dX11_part_47 ⟨Nat.le_refl _, Nat.le_refl _⟩) (fun _ _ h => cw_tr Bh_15.2.2 h (by decide)) rfl (fun rh_16 αh_16 Hh_16 Lh_16 ph_16 Bh_16 => ?_)
            exact q_iret C Bh_16 hr hlk Bh_16.2.2 dX11_part_50
          refine lv_ifnull hx hb dX11_part_37 (hp_n (n := 40) rfl ?_)
          refine lv_aload hx hb dX11_part_40 (lv_at hl 0 rfl) (hp_n (n := 42) rfl ?_)
          refine lv_ifnonnull (tgt := 51) hx hb dX11_part_42 (by decide) ?_
          refine lv_aload_n hx hb dX11_part_51 rfl (lv_at hl 2 rfl) (hp_n (n := 52) rfl ?_)
          refine lv_iload_n hx hb dX11_part_52 rfl (lv_at hl 5 rfl) (hp_n (n := 53) rfl ?_)
          refine lv_if_ne (tgt := 70) hx hb dX11_part_53 (by decide) (fun c_17 => ?_) (fun c_17 => hp_n (n := 56) rfl ?_)
          ·
            have jc_17 := il_ne c_17
            refine lv_aload_n hx hb dX11_part_70 rfl (lv_at hl 2 rfl) (hp_n (n := 71) rfl ?_)
            refine q_gets (κ := 12) (k := 1) (φ := 601) (pc' := 74) C Bh_12 (cw_k Bh_12.2.2 k0) fl_X11_16 rfl rfl rfl eb_5 dX11_part_71 rfl ?_
            refine lv_aload hx hb dX11_part_74 (lv_at hl 1 rfl) (hp_n (n := 76) rfl ?_)
            refine lv_aload hx hb dX11_part_76 (lv_at hl 0 rfl) (hp_n (n := 78) rfl ?_)
            refine q_ci (pc' := 81) Bh_12 (hp_runV (As := [.ref bh_6, .ref bh_12]) (rest := [.ref a0]) C Bh_12 (t_X10_partingCompared Γ l α Bh_12.2.2.1 b_5 (cw_k Bh_12.2.2 kb_5) bh_6 (cw_k Bh_12.2.2 kbh_6) bh_12 (cw_k Bh_12.2.2 kbh_12)) lb_X10_partingCompared lv_X10_partingCompared lk_X11_350 (cw_k Bh_12.2.2 kb_5) rfl (by decide) rfl hl.1 rfl (Nat.le_of_ble_eq_true rfl) dX11_part_78 ⟨Nat.le_refl _, Nat.le_refl _⟩) (fun _ _ h => cw_tr Bh_12.2.2 h (by decide)) rfl (fun rh_18 αh_18 Hh_18 Lh_18 ph_18 Bh_18 => ?_)
            refine q_ci (pc' := 84) Bh_18 (hp_runV (As := [.int rh_18]) (rest := []) C Bh_18 (t_X11_answer Γ l αh_18 Bh_18.2.2.1 a0 (cw_k Bh_18.2.2 k0) rh_18) lb_X11_answer lv_X11_answer lk_X11_115 (cw_k Bh_18.2.2 k0) rfl (by decide) rfl hl.1 rfl (Nat.le_of_ble_eq_true rfl) dX11_part_81 ⟨Nat.le_refl _, Nat.le_refl _⟩) (fun _ _ h => cw_tr Bh_18.2.2 h (by decide)) rfl (fun rh_19 αh_19 Hh_19 Lh_19 ph_19 Bh_19 => ?_)
            exact q_iret C Bh_19 hr hlk Bh_19.2.2 dX11_part_84
          ·
            have jc_17 := il_eq c_17
            refine lv_aload_n hx hb dX11_part_56 rfl (lv_at hl 2 rfl) (hp_n (n := 57) rfl ?_)
            refine q_gets (κ := 12) (k := 1) (φ := 601) (pc' := 60) C Bh_12 (cw_k Bh_12.2.2 k0) fl_X11_16 rfl rfl rfl eb_5 dX11_part_57 rfl ?_
            refine lv_aload hx hb dX11_part_60 (lv_at hl 1 rfl) (hp_n (n := 62) rfl ?_)
            refine lv_aload hx hb dX11_part_62 (lv_at hl 0 rfl) (hp_n (n := 64) rfl ?_)
            refine q_ci (pc' := 67) Bh_12 (hp_runV (As := [.ref bh_6, .ref bh_12]) (rest := [.ref a0]) C Bh_12 (t_X10_partingEntry Γ l α Bh_12.2.2.1 b_5 (cw_k Bh_12.2.2 kb_5) bh_6 (cw_k Bh_12.2.2 kbh_6) bh_12 (cw_k Bh_12.2.2 kbh_12)) lb_X10_partingEntry lv_X10_partingEntry lk_X11_346 (cw_k Bh_12.2.2 kb_5) rfl (by decide) rfl hl.1 rfl (Nat.le_of_ble_eq_true rfl) dX11_part_64 ⟨Nat.le_refl _, Nat.le_refl _⟩) (fun _ _ h => cw_tr Bh_12.2.2 h (by decide)) rfl (fun rh_20 αh_20 Hh_20 Lh_20 ph_20 Bh_20 => ?_)
            refine lv_goto (tgt := 81) hx hb dX11_part_67 (by decide) ?_
            refine q_ci (pc' := 84) Bh_20 (hp_runV (As := [.int rh_20]) (rest := []) C Bh_20 (t_X11_answer Γ l αh_20 Bh_20.2.2.1 a0 (cw_k Bh_20.2.2 k0) rh_20) lb_X11_answer lv_X11_answer lk_X11_115 (cw_k Bh_20.2.2 k0) rfl (by decide) rfl hl.1 rfl (Nat.le_of_ble_eq_true rfl) dX11_part_81 ⟨Nat.le_refl _, Nat.le_refl _⟩) (fun _ _ h => cw_tr Bh_20.2.2 h (by decide)) rfl (fun rh_21 αh_21 Hh_21 Lh_21 ph_21 Bh_21 => ?_)
            exact q_iret C Bh_21 hr hlk Bh_21.2.2 dX11_part_84
    ·
      have jc_4 := il_nle c_4
      exact J9 s.heap [] B ls (lv_sub hl [0] rfl)
abbrev w_X11_blame : cw_W := ([600], [], [33], [])
set_option maxRecDepth 100000 in
set_option maxHeartbeats 4000000 in
theorem t_X11_blame (Γ : hp_G) (l : Launch) (α : hp_T) (g : GC α) (a0 : Nat) (k0 : hp_K α a0 = 12) (a1 : Int32) (a2 : Int32) : Met l yX11_blame (hp_ws yX11_blame cX11_blame 4 (some .int)) (hp_rm 6 0 0) (hp_Pc Γ α [.ref a0, .int a1, .int a2]) (hp_Qi Γ (fun r β => cw w_X11_blame α β)) 0 0 (hp_A Γ) := by
  refine hp_start (by decide) ?_
  intro p e s m below meth c C hr hlk B0 hnm
  have C : hp_C Γ p m c cX11_blame 4 s ([.ref a0, .int a1, .int a2] : List Value).toArray RX11 := C
  have hx := C.1.1
  have hb := C.1.2.1
  have hown := C.1.2.2.2.1
  have hts := C.1.2.2.2.2
  have B : hp_B Γ (cw w_X11_blame) s α α s.heap [] := ⟨B0.1, B0.2.1, cw_rf g⟩
  have litm1 : ((-1) : Int32).toInt = (-1) := by decide
  have lit0 : (0 : Int32).toInt = 0 := by decide
  have lit1 : (1 : Int32).toInt = 1 := by decide
  have lit2 : (2 : Int32).toInt = 2 := by decide
  have hl := lv_entry ([.ref a0, .int a1, .int a2]) (n := 4) (Nat.le_of_ble_eq_true rfl)
  show W p l e (hp_rm 6 0 0) s m ([.ref a0, .int a1, .int a2] : List Value).toArray below meth c s.heap [] 0 0 (MQ below (hp_Qi Γ (fun r β => cw w_X11_blame α β)) ([.ref a0, .int a1, .int a2] : List Value).toArray s 0 0 (hp_A Γ)) (entryFrame m ([.ref a0, .int a1, .int a2] : List Value).toArray 4)
  rw [lg_entry_eq]
  generalize (lg_sl ([.ref a0, .int a1, .int a2]) ++ List.replicate (4 - (lg_sl ([.ref a0, .int a1, .int a2])).length) Slot.unset).toArray = ls at hl ⊢
  have hl : lv_has ls 4 [(0, .ref a0), (1, .int a1), (2, .int a2)] := hl
  refine lv_iload_n hx hb dX11_blame_0 rfl (lv_at hl 2 rfl) (hp_n (n := 1) rfl ?_)
  have J9 : ∀ (Hh_1 : Heap) (Lh_1 : List Loc) (Bh_1 : hp_B Γ (cw w_X11_blame) s α α Hh_1 Lh_1) (ls : Array Slot) (hl : lv_has ls 4 [(0, .ref a0)]), W p l e (hp_rm 6 0 0) s m ([.ref a0, .int a1, .int a2] : List Value).toArray below meth c Hh_1 Lh_1 0 0 (MQ below (hp_Qi Γ (fun r β => cw w_X11_blame α β)) ([.ref a0, .int a1, .int a2] : List Value).toArray s 0 0 (hp_A Γ)) (F0 m 9 ls []) := by
    intro Hh_1 Lh_1 Bh_1 ls hl
    refine lv_aload_n hx hb dX11_blame_9 rfl (lv_at hl 0 rfl) (hp_n (n := 10) rfl ?_)
    refine lv_iconst (v := 1) hx hb dX11_blame_10 (by decide) (hp_n (n := 11) rfl ?_)
    refine q_ci (pc' := 14) Bh_1 (hp_runV (As := [.int 1]) (rest := []) C Bh_1 (t_X11_refuse Γ l α Bh_1.2.2.1 a0 (cw_k Bh_1.2.2 k0) 1) lb_X11_refuse lv_X11_refuse lk_X11_98 (cw_k Bh_1.2.2 k0) rfl (by decide) rfl hl.1 rfl (Nat.le_of_ble_eq_true rfl) dX11_blame_11 ⟨Nat.le_refl _, Nat.le_refl _⟩) (fun _ _ h => cw_tr Bh_1.2.2 h (by decide)) rfl (fun rh_2 αh_2 Hh_2 Lh_2 ph_2 Bh_2 => ?_)
    exact q_iret C Bh_2 hr hlk Bh_2.2.2 dX11_blame_14
  refine lv_if_lt (tgt := 9) hx hb dX11_blame_1 (by decide) (fun c_3 => ?_) (fun c_3 => hp_n (n := 4) rfl ?_)
  ·
    have jc_3 := il_lt c_3
    exact J9 s.heap [] B ls (lv_sub hl [0] rfl)
  ·
    have jc_3 := il_nlt c_3
    refine lv_iload_n hx hb dX11_blame_4 rfl (lv_at hl 2 rfl) (hp_n (n := 5) rfl ?_)
    refine lv_iconst (v := 2) hx hb dX11_blame_5 (by decide) (hp_n (n := 6) rfl ?_)
    refine lv_icmp_le (tgt := 15) hx hb dX11_blame_6 (by decide) (fun c_4 => ?_) (fun c_4 => hp_n (n := 9) rfl ?_)
    ·
      have jc_4 := il_le c_4
      refine lv_aload_n hx hb dX11_blame_15 rfl (lv_at hl 0 rfl) (hp_n (n := 16) rfl ?_)
      refine q_getr (κ := 12) (k := 1) (φ := 601) (pc' := 19) C B (cw_k B.2.2 k0) fl_X11_16 rfl rfl rfl (cw_r B.2.2 k0 rfl rfl (by decide) (by decide)) dX11_blame_16 rfl (fun b_5 eb_5 kb_5 => ?_)
      refine lv_iload_n hx hb dX11_blame_19 rfl (lv_at hl 1 rfl) (hp_n (n := 20) rfl ?_)
      refine q_cq (pc' := 23) B (hp_runV (As := [.int a1]) (rest := []) C B (t_X10_logAt Γ l α B.2.2.1 b_5 (cw_k B.2.2 kb_5) a1) lb_X10_logAt lv_X10_logAt lk_X11_163 (cw_k B.2.2 kb_5) rfl (by decide) rfl hl.1 rfl (Nat.le_of_ble_eq_true rfl) dX11_blame_20 ⟨Nat.le_refl _, Nat.le_refl _⟩) (fun _ _ h => by rw [h.1]; exact B.2.2) rfl (fun rh_6 αh_6 Hh_6 Lh_6 ph_6 Bh_6 => ?_)
      rw [ph_6.1] at Bh_6
      rcases rh_6 with _ | bh_6
      ·
        refine lv_ifnonnullN hx hb dX11_blame_23 (hp_n (n := 26) rfl ?_)
        refine lv_aload_n hx hb dX11_blame_26 rfl (lv_at hl 0 rfl) (hp_n (n := 27) rfl ?_)
        refine lv_iconst (v := 2) hx hb dX11_blame_27 (by decide) (hp_n (n := 28) rfl ?_)
        refine q_ci (pc' := 31) Bh_6 (hp_runV (As := [.int 2]) (rest := []) C Bh_6 (t_X11_refuse Γ l α Bh_6.2.2.1 a0 (cw_k Bh_6.2.2 k0) 2) lb_X11_refuse lv_X11_refuse lk_X11_98 (cw_k Bh_6.2.2 k0) rfl (by decide) rfl hl.1 rfl (Nat.le_of_ble_eq_true rfl) dX11_blame_28 ⟨Nat.le_refl _, Nat.le_refl _⟩) (fun _ _ h => cw_tr Bh_6.2.2 h (by decide)) rfl (fun rh_7 αh_7 Hh_7 Lh_7 ph_7 Bh_7 => ?_)
        exact q_iret C Bh_7 hr hlk Bh_7.2.2 dX11_blame_31
      ·
        have kbh_6 : hp_K α bh_6 = 3 := cw_k' Bh_6.2.2 (ph_6.2 bh_6 rfl)
        refine lv_ifnonnull (tgt := 32) hx hb dX11_blame_23 (by decide) ?_
        refine lv_iload_n hx hb dX11_blame_32 rfl (lv_at hl 2 rfl) (hp_n (n := 33) rfl ?_)
        refine lv_iconst (v := 2) hx hb dX11_blame_33 (by decide) (hp_n (n := 34) rfl ?_)
        refine lv_icmp_ne (tgt := 50) hx hb dX11_blame_34 (by decide) (fun c_8 => ?_) (fun c_8 => hp_n (n := 37) rfl ?_)
        ·
          have jc_8 := il_ne c_8
          refine lv_aload_n hx hb dX11_blame_50 rfl (lv_at hl 0 rfl) (hp_n (n := 51) rfl ?_)
          refine q_gets (κ := 12) (k := 1) (φ := 601) (pc' := 54) C Bh_6 (cw_k Bh_6.2.2 k0) fl_X11_16 rfl rfl rfl eb_5 dX11_blame_51 rfl ?_
          refine lv_iload_n hx hb dX11_blame_54 rfl (lv_at hl 1 rfl) (hp_n (n := 55) rfl ?_)
          refine q_ci (pc' := 58) Bh_6 (hp_runV (As := [.int a1]) (rest := []) C Bh_6 (t_X10_leastUnsound Γ l α Bh_6.2.2.1 b_5 (cw_k Bh_6.2.2 kb_5) a1) lb_X10_leastUnsound lv_X10_leastUnsound lk_X11_356 (cw_k Bh_6.2.2 kb_5) rfl (by decide) rfl hl.1 rfl (Nat.le_of_ble_eq_true rfl) dX11_blame_55 ⟨Nat.le_refl _, Nat.le_refl _⟩) (fun _ _ h => cw_tr Bh_6.2.2 h (by decide)) rfl (fun rh_9 αh_9 Hh_9 Lh_9 ph_9 Bh_9 => ?_)
          refine lv_istore_n (lv' := [(3, .int rh_9), (0, .ref a0), (1, .int a1), (2, .int a2)]) hx hb dX11_blame_58 rfl hl (by decide) rfl (fun ls hl => hp_n (n := 59) rfl ?_)
          refine lv_aload_n hx hb dX11_blame_59 rfl (lv_at hl 1 rfl) (hp_n (n := 60) rfl ?_)
          refine lv_iload_n hx hb dX11_blame_60 rfl (lv_at hl 3 rfl) (hp_n (n := 61) rfl ?_)
          refine lv_if_eq (tgt := 69) hx hb dX11_blame_61 (by decide) (fun c_10 => ?_) (fun c_10 => hp_n (n := 64) rfl ?_)
          ·
            have jc_10 := il_eq c_10
            refine lv_iload_n hx hb dX11_blame_69 rfl (lv_at hl 0 rfl) (hp_n (n := 70) rfl ?_)
            refine lv_goto (tgt := 82) hx hb dX11_blame_70 (by decide) ?_
            refine q_ci (pc' := 85) Bh_9 (hp_runV (As := [.int rh_9]) (rest := []) C Bh_9 (t_X11_answer Γ l αh_9 Bh_9.2.2.1 a0 (cw_k Bh_9.2.2 k0) rh_9) lb_X11_answer lv_X11_answer lk_X11_115 (cw_k Bh_9.2.2 k0) rfl (by decide) rfl hl.1 rfl (Nat.le_of_ble_eq_true rfl) dX11_blame_82 ⟨Nat.le_refl _, Nat.le_refl _⟩) (fun _ _ h => cw_tr Bh_9.2.2 h (by decide)) rfl (fun rh_11 αh_11 Hh_11 Lh_11 ph_11 Bh_11 => ?_)
            exact q_iret C Bh_11 hr hlk Bh_11.2.2 dX11_blame_85
          ·
            have jc_10 := il_ne c_10
            refine lv_iload_n hx hb dX11_blame_64 rfl (lv_at hl 0 rfl) (hp_n (n := 65) rfl ?_)
            refine lv_iconst (v := (-1)) hx hb dX11_blame_65 (by decide) (hp_n (n := 66) rfl ?_)
            refine lv_icmp_ne (tgt := 73) hx hb dX11_blame_66 (by decide) (fun c_12 => ?_) (fun c_12 => hp_n (n := 69) rfl ?_)
            ·
              have jc_12 := il_ne c_12
              refine lv_aload_n hx hb dX11_blame_73 rfl (lv_at hl 1 rfl) (hp_n (n := 74) rfl ?_)
              have t_13 : b_5 = hp_R αh_9 601 a0 := by rw [cw_R ph_9 a0 (by decide)]; exact eb_5
              refine q_gets (κ := 12) (k := 1) (φ := 601) (pc' := 77) C Bh_9 (cw_k Bh_9.2.2 k0) fl_X11_16 rfl rfl rfl t_13 dX11_blame_74 rfl ?_
              refine lv_iload_n hx hb dX11_blame_77 rfl (lv_at hl 2 rfl) (hp_n (n := 78) rfl ?_)
              refine lv_iload_n hx hb dX11_blame_78 rfl (lv_at hl 0 rfl) (hp_n (n := 79) rfl ?_)
              refine q_ci (pc' := 82) Bh_9 (hp_runV (As := [.int a1, .int rh_9]) (rest := [.ref a0]) C Bh_9 (t_X10_greatestSoundBelow Γ l αh_9 Bh_9.2.2.1 b_5 (cw_k Bh_9.2.2 kb_5) a1 rh_9) lb_X10_greatestSoundBelow lv_X10_greatestSoundBelow lk_X11_359 (cw_k Bh_9.2.2 kb_5) rfl (by decide) rfl hl.1 rfl (Nat.le_of_ble_eq_true rfl) dX11_blame_79 ⟨Nat.le_refl _, Nat.le_refl _⟩) (fun _ _ h => cw_tr Bh_9.2.2 h (by decide)) rfl (fun rh_14 αh_14 Hh_14 Lh_14 ph_14 Bh_14 => ?_)
              refine q_ci (pc' := 85) Bh_14 (hp_runV (As := [.int rh_14]) (rest := []) C Bh_14 (t_X11_answer Γ l αh_14 Bh_14.2.2.1 a0 (cw_k Bh_14.2.2 k0) rh_14) lb_X11_answer lv_X11_answer lk_X11_115 (cw_k Bh_14.2.2 k0) rfl (by decide) rfl hl.1 rfl (Nat.le_of_ble_eq_true rfl) dX11_blame_82 ⟨Nat.le_refl _, Nat.le_refl _⟩) (fun _ _ h => cw_tr Bh_14.2.2 h (by decide)) rfl (fun rh_15 αh_15 Hh_15 Lh_15 ph_15 Bh_15 => ?_)
              exact q_iret C Bh_15 hr hlk Bh_15.2.2 dX11_blame_85
            ·
              have jc_12 := il_eq c_12
              refine lv_iload_n hx hb dX11_blame_69 rfl (lv_at hl 0 rfl) (hp_n (n := 70) rfl ?_)
              refine lv_goto (tgt := 82) hx hb dX11_blame_70 (by decide) ?_
              refine q_ci (pc' := 85) Bh_9 (hp_runV (As := [.int rh_9]) (rest := []) C Bh_9 (t_X11_answer Γ l αh_9 Bh_9.2.2.1 a0 (cw_k Bh_9.2.2 k0) rh_9) lb_X11_answer lv_X11_answer lk_X11_115 (cw_k Bh_9.2.2 k0) rfl (by decide) rfl hl.1 rfl (Nat.le_of_ble_eq_true rfl) dX11_blame_82 ⟨Nat.le_refl _, Nat.le_refl _⟩) (fun _ _ h => cw_tr Bh_9.2.2 h (by decide)) rfl (fun rh_16 αh_16 Hh_16 Lh_16 ph_16 Bh_16 => ?_)
              exact q_iret C Bh_16 hr hlk Bh_16.2.2 dX11_blame_85
        ·
          have jc_8 := il_eq c_8
          refine lv_aload_n hx hb dX11_blame_37 rfl (lv_at hl 0 rfl) (hp_n (n := 38) rfl ?_)
          refine lv_aload_n hx hb dX11_blame_38 rfl (lv_at hl 0 rfl) (hp_n (n := 39) rfl ?_)
          refine q_gets (κ := 12) (k := 1) (φ := 601) (pc' := 42) C Bh_6 (cw_k Bh_6.2.2 k0) fl_X11_16 rfl rfl rfl eb_5 dX11_blame_39 rfl ?_
          refine lv_iload_n hx hb dX11_blame_42 rfl (lv_at hl 1 rfl) (hp_n (n := 43) rfl ?_)
          refine q_ci (pc' := 46) Bh_6 (hp_runV (As := [.int a1]) (rest := [.ref a0]) C Bh_6 (t_X10_countUnsound Γ l α Bh_6.2.2.1 b_5 (cw_k Bh_6.2.2 kb_5) a1) lb_X10_countUnsound lv_X10_countUnsound lk_X11_353 (cw_k Bh_6.2.2 kb_5) rfl (by decide) rfl hl.1 rfl (Nat.le_of_ble_eq_true rfl) dX11_blame_43 ⟨Nat.le_refl _, Nat.le_refl _⟩) (fun _ _ h => cw_tr Bh_6.2.2 h (by decide)) rfl (fun rh_17 αh_17 Hh_17 Lh_17 ph_17 Bh_17 => ?_)
          refine q_ci (pc' := 49) Bh_17 (hp_runV (As := [.int rh_17]) (rest := []) C Bh_17 (t_X11_answer Γ l αh_17 Bh_17.2.2.1 a0 (cw_k Bh_17.2.2 k0) rh_17) lb_X11_answer lv_X11_answer lk_X11_115 (cw_k Bh_17.2.2 k0) rfl (by decide) rfl hl.1 rfl (Nat.le_of_ble_eq_true rfl) dX11_blame_46 ⟨Nat.le_refl _, Nat.le_refl _⟩) (fun _ _ h => cw_tr Bh_17.2.2 h (by decide)) rfl (fun rh_18 αh_18 Hh_18 Lh_18 ph_18 Bh_18 => ?_)
          exact q_iret C Bh_18 hr hlk Bh_18.2.2 dX11_blame_49
    ·
      have jc_4 := il_nle c_4
      exact J9 s.heap [] B ls (lv_sub hl [0] rfl)
end JN4_0
section JN4_1
abbrev w_X11_clashingStep : cw_W := ([], [], [], [])
set_option maxRecDepth 100000 in
set_option maxHeartbeats 4000000 in
theorem t_X11_clashingStep (Γ : hp_G) (l : Launch) (α : hp_T) (g : GC α) (a0 : Nat) (k0 : hp_K α a0 = 12) (a1 : Int32) (a2 : Int32) : Met l yX11_clashingStep (hp_ws yX11_clashingStep cX11_clashingStep 7 (some .int)) (hp_rm 2 0 0) (hp_Pc Γ α [.ref a0, .int a1, .int a2]) (hp_Qi Γ (fun r β => β = α)) 0 0 (hp_A Γ) := by
  refine hp_start (by decide) ?_
  intro p e s m below meth c C hr hlk B0 hnm
  have C : hp_C Γ p m c cX11_clashingStep 7 s ([.ref a0, .int a1, .int a2] : List Value).toArray RX11 := C
  have hx := C.1.1
  have hb := C.1.2.1
  have hown := C.1.2.2.2.1
  have hts := C.1.2.2.2.2
  have B : hp_B Γ (cw w_X11_clashingStep) s α α s.heap [] := ⟨B0.1, B0.2.1, cw_rf g⟩
  have litm1 : ((-1) : Int32).toInt = (-1) := by decide
  have lit0 : (0 : Int32).toInt = 0 := by decide
  have lit1 : (1 : Int32).toInt = 1 := by decide
  have hl := lv_entry ([.ref a0, .int a1, .int a2]) (n := 7) (Nat.le_of_ble_eq_true rfl)
  show W p l e (hp_rm 2 0 0) s m ([.ref a0, .int a1, .int a2] : List Value).toArray below meth c s.heap [] 0 0 (MQ below (hp_Qi Γ (fun r β => β = α)) ([.ref a0, .int a1, .int a2] : List Value).toArray s 0 0 (hp_A Γ)) (entryFrame m ([.ref a0, .int a1, .int a2] : List Value).toArray 7)
  rw [lg_entry_eq]
  generalize (lg_sl ([.ref a0, .int a1, .int a2]) ++ List.replicate (7 - (lg_sl ([.ref a0, .int a1, .int a2])).length) Slot.unset).toArray = ls at hl ⊢
  have hl : lv_has ls 7 [(0, .ref a0), (1, .int a1), (2, .int a2)] := hl
  refine lv_iload_n hx hb dX11_clashingStep_0 rfl (lv_at hl 1 rfl) (hp_n (n := 1) rfl ?_)
  refine lv_istore_n (lv' := [(3, .int a1), (0, .ref a0), (1, .int a1), (2, .int a2)]) hx hb dX11_clashingStep_1 rfl hl (by decide) rfl (fun ls hl => hp_n (n := 2) rfl ?_)
  refine lv_iload_n hx hb dX11_clashingStep_2 rfl (lv_at hl 3 rfl) (hp_n (n := 3) rfl ?_)
  refine lv_istore (lv' := [(4, .int a2), (3, .int a1), (0, .ref a0), (1, .int a1), (2, .int a2)]) hx hb dX11_clashingStep_3 hl (by decide) rfl (fun ls hl => hp_n (n := 5) rfl ?_)
  refine lv_iconst (v := 0) hx hb dX11_clashingStep_5 (by decide) (hp_n (n := 6) rfl ?_)
  have J8 : ∀ (nq : Nat) (Hh_1 : Heap) (Lh_1 : List Loc) (Bh_1 : hp_B Γ (cw w_X11_clashingStep) s α α Hh_1 Lh_1) (v3_h_1 : Int32) (v4_h_1 : Int32) (v5_h_1 : Int32) (ih_1_0 : 0 ≤ v5_h_1.toInt) (ls : Array Slot) (hl : lv_has ls 7 [(0, .ref a0), (3, .int v3_h_1), (4, .int v4_h_1), (5, .int v5_h_1)]) (hmu8 : (2147483647 - v5_h_1.toInt).toNat = nq), W p l e (hp_rm 2 0 0) s m ([.ref a0, .int a1, .int a2] : List Value).toArray below meth c Hh_1 Lh_1 0 0 (MQ below (hp_Qi Γ (fun r β => β = α)) ([.ref a0, .int a1, .int a2] : List Value).toArray s 0 0 (hp_A Γ)) (F0 m 8 ls []) := by
    intro nq
    induction nq using Nat.strongRecOn with
    | ind nq ih8 =>
    intro Hh_1 Lh_1 Bh_1 v3_h_1 v4_h_1 v5_h_1 ih_1_0 ls hl hmu8
    have inv8_0 := ih_1_0
    refine lv_iload hx hb dX11_clashingStep_8 (lv_at hl 3 rfl) (hp_n (n := 10) rfl ?_)
    refine lv_aload_n hx hb dX11_clashingStep_10 rfl (lv_at hl 0 rfl) (hp_n (n := 11) rfl ?_)
    refine q_getr (κ := 12) (k := 12) (φ := 612) (pc' := 14) C Bh_1 (cw_k Bh_1.2.2 k0) fl_X11_62 rfl rfl rfl (cw_r Bh_1.2.2 k0 rfl rfl (by decide) (by decide)) dX11_clashingStep_11 rfl (fun b_2 eb_2 kb_2 => ?_)
    refine q_geti (κ := 9) (k := 3) (φ := 453) (pc' := 17) C Bh_1 (cw_k Bh_1.2.2 kb_2) fl_X11_312 rfl rfl rfl dX11_clashingStep_14 rfl (fun x_3 ex_3 => ?_)
    obtain ⟨gx_3a, gx_3b⟩ : 0 ≤ x_3.toInt ∧ x_3.toInt ≤ 64 := by rw [ex_3]; exact Bh_1.2.2.1.1 453 b_2 rfl
    refine lv_icmp_ge (tgt := 130) hx hb dX11_clashingStep_17 (by decide) (fun c_4 => ?_) (fun c_4 => hp_n (n := 20) rfl ?_)
    ·
      have jc_4 := il_le c_4
      refine lv_iconst (v := (-1)) hx hb dX11_clashingStep_130 (by decide) (hp_n (n := 131) rfl ?_)
      exact q_iret C Bh_1 hr hlk rfl dX11_clashingStep_131
    ·
      have jc_4 := il_nle c_4
      refine lv_iload_n hx hb dX11_clashingStep_20 rfl (lv_at hl 1 rfl) (hp_n (n := 21) rfl ?_)
      refine lv_iload hx hb dX11_clashingStep_21 (lv_at hl 2 rfl) (hp_n (n := 23) rfl ?_)
      have J47 : ∀ (Hh_5 : Heap) (Lh_5 : List Loc) (Bh_5 : hp_B Γ (cw w_X11_clashingStep) s α α Hh_5 Lh_5) (ls : Array Slot) (hl : lv_has ls 7 [(0, .ref a0), (3, .int v3_h_1), (4, .int v4_h_1), (5, .int v5_h_1)]), W p l e (hp_rm 2 0 0) s m ([.ref a0, .int a1, .int a2] : List Value).toArray below meth c Hh_5 Lh_5 0 0 (MQ below (hp_Qi Γ (fun r β => β = α)) ([.ref a0, .int a1, .int a2] : List Value).toArray s 0 0 (hp_A Γ)) (F0 m 47 ls []) := by
        intro Hh_5 Lh_5 Bh_5 ls hl
        refine lv_iconst (v := 1) hx hb dX11_clashingStep_47 (by decide) (hp_n (n := 48) rfl ?_)
        refine lv_goto (tgt := 52) hx hb dX11_clashingStep_48 (by decide) ?_
        refine lv_istore (lv' := [(6, .int 1), (0, .ref a0), (3, .int v3_h_1), (4, .int v4_h_1), (5, .int v5_h_1)]) hx hb dX11_clashingStep_52 hl (by decide) rfl (fun ls hl => hp_n (n := 54) rfl ?_)
        refine lv_aload_n hx hb dX11_clashingStep_54 rfl (lv_at hl 1 rfl) (hp_n (n := 55) rfl ?_)
        refine q_gets (κ := 12) (k := 12) (φ := 612) (pc' := 58) C Bh_5 (cw_k Bh_5.2.2 k0) fl_X11_62 rfl rfl rfl eb_2 dX11_clashingStep_55 rfl ?_
        refine lv_aload_n hx hb dX11_clashingStep_58 rfl (lv_at hl 1 rfl) (hp_n (n := 59) rfl ?_)
        refine q_getr (κ := 12) (k := 1) (φ := 601) (pc' := 62) C Bh_5 (cw_k Bh_5.2.2 k0) fl_X11_16 rfl rfl rfl (cw_r Bh_5.2.2 k0 rfl rfl (by decide) (by decide)) dX11_clashingStep_59 rfl (fun b_6 eb_6 kb_6 => ?_)
        refine q_geti (κ := 11) (k := 0) (φ := 550) (pc' := 65) C Bh_5 (cw_k Bh_5.2.2 kb_6) fl_X11_122 rfl rfl rfl dX11_clashingStep_62 rfl (fun x_7 ex_7 => ?_)
        refine lv_iload hx hb dX11_clashingStep_65 (lv_at hl 4 rfl) (hp_n (n := 67) rfl ?_)
        refine lv_iload_n hx hb dX11_clashingStep_67 rfl (lv_at hl 2 rfl) (hp_n (n := 68) rfl ?_)
        refine lv_aload_n hx hb dX11_clashingStep_68 rfl (lv_at hl 1 rfl) (hp_n (n := 69) rfl ?_)
        refine q_getr (κ := 12) (k := 14) (φ := 614) (pc' := 72) C Bh_5 (cw_k Bh_5.2.2 k0) fl_X11_69 rfl rfl rfl (cw_r Bh_5.2.2 k0 rfl rfl (by decide) (by decide)) dX11_clashingStep_69 rfl (fun b_8 eb_8 kb_8 => ?_)
        refine lv_iload hx hb dX11_clashingStep_72 (lv_at hl 4 rfl) (hp_n (n := 74) rfl ?_)
        refine q_ci (pc' := 77) Bh_5 (hp_runV (As := [.int v5_h_1]) (rest := [.int v3_h_1, .int v5_h_1, .int x_7, .ref b_2]) C Bh_5 (t_X5_at Γ l α Bh_5.2.2.1 b_8 (cw_k Bh_5.2.2 kb_8) v5_h_1) lb_X5_at lv_X5_at lk_X11_135 (cw_k Bh_5.2.2 kb_8) rfl (by decide) rfl hl.1 rfl (Nat.le_of_ble_eq_true rfl) dX11_clashingStep_74 ⟨Nat.le_refl _, Nat.le_refl _⟩) (fun _ _ h => by rw [h]; exact Bh_5.2.2) rfl (fun rh_9 αh_9 Hh_9 Lh_9 ph_9 Bh_9 => ?_)
        rw [ph_9] at Bh_9
        refine q_ci (pc' := 80) Bh_9 (hp_runV (As := [.int x_7, .int v5_h_1, .int v3_h_1, .int rh_9]) (rest := []) C Bh_9 (t_X8_joined Γ l α Bh_9.2.2.1 b_2 (cw_k Bh_9.2.2 kb_2) x_7 v5_h_1 v3_h_1 rh_9) lb_X8_joined lv_X8_joined lk_X11_478 (cw_k Bh_9.2.2 kb_2) rfl (by decide) rfl hl.1 rfl (Nat.le_of_ble_eq_true rfl) dX11_clashingStep_77 ⟨Nat.le_refl _, Nat.le_refl _⟩) (fun _ _ h => by rw [h]; exact Bh_9.2.2) rfl (fun rh_10 αh_10 Hh_10 Lh_10 ph_10 Bh_10 => ?_)
        rw [ph_10] at Bh_10
        refine lv_istore_n (lv' := [(3, .int rh_10), (6, .int 1), (0, .ref a0), (4, .int v4_h_1), (5, .int v5_h_1)]) hx hb dX11_clashingStep_80 rfl hl (by decide) rfl (fun ls hl => hp_n (n := 81) rfl ?_)
        refine lv_aload_n hx hb dX11_clashingStep_81 rfl (lv_at hl 2 rfl) (hp_n (n := 82) rfl ?_)
        refine q_gets (κ := 12) (k := 12) (φ := 612) (pc' := 85) C Bh_10 (cw_k Bh_10.2.2 k0) fl_X11_62 rfl rfl rfl eb_2 dX11_clashingStep_82 rfl ?_
        refine lv_aload_n hx hb dX11_clashingStep_85 rfl (lv_at hl 2 rfl) (hp_n (n := 86) rfl ?_)
        refine q_gets (κ := 12) (k := 1) (φ := 601) (pc' := 89) C Bh_10 (cw_k Bh_10.2.2 k0) fl_X11_16 rfl rfl rfl eb_6 dX11_clashingStep_86 rfl ?_
        refine q_getj (κ := 11) (k := 0) (φ := 550) (pc' := 92) C Bh_10 (cw_k Bh_10.2.2 kb_6) fl_X11_122 rfl rfl rfl ex_7 dX11_clashingStep_89 rfl ?_
        refine lv_iload hx hb dX11_clashingStep_92 (lv_at hl 4 rfl) (hp_n (n := 94) rfl ?_)
        refine lv_iload hx hb dX11_clashingStep_94 (lv_at hl 3 rfl) (hp_n (n := 96) rfl ?_)
        refine lv_aload_n hx hb dX11_clashingStep_96 rfl (lv_at hl 2 rfl) (hp_n (n := 97) rfl ?_)
        refine q_getr (κ := 12) (k := 3) (φ := 603) (pc' := 100) C Bh_10 (cw_k Bh_10.2.2 k0) fl_X11_26 rfl rfl rfl (cw_r Bh_10.2.2 k0 rfl rfl (by decide) (by decide)) dX11_clashingStep_97 rfl (fun b_11 eb_11 kb_11 => ?_)
        refine lv_iload hx hb dX11_clashingStep_100 (lv_at hl 4 rfl) (hp_n (n := 102) rfl ?_)
        refine q_ci (pc' := 105) Bh_10 (hp_runV (As := [.int v5_h_1]) (rest := [.int v4_h_1, .int v5_h_1, .int x_7, .ref b_2]) C Bh_10 (t_X5_at Γ l α Bh_10.2.2.1 b_11 (cw_k Bh_10.2.2 kb_11) v5_h_1) lb_X5_at lv_X5_at lk_X11_135 (cw_k Bh_10.2.2 kb_11) rfl (by decide) rfl hl.1 rfl (Nat.le_of_ble_eq_true rfl) dX11_clashingStep_102 ⟨Nat.le_refl _, Nat.le_refl _⟩) (fun _ _ h => by rw [h]; exact Bh_10.2.2) rfl (fun rh_12 αh_12 Hh_12 Lh_12 ph_12 Bh_12 => ?_)
        rw [ph_12] at Bh_12
        refine q_ci (pc' := 108) Bh_12 (hp_runV (As := [.int x_7, .int v5_h_1, .int v4_h_1, .int rh_12]) (rest := []) C Bh_12 (t_X8_joined Γ l α Bh_12.2.2.1 b_2 (cw_k Bh_12.2.2 kb_2) x_7 v5_h_1 v4_h_1 rh_12) lb_X8_joined lv_X8_joined lk_X11_478 (cw_k Bh_12.2.2 kb_2) rfl (by decide) rfl hl.1 rfl (Nat.le_of_ble_eq_true rfl) dX11_clashingStep_105 ⟨Nat.le_refl _, Nat.le_refl _⟩) (fun _ _ h => by rw [h]; exact Bh_12.2.2) rfl (fun rh_13 αh_13 Hh_13 Lh_13 ph_13 Bh_13 => ?_)
        rw [ph_13] at Bh_13
        refine lv_istore (lv' := [(4, .int rh_13), (3, .int rh_10), (6, .int 1), (0, .ref a0), (5, .int v5_h_1)]) hx hb dX11_clashingStep_108 hl (by decide) rfl (fun ls hl => hp_n (n := 110) rfl ?_)
        refine lv_iload hx hb dX11_clashingStep_110 (lv_at hl 2 rfl) (hp_n (n := 112) rfl ?_)
        refine lv_if_eq (tgt := 124) hx hb dX11_clashingStep_112 (by decide) (fun c_14 => ?_) (fun c_14 => hp_n (n := 115) rfl ?_)
        · exact absurd c_14 (by decide)
        refine lv_iload_n hx hb dX11_clashingStep_115 rfl (lv_at hl 1 rfl) (hp_n (n := 116) rfl ?_)
        refine lv_iload hx hb dX11_clashingStep_116 (lv_at hl 0 rfl) (hp_n (n := 118) rfl ?_)
        refine lv_icmp_ne (tgt := 124) hx hb dX11_clashingStep_118 (by decide) (fun c_15 => ?_) (fun c_15 => hp_n (n := 121) rfl ?_)
        ·
          have jc_15 := il_ne c_15
          obtain ⟨x_16, ex_16⟩ : ∃ y : Int32, y = v5_h_1 + 1 := ⟨_, rfl⟩
          have qx_16 : x_16.toInt = v5_h_1.toInt + 1 := by have q0 := ib_hi x_3; have qa := ib_lo v5_h_1; rw [ex_16]; exact ii_add (by omega) (by omega)
          refine lv_iinc (v := x_16) (lv' := [(5, .int x_16), (4, .int rh_13), (3, .int rh_10), (6, .int 1), (0, .ref a0)]) hx hb dX11_clashingStep_124 hl (k := 4) rfl (by rw [ex_16]; rfl) (by decide) rfl (fun ls hl => hp_n (n := 127) rfl ?_)
          refine lv_goto (tgt := 8) hx hb dX11_clashingStep_127 (by decide) ?_
          exact ih8 _ (by have q0 := ib_hi x_3; have q1 := ib_lo x_3; have qa := ib_hi v5_h_1; have qb := ib_lo v5_h_1; have qc : (v5_h_1 + 1).toInt = v5_h_1.toInt + (1 : Int32).toInt := ii_add (by omega) (by omega); rw [ex_16]; omega) Hh_13 Lh_13 Bh_13 rh_10 rh_13 x_16 (by omega) ls (lv_sub hl [4, 2, 1, 0] rfl) rfl
        ·
          have jc_15 := il_eq c_15
          refine lv_iload hx hb dX11_clashingStep_121 (lv_at hl 4 rfl) (hp_n (n := 123) rfl ?_)
          exact q_iret C Bh_13 hr hlk rfl dX11_clashingStep_123
      refine lv_icmp_ne (tgt := 47) hx hb dX11_clashingStep_23 (by decide) (fun c_17 => ?_) (fun c_17 => hp_n (n := 26) rfl ?_)
      ·
        have jc_17 := il_ne c_17
        exact J47 Hh_1 Lh_1 Bh_1 ls (lv_sub hl [0, 1, 2, 3] rfl)
      ·
        have jc_17 := il_eq c_17
        refine lv_aload_n hx hb dX11_clashingStep_26 rfl (lv_at hl 0 rfl) (hp_n (n := 27) rfl ?_)
        refine q_getr (κ := 12) (k := 14) (φ := 614) (pc' := 30) C Bh_1 (cw_k Bh_1.2.2 k0) fl_X11_69 rfl rfl rfl (cw_r Bh_1.2.2 k0 rfl rfl (by decide) (by decide)) dX11_clashingStep_27 rfl (fun b_18 eb_18 kb_18 => ?_)
        refine lv_iload hx hb dX11_clashingStep_30 (lv_at hl 3 rfl) (hp_n (n := 32) rfl ?_)
        refine q_ci (pc' := 35) Bh_1 (hp_runV (As := [.int v5_h_1]) (rest := []) C Bh_1 (t_X5_at Γ l α Bh_1.2.2.1 b_18 (cw_k Bh_1.2.2 kb_18) v5_h_1) lb_X5_at lv_X5_at lk_X11_135 (cw_k Bh_1.2.2 kb_18) rfl (by decide) rfl hl.1 rfl (Nat.le_of_ble_eq_true rfl) dX11_clashingStep_32 ⟨Nat.le_refl _, Nat.le_refl _⟩) (fun _ _ h => by rw [h]; exact Bh_1.2.2) rfl (fun rh_19 αh_19 Hh_19 Lh_19 ph_19 Bh_19 => ?_)
        rw [ph_19] at Bh_19
        refine lv_aload_n hx hb dX11_clashingStep_35 rfl (lv_at hl 0 rfl) (hp_n (n := 36) rfl ?_)
        refine q_getr (κ := 12) (k := 3) (φ := 603) (pc' := 39) C Bh_19 (cw_k Bh_19.2.2 k0) fl_X11_26 rfl rfl rfl (cw_r Bh_19.2.2 k0 rfl rfl (by decide) (by decide)) dX11_clashingStep_36 rfl (fun b_20 eb_20 kb_20 => ?_)
        refine lv_iload hx hb dX11_clashingStep_39 (lv_at hl 3 rfl) (hp_n (n := 41) rfl ?_)
        refine q_ci (pc' := 44) Bh_19 (hp_runV (As := [.int v5_h_1]) (rest := [.int rh_19]) C Bh_19 (t_X5_at Γ l α Bh_19.2.2.1 b_20 (cw_k Bh_19.2.2 kb_20) v5_h_1) lb_X5_at lv_X5_at lk_X11_135 (cw_k Bh_19.2.2 kb_20) rfl (by decide) rfl hl.1 rfl (Nat.le_of_ble_eq_true rfl) dX11_clashingStep_41 ⟨Nat.le_refl _, Nat.le_refl _⟩) (fun _ _ h => by rw [h]; exact Bh_19.2.2) rfl (fun rh_21 αh_21 Hh_21 Lh_21 ph_21 Bh_21 => ?_)
        rw [ph_21] at Bh_21
        refine lv_icmp_eq (tgt := 51) hx hb dX11_clashingStep_44 (by decide) (fun c_22 => ?_) (fun c_22 => hp_n (n := 47) rfl ?_)
        ·
          have jc_22 := il_eq c_22
          refine lv_iconst (v := 0) hx hb dX11_clashingStep_51 (by decide) (hp_n (n := 52) rfl ?_)
          refine lv_istore (lv' := [(6, .int 0), (0, .ref a0), (3, .int v3_h_1), (4, .int v4_h_1), (5, .int v5_h_1)]) hx hb dX11_clashingStep_52 hl (by decide) rfl (fun ls hl => hp_n (n := 54) rfl ?_)
          refine lv_aload_n hx hb dX11_clashingStep_54 rfl (lv_at hl 1 rfl) (hp_n (n := 55) rfl ?_)
          refine q_gets (κ := 12) (k := 12) (φ := 612) (pc' := 58) C Bh_21 (cw_k Bh_21.2.2 k0) fl_X11_62 rfl rfl rfl eb_2 dX11_clashingStep_55 rfl ?_
          refine lv_aload_n hx hb dX11_clashingStep_58 rfl (lv_at hl 1 rfl) (hp_n (n := 59) rfl ?_)
          refine q_getr (κ := 12) (k := 1) (φ := 601) (pc' := 62) C Bh_21 (cw_k Bh_21.2.2 k0) fl_X11_16 rfl rfl rfl (cw_r Bh_21.2.2 k0 rfl rfl (by decide) (by decide)) dX11_clashingStep_59 rfl (fun b_23 eb_23 kb_23 => ?_)
          refine q_geti (κ := 11) (k := 0) (φ := 550) (pc' := 65) C Bh_21 (cw_k Bh_21.2.2 kb_23) fl_X11_122 rfl rfl rfl dX11_clashingStep_62 rfl (fun x_24 ex_24 => ?_)
          refine lv_iload hx hb dX11_clashingStep_65 (lv_at hl 4 rfl) (hp_n (n := 67) rfl ?_)
          refine lv_iload_n hx hb dX11_clashingStep_67 rfl (lv_at hl 2 rfl) (hp_n (n := 68) rfl ?_)
          refine lv_aload_n hx hb dX11_clashingStep_68 rfl (lv_at hl 1 rfl) (hp_n (n := 69) rfl ?_)
          refine q_gets (κ := 12) (k := 14) (φ := 614) (pc' := 72) C Bh_21 (cw_k Bh_21.2.2 k0) fl_X11_69 rfl rfl rfl eb_18 dX11_clashingStep_69 rfl ?_
          refine lv_iload hx hb dX11_clashingStep_72 (lv_at hl 4 rfl) (hp_n (n := 74) rfl ?_)
          refine q_ci (pc' := 77) Bh_21 (hp_runV (As := [.int v5_h_1]) (rest := [.int v3_h_1, .int v5_h_1, .int x_24, .ref b_2]) C Bh_21 (t_X5_at Γ l α Bh_21.2.2.1 b_18 (cw_k Bh_21.2.2 kb_18) v5_h_1) lb_X5_at lv_X5_at lk_X11_135 (cw_k Bh_21.2.2 kb_18) rfl (by decide) rfl hl.1 rfl (Nat.le_of_ble_eq_true rfl) dX11_clashingStep_74 ⟨Nat.le_refl _, Nat.le_refl _⟩) (fun _ _ h => by rw [h]; exact Bh_21.2.2) rfl (fun rh_25 αh_25 Hh_25 Lh_25 ph_25 Bh_25 => ?_)
          rw [ph_25] at Bh_25
          refine q_ci (pc' := 80) Bh_25 (hp_runV (As := [.int x_24, .int v5_h_1, .int v3_h_1, .int rh_25]) (rest := []) C Bh_25 (t_X8_joined Γ l α Bh_25.2.2.1 b_2 (cw_k Bh_25.2.2 kb_2) x_24 v5_h_1 v3_h_1 rh_25) lb_X8_joined lv_X8_joined lk_X11_478 (cw_k Bh_25.2.2 kb_2) rfl (by decide) rfl hl.1 rfl (Nat.le_of_ble_eq_true rfl) dX11_clashingStep_77 ⟨Nat.le_refl _, Nat.le_refl _⟩) (fun _ _ h => by rw [h]; exact Bh_25.2.2) rfl (fun rh_26 αh_26 Hh_26 Lh_26 ph_26 Bh_26 => ?_)
          rw [ph_26] at Bh_26
          refine lv_istore_n (lv' := [(3, .int rh_26), (6, .int 0), (0, .ref a0), (4, .int v4_h_1), (5, .int v5_h_1)]) hx hb dX11_clashingStep_80 rfl hl (by decide) rfl (fun ls hl => hp_n (n := 81) rfl ?_)
          refine lv_aload_n hx hb dX11_clashingStep_81 rfl (lv_at hl 2 rfl) (hp_n (n := 82) rfl ?_)
          refine q_gets (κ := 12) (k := 12) (φ := 612) (pc' := 85) C Bh_26 (cw_k Bh_26.2.2 k0) fl_X11_62 rfl rfl rfl eb_2 dX11_clashingStep_82 rfl ?_
          refine lv_aload_n hx hb dX11_clashingStep_85 rfl (lv_at hl 2 rfl) (hp_n (n := 86) rfl ?_)
          refine q_gets (κ := 12) (k := 1) (φ := 601) (pc' := 89) C Bh_26 (cw_k Bh_26.2.2 k0) fl_X11_16 rfl rfl rfl eb_23 dX11_clashingStep_86 rfl ?_
          refine q_getj (κ := 11) (k := 0) (φ := 550) (pc' := 92) C Bh_26 (cw_k Bh_26.2.2 kb_23) fl_X11_122 rfl rfl rfl ex_24 dX11_clashingStep_89 rfl ?_
          refine lv_iload hx hb dX11_clashingStep_92 (lv_at hl 4 rfl) (hp_n (n := 94) rfl ?_)
          refine lv_iload hx hb dX11_clashingStep_94 (lv_at hl 3 rfl) (hp_n (n := 96) rfl ?_)
          refine lv_aload_n hx hb dX11_clashingStep_96 rfl (lv_at hl 2 rfl) (hp_n (n := 97) rfl ?_)
          refine q_gets (κ := 12) (k := 3) (φ := 603) (pc' := 100) C Bh_26 (cw_k Bh_26.2.2 k0) fl_X11_26 rfl rfl rfl eb_20 dX11_clashingStep_97 rfl ?_
          refine lv_iload hx hb dX11_clashingStep_100 (lv_at hl 4 rfl) (hp_n (n := 102) rfl ?_)
          refine q_ci (pc' := 105) Bh_26 (hp_runV (As := [.int v5_h_1]) (rest := [.int v4_h_1, .int v5_h_1, .int x_24, .ref b_2]) C Bh_26 (t_X5_at Γ l α Bh_26.2.2.1 b_20 (cw_k Bh_26.2.2 kb_20) v5_h_1) lb_X5_at lv_X5_at lk_X11_135 (cw_k Bh_26.2.2 kb_20) rfl (by decide) rfl hl.1 rfl (Nat.le_of_ble_eq_true rfl) dX11_clashingStep_102 ⟨Nat.le_refl _, Nat.le_refl _⟩) (fun _ _ h => by rw [h]; exact Bh_26.2.2) rfl (fun rh_27 αh_27 Hh_27 Lh_27 ph_27 Bh_27 => ?_)
          rw [ph_27] at Bh_27
          refine q_ci (pc' := 108) Bh_27 (hp_runV (As := [.int x_24, .int v5_h_1, .int v4_h_1, .int rh_27]) (rest := []) C Bh_27 (t_X8_joined Γ l α Bh_27.2.2.1 b_2 (cw_k Bh_27.2.2 kb_2) x_24 v5_h_1 v4_h_1 rh_27) lb_X8_joined lv_X8_joined lk_X11_478 (cw_k Bh_27.2.2 kb_2) rfl (by decide) rfl hl.1 rfl (Nat.le_of_ble_eq_true rfl) dX11_clashingStep_105 ⟨Nat.le_refl _, Nat.le_refl _⟩) (fun _ _ h => by rw [h]; exact Bh_27.2.2) rfl (fun rh_28 αh_28 Hh_28 Lh_28 ph_28 Bh_28 => ?_)
          rw [ph_28] at Bh_28
          refine lv_istore (lv' := [(4, .int rh_28), (3, .int rh_26), (6, .int 0), (0, .ref a0), (5, .int v5_h_1)]) hx hb dX11_clashingStep_108 hl (by decide) rfl (fun ls hl => hp_n (n := 110) rfl ?_)
          refine lv_iload hx hb dX11_clashingStep_110 (lv_at hl 2 rfl) (hp_n (n := 112) rfl ?_)
          refine lv_if_eq (tgt := 124) hx hb dX11_clashingStep_112 (by decide) (fun c_29 => ?_) (fun c_29 => hp_n (n := 115) rfl ?_)
          rotate_left
          · exact absurd c_29 (by decide)
          obtain ⟨x_30, ex_30⟩ : ∃ y : Int32, y = v5_h_1 + 1 := ⟨_, rfl⟩
          have qx_30 : x_30.toInt = v5_h_1.toInt + 1 := by have q0 := ib_hi x_3; have qa := ib_lo v5_h_1; rw [ex_30]; exact ii_add (by omega) (by omega)
          refine lv_iinc (v := x_30) (lv' := [(5, .int x_30), (4, .int rh_28), (3, .int rh_26), (6, .int 0), (0, .ref a0)]) hx hb dX11_clashingStep_124 hl (k := 4) rfl (by rw [ex_30]; rfl) (by decide) rfl (fun ls hl => hp_n (n := 127) rfl ?_)
          refine lv_goto (tgt := 8) hx hb dX11_clashingStep_127 (by decide) ?_
          exact ih8 _ (by have q0 := ib_hi x_3; have q1 := ib_lo x_3; have qa := ib_hi v5_h_1; have qb := ib_lo v5_h_1; have qc : (v5_h_1 + 1).toInt = v5_h_1.toInt + (1 : Int32).toInt := ii_add (by omega) (by omega); rw [ex_30]; omega) Hh_28 Lh_28 Bh_28 rh_26 rh_28 x_30 (by omega) ls (lv_sub hl [4, 2, 1, 0] rfl) rfl
        ·
          have jc_22 := il_ne c_22
          exact J47 Hh_21 Lh_21 Bh_21 ls (lv_sub hl [0, 1, 2, 3] rfl)
  refine lv_istore (lv' := [(5, .int 0), (4, .int a2), (3, .int a1), (0, .ref a0), (1, .int a1), (2, .int a2)]) hx hb dX11_clashingStep_6 hl (by decide) rfl (fun ls hl => hp_n (n := 8) rfl ?_)
  exact J8 _ s.heap [] B a1 a2 0 (by omega) ls (lv_sub hl [3, 2, 1, 0] rfl) rfl
abbrev w_X11_clash : cw_W := ([301, 453, 454, 600], [], [20, 21, 22, 23, 33], [])
set_option maxRecDepth 100000 in
set_option maxHeartbeats 4000000 in
theorem t_X11_clash (Γ : hp_G) (l : Launch) (α : hp_T) (g : GC α) (a0 : Nat) (k0 : hp_K α a0 = 12) (a1 : Int32) (a2 : Int32) (a3 : Int32) (a4 : Int32) (a5 : Int32) : Met l yX11_clash (hp_ws yX11_clash cX11_clash 13 (some .int)) (hp_rm 4 0 0) (hp_Pc Γ α [.ref a0, .int a1, .int a2, .int a3, .int a4, .int a5]) (hp_Qi Γ (fun r β => cw w_X11_clash α β)) 0 0 (hp_A Γ) := by
  refine hp_start (by decide) ?_
  intro p e s m below meth c C hr hlk B0 hnm
  have C : hp_C Γ p m c cX11_clash 13 s ([.ref a0, .int a1, .int a2, .int a3, .int a4, .int a5] : List Value).toArray RX11 := C
  have hx := C.1.1
  have hb := C.1.2.1
  have hown := C.1.2.2.2.1
  have hts := C.1.2.2.2.2
  have B : hp_B Γ (cw w_X11_clash) s α α s.heap [] := ⟨B0.1, B0.2.1, cw_rf g⟩
  have lit0 : (0 : Int32).toInt = 0 := by decide
  have lit1 : (1 : Int32).toInt = 1 := by decide
  have lit2 : (2 : Int32).toInt = 2 := by decide
  have lit3 : (3 : Int32).toInt = 3 := by decide
  have lit4 : (4 : Int32).toInt = 4 := by decide
  have lit5 : (5 : Int32).toInt = 5 := by decide
  have hl := lv_entry ([.ref a0, .int a1, .int a2, .int a3, .int a4, .int a5]) (n := 13) (Nat.le_of_ble_eq_true rfl)
  show W p l e (hp_rm 4 0 0) s m ([.ref a0, .int a1, .int a2, .int a3, .int a4, .int a5] : List Value).toArray below meth c s.heap [] 0 0 (MQ below (hp_Qi Γ (fun r β => cw w_X11_clash α β)) ([.ref a0, .int a1, .int a2, .int a3, .int a4, .int a5] : List Value).toArray s 0 0 (hp_A Γ)) (entryFrame m ([.ref a0, .int a1, .int a2, .int a3, .int a4, .int a5] : List Value).toArray 13)
  rw [lg_entry_eq]
  generalize (lg_sl ([.ref a0, .int a1, .int a2, .int a3, .int a4, .int a5]) ++ List.replicate (13 - (lg_sl ([.ref a0, .int a1, .int a2, .int a3, .int a4, .int a5])).length) Slot.unset).toArray = ls at hl ⊢
  have hl : lv_has ls 13 [(0, .ref a0), (1, .int a1), (2, .int a2), (3, .int a3), (4, .int a4), (5, .int a5)] := hl
  refine lv_iload hx hb dX11_clash_0 (lv_at hl 5 rfl) (hp_n (n := 2) rfl ?_)
  have J20 : ∀ (Hh_1 : Heap) (Lh_1 : List Loc) (Bh_1 : hp_B Γ (cw w_X11_clash) s α α Hh_1 Lh_1) (ls : Array Slot) (hl : lv_has ls 13 [(0, .ref a0)]), W p l e (hp_rm 4 0 0) s m ([.ref a0, .int a1, .int a2, .int a3, .int a4, .int a5] : List Value).toArray below meth c Hh_1 Lh_1 0 0 (MQ below (hp_Qi Γ (fun r β => cw w_X11_clash α β)) ([.ref a0, .int a1, .int a2, .int a3, .int a4, .int a5] : List Value).toArray s 0 0 (hp_A Γ)) (F0 m 20 ls []) := by
    intro Hh_1 Lh_1 Bh_1 ls hl
    refine lv_aload_n hx hb dX11_clash_20 rfl (lv_at hl 0 rfl) (hp_n (n := 21) rfl ?_)
    refine lv_iconst (v := 1) hx hb dX11_clash_21 (by decide) (hp_n (n := 22) rfl ?_)
    refine q_ci (pc' := 25) Bh_1 (hp_runV (As := [.int 1]) (rest := []) C Bh_1 (t_X11_refuse Γ l α Bh_1.2.2.1 a0 (cw_k Bh_1.2.2 k0) 1) lb_X11_refuse lv_X11_refuse lk_X11_98 (cw_k Bh_1.2.2 k0) rfl (by decide) rfl hl.1 rfl (Nat.le_of_ble_eq_true rfl) dX11_clash_22 ⟨Nat.le_refl _, Nat.le_refl _⟩) (fun _ _ h => cw_tr Bh_1.2.2 h (by decide)) rfl (fun rh_2 αh_2 Hh_2 Lh_2 ph_2 Bh_2 => ?_)
    exact q_iret C Bh_2 hr hlk Bh_2.2.2 dX11_clash_25
  refine lv_if_lt (tgt := 20) hx hb dX11_clash_2 (by decide) (fun c_3 => ?_) (fun c_3 => hp_n (n := 5) rfl ?_)
  ·
    have jc_3 := il_lt c_3
    exact J20 s.heap [] B ls (lv_sub hl [0] rfl)
  ·
    have jc_3 := il_nlt c_3
    refine lv_iload hx hb dX11_clash_5 (lv_at hl 5 rfl) (hp_n (n := 7) rfl ?_)
    refine lv_iconst (v := 4) hx hb dX11_clash_7 (by decide) (hp_n (n := 8) rfl ?_)
    refine lv_icmp_gt (tgt := 20) hx hb dX11_clash_8 (by decide) (fun c_4 => ?_) (fun c_4 => hp_n (n := 11) rfl ?_)
    ·
      have jc_4 := il_lt c_4
      exact J20 s.heap [] B ls (lv_sub hl [0] rfl)
    ·
      have jc_4 := il_nlt c_4
      refine lv_aload_n hx hb dX11_clash_11 rfl (lv_at hl 0 rfl) (hp_n (n := 12) rfl ?_)
      refine lv_iload hx hb dX11_clash_12 (lv_at hl 4 rfl) (hp_n (n := 14) rfl ?_)
      refine q_ci (pc' := 17) B (hp_runV (As := [.int a4]) (rest := []) C B (t_X11_isMark Γ l α B.2.2.1 a0 (cw_k B.2.2 k0) a4) lb_X11_isMark lv_X11_isMark lk_X11_188 (cw_k B.2.2 k0) rfl (by decide) rfl hl.1 rfl (Nat.le_of_ble_eq_true rfl) dX11_clash_14 ⟨Nat.le_refl _, Nat.le_refl _⟩) (fun _ _ h => by rw [h.1]; exact B.2.2) rfl (fun rh_5 αh_5 Hh_5 Lh_5 ph_5 Bh_5 => ?_)
      rw [ph_5.1] at Bh_5
      have zh_5 := ph_5.2
      refine lv_if_ne (tgt := 26) hx hb dX11_clash_17 (by decide) (fun c_6 => ?_) (fun c_6 => hp_n (n := 20) rfl ?_)
      ·
        have jc_6 := il_ne c_6
        refine lv_aload_n hx hb dX11_clash_26 rfl (lv_at hl 0 rfl) (hp_n (n := 27) rfl ?_)
        refine q_getr (κ := 12) (k := 1) (φ := 601) (pc' := 30) C Bh_5 (cw_k Bh_5.2.2 k0) fl_X11_16 rfl rfl rfl (cw_r Bh_5.2.2 k0 rfl rfl (by decide) (by decide)) dX11_clash_27 rfl (fun b_7 eb_7 kb_7 => ?_)
        refine lv_iload_n hx hb dX11_clash_30 rfl (lv_at hl 1 rfl) (hp_n (n := 31) rfl ?_)
        refine q_cq (pc' := 34) Bh_5 (hp_runV (As := [.int a1]) (rest := []) C Bh_5 (t_X10_logAt Γ l α Bh_5.2.2.1 b_7 (cw_k Bh_5.2.2 kb_7) a1) lb_X10_logAt lv_X10_logAt lk_X11_163 (cw_k Bh_5.2.2 kb_7) rfl (by decide) rfl hl.1 rfl (Nat.le_of_ble_eq_true rfl) dX11_clash_31 ⟨Nat.le_refl _, Nat.le_refl _⟩) (fun _ _ h => by rw [h.1]; exact Bh_5.2.2) rfl (fun rh_8 αh_8 Hh_8 Lh_8 ph_8 Bh_8 => ?_)
        rw [ph_8.1] at Bh_8
        rcases rh_8 with _ | bh_8
        ·
          refine lv_astoreN (lv' := [(6, .null), (0, .ref a0), (1, .int a1), (2, .int a2), (3, .int a3), (4, .int a4), (5, .int a5)]) hx hb dX11_clash_34 hl (by decide) rfl (fun ls hl => hp_n (n := 36) rfl ?_)
          refine lv_aloadN hx hb dX11_clash_36 (lv_at hl 0 rfl) (hp_n (n := 38) rfl ?_)
          refine lv_iload_n hx hb dX11_clash_38 rfl (lv_at hl 3 rfl) (hp_n (n := 39) rfl ?_)
          refine lv_iload_n hx hb dX11_clash_39 rfl (lv_at hl 4 rfl) (hp_n (n := 40) rfl ?_)
          refine q_ci (pc' := 43) Bh_8 (hp_runS (As := [va_rf none, .int a2, .int a3]) (rest := []) C Bh_8 (t_X11_wrongInclusion Γ l α Bh_8.2.2.1 none (fun b h => by cases h) a2 a3) lb_X11_wrongInclusion ls_X11_wrongInclusion lk_X11_264 rfl (by decide) rfl hl.1 rfl (Nat.le_of_ble_eq_true rfl) dX11_clash_40 ⟨Nat.le_refl _, Nat.le_refl _⟩) (fun _ _ h => by rw [h]; exact Bh_8.2.2) rfl (fun rh_9 αh_9 Hh_9 Lh_9 ph_9 Bh_9 => ?_)
          rw [ph_9] at Bh_9
          refine lv_istore (lv' := [(7, .int rh_9), (6, .null), (0, .ref a0), (1, .int a1), (2, .int a2), (3, .int a3), (4, .int a4), (5, .int a5)]) hx hb dX11_clash_43 hl (by decide) rfl (fun ls hl => hp_n (n := 45) rfl ?_)
          refine lv_iload hx hb dX11_clash_45 (lv_at hl 0 rfl) (hp_n (n := 47) rfl ?_)
          have J55 : ∀ (Hh_10 : Heap) (Lh_10 : List Loc) (Bh_10 : hp_B Γ (cw w_X11_clash) s α α Hh_10 Lh_10) (ls : Array Slot) (hl : lv_has ls 13 [(0, .ref a0), (7, .int rh_9)]), W p l e (hp_rm 4 0 0) s m ([.ref a0, .int a1, .int a2, .int a3, .int a4, .int a5] : List Value).toArray below meth c Hh_10 Lh_10 0 0 (MQ below (hp_Qi Γ (fun r β => cw w_X11_clash α β)) ([.ref a0, .int a1, .int a2, .int a3, .int a4, .int a5] : List Value).toArray s 0 0 (hp_A Γ)) (F0 m 55 ls []) := by
            intro Hh_10 Lh_10 Bh_10 ls hl
            refine lv_aload_n hx hb dX11_clash_55 rfl (lv_at hl 0 rfl) (hp_n (n := 56) rfl ?_)
            refine lv_iload hx hb dX11_clash_56 (lv_at hl 1 rfl) (hp_n (n := 58) rfl ?_)
            refine q_ci (pc' := 61) Bh_10 (hp_runV (As := [.int rh_9]) (rest := []) C Bh_10 (t_X11_refuse Γ l α Bh_10.2.2.1 a0 (cw_k Bh_10.2.2 k0) rh_9) lb_X11_refuse lv_X11_refuse lk_X11_98 (cw_k Bh_10.2.2 k0) rfl (by decide) rfl hl.1 rfl (Nat.le_of_ble_eq_true rfl) dX11_clash_58 ⟨Nat.le_refl _, Nat.le_refl _⟩) (fun _ _ h => cw_tr Bh_10.2.2 h (by decide)) rfl (fun rh_11 αh_11 Hh_11 Lh_11 ph_11 Bh_11 => ?_)
            exact q_iret C Bh_11 hr hlk Bh_11.2.2 dX11_clash_61
          refine lv_if_ne (tgt := 55) hx hb dX11_clash_47 (by decide) (fun c_12 => ?_) (fun c_12 => hp_n (n := 50) rfl ?_)
          ·
            have jc_12 := il_ne c_12
            exact J55 Hh_9 Lh_9 Bh_9 ls (lv_sub hl [2, 0] rfl)
          ·
            have jc_12 := il_eq c_12
            refine lv_aloadN hx hb dX11_clash_50 (lv_at hl 1 rfl) (hp_n (n := 52) rfl ?_)
            refine lv_ifnonnullN hx hb dX11_clash_52 (hp_n (n := 55) rfl ?_)
            exact J55 Hh_9 Lh_9 Bh_9 ls (lv_sub hl [2, 0] rfl)
        ·
          have kbh_8 : hp_K α bh_8 = 3 := cw_k' Bh_8.2.2 (ph_8.2 bh_8 rfl)
          refine lv_astore (lv' := [(6, .ref bh_8), (0, .ref a0), (1, .int a1), (2, .int a2), (3, .int a3), (4, .int a4), (5, .int a5)]) hx hb dX11_clash_34 hl (by decide) rfl (fun ls hl => hp_n (n := 36) rfl ?_)
          refine lv_aload hx hb dX11_clash_36 (lv_at hl 0 rfl) (hp_n (n := 38) rfl ?_)
          refine lv_iload_n hx hb dX11_clash_38 rfl (lv_at hl 3 rfl) (hp_n (n := 39) rfl ?_)
          refine lv_iload_n hx hb dX11_clash_39 rfl (lv_at hl 4 rfl) (hp_n (n := 40) rfl ?_)
          refine q_ci (pc' := 43) Bh_8 (hp_runS (As := [va_rf (some bh_8), .int a2, .int a3]) (rest := []) C Bh_8 (t_X11_wrongInclusion Γ l α Bh_8.2.2.1 (some bh_8) (fun b h => by cases h; exact (cw_k Bh_8.2.2 kbh_8)) a2 a3) lb_X11_wrongInclusion ls_X11_wrongInclusion lk_X11_264 rfl (by decide) rfl hl.1 rfl (Nat.le_of_ble_eq_true rfl) dX11_clash_40 ⟨Nat.le_refl _, Nat.le_refl _⟩) (fun _ _ h => by rw [h]; exact Bh_8.2.2) rfl (fun rh_13 αh_13 Hh_13 Lh_13 ph_13 Bh_13 => ?_)
          rw [ph_13] at Bh_13
          refine lv_istore (lv' := [(7, .int rh_13), (6, .ref bh_8), (0, .ref a0), (1, .int a1), (2, .int a2), (3, .int a3), (4, .int a4), (5, .int a5)]) hx hb dX11_clash_43 hl (by decide) rfl (fun ls hl => hp_n (n := 45) rfl ?_)
          refine lv_iload hx hb dX11_clash_45 (lv_at hl 0 rfl) (hp_n (n := 47) rfl ?_)
          have J55 : ∀ (Hh_14 : Heap) (Lh_14 : List Loc) (Bh_14 : hp_B Γ (cw w_X11_clash) s α α Hh_14 Lh_14) (ls : Array Slot) (hl : lv_has ls 13 [(0, .ref a0), (7, .int rh_13)]), W p l e (hp_rm 4 0 0) s m ([.ref a0, .int a1, .int a2, .int a3, .int a4, .int a5] : List Value).toArray below meth c Hh_14 Lh_14 0 0 (MQ below (hp_Qi Γ (fun r β => cw w_X11_clash α β)) ([.ref a0, .int a1, .int a2, .int a3, .int a4, .int a5] : List Value).toArray s 0 0 (hp_A Γ)) (F0 m 55 ls []) := by
            intro Hh_14 Lh_14 Bh_14 ls hl
            refine lv_aload_n hx hb dX11_clash_55 rfl (lv_at hl 0 rfl) (hp_n (n := 56) rfl ?_)
            refine lv_iload hx hb dX11_clash_56 (lv_at hl 1 rfl) (hp_n (n := 58) rfl ?_)
            refine q_ci (pc' := 61) Bh_14 (hp_runV (As := [.int rh_13]) (rest := []) C Bh_14 (t_X11_refuse Γ l α Bh_14.2.2.1 a0 (cw_k Bh_14.2.2 k0) rh_13) lb_X11_refuse lv_X11_refuse lk_X11_98 (cw_k Bh_14.2.2 k0) rfl (by decide) rfl hl.1 rfl (Nat.le_of_ble_eq_true rfl) dX11_clash_58 ⟨Nat.le_refl _, Nat.le_refl _⟩) (fun _ _ h => cw_tr Bh_14.2.2 h (by decide)) rfl (fun rh_15 αh_15 Hh_15 Lh_15 ph_15 Bh_15 => ?_)
            exact q_iret C Bh_15 hr hlk Bh_15.2.2 dX11_clash_61
          refine lv_if_ne (tgt := 55) hx hb dX11_clash_47 (by decide) (fun c_16 => ?_) (fun c_16 => hp_n (n := 50) rfl ?_)
          ·
            have jc_16 := il_ne c_16
            exact J55 Hh_13 Lh_13 Bh_13 ls (lv_sub hl [2, 0] rfl)
          ·
            have jc_16 := il_eq c_16
            refine lv_aload hx hb dX11_clash_50 (lv_at hl 1 rfl) (hp_n (n := 52) rfl ?_)
            refine lv_ifnonnull (tgt := 62) hx hb dX11_clash_52 (by decide) ?_
            refine lv_aload_n hx hb dX11_clash_62 rfl (lv_at hl 2 rfl) (hp_n (n := 63) rfl ?_)
            refine q_getr (κ := 12) (k := 12) (φ := 612) (pc' := 66) C Bh_13 (cw_k Bh_13.2.2 k0) fl_X11_62 rfl rfl rfl (cw_r Bh_13.2.2 k0 rfl rfl (by decide) (by decide)) dX11_clash_63 rfl (fun b_17 eb_17 kb_17 => ?_)
            refine lv_iload_n hx hb dX11_clash_66 rfl (lv_at hl 4 rfl) (hp_n (n := 67) rfl ?_)
            refine lv_iload_n hx hb dX11_clash_67 rfl (lv_at hl 5 rfl) (hp_n (n := 68) rfl ?_)
            refine q_cv (pc' := 71) Bh_13 (hp_runV (As := [.int a2, .int a3]) (rest := []) C Bh_13 (t_X8_toThing Γ l α Bh_13.2.2.1 b_17 (cw_k Bh_13.2.2 kb_17) a2 a3) lb_X8_toThing lv_X8_toThing lk_X11_267 (cw_k Bh_13.2.2 kb_17) rfl (by decide) rfl hl.1 rfl (Nat.le_of_ble_eq_true rfl) dX11_clash_68 ⟨Nat.le_refl _, Nat.le_refl _⟩) (fun _ h => cw_tr Bh_13.2.2 h (by decide)) rfl (fun αh_18 Hh_18 Lh_18 ph_18 Bh_18 => ?_)
            refine lv_aload_n hx hb dX11_clash_71 rfl (lv_at hl 2 rfl) (hp_n (n := 72) rfl ?_)
            have t_19 : b_17 = hp_R αh_18 612 a0 := by rw [cw_R ph_18 a0 (by decide)]; exact eb_17
            refine q_gets (κ := 12) (k := 12) (φ := 612) (pc' := 75) C Bh_18 (cw_k Bh_18.2.2 k0) fl_X11_62 rfl rfl rfl t_19 dX11_clash_72 rfl ?_
            refine lv_aload_n hx hb dX11_clash_75 rfl (lv_at hl 2 rfl) (hp_n (n := 76) rfl ?_)
            have t_20 : b_7 = hp_R αh_18 601 a0 := by rw [cw_R ph_18 a0 (by decide)]; exact eb_7
            refine q_gets (κ := 12) (k := 1) (φ := 601) (pc' := 79) C Bh_18 (cw_k Bh_18.2.2 k0) fl_X11_16 rfl rfl rfl t_20 dX11_clash_76 rfl ?_
            refine q_geti (κ := 11) (k := 0) (φ := 550) (pc' := 82) C Bh_18 (cw_k Bh_18.2.2 kb_7) fl_X11_122 rfl rfl rfl dX11_clash_79 rfl (fun x_21 ex_21 => ?_)
            refine lv_aload_n hx hb dX11_clash_82 rfl (lv_at hl 2 rfl) (hp_n (n := 83) rfl ?_)
            refine q_getr (κ := 12) (k := 3) (φ := 603) (pc' := 86) C Bh_18 (cw_k Bh_18.2.2 k0) fl_X11_26 rfl rfl rfl (cw_r Bh_18.2.2 k0 rfl rfl (by decide) (by decide)) dX11_clash_83 rfl (fun b_22 eb_22 kb_22 => ?_)
            refine lv_iload hx hb dX11_clash_86 (lv_at hl 6 rfl) (hp_n (n := 88) rfl ?_)
            refine lv_aload_n hx hb dX11_clash_88 rfl (lv_at hl 2 rfl) (hp_n (n := 89) rfl ?_)
            refine q_gets (κ := 12) (k := 1) (φ := 601) (pc' := 92) C Bh_18 (cw_k Bh_18.2.2 k0) fl_X11_16 rfl rfl rfl t_20 dX11_clash_89 rfl ?_
            refine lv_aload hx hb dX11_clash_92 (lv_at hl 1 rfl) (hp_n (n := 94) rfl ?_)
            refine lv_iload_n hx hb dX11_clash_94 rfl (lv_at hl 5 rfl) (hp_n (n := 95) rfl ?_)
            refine q_ci (pc' := 98) Bh_18 (hp_runV (As := [va_rf (some bh_8), .int a3]) (rest := [.int a4, .ref b_22, .int x_21, .ref b_17]) C Bh_18 (t_X10_headOf Γ l αh_18 Bh_18.2.2.1 b_7 (cw_k Bh_18.2.2 kb_7) (some bh_8) (fun b h => by cases h; exact (cw_k Bh_18.2.2 kbh_8)) a3) lb_X10_headOf lv_X10_headOf lk_X11_184 (cw_k Bh_18.2.2 kb_7) rfl (by decide) rfl hl.1 rfl (Nat.le_of_ble_eq_true rfl) dX11_clash_95 ⟨Nat.le_refl _, Nat.le_refl _⟩) (fun _ _ h => cw_tr Bh_18.2.2 h (by decide)) rfl (fun rh_23 αh_23 Hh_23 Lh_23 ph_23 Bh_23 => ?_)
            refine q_ci (pc' := 101) Bh_23 (hp_runV (As := [.int x_21, .ref b_22, .int a4, .int rh_23]) (rest := []) C Bh_23 (t_X8_whyInclusion Γ l αh_23 Bh_23.2.2.1 b_17 (cw_k Bh_23.2.2 kb_17) x_21 b_22 (cw_k Bh_23.2.2 kb_22) a4 rh_23) lb_X8_whyInclusion lv_X8_whyInclusion lk_X11_304 (cw_k Bh_23.2.2 kb_17) rfl (by decide) rfl hl.1 rfl (Nat.le_of_ble_eq_true rfl) dX11_clash_98 ⟨Nat.le_refl _, Nat.le_refl _⟩) (fun _ _ h => by rw [h]; exact Bh_23.2.2) rfl (fun rh_24 αh_24 Hh_24 Lh_24 ph_24 Bh_24 => ?_)
            rw [ph_24] at Bh_24
            refine lv_if_eq (tgt := 110) hx hb dX11_clash_101 (by decide) (fun c_25 => ?_) (fun c_25 => hp_n (n := 104) rfl ?_)
            ·
              have jc_25 := il_eq c_25
              refine lv_aload_n hx hb dX11_clash_110 rfl (lv_at hl 2 rfl) (hp_n (n := 111) rfl ?_)
              have t_26 : b_7 = hp_R αh_23 601 a0 := by rw [cw_R ph_23 a0 (by decide)]; exact t_20
              refine q_gets (κ := 12) (k := 1) (φ := 601) (pc' := 114) C Bh_24 (cw_k Bh_24.2.2 k0) fl_X11_16 rfl rfl rfl t_26 dX11_clash_111 rfl ?_
              refine lv_aload_n hx hb dX11_clash_114 rfl (lv_at hl 2 rfl) (hp_n (n := 115) rfl ?_)
              have t_27 : b_17 = hp_R αh_23 612 a0 := by rw [cw_R ph_23 a0 (by decide)]; exact t_19
              refine q_gets (κ := 12) (k := 12) (φ := 612) (pc' := 118) C Bh_24 (cw_k Bh_24.2.2 k0) fl_X11_62 rfl rfl rfl t_27 dX11_clash_115 rfl ?_
              refine lv_aload hx hb dX11_clash_118 (lv_at hl 1 rfl) (hp_n (n := 120) rfl ?_)
              refine lv_aload_n hx hb dX11_clash_120 rfl (lv_at hl 2 rfl) (hp_n (n := 121) rfl ?_)
              refine q_getr (κ := 12) (k := 14) (φ := 614) (pc' := 124) C Bh_24 (cw_k Bh_24.2.2 k0) fl_X11_69 rfl rfl rfl (cw_r Bh_24.2.2 k0 rfl rfl (by decide) (by decide)) dX11_clash_121 rfl (fun b_28 eb_28 kb_28 => ?_)
              refine q_cv (pc' := 127) Bh_24 (hp_runV (As := [.ref b_17, va_rf (some bh_8), .ref b_28]) (rest := []) C Bh_24 (t_X10_marksAlong Γ l αh_23 Bh_24.2.2.1 b_7 (cw_k Bh_24.2.2 kb_7) b_17 (cw_k Bh_24.2.2 kb_17) (some bh_8) (fun b h => by cases h; exact (cw_k Bh_24.2.2 kbh_8)) b_28 (cw_k Bh_24.2.2 kb_28)) lb_X10_marksAlong lv_X10_marksAlong lk_X11_270 (cw_k Bh_24.2.2 kb_7) rfl (by decide) rfl hl.1 rfl (Nat.le_of_ble_eq_true rfl) dX11_clash_124 ⟨Nat.le_refl _, Nat.le_refl _⟩) (fun _ h => cw_tr Bh_24.2.2 h (by decide)) rfl (fun αh_29 Hh_29 Lh_29 ph_29 Bh_29 => ?_)
              refine lv_aload_n hx hb dX11_clash_127 rfl (lv_at hl 2 rfl) (hp_n (n := 128) rfl ?_)
              refine lv_aload hx hb dX11_clash_128 (lv_at hl 1 rfl) (hp_n (n := 130) rfl ?_)
              refine lv_iload_n hx hb dX11_clash_130 rfl (lv_at hl 4 rfl) (hp_n (n := 131) rfl ?_)
              refine q_ci (pc' := 134) Bh_29 (hp_runV (As := [.int a2]) (rest := [.ref a0]) C Bh_29 (t_X2_markAt Γ l αh_29 Bh_29.2.2.1 bh_8 (cw_k Bh_29.2.2 kbh_8) a2) lb_X2_markAt lv_X2_markAt lk_X11_174 (cw_k Bh_29.2.2 kbh_8) rfl (by decide) rfl hl.1 rfl (Nat.le_of_ble_eq_true rfl) dX11_clash_131 ⟨Nat.le_refl _, Nat.le_refl _⟩) (fun _ _ h => by rw [h]; exact Bh_29.2.2) rfl (fun rh_30 αh_30 Hh_30 Lh_30 ph_30 Bh_30 => ?_)
              rw [ph_30] at Bh_30
              refine lv_iload hx hb dX11_clash_134 (lv_at hl 6 rfl) (hp_n (n := 136) rfl ?_)
              refine q_ci (pc' := 139) Bh_30 (hp_runV (As := [.int rh_30, .int a4]) (rest := []) C Bh_30 (t_X11_clashingStep Γ l αh_29 Bh_30.2.2.1 a0 (cw_k Bh_30.2.2 k0) rh_30 a4) lb_X11_clashingStep lv_X11_clashingStep lk_X11_379 (cw_k Bh_30.2.2 k0) rfl (by decide) rfl hl.1 rfl (Nat.le_of_ble_eq_true rfl) dX11_clash_136 ⟨Nat.le_refl _, Nat.le_refl _⟩) (fun _ _ h => by rw [h]; exact Bh_30.2.2) rfl (fun rh_31 αh_31 Hh_31 Lh_31 ph_31 Bh_31 => ?_)
              rw [ph_31] at Bh_31
              refine lv_istore (lv' := [(8, .int rh_31), (7, .int rh_13), (6, .ref bh_8), (0, .ref a0), (1, .int a1), (2, .int a2), (3, .int a3), (4, .int a4), (5, .int a5)]) hx hb dX11_clash_139 hl (by decide) rfl (fun ls hl => hp_n (n := 141) rfl ?_)
              refine lv_iload hx hb dX11_clash_141 (lv_at hl 0 rfl) (hp_n (n := 143) rfl ?_)
              refine lv_if_ge (tgt := 152) hx hb dX11_clash_143 (by decide) (fun c_32 => ?_) (fun c_32 => hp_n (n := 146) rfl ?_)
              ·
                have jc_32 := il_le c_32
                refine lv_iload hx hb dX11_clash_152 (lv_at hl 8 rfl) (hp_n (n := 154) rfl ?_)
                refine lv_if_ne (tgt := 164) hx hb dX11_clash_154 (by decide) (fun c_33 => ?_) (fun c_33 => hp_n (n := 157) rfl ?_)
                ·
                  have jc_33 := il_ne c_33
                  refine lv_iload hx hb dX11_clash_164 (lv_at hl 8 rfl) (hp_n (n := 166) rfl ?_)
                  refine lv_iconst (v := 2) hx hb dX11_clash_166 (by decide) (hp_n (n := 167) rfl ?_)
                  refine lv_icmp_gt (tgt := 174) hx hb dX11_clash_167 (by decide) (fun c_34 => ?_) (fun c_34 => hp_n (n := 170) rfl ?_)
                  ·
                    have jc_34 := il_lt c_34
                    refine lv_iconst (v := 0) hx hb dX11_clash_174 (by decide) (hp_n (n := 175) rfl ?_)
                    refine lv_istore (lv' := [(9, .int 0), (8, .int rh_31), (7, .int rh_13), (6, .ref bh_8), (0, .ref a0), (1, .int a1), (2, .int a2), (3, .int a3), (4, .int a4), (5, .int a5)]) hx hb dX11_clash_175 hl (by decide) rfl (fun ls hl => hp_n (n := 177) rfl ?_)
                    refine lv_iload hx hb dX11_clash_177 (lv_at hl 0 rfl) (hp_n (n := 179) rfl ?_)
                    refine lv_if_eq (tgt := 189) hx hb dX11_clash_179 (by decide) (fun c_35 => ?_) (fun c_35 => hp_n (n := 182) rfl ?_)
                    rotate_left
                    · exact absurd c_35 (by decide)
                    refine lv_aload_n hx hb dX11_clash_189 rfl (lv_at hl 4 rfl) (hp_n (n := 190) rfl ?_)
                    have t_36 : b_22 = hp_R αh_23 603 a0 := by rw [cw_R ph_23 a0 (by decide)]; exact eb_22
                    have t_37 : b_22 = hp_R αh_29 603 a0 := by rw [cw_R ph_29 a0 (by decide)]; exact t_36
                    refine q_gets (κ := 12) (k := 3) (φ := 603) (pc' := 193) C Bh_31 (cw_k Bh_31.2.2 k0) fl_X11_26 rfl rfl rfl t_37 dX11_clash_190 rfl ?_
                    refine lv_astore (lv' := [(10, .ref b_22), (9, .int 0), (8, .int rh_31), (7, .int rh_13), (6, .ref bh_8), (0, .ref a0), (1, .int a1), (2, .int a2), (3, .int a3), (4, .int a4), (5, .int a5)]) hx hb dX11_clash_193 hl (by decide) rfl (fun ls hl => hp_n (n := 195) rfl ?_)
                    refine lv_aload_n hx hb dX11_clash_195 rfl (lv_at hl 5 rfl) (hp_n (n := 196) rfl ?_)
                    have t_38 : b_17 = hp_R αh_29 612 a0 := by rw [cw_R ph_29 a0 (by decide)]; exact t_27
                    refine q_gets (κ := 12) (k := 12) (φ := 612) (pc' := 199) C Bh_31 (cw_k Bh_31.2.2 k0) fl_X11_62 rfl rfl rfl t_38 dX11_clash_196 rfl ?_
                    refine lv_aload_n hx hb dX11_clash_199 rfl (lv_at hl 5 rfl) (hp_n (n := 200) rfl ?_)
                    have t_39 : b_7 = hp_R αh_29 601 a0 := by rw [cw_R ph_29 a0 (by decide)]; exact t_26
                    refine q_gets (κ := 12) (k := 1) (φ := 601) (pc' := 203) C Bh_31 (cw_k Bh_31.2.2 k0) fl_X11_16 rfl rfl rfl t_39 dX11_clash_200 rfl ?_
                    have t_40 : x_21 = hp_I αh_23 550 b_7 := by rw [cw_I ph_23 b_7 (by decide)]; exact ex_21
                    have t_41 : x_21 = hp_I αh_29 550 b_7 := by rw [cw_I ph_29 b_7 (by decide)]; exact t_40
                    refine q_getj (κ := 11) (k := 0) (φ := 550) (pc' := 206) C Bh_31 (cw_k Bh_31.2.2 kb_7) fl_X11_122 rfl rfl rfl t_41 dX11_clash_203 rfl ?_
                    refine lv_aload hx hb dX11_clash_206 (lv_at hl 0 rfl) (hp_n (n := 208) rfl ?_)
                    refine lv_iload hx hb dX11_clash_208 (lv_at hl 1 rfl) (hp_n (n := 210) rfl ?_)
                    refine lv_if_eq (tgt := 222) hx hb dX11_clash_210 (by decide) (fun c_42 => ?_) (fun c_42 => hp_n (n := 213) rfl ?_)
                    rotate_left
                    · exact absurd c_42 (by decide)
                    refine lv_iload hx hb dX11_clash_222 (lv_at hl 9 rfl) (hp_n (n := 224) rfl ?_)
                    refine lv_iload hx hb dX11_clash_224 (lv_at hl 2 rfl) (hp_n (n := 226) rfl ?_)
                    refine q_ci (pc' := 229) Bh_31 (hp_runV (As := [.int x_21, .ref b_22, .int a4, .int rh_31]) (rest := []) C Bh_31 (t_X8_folded Γ l αh_29 Bh_31.2.2.1 b_17 (cw_k Bh_31.2.2 kb_17) x_21 b_22 (cw_k Bh_31.2.2 kb_22) a4 rh_31) lb_X8_folded lv_X8_folded lk_X11_382 (cw_k Bh_31.2.2 kb_17) rfl (by decide) rfl hl.1 rfl (Nat.le_of_ble_eq_true rfl) dX11_clash_226 ⟨Nat.le_refl _, Nat.le_refl _⟩) (fun _ _ h => by rw [h]; exact Bh_31.2.2) rfl (fun rh_43 αh_43 Hh_43 Lh_43 ph_43 Bh_43 => ?_)
                    rw [ph_43] at Bh_43
                    refine lv_istore (lv' := [(11, .int rh_43), (10, .ref b_22), (9, .int 0), (8, .int rh_31), (7, .int rh_13), (6, .ref bh_8), (0, .ref a0), (1, .int a1), (2, .int a2), (3, .int a3), (4, .int a4), (5, .int a5)]) hx hb dX11_clash_229 hl (by decide) rfl (fun ls hl => hp_n (n := 231) rfl ?_)
                    refine lv_iload hx hb dX11_clash_231 (lv_at hl 11 rfl) (hp_n (n := 233) rfl ?_)
                    refine lv_iconst (v := 1) hx hb dX11_clash_233 (by decide) (hp_n (n := 234) rfl ?_)
                    have J243 : ∀ (Hh_44 : Heap) (Lh_44 : List Loc) (Bh_44 : hp_B Γ (cw w_X11_clash) s α αh_29 Hh_44 Lh_44) (ls : Array Slot) (hl : lv_has ls 13 [(0, .ref a0), (8, .int rh_31), (10, .ref b_22), (11, .int rh_43)]), W p l e (hp_rm 4 0 0) s m ([.ref a0, .int a1, .int a2, .int a3, .int a4, .int a5] : List Value).toArray below meth c Hh_44 Lh_44 0 0 (MQ below (hp_Qi Γ (fun r β => cw w_X11_clash α β)) ([.ref a0, .int a1, .int a2, .int a3, .int a4, .int a5] : List Value).toArray s 0 0 (hp_A Γ)) (F0 m 243 ls []) := by
                      intro Hh_44 Lh_44 Bh_44 ls hl
                      refine lv_iconst (v := 1) hx hb dX11_clash_243 (by decide) (hp_n (n := 244) rfl ?_)
                      refine lv_goto (tgt := 248) hx hb dX11_clash_244 (by decide) ?_
                      refine lv_istore (lv' := [(12, .int 1), (0, .ref a0), (8, .int rh_31), (10, .ref b_22), (11, .int rh_43)]) hx hb dX11_clash_248 hl (by decide) rfl (fun ls hl => hp_n (n := 250) rfl ?_)
                      refine lv_aload_n hx hb dX11_clash_250 rfl (lv_at hl 1 rfl) (hp_n (n := 251) rfl ?_)
                      refine lv_iload hx hb dX11_clash_251 (lv_at hl 0 rfl) (hp_n (n := 253) rfl ?_)
                      refine lv_aload_n hx hb dX11_clash_253 rfl (lv_at hl 1 rfl) (hp_n (n := 254) rfl ?_)
                      refine q_gets (κ := 12) (k := 12) (φ := 612) (pc' := 257) C Bh_44 (cw_k Bh_44.2.2 k0) fl_X11_62 rfl rfl rfl t_38 dX11_clash_254 rfl ?_
                      refine lv_iload hx hb dX11_clash_257 (lv_at hl 2 rfl) (hp_n (n := 259) rfl ?_)
                      refine q_ci (pc' := 262) Bh_44 (hp_runV (As := [.int rh_31]) (rest := [.int 1, .ref a0]) C Bh_44 (t_X8_isAhead Γ l αh_29 Bh_44.2.2.1 b_17 (cw_k Bh_44.2.2 kb_17) rh_31) lb_X8_isAhead lv_X8_isAhead lk_X11_385 (cw_k Bh_44.2.2 kb_17) rfl (by decide) rfl hl.1 rfl (Nat.le_of_ble_eq_true rfl) dX11_clash_259 ⟨Nat.le_refl _, Nat.le_refl _⟩) (fun _ _ h => by rw [h.1]; exact Bh_44.2.2) rfl (fun rh_45 αh_45 Hh_45 Lh_45 ph_45 Bh_45 => ?_)
                      rw [ph_45.1] at Bh_45
                      have zh_45 := ph_45.2
                      refine lv_icmp_ne (tgt := 275) hx hb dX11_clash_262 (by decide) (fun c_46 => ?_) (fun c_46 => hp_n (n := 265) rfl ?_)
                      ·
                        have jc_46 := il_ne c_46
                        refine lv_iload hx hb dX11_clash_275 (lv_at hl 4 rfl) (hp_n (n := 277) rfl ?_)
                        refine q_ci (pc' := 280) Bh_45 (hp_runV (As := [.int rh_43]) (rest := []) C Bh_45 (t_X11_answer Γ l αh_29 Bh_45.2.2.1 a0 (cw_k Bh_45.2.2 k0) rh_43) lb_X11_answer lv_X11_answer lk_X11_115 (cw_k Bh_45.2.2 k0) rfl (by decide) rfl hl.1 rfl (Nat.le_of_ble_eq_true rfl) dX11_clash_277 ⟨Nat.le_refl _, Nat.le_refl _⟩) (fun _ _ h => cw_tr Bh_45.2.2 h (by decide)) rfl (fun rh_47 αh_47 Hh_47 Lh_47 ph_47 Bh_47 => ?_)
                        exact q_iret C Bh_47 hr hlk Bh_47.2.2 dX11_clash_280
                      ·
                        have jc_46 := il_eq c_46
                        refine lv_aload hx hb dX11_clash_265 (lv_at hl 3 rfl) (hp_n (n := 267) rfl ?_)
                        refine lv_iload hx hb dX11_clash_267 (lv_at hl 2 rfl) (hp_n (n := 269) rfl ?_)
                        refine q_ci (pc' := 272) Bh_45 (hp_runV (As := [.int rh_31]) (rest := [.ref a0]) C Bh_45 (t_X5_at Γ l αh_29 Bh_45.2.2.1 b_22 (cw_k Bh_45.2.2 kb_22) rh_31) lb_X5_at lv_X5_at lk_X11_135 (cw_k Bh_45.2.2 kb_22) rfl (by decide) rfl hl.1 rfl (Nat.le_of_ble_eq_true rfl) dX11_clash_269 ⟨Nat.le_refl _, Nat.le_refl _⟩) (fun _ _ h => by rw [h]; exact Bh_45.2.2) rfl (fun rh_48 αh_48 Hh_48 Lh_48 ph_48 Bh_48 => ?_)
                        rw [ph_48] at Bh_48
                        refine lv_goto (tgt := 277) hx hb dX11_clash_272 (by decide) ?_
                        refine q_ci (pc' := 280) Bh_48 (hp_runV (As := [.int rh_48]) (rest := []) C Bh_48 (t_X11_answer Γ l αh_29 Bh_48.2.2.1 a0 (cw_k Bh_48.2.2 k0) rh_48) lb_X11_answer lv_X11_answer lk_X11_115 (cw_k Bh_48.2.2 k0) rfl (by decide) rfl hl.1 rfl (Nat.le_of_ble_eq_true rfl) dX11_clash_277 ⟨Nat.le_refl _, Nat.le_refl _⟩) (fun _ _ h => cw_tr Bh_48.2.2 h (by decide)) rfl (fun rh_49 αh_49 Hh_49 Lh_49 ph_49 Bh_49 => ?_)
                        exact q_iret C Bh_49 hr hlk Bh_49.2.2 dX11_clash_280
                    refine lv_icmp_eq (tgt := 243) hx hb dX11_clash_234 (by decide) (fun c_50 => ?_) (fun c_50 => hp_n (n := 237) rfl ?_)
                    ·
                      have jc_50 := il_eq c_50
                      exact J243 Hh_43 Lh_43 Bh_43 ls (lv_sub hl [6, 3, 1, 0] rfl)
                    ·
                      have jc_50 := il_ne c_50
                      refine lv_iload hx hb dX11_clash_237 (lv_at hl 11 rfl) (hp_n (n := 239) rfl ?_)
                      refine lv_iconst (v := 3) hx hb dX11_clash_239 (by decide) (hp_n (n := 240) rfl ?_)
                      refine lv_icmp_ne (tgt := 247) hx hb dX11_clash_240 (by decide) (fun c_51 => ?_) (fun c_51 => hp_n (n := 243) rfl ?_)
                      ·
                        have jc_51 := il_ne c_51
                        refine lv_iconst (v := 0) hx hb dX11_clash_247 (by decide) (hp_n (n := 248) rfl ?_)
                        refine lv_istore (lv' := [(12, .int 0), (11, .int rh_43), (10, .ref b_22), (9, .int 0), (8, .int rh_31), (7, .int rh_13), (6, .ref bh_8), (0, .ref a0), (1, .int a1), (2, .int a2), (3, .int a3), (4, .int a4), (5, .int a5)]) hx hb dX11_clash_248 hl (by decide) rfl (fun ls hl => hp_n (n := 250) rfl ?_)
                        refine lv_aload_n hx hb dX11_clash_250 rfl (lv_at hl 7 rfl) (hp_n (n := 251) rfl ?_)
                        refine lv_iload hx hb dX11_clash_251 (lv_at hl 0 rfl) (hp_n (n := 253) rfl ?_)
                        refine lv_aload_n hx hb dX11_clash_253 rfl (lv_at hl 7 rfl) (hp_n (n := 254) rfl ?_)
                        refine q_gets (κ := 12) (k := 12) (φ := 612) (pc' := 257) C Bh_43 (cw_k Bh_43.2.2 k0) fl_X11_62 rfl rfl rfl t_38 dX11_clash_254 rfl ?_
                        refine lv_iload hx hb dX11_clash_257 (lv_at hl 4 rfl) (hp_n (n := 259) rfl ?_)
                        refine q_ci (pc' := 262) Bh_43 (hp_runV (As := [.int rh_31]) (rest := [.int 0, .ref a0]) C Bh_43 (t_X8_isAhead Γ l αh_29 Bh_43.2.2.1 b_17 (cw_k Bh_43.2.2 kb_17) rh_31) lb_X8_isAhead lv_X8_isAhead lk_X11_385 (cw_k Bh_43.2.2 kb_17) rfl (by decide) rfl hl.1 rfl (Nat.le_of_ble_eq_true rfl) dX11_clash_259 ⟨Nat.le_refl _, Nat.le_refl _⟩) (fun _ _ h => by rw [h.1]; exact Bh_43.2.2) rfl (fun rh_52 αh_52 Hh_52 Lh_52 ph_52 Bh_52 => ?_)
                        rw [ph_52.1] at Bh_52
                        have zh_52 := ph_52.2
                        refine lv_icmp_ne (tgt := 275) hx hb dX11_clash_262 (by decide) (fun c_53 => ?_) (fun c_53 => hp_n (n := 265) rfl ?_)
                        ·
                          have jc_53 := il_ne c_53
                          refine lv_iload hx hb dX11_clash_275 (lv_at hl 1 rfl) (hp_n (n := 277) rfl ?_)
                          refine q_ci (pc' := 280) Bh_52 (hp_runV (As := [.int rh_43]) (rest := []) C Bh_52 (t_X11_answer Γ l αh_29 Bh_52.2.2.1 a0 (cw_k Bh_52.2.2 k0) rh_43) lb_X11_answer lv_X11_answer lk_X11_115 (cw_k Bh_52.2.2 k0) rfl (by decide) rfl hl.1 rfl (Nat.le_of_ble_eq_true rfl) dX11_clash_277 ⟨Nat.le_refl _, Nat.le_refl _⟩) (fun _ _ h => cw_tr Bh_52.2.2 h (by decide)) rfl (fun rh_54 αh_54 Hh_54 Lh_54 ph_54 Bh_54 => ?_)
                          exact q_iret C Bh_54 hr hlk Bh_54.2.2 dX11_clash_280
                        ·
                          have jc_53 := il_eq c_53
                          refine lv_aload hx hb dX11_clash_265 (lv_at hl 2 rfl) (hp_n (n := 267) rfl ?_)
                          refine lv_iload hx hb dX11_clash_267 (lv_at hl 4 rfl) (hp_n (n := 269) rfl ?_)
                          refine q_ci (pc' := 272) Bh_52 (hp_runV (As := [.int rh_31]) (rest := [.ref a0]) C Bh_52 (t_X5_at Γ l αh_29 Bh_52.2.2.1 b_22 (cw_k Bh_52.2.2 kb_22) rh_31) lb_X5_at lv_X5_at lk_X11_135 (cw_k Bh_52.2.2 kb_22) rfl (by decide) rfl hl.1 rfl (Nat.le_of_ble_eq_true rfl) dX11_clash_269 ⟨Nat.le_refl _, Nat.le_refl _⟩) (fun _ _ h => by rw [h]; exact Bh_52.2.2) rfl (fun rh_55 αh_55 Hh_55 Lh_55 ph_55 Bh_55 => ?_)
                          rw [ph_55] at Bh_55
                          refine lv_goto (tgt := 277) hx hb dX11_clash_272 (by decide) ?_
                          refine q_ci (pc' := 280) Bh_55 (hp_runV (As := [.int rh_55]) (rest := []) C Bh_55 (t_X11_answer Γ l αh_29 Bh_55.2.2.1 a0 (cw_k Bh_55.2.2 k0) rh_55) lb_X11_answer lv_X11_answer lk_X11_115 (cw_k Bh_55.2.2 k0) rfl (by decide) rfl hl.1 rfl (Nat.le_of_ble_eq_true rfl) dX11_clash_277 ⟨Nat.le_refl _, Nat.le_refl _⟩) (fun _ _ h => cw_tr Bh_55.2.2 h (by decide)) rfl (fun rh_56 αh_56 Hh_56 Lh_56 ph_56 Bh_56 => ?_)
                          exact q_iret C Bh_56 hr hlk Bh_56.2.2 dX11_clash_280
                      ·
                        have jc_51 := il_eq c_51
                        exact J243 Hh_43 Lh_43 Bh_43 ls (lv_sub hl [6, 3, 1, 0] rfl)
                  ·
                    have jc_34 := il_nlt c_34
                    refine lv_iconst (v := 1) hx hb dX11_clash_170 (by decide) (hp_n (n := 171) rfl ?_)
                    refine lv_goto (tgt := 175) hx hb dX11_clash_171 (by decide) ?_
                    refine lv_istore (lv' := [(9, .int 1), (8, .int rh_31), (7, .int rh_13), (6, .ref bh_8), (0, .ref a0), (1, .int a1), (2, .int a2), (3, .int a3), (4, .int a4), (5, .int a5)]) hx hb dX11_clash_175 hl (by decide) rfl (fun ls hl => hp_n (n := 177) rfl ?_)
                    refine lv_iload hx hb dX11_clash_177 (lv_at hl 0 rfl) (hp_n (n := 179) rfl ?_)
                    refine lv_if_eq (tgt := 189) hx hb dX11_clash_179 (by decide) (fun c_57 => ?_) (fun c_57 => hp_n (n := 182) rfl ?_)
                    · exact absurd c_57 (by decide)
                    refine lv_aload_n hx hb dX11_clash_182 rfl (lv_at hl 4 rfl) (hp_n (n := 183) rfl ?_)
                    have t_58 : b_28 = hp_R αh_29 614 a0 := by rw [cw_R ph_29 a0 (by decide)]; exact eb_28
                    refine q_gets (κ := 12) (k := 14) (φ := 614) (pc' := 186) C Bh_31 (cw_k Bh_31.2.2 k0) fl_X11_69 rfl rfl rfl t_58 dX11_clash_183 rfl ?_
                    refine lv_goto (tgt := 193) hx hb dX11_clash_186 (by decide) ?_
                    refine lv_astore (lv' := [(10, .ref b_28), (9, .int 1), (8, .int rh_31), (7, .int rh_13), (6, .ref bh_8), (0, .ref a0), (1, .int a1), (2, .int a2), (3, .int a3), (4, .int a4), (5, .int a5)]) hx hb dX11_clash_193 hl (by decide) rfl (fun ls hl => hp_n (n := 195) rfl ?_)
                    refine lv_aload_n hx hb dX11_clash_195 rfl (lv_at hl 5 rfl) (hp_n (n := 196) rfl ?_)
                    have t_59 : b_17 = hp_R αh_29 612 a0 := by rw [cw_R ph_29 a0 (by decide)]; exact t_27
                    refine q_gets (κ := 12) (k := 12) (φ := 612) (pc' := 199) C Bh_31 (cw_k Bh_31.2.2 k0) fl_X11_62 rfl rfl rfl t_59 dX11_clash_196 rfl ?_
                    refine lv_aload_n hx hb dX11_clash_199 rfl (lv_at hl 5 rfl) (hp_n (n := 200) rfl ?_)
                    have t_60 : b_7 = hp_R αh_29 601 a0 := by rw [cw_R ph_29 a0 (by decide)]; exact t_26
                    refine q_gets (κ := 12) (k := 1) (φ := 601) (pc' := 203) C Bh_31 (cw_k Bh_31.2.2 k0) fl_X11_16 rfl rfl rfl t_60 dX11_clash_200 rfl ?_
                    have t_61 : x_21 = hp_I αh_23 550 b_7 := by rw [cw_I ph_23 b_7 (by decide)]; exact ex_21
                    have t_62 : x_21 = hp_I αh_29 550 b_7 := by rw [cw_I ph_29 b_7 (by decide)]; exact t_61
                    refine q_getj (κ := 11) (k := 0) (φ := 550) (pc' := 206) C Bh_31 (cw_k Bh_31.2.2 kb_7) fl_X11_122 rfl rfl rfl t_62 dX11_clash_203 rfl ?_
                    refine lv_aload hx hb dX11_clash_206 (lv_at hl 0 rfl) (hp_n (n := 208) rfl ?_)
                    refine lv_iload hx hb dX11_clash_208 (lv_at hl 1 rfl) (hp_n (n := 210) rfl ?_)
                    refine lv_if_eq (tgt := 222) hx hb dX11_clash_210 (by decide) (fun c_63 => ?_) (fun c_63 => hp_n (n := 213) rfl ?_)
                    · exact absurd c_63 (by decide)
                    refine lv_aload hx hb dX11_clash_213 (lv_at hl 4 rfl) (hp_n (n := 215) rfl ?_)
                    refine lv_iload_n hx hb dX11_clash_215 rfl (lv_at hl 7 rfl) (hp_n (n := 216) rfl ?_)
                    refine q_ci (pc' := 219) Bh_31 (hp_runV (As := [.int a2]) (rest := [.ref b_28, .int x_21, .ref b_17]) C Bh_31 (t_X2_markAt Γ l αh_29 Bh_31.2.2.1 bh_8 (cw_k Bh_31.2.2 kbh_8) a2) lb_X2_markAt lv_X2_markAt lk_X11_174 (cw_k Bh_31.2.2 kbh_8) rfl (by decide) rfl hl.1 rfl (Nat.le_of_ble_eq_true rfl) dX11_clash_216 ⟨Nat.le_refl _, Nat.le_refl _⟩) (fun _ _ h => by rw [h]; exact Bh_31.2.2) rfl (fun rh_64 αh_64 Hh_64 Lh_64 ph_64 Bh_64 => ?_)
                    rw [ph_64] at Bh_64
                    refine lv_goto (tgt := 224) hx hb dX11_clash_219 (by decide) ?_
                    refine lv_iload hx hb dX11_clash_224 (lv_at hl 2 rfl) (hp_n (n := 226) rfl ?_)
                    refine q_ci (pc' := 229) Bh_64 (hp_runV (As := [.int x_21, .ref b_28, .int rh_64, .int rh_31]) (rest := []) C Bh_64 (t_X8_folded Γ l αh_29 Bh_64.2.2.1 b_17 (cw_k Bh_64.2.2 kb_17) x_21 b_28 (cw_k Bh_64.2.2 kb_28) rh_64 rh_31) lb_X8_folded lv_X8_folded lk_X11_382 (cw_k Bh_64.2.2 kb_17) rfl (by decide) rfl hl.1 rfl (Nat.le_of_ble_eq_true rfl) dX11_clash_226 ⟨Nat.le_refl _, Nat.le_refl _⟩) (fun _ _ h => by rw [h]; exact Bh_64.2.2) rfl (fun rh_65 αh_65 Hh_65 Lh_65 ph_65 Bh_65 => ?_)
                    rw [ph_65] at Bh_65
                    refine lv_istore (lv' := [(11, .int rh_65), (10, .ref b_28), (9, .int 1), (8, .int rh_31), (7, .int rh_13), (6, .ref bh_8), (0, .ref a0), (1, .int a1), (2, .int a2), (3, .int a3), (4, .int a4), (5, .int a5)]) hx hb dX11_clash_229 hl (by decide) rfl (fun ls hl => hp_n (n := 231) rfl ?_)
                    refine lv_iload hx hb dX11_clash_231 (lv_at hl 11 rfl) (hp_n (n := 233) rfl ?_)
                    refine lv_iconst (v := 1) hx hb dX11_clash_233 (by decide) (hp_n (n := 234) rfl ?_)
                    have J243 : ∀ (Hh_66 : Heap) (Lh_66 : List Loc) (Bh_66 : hp_B Γ (cw w_X11_clash) s α αh_29 Hh_66 Lh_66) (ls : Array Slot) (hl : lv_has ls 13 [(0, .ref a0), (8, .int rh_31), (10, .ref b_28), (11, .int rh_65)]), W p l e (hp_rm 4 0 0) s m ([.ref a0, .int a1, .int a2, .int a3, .int a4, .int a5] : List Value).toArray below meth c Hh_66 Lh_66 0 0 (MQ below (hp_Qi Γ (fun r β => cw w_X11_clash α β)) ([.ref a0, .int a1, .int a2, .int a3, .int a4, .int a5] : List Value).toArray s 0 0 (hp_A Γ)) (F0 m 243 ls []) := by
                      intro Hh_66 Lh_66 Bh_66 ls hl
                      refine lv_iconst (v := 1) hx hb dX11_clash_243 (by decide) (hp_n (n := 244) rfl ?_)
                      refine lv_goto (tgt := 248) hx hb dX11_clash_244 (by decide) ?_
                      refine lv_istore (lv' := [(12, .int 1), (0, .ref a0), (8, .int rh_31), (10, .ref b_28), (11, .int rh_65)]) hx hb dX11_clash_248 hl (by decide) rfl (fun ls hl => hp_n (n := 250) rfl ?_)
                      refine lv_aload_n hx hb dX11_clash_250 rfl (lv_at hl 1 rfl) (hp_n (n := 251) rfl ?_)
                      refine lv_iload hx hb dX11_clash_251 (lv_at hl 0 rfl) (hp_n (n := 253) rfl ?_)
                      refine lv_aload_n hx hb dX11_clash_253 rfl (lv_at hl 1 rfl) (hp_n (n := 254) rfl ?_)
                      refine q_gets (κ := 12) (k := 12) (φ := 612) (pc' := 257) C Bh_66 (cw_k Bh_66.2.2 k0) fl_X11_62 rfl rfl rfl t_59 dX11_clash_254 rfl ?_
                      refine lv_iload hx hb dX11_clash_257 (lv_at hl 2 rfl) (hp_n (n := 259) rfl ?_)
                      refine q_ci (pc' := 262) Bh_66 (hp_runV (As := [.int rh_31]) (rest := [.int 1, .ref a0]) C Bh_66 (t_X8_isAhead Γ l αh_29 Bh_66.2.2.1 b_17 (cw_k Bh_66.2.2 kb_17) rh_31) lb_X8_isAhead lv_X8_isAhead lk_X11_385 (cw_k Bh_66.2.2 kb_17) rfl (by decide) rfl hl.1 rfl (Nat.le_of_ble_eq_true rfl) dX11_clash_259 ⟨Nat.le_refl _, Nat.le_refl _⟩) (fun _ _ h => by rw [h.1]; exact Bh_66.2.2) rfl (fun rh_67 αh_67 Hh_67 Lh_67 ph_67 Bh_67 => ?_)
                      rw [ph_67.1] at Bh_67
                      have zh_67 := ph_67.2
                      refine lv_icmp_ne (tgt := 275) hx hb dX11_clash_262 (by decide) (fun c_68 => ?_) (fun c_68 => hp_n (n := 265) rfl ?_)
                      ·
                        have jc_68 := il_ne c_68
                        refine lv_iload hx hb dX11_clash_275 (lv_at hl 4 rfl) (hp_n (n := 277) rfl ?_)
                        refine q_ci (pc' := 280) Bh_67 (hp_runV (As := [.int rh_65]) (rest := []) C Bh_67 (t_X11_answer Γ l αh_29 Bh_67.2.2.1 a0 (cw_k Bh_67.2.2 k0) rh_65) lb_X11_answer lv_X11_answer lk_X11_115 (cw_k Bh_67.2.2 k0) rfl (by decide) rfl hl.1 rfl (Nat.le_of_ble_eq_true rfl) dX11_clash_277 ⟨Nat.le_refl _, Nat.le_refl _⟩) (fun _ _ h => cw_tr Bh_67.2.2 h (by decide)) rfl (fun rh_69 αh_69 Hh_69 Lh_69 ph_69 Bh_69 => ?_)
                        exact q_iret C Bh_69 hr hlk Bh_69.2.2 dX11_clash_280
                      ·
                        have jc_68 := il_eq c_68
                        refine lv_aload hx hb dX11_clash_265 (lv_at hl 3 rfl) (hp_n (n := 267) rfl ?_)
                        refine lv_iload hx hb dX11_clash_267 (lv_at hl 2 rfl) (hp_n (n := 269) rfl ?_)
                        refine q_ci (pc' := 272) Bh_67 (hp_runV (As := [.int rh_31]) (rest := [.ref a0]) C Bh_67 (t_X5_at Γ l αh_29 Bh_67.2.2.1 b_28 (cw_k Bh_67.2.2 kb_28) rh_31) lb_X5_at lv_X5_at lk_X11_135 (cw_k Bh_67.2.2 kb_28) rfl (by decide) rfl hl.1 rfl (Nat.le_of_ble_eq_true rfl) dX11_clash_269 ⟨Nat.le_refl _, Nat.le_refl _⟩) (fun _ _ h => by rw [h]; exact Bh_67.2.2) rfl (fun rh_70 αh_70 Hh_70 Lh_70 ph_70 Bh_70 => ?_)
                        rw [ph_70] at Bh_70
                        refine lv_goto (tgt := 277) hx hb dX11_clash_272 (by decide) ?_
                        refine q_ci (pc' := 280) Bh_70 (hp_runV (As := [.int rh_70]) (rest := []) C Bh_70 (t_X11_answer Γ l αh_29 Bh_70.2.2.1 a0 (cw_k Bh_70.2.2 k0) rh_70) lb_X11_answer lv_X11_answer lk_X11_115 (cw_k Bh_70.2.2 k0) rfl (by decide) rfl hl.1 rfl (Nat.le_of_ble_eq_true rfl) dX11_clash_277 ⟨Nat.le_refl _, Nat.le_refl _⟩) (fun _ _ h => cw_tr Bh_70.2.2 h (by decide)) rfl (fun rh_71 αh_71 Hh_71 Lh_71 ph_71 Bh_71 => ?_)
                        exact q_iret C Bh_71 hr hlk Bh_71.2.2 dX11_clash_280
                    refine lv_icmp_eq (tgt := 243) hx hb dX11_clash_234 (by decide) (fun c_72 => ?_) (fun c_72 => hp_n (n := 237) rfl ?_)
                    ·
                      have jc_72 := il_eq c_72
                      exact J243 Hh_65 Lh_65 Bh_65 ls (lv_sub hl [6, 3, 1, 0] rfl)
                    ·
                      have jc_72 := il_ne c_72
                      refine lv_iload hx hb dX11_clash_237 (lv_at hl 11 rfl) (hp_n (n := 239) rfl ?_)
                      refine lv_iconst (v := 3) hx hb dX11_clash_239 (by decide) (hp_n (n := 240) rfl ?_)
                      refine lv_icmp_ne (tgt := 247) hx hb dX11_clash_240 (by decide) (fun c_73 => ?_) (fun c_73 => hp_n (n := 243) rfl ?_)
                      ·
                        have jc_73 := il_ne c_73
                        refine lv_iconst (v := 0) hx hb dX11_clash_247 (by decide) (hp_n (n := 248) rfl ?_)
                        refine lv_istore (lv' := [(12, .int 0), (11, .int rh_65), (10, .ref b_28), (9, .int 1), (8, .int rh_31), (7, .int rh_13), (6, .ref bh_8), (0, .ref a0), (1, .int a1), (2, .int a2), (3, .int a3), (4, .int a4), (5, .int a5)]) hx hb dX11_clash_248 hl (by decide) rfl (fun ls hl => hp_n (n := 250) rfl ?_)
                        refine lv_aload_n hx hb dX11_clash_250 rfl (lv_at hl 7 rfl) (hp_n (n := 251) rfl ?_)
                        refine lv_iload hx hb dX11_clash_251 (lv_at hl 0 rfl) (hp_n (n := 253) rfl ?_)
                        refine lv_aload_n hx hb dX11_clash_253 rfl (lv_at hl 7 rfl) (hp_n (n := 254) rfl ?_)
                        refine q_gets (κ := 12) (k := 12) (φ := 612) (pc' := 257) C Bh_65 (cw_k Bh_65.2.2 k0) fl_X11_62 rfl rfl rfl t_59 dX11_clash_254 rfl ?_
                        refine lv_iload hx hb dX11_clash_257 (lv_at hl 4 rfl) (hp_n (n := 259) rfl ?_)
                        refine q_ci (pc' := 262) Bh_65 (hp_runV (As := [.int rh_31]) (rest := [.int 0, .ref a0]) C Bh_65 (t_X8_isAhead Γ l αh_29 Bh_65.2.2.1 b_17 (cw_k Bh_65.2.2 kb_17) rh_31) lb_X8_isAhead lv_X8_isAhead lk_X11_385 (cw_k Bh_65.2.2 kb_17) rfl (by decide) rfl hl.1 rfl (Nat.le_of_ble_eq_true rfl) dX11_clash_259 ⟨Nat.le_refl _, Nat.le_refl _⟩) (fun _ _ h => by rw [h.1]; exact Bh_65.2.2) rfl (fun rh_74 αh_74 Hh_74 Lh_74 ph_74 Bh_74 => ?_)
                        rw [ph_74.1] at Bh_74
                        have zh_74 := ph_74.2
                        refine lv_icmp_ne (tgt := 275) hx hb dX11_clash_262 (by decide) (fun c_75 => ?_) (fun c_75 => hp_n (n := 265) rfl ?_)
                        ·
                          have jc_75 := il_ne c_75
                          refine lv_iload hx hb dX11_clash_275 (lv_at hl 1 rfl) (hp_n (n := 277) rfl ?_)
                          refine q_ci (pc' := 280) Bh_74 (hp_runV (As := [.int rh_65]) (rest := []) C Bh_74 (t_X11_answer Γ l αh_29 Bh_74.2.2.1 a0 (cw_k Bh_74.2.2 k0) rh_65) lb_X11_answer lv_X11_answer lk_X11_115 (cw_k Bh_74.2.2 k0) rfl (by decide) rfl hl.1 rfl (Nat.le_of_ble_eq_true rfl) dX11_clash_277 ⟨Nat.le_refl _, Nat.le_refl _⟩) (fun _ _ h => cw_tr Bh_74.2.2 h (by decide)) rfl (fun rh_76 αh_76 Hh_76 Lh_76 ph_76 Bh_76 => ?_)
                          exact q_iret C Bh_76 hr hlk Bh_76.2.2 dX11_clash_280
                        ·
                          have jc_75 := il_eq c_75
                          refine lv_aload hx hb dX11_clash_265 (lv_at hl 2 rfl) (hp_n (n := 267) rfl ?_)
                          refine lv_iload hx hb dX11_clash_267 (lv_at hl 4 rfl) (hp_n (n := 269) rfl ?_)
                          refine q_ci (pc' := 272) Bh_74 (hp_runV (As := [.int rh_31]) (rest := [.ref a0]) C Bh_74 (t_X5_at Γ l αh_29 Bh_74.2.2.1 b_28 (cw_k Bh_74.2.2 kb_28) rh_31) lb_X5_at lv_X5_at lk_X11_135 (cw_k Bh_74.2.2 kb_28) rfl (by decide) rfl hl.1 rfl (Nat.le_of_ble_eq_true rfl) dX11_clash_269 ⟨Nat.le_refl _, Nat.le_refl _⟩) (fun _ _ h => by rw [h]; exact Bh_74.2.2) rfl (fun rh_77 αh_77 Hh_77 Lh_77 ph_77 Bh_77 => ?_)
                          rw [ph_77] at Bh_77
                          refine lv_goto (tgt := 277) hx hb dX11_clash_272 (by decide) ?_
                          refine q_ci (pc' := 280) Bh_77 (hp_runV (As := [.int rh_77]) (rest := []) C Bh_77 (t_X11_answer Γ l αh_29 Bh_77.2.2.1 a0 (cw_k Bh_77.2.2 k0) rh_77) lb_X11_answer lv_X11_answer lk_X11_115 (cw_k Bh_77.2.2 k0) rfl (by decide) rfl hl.1 rfl (Nat.le_of_ble_eq_true rfl) dX11_clash_277 ⟨Nat.le_refl _, Nat.le_refl _⟩) (fun _ _ h => cw_tr Bh_77.2.2 h (by decide)) rfl (fun rh_78 αh_78 Hh_78 Lh_78 ph_78 Bh_78 => ?_)
                          exact q_iret C Bh_78 hr hlk Bh_78.2.2 dX11_clash_280
                      ·
                        have jc_73 := il_eq c_73
                        exact J243 Hh_65 Lh_65 Bh_65 ls (lv_sub hl [6, 3, 1, 0] rfl)
                ·
                  have jc_33 := il_eq c_33
                  refine lv_aload_n hx hb dX11_clash_157 rfl (lv_at hl 3 rfl) (hp_n (n := 158) rfl ?_)
                  refine lv_iload hx hb dX11_clash_158 (lv_at hl 0 rfl) (hp_n (n := 160) rfl ?_)
                  refine q_ci (pc' := 163) Bh_31 (hp_runV (As := [.int rh_31]) (rest := []) C Bh_31 (t_X11_answer Γ l αh_29 Bh_31.2.2.1 a0 (cw_k Bh_31.2.2 k0) rh_31) lb_X11_answer lv_X11_answer lk_X11_115 (cw_k Bh_31.2.2 k0) rfl (by decide) rfl hl.1 rfl (Nat.le_of_ble_eq_true rfl) dX11_clash_160 ⟨Nat.le_refl _, Nat.le_refl _⟩) (fun _ _ h => cw_tr Bh_31.2.2 h (by decide)) rfl (fun rh_79 αh_79 Hh_79 Lh_79 ph_79 Bh_79 => ?_)
                  exact q_iret C Bh_79 hr hlk Bh_79.2.2 dX11_clash_163
              ·
                have jc_32 := il_nle c_32
                refine lv_aload_n hx hb dX11_clash_146 rfl (lv_at hl 3 rfl) (hp_n (n := 147) rfl ?_)
                refine lv_iconst (v := 5) hx hb dX11_clash_147 (by decide) (hp_n (n := 148) rfl ?_)
                refine q_ci (pc' := 151) Bh_31 (hp_runV (As := [.int 5]) (rest := []) C Bh_31 (t_X11_refuse Γ l αh_29 Bh_31.2.2.1 a0 (cw_k Bh_31.2.2 k0) 5) lb_X11_refuse lv_X11_refuse lk_X11_98 (cw_k Bh_31.2.2 k0) rfl (by decide) rfl hl.1 rfl (Nat.le_of_ble_eq_true rfl) dX11_clash_148 ⟨Nat.le_refl _, Nat.le_refl _⟩) (fun _ _ h => cw_tr Bh_31.2.2 h (by decide)) rfl (fun rh_80 αh_80 Hh_80 Lh_80 ph_80 Bh_80 => ?_)
                exact q_iret C Bh_80 hr hlk Bh_80.2.2 dX11_clash_151
            ·
              have jc_25 := il_ne c_25
              refine lv_aload_n hx hb dX11_clash_104 rfl (lv_at hl 2 rfl) (hp_n (n := 105) rfl ?_)
              refine lv_iconst (v := 5) hx hb dX11_clash_105 (by decide) (hp_n (n := 106) rfl ?_)
              refine q_ci (pc' := 109) Bh_24 (hp_runV (As := [.int 5]) (rest := []) C Bh_24 (t_X11_refuse Γ l αh_23 Bh_24.2.2.1 a0 (cw_k Bh_24.2.2 k0) 5) lb_X11_refuse lv_X11_refuse lk_X11_98 (cw_k Bh_24.2.2 k0) rfl (by decide) rfl hl.1 rfl (Nat.le_of_ble_eq_true rfl) dX11_clash_106 ⟨Nat.le_refl _, Nat.le_refl _⟩) (fun _ _ h => cw_tr Bh_24.2.2 h (by decide)) rfl (fun rh_81 αh_81 Hh_81 Lh_81 ph_81 Bh_81 => ?_)
              exact q_iret C Bh_81 hr hlk Bh_81.2.2 dX11_clash_109
      ·
        have jc_6 := il_eq c_6
        exact J20 Hh_5 Lh_5 Bh_5 ls (lv_sub hl [0] rfl)
abbrev w_X11_trace : cw_W := ([453, 454, 600], [], [21, 22, 23], [])
set_option maxRecDepth 100000 in
set_option maxHeartbeats 4000000 in
theorem t_X11_trace (Γ : hp_G) (l : Launch) (α : hp_T) (g : GC α) (a0 : Nat) (k0 : hp_K α a0 = 12) (a1 : Int32) (a2 : Int32) (a3 : Int32) (a4 : Int32) : Met l yX11_trace (hp_ws yX11_trace cX11_trace 5 (some .int)) (hp_rm 4 0 0) (hp_Pc Γ α [.ref a0, .int a1, .int a2, .int a3, .int a4]) (hp_Qi Γ (fun r β => cw w_X11_trace α β)) 0 0 (hp_A Γ) := by
  refine hp_start (by decide) ?_
  intro p e s m below meth c C hr hlk B0 hnm
  have C : hp_C Γ p m c cX11_trace 5 s ([.ref a0, .int a1, .int a2, .int a3, .int a4] : List Value).toArray RX11 := C
  have hx := C.1.1
  have hb := C.1.2.1
  have hown := C.1.2.2.2.1
  have hts := C.1.2.2.2.2
  have B : hp_B Γ (cw w_X11_trace) s α α s.heap [] := ⟨B0.1, B0.2.1, cw_rf g⟩
  have lit0 : (0 : Int32).toInt = 0 := by decide
  have lit1 : (1 : Int32).toInt = 1 := by decide
  have lit5 : (5 : Int32).toInt = 5 := by decide
  have hl := lv_entry ([.ref a0, .int a1, .int a2, .int a3, .int a4]) (n := 5) (Nat.le_of_ble_eq_true rfl)
  show W p l e (hp_rm 4 0 0) s m ([.ref a0, .int a1, .int a2, .int a3, .int a4] : List Value).toArray below meth c s.heap [] 0 0 (MQ below (hp_Qi Γ (fun r β => cw w_X11_trace α β)) ([.ref a0, .int a1, .int a2, .int a3, .int a4] : List Value).toArray s 0 0 (hp_A Γ)) (entryFrame m ([.ref a0, .int a1, .int a2, .int a3, .int a4] : List Value).toArray 5)
  rw [lg_entry_eq]
  generalize (lg_sl ([.ref a0, .int a1, .int a2, .int a3, .int a4]) ++ List.replicate (5 - (lg_sl ([.ref a0, .int a1, .int a2, .int a3, .int a4])).length) Slot.unset).toArray = ls at hl ⊢
  have hl : lv_has ls 5 [(0, .ref a0), (1, .int a1), (2, .int a2), (3, .int a3), (4, .int a4)] := hl
  refine lv_iload_n hx hb dX11_trace_0 rfl (lv_at hl 2 rfl) (hp_n (n := 1) rfl ?_)
  refine lv_iload_n hx hb dX11_trace_1 rfl (lv_at hl 3 rfl) (hp_n (n := 2) rfl ?_)
  refine q_ci (pc' := 5) B (hp_runS (As := [.int a2, .int a3]) (rest := []) C B (t_X11_isThing Γ l α B.2.2.1 a2 a3) lb_X11_isThing ls_X11_isThing lk_X11_301 rfl (by decide) rfl hl.1 rfl (Nat.le_of_ble_eq_true rfl) dX11_trace_2 ⟨Nat.le_refl _, Nat.le_refl _⟩) (fun _ _ h => by rw [h.1]; exact B.2.2) rfl (fun rh_1 αh_1 Hh_1 Lh_1 ph_1 Bh_1 => ?_)
  rw [ph_1.1] at Bh_1
  have zh_1 := ph_1.2
  have J21 : ∀ (Hh_2 : Heap) (Lh_2 : List Loc) (Bh_2 : hp_B Γ (cw w_X11_trace) s α α Hh_2 Lh_2) (ls : Array Slot) (hl : lv_has ls 5 [(0, .ref a0)]), W p l e (hp_rm 4 0 0) s m ([.ref a0, .int a1, .int a2, .int a3, .int a4] : List Value).toArray below meth c Hh_2 Lh_2 0 0 (MQ below (hp_Qi Γ (fun r β => cw w_X11_trace α β)) ([.ref a0, .int a1, .int a2, .int a3, .int a4] : List Value).toArray s 0 0 (hp_A Γ)) (F0 m 21 ls []) := by
    intro Hh_2 Lh_2 Bh_2 ls hl
    refine lv_aload_n hx hb dX11_trace_21 rfl (lv_at hl 0 rfl) (hp_n (n := 22) rfl ?_)
    refine lv_iconst (v := 1) hx hb dX11_trace_22 (by decide) (hp_n (n := 23) rfl ?_)
    refine q_ci (pc' := 26) Bh_2 (hp_runV (As := [.int 1]) (rest := []) C Bh_2 (t_X11_refuse Γ l α Bh_2.2.2.1 a0 (cw_k Bh_2.2.2 k0) 1) lb_X11_refuse lv_X11_refuse lk_X11_98 (cw_k Bh_2.2.2 k0) rfl (by decide) rfl hl.1 rfl (Nat.le_of_ble_eq_true rfl) dX11_trace_23 ⟨Nat.le_refl _, Nat.le_refl _⟩) (fun _ _ h => cw_tr Bh_2.2.2 h (by decide)) rfl (fun rh_3 αh_3 Hh_3 Lh_3 ph_3 Bh_3 => ?_)
    exact q_iret C Bh_3 hr hlk Bh_3.2.2 dX11_trace_26
  refine lv_if_eq (tgt := 21) hx hb dX11_trace_5 (by decide) (fun c_4 => ?_) (fun c_4 => hp_n (n := 8) rfl ?_)
  ·
    have jc_4 := il_eq c_4
    exact J21 Hh_1 Lh_1 Bh_1 ls (lv_sub hl [0] rfl)
  ·
    have jc_4 := il_ne c_4
    refine lv_iload hx hb dX11_trace_8 (lv_at hl 4 rfl) (hp_n (n := 10) rfl ?_)
    refine lv_if_lt (tgt := 21) hx hb dX11_trace_10 (by decide) (fun c_5 => ?_) (fun c_5 => hp_n (n := 13) rfl ?_)
    ·
      have jc_5 := il_lt c_5
      exact J21 Hh_1 Lh_1 Bh_1 ls (lv_sub hl [0] rfl)
    ·
      have jc_5 := il_nlt c_5
      refine lv_aload_n hx hb dX11_trace_13 rfl (lv_at hl 0 rfl) (hp_n (n := 14) rfl ?_)
      refine lv_iload_n hx hb dX11_trace_14 rfl (lv_at hl 1 rfl) (hp_n (n := 15) rfl ?_)
      refine q_ci (pc' := 18) Bh_1 (hp_runV (As := [.int a1]) (rest := []) C Bh_1 (t_X11_isMark Γ l α Bh_1.2.2.1 a0 (cw_k Bh_1.2.2 k0) a1) lb_X11_isMark lv_X11_isMark lk_X11_188 (cw_k Bh_1.2.2 k0) rfl (by decide) rfl hl.1 rfl (Nat.le_of_ble_eq_true rfl) dX11_trace_15 ⟨Nat.le_refl _, Nat.le_refl _⟩) (fun _ _ h => by rw [h.1]; exact Bh_1.2.2) rfl (fun rh_6 αh_6 Hh_6 Lh_6 ph_6 Bh_6 => ?_)
      rw [ph_6.1] at Bh_6
      have zh_6 := ph_6.2
      refine lv_if_ne (tgt := 27) hx hb dX11_trace_18 (by decide) (fun c_7 => ?_) (fun c_7 => hp_n (n := 21) rfl ?_)
      ·
        have jc_7 := il_ne c_7
        refine lv_aload_n hx hb dX11_trace_27 rfl (lv_at hl 0 rfl) (hp_n (n := 28) rfl ?_)
        refine q_getr (κ := 12) (k := 12) (φ := 612) (pc' := 31) C Bh_6 (cw_k Bh_6.2.2 k0) fl_X11_62 rfl rfl rfl (cw_r Bh_6.2.2 k0 rfl rfl (by decide) (by decide)) dX11_trace_28 rfl (fun b_8 eb_8 kb_8 => ?_)
        refine lv_iload_n hx hb dX11_trace_31 rfl (lv_at hl 2 rfl) (hp_n (n := 32) rfl ?_)
        refine lv_iload_n hx hb dX11_trace_32 rfl (lv_at hl 3 rfl) (hp_n (n := 33) rfl ?_)
        refine q_cv (pc' := 36) Bh_6 (hp_runV (As := [.int a2, .int a3]) (rest := []) C Bh_6 (t_X8_toThing Γ l α Bh_6.2.2.1 b_8 (cw_k Bh_6.2.2 kb_8) a2 a3) lb_X8_toThing lv_X8_toThing lk_X11_267 (cw_k Bh_6.2.2 kb_8) rfl (by decide) rfl hl.1 rfl (Nat.le_of_ble_eq_true rfl) dX11_trace_33 ⟨Nat.le_refl _, Nat.le_refl _⟩) (fun _ h => cw_tr Bh_6.2.2 h (by decide)) rfl (fun αh_9 Hh_9 Lh_9 ph_9 Bh_9 => ?_)
        refine lv_iload hx hb dX11_trace_36 (lv_at hl 4 rfl) (hp_n (n := 38) rfl ?_)
        refine lv_aload_n hx hb dX11_trace_38 rfl (lv_at hl 0 rfl) (hp_n (n := 39) rfl ?_)
        have t_10 : b_8 = hp_R αh_9 612 a0 := by rw [cw_R ph_9 a0 (by decide)]; exact eb_8
        refine q_gets (κ := 12) (k := 12) (φ := 612) (pc' := 42) C Bh_9 (cw_k Bh_9.2.2 k0) fl_X11_62 rfl rfl rfl t_10 dX11_trace_39 rfl ?_
        refine q_geti (κ := 9) (k := 3) (φ := 453) (pc' := 45) C Bh_9 (cw_k Bh_9.2.2 kb_8) fl_X11_312 rfl rfl rfl dX11_trace_42 rfl (fun x_11 ex_11 => ?_)
        obtain ⟨gx_11a, gx_11b⟩ : 0 ≤ x_11.toInt ∧ x_11.toInt ≤ 64 := by rw [ex_11]; exact Bh_9.2.2.1.1 453 b_8 rfl
        have J60 : ∀ (Hh_12 : Heap) (Lh_12 : List Loc) (Bh_12 : hp_B Γ (cw w_X11_trace) s α αh_9 Hh_12 Lh_12) (ls : Array Slot) (hl : lv_has ls 5 [(0, .ref a0)]), W p l e (hp_rm 4 0 0) s m ([.ref a0, .int a1, .int a2, .int a3, .int a4] : List Value).toArray below meth c Hh_12 Lh_12 0 0 (MQ below (hp_Qi Γ (fun r β => cw w_X11_trace α β)) ([.ref a0, .int a1, .int a2, .int a3, .int a4] : List Value).toArray s 0 0 (hp_A Γ)) (F0 m 60 ls []) := by
          intro Hh_12 Lh_12 Bh_12 ls hl
          refine lv_aload_n hx hb dX11_trace_60 rfl (lv_at hl 0 rfl) (hp_n (n := 61) rfl ?_)
          refine lv_iconst (v := 5) hx hb dX11_trace_61 (by decide) (hp_n (n := 62) rfl ?_)
          refine q_ci (pc' := 65) Bh_12 (hp_runV (As := [.int 5]) (rest := []) C Bh_12 (t_X11_refuse Γ l αh_9 Bh_12.2.2.1 a0 (cw_k Bh_12.2.2 k0) 5) lb_X11_refuse lv_X11_refuse lk_X11_98 (cw_k Bh_12.2.2 k0) rfl (by decide) rfl hl.1 rfl (Nat.le_of_ble_eq_true rfl) dX11_trace_62 ⟨Nat.le_refl _, Nat.le_refl _⟩) (fun _ _ h => cw_tr Bh_12.2.2 h (by decide)) rfl (fun rh_13 αh_13 Hh_13 Lh_13 ph_13 Bh_13 => ?_)
          exact q_iret C Bh_13 hr hlk Bh_13.2.2 dX11_trace_65
        refine lv_icmp_gt (tgt := 60) hx hb dX11_trace_45 (by decide) (fun c_14 => ?_) (fun c_14 => hp_n (n := 48) rfl ?_)
        ·
          have jc_14 := il_lt c_14
          exact J60 Hh_9 Lh_9 Bh_9 ls (lv_sub hl [0] rfl)
        ·
          have jc_14 := il_nlt c_14
          refine lv_iload hx hb dX11_trace_48 (lv_at hl 4 rfl) (hp_n (n := 50) rfl ?_)
          refine lv_aload_n hx hb dX11_trace_50 rfl (lv_at hl 0 rfl) (hp_n (n := 51) rfl ?_)
          refine q_getr (κ := 12) (k := 3) (φ := 603) (pc' := 54) C Bh_9 (cw_k Bh_9.2.2 k0) fl_X11_26 rfl rfl rfl (cw_r Bh_9.2.2 k0 rfl rfl (by decide) (by decide)) dX11_trace_51 rfl (fun b_15 eb_15 kb_15 => ?_)
          refine q_geti (κ := 6) (k := 1) (φ := 301) (pc' := 57) C Bh_9 (cw_k Bh_9.2.2 kb_15) fl_X11_132 rfl rfl rfl dX11_trace_54 rfl (fun x_16 ex_16 => ?_)
          refine lv_icmp_le (tgt := 66) hx hb dX11_trace_57 (by decide) (fun c_17 => ?_) (fun c_17 => hp_n (n := 60) rfl ?_)
          ·
            have jc_17 := il_le c_17
            refine lv_aload_n hx hb dX11_trace_66 rfl (lv_at hl 0 rfl) (hp_n (n := 67) rfl ?_)
            refine lv_aload_n hx hb dX11_trace_67 rfl (lv_at hl 0 rfl) (hp_n (n := 68) rfl ?_)
            refine q_gets (κ := 12) (k := 12) (φ := 612) (pc' := 71) C Bh_9 (cw_k Bh_9.2.2 k0) fl_X11_62 rfl rfl rfl t_10 dX11_trace_68 rfl ?_
            refine lv_aload_n hx hb dX11_trace_71 rfl (lv_at hl 0 rfl) (hp_n (n := 72) rfl ?_)
            refine q_getr (κ := 12) (k := 1) (φ := 601) (pc' := 75) C Bh_9 (cw_k Bh_9.2.2 k0) fl_X11_16 rfl rfl rfl (cw_r Bh_9.2.2 k0 rfl rfl (by decide) (by decide)) dX11_trace_72 rfl (fun b_18 eb_18 kb_18 => ?_)
            refine q_geti (κ := 11) (k := 0) (φ := 550) (pc' := 78) C Bh_9 (cw_k Bh_9.2.2 kb_18) fl_X11_122 rfl rfl rfl dX11_trace_75 rfl (fun x_19 ex_19 => ?_)
            refine lv_aload_n hx hb dX11_trace_78 rfl (lv_at hl 0 rfl) (hp_n (n := 79) rfl ?_)
            refine q_gets (κ := 12) (k := 3) (φ := 603) (pc' := 82) C Bh_9 (cw_k Bh_9.2.2 k0) fl_X11_26 rfl rfl rfl eb_15 dX11_trace_79 rfl ?_
            refine lv_iload_n hx hb dX11_trace_82 rfl (lv_at hl 1 rfl) (hp_n (n := 83) rfl ?_)
            refine lv_iload hx hb dX11_trace_83 (lv_at hl 4 rfl) (hp_n (n := 85) rfl ?_)
            refine q_ci (pc' := 88) Bh_9 (hp_runV (As := [.int x_19, .ref b_15, .int a1, .int a4]) (rest := [.ref a0]) C Bh_9 (t_X8_folded Γ l αh_9 Bh_9.2.2.1 b_8 (cw_k Bh_9.2.2 kb_8) x_19 b_15 (cw_k Bh_9.2.2 kb_15) a1 a4) lb_X8_folded lv_X8_folded lk_X11_382 (cw_k Bh_9.2.2 kb_8) rfl (by decide) rfl hl.1 rfl (Nat.le_of_ble_eq_true rfl) dX11_trace_85 ⟨Nat.le_refl _, Nat.le_refl _⟩) (fun _ _ h => by rw [h]; exact Bh_9.2.2) rfl (fun rh_20 αh_20 Hh_20 Lh_20 ph_20 Bh_20 => ?_)
            rw [ph_20] at Bh_20
            refine q_ci (pc' := 91) Bh_20 (hp_runV (As := [.int rh_20]) (rest := []) C Bh_20 (t_X11_answer Γ l αh_9 Bh_20.2.2.1 a0 (cw_k Bh_20.2.2 k0) rh_20) lb_X11_answer lv_X11_answer lk_X11_115 (cw_k Bh_20.2.2 k0) rfl (by decide) rfl hl.1 rfl (Nat.le_of_ble_eq_true rfl) dX11_trace_88 ⟨Nat.le_refl _, Nat.le_refl _⟩) (fun _ _ h => cw_tr Bh_20.2.2 h (by decide)) rfl (fun rh_21 αh_21 Hh_21 Lh_21 ph_21 Bh_21 => ?_)
            exact q_iret C Bh_21 hr hlk Bh_21.2.2 dX11_trace_91
          ·
            have jc_17 := il_nle c_17
            exact J60 Hh_9 Lh_9 Bh_9 ls (lv_sub hl [0] rfl)
      ·
        have jc_7 := il_eq c_7
        exact J21 Hh_6 Lh_6 Bh_6 ls (lv_sub hl [0] rfl)
abbrev w_X11_treeOfWay : cw_W := ([600], [], [], [])
set_option maxRecDepth 100000 in
set_option maxHeartbeats 4000000 in
theorem t_X11_treeOfWay (Γ : hp_G) (l : Launch) (α : hp_T) (g : GC α) (a0 : Nat) (k0 : hp_K α a0 = 12) (a1 : Int32) (a2 : Int32) : Met l yX11_treeOfWay (hp_ws yX11_treeOfWay cX11_treeOfWay 3 (some .int)) (hp_rm 1 0 0) (hp_Pc Γ α [.ref a0, .int a1, .int a2]) (hp_Qi Γ (fun r β => cw w_X11_treeOfWay α β)) 0 0 (hp_A Γ) := by
  refine hp_start (by decide) ?_
  intro p e s m below meth c C hr hlk B0 hnm
  have C : hp_C Γ p m c cX11_treeOfWay 3 s ([.ref a0, .int a1, .int a2] : List Value).toArray RX11 := C
  have hx := C.1.1
  have hb := C.1.2.1
  have hown := C.1.2.2.2.1
  have hts := C.1.2.2.2.2
  have B : hp_B Γ (cw w_X11_treeOfWay) s α α s.heap [] := ⟨B0.1, B0.2.1, cw_rf g⟩
  have lit0 : (0 : Int32).toInt = 0 := by decide
  have lit5 : (5 : Int32).toInt = 5 := by decide
  have hl := lv_entry ([.ref a0, .int a1, .int a2]) (n := 3) (Nat.le_of_ble_eq_true rfl)
  show W p l e (hp_rm 1 0 0) s m ([.ref a0, .int a1, .int a2] : List Value).toArray below meth c s.heap [] 0 0 (MQ below (hp_Qi Γ (fun r β => cw w_X11_treeOfWay α β)) ([.ref a0, .int a1, .int a2] : List Value).toArray s 0 0 (hp_A Γ)) (entryFrame m ([.ref a0, .int a1, .int a2] : List Value).toArray 3)
  rw [lg_entry_eq]
  generalize (lg_sl ([.ref a0, .int a1, .int a2]) ++ List.replicate (3 - (lg_sl ([.ref a0, .int a1, .int a2])).length) Slot.unset).toArray = ls at hl ⊢
  have hl : lv_has ls 3 [(0, .ref a0), (1, .int a1), (2, .int a2)] := hl
  refine lv_iload_n hx hb dX11_treeOfWay_0 rfl (lv_at hl 1 rfl) (hp_n (n := 1) rfl ?_)
  refine lv_aload_n hx hb dX11_treeOfWay_1 rfl (lv_at hl 0 rfl) (hp_n (n := 2) rfl ?_)
  refine q_getr (κ := 12) (k := 12) (φ := 612) (pc' := 5) C B (cw_k B.2.2 k0) fl_X11_62 rfl rfl rfl (cw_r B.2.2 k0 rfl rfl (by decide) (by decide)) dX11_treeOfWay_2 rfl (fun b_1 eb_1 kb_1 => ?_)
  refine q_geti (κ := 9) (k := 3) (φ := 453) (pc' := 8) C B (cw_k B.2.2 kb_1) fl_X11_312 rfl rfl rfl dX11_treeOfWay_5 rfl (fun x_2 ex_2 => ?_)
  obtain ⟨gx_2a, gx_2b⟩ : 0 ≤ x_2.toInt ∧ x_2.toInt ≤ 64 := by rw [ex_2]; exact B.2.2.1.1 453 b_1 rfl
  refine lv_icmp_lt (tgt := 17) hx hb dX11_treeOfWay_8 (by decide) (fun c_3 => ?_) (fun c_3 => hp_n (n := 11) rfl ?_)
  ·
    have jc_3 := il_lt c_3
    refine lv_aload_n hx hb dX11_treeOfWay_17 rfl (lv_at hl 0 rfl) (hp_n (n := 18) rfl ?_)
    refine lv_iload_n hx hb dX11_treeOfWay_18 rfl (lv_at hl 2 rfl) (hp_n (n := 19) rfl ?_)
    refine lv_if_ne (tgt := 33) hx hb dX11_treeOfWay_19 (by decide) (fun c_4 => ?_) (fun c_4 => hp_n (n := 22) rfl ?_)
    ·
      have jc_4 := il_ne c_4
      refine lv_aload_n hx hb dX11_treeOfWay_33 rfl (lv_at hl 0 rfl) (hp_n (n := 34) rfl ?_)
      refine q_gets (κ := 12) (k := 12) (φ := 612) (pc' := 37) C B (cw_k B.2.2 k0) fl_X11_62 rfl rfl rfl eb_1 dX11_treeOfWay_34 rfl ?_
      refine lv_iload_n hx hb dX11_treeOfWay_37 rfl (lv_at hl 1 rfl) (hp_n (n := 38) rfl ?_)
      refine q_ci (pc' := 41) B (hp_runV (As := [.int a1]) (rest := [.ref a0]) C B (t_X8_manyAt Γ l α B.2.2.1 b_1 (cw_k B.2.2 kb_1) a1) lb_X8_manyAt lv_X8_manyAt lk_X11_336 (cw_k B.2.2 kb_1) rfl (by decide) rfl hl.1 rfl (Nat.le_of_ble_eq_true rfl) dX11_treeOfWay_38 ⟨Nat.le_refl _, Nat.le_refl _⟩) (fun _ _ h => by rw [h]; exact B.2.2) rfl (fun rh_5 αh_5 Hh_5 Lh_5 ph_5 Bh_5 => ?_)
      rw [ph_5] at Bh_5
      refine q_ci (pc' := 44) Bh_5 (hp_runV (As := [.int rh_5]) (rest := []) C Bh_5 (t_X11_answer Γ l α Bh_5.2.2.1 a0 (cw_k Bh_5.2.2 k0) rh_5) lb_X11_answer lv_X11_answer lk_X11_115 (cw_k Bh_5.2.2 k0) rfl (by decide) rfl hl.1 rfl (Nat.le_of_ble_eq_true rfl) dX11_treeOfWay_41 ⟨Nat.le_refl _, Nat.le_refl _⟩) (fun _ _ h => cw_tr Bh_5.2.2 h (by decide)) rfl (fun rh_6 αh_6 Hh_6 Lh_6 ph_6 Bh_6 => ?_)
      exact q_iret C Bh_6 hr hlk Bh_6.2.2 dX11_treeOfWay_44
    ·
      have jc_4 := il_eq c_4
      refine lv_aload_n hx hb dX11_treeOfWay_22 rfl (lv_at hl 0 rfl) (hp_n (n := 23) rfl ?_)
      refine q_gets (κ := 12) (k := 12) (φ := 612) (pc' := 26) C B (cw_k B.2.2 k0) fl_X11_62 rfl rfl rfl eb_1 dX11_treeOfWay_23 rfl ?_
      refine lv_iload_n hx hb dX11_treeOfWay_26 rfl (lv_at hl 1 rfl) (hp_n (n := 27) rfl ?_)
      refine q_ci (pc' := 30) B (hp_runV (As := [.int a1]) (rest := [.ref a0]) C B (t_X8_firstAt Γ l α B.2.2.1 b_1 (cw_k B.2.2 kb_1) a1) lb_X8_firstAt lv_X8_firstAt lk_X11_333 (cw_k B.2.2 kb_1) rfl (by decide) rfl hl.1 rfl (Nat.le_of_ble_eq_true rfl) dX11_treeOfWay_27 ⟨Nat.le_refl _, Nat.le_refl _⟩) (fun _ _ h => by rw [h]; exact B.2.2) rfl (fun rh_7 αh_7 Hh_7 Lh_7 ph_7 Bh_7 => ?_)
      rw [ph_7] at Bh_7
      refine lv_goto (tgt := 41) hx hb dX11_treeOfWay_30 (by decide) ?_
      refine q_ci (pc' := 44) Bh_7 (hp_runV (As := [.int rh_7]) (rest := []) C Bh_7 (t_X11_answer Γ l α Bh_7.2.2.1 a0 (cw_k Bh_7.2.2 k0) rh_7) lb_X11_answer lv_X11_answer lk_X11_115 (cw_k Bh_7.2.2 k0) rfl (by decide) rfl hl.1 rfl (Nat.le_of_ble_eq_true rfl) dX11_treeOfWay_41 ⟨Nat.le_refl _, Nat.le_refl _⟩) (fun _ _ h => cw_tr Bh_7.2.2 h (by decide)) rfl (fun rh_8 αh_8 Hh_8 Lh_8 ph_8 Bh_8 => ?_)
      exact q_iret C Bh_8 hr hlk Bh_8.2.2 dX11_treeOfWay_44
  ·
    have jc_3 := il_nlt c_3
    refine lv_aload_n hx hb dX11_treeOfWay_11 rfl (lv_at hl 0 rfl) (hp_n (n := 12) rfl ?_)
    refine lv_iconst (v := 5) hx hb dX11_treeOfWay_12 (by decide) (hp_n (n := 13) rfl ?_)
    refine q_ci (pc' := 16) B (hp_runV (As := [.int 5]) (rest := []) C B (t_X11_refuse Γ l α B.2.2.1 a0 (cw_k B.2.2 k0) 5) lb_X11_refuse lv_X11_refuse lk_X11_98 (cw_k B.2.2 k0) rfl (by decide) rfl hl.1 rfl (Nat.le_of_ble_eq_true rfl) dX11_treeOfWay_13 ⟨Nat.le_refl _, Nat.le_refl _⟩) (fun _ _ h => cw_tr B.2.2 h (by decide)) rfl (fun rh_9 αh_9 Hh_9 Lh_9 ph_9 Bh_9 => ?_)
    exact q_iret C Bh_9 hr hlk Bh_9.2.2 dX11_treeOfWay_16
abbrev w_X11_span : cw_W := ([453, 454, 600], [], [21, 22, 23], [])
set_option maxRecDepth 100000 in
set_option maxHeartbeats 4000000 in
theorem t_X11_span (Γ : hp_G) (l : Launch) (α : hp_T) (g : GC α) (a0 : Nat) (k0 : hp_K α a0 = 12) (a1 : Int32) (a2 : Int32) (a3 : Int32) (a4 : Int32) : Met l yX11_span (hp_ws yX11_span cX11_span 5 (some .int)) (hp_rm 4 0 0) (hp_Pc Γ α [.ref a0, .int a1, .int a2, .int a3, .int a4]) (hp_Qi Γ (fun r β => cw w_X11_span α β)) 0 0 (hp_A Γ) := by
  refine hp_start (by decide) ?_
  intro p e s m below meth c C hr hlk B0 hnm
  have C : hp_C Γ p m c cX11_span 5 s ([.ref a0, .int a1, .int a2, .int a3, .int a4] : List Value).toArray RX11 := C
  have hx := C.1.1
  have hb := C.1.2.1
  have hown := C.1.2.2.2.1
  have hts := C.1.2.2.2.2
  have B : hp_B Γ (cw w_X11_span) s α α s.heap [] := ⟨B0.1, B0.2.1, cw_rf g⟩
  have lit0 : (0 : Int32).toInt = 0 := by decide
  have lit1 : (1 : Int32).toInt = 1 := by decide
  have hl := lv_entry ([.ref a0, .int a1, .int a2, .int a3, .int a4]) (n := 5) (Nat.le_of_ble_eq_true rfl)
  show W p l e (hp_rm 4 0 0) s m ([.ref a0, .int a1, .int a2, .int a3, .int a4] : List Value).toArray below meth c s.heap [] 0 0 (MQ below (hp_Qi Γ (fun r β => cw w_X11_span α β)) ([.ref a0, .int a1, .int a2, .int a3, .int a4] : List Value).toArray s 0 0 (hp_A Γ)) (entryFrame m ([.ref a0, .int a1, .int a2, .int a3, .int a4] : List Value).toArray 5)
  rw [lg_entry_eq]
  generalize (lg_sl ([.ref a0, .int a1, .int a2, .int a3, .int a4]) ++ List.replicate (5 - (lg_sl ([.ref a0, .int a1, .int a2, .int a3, .int a4])).length) Slot.unset).toArray = ls at hl ⊢
  have hl : lv_has ls 5 [(0, .ref a0), (1, .int a1), (2, .int a2), (3, .int a3), (4, .int a4)] := hl
  refine lv_iload_n hx hb dX11_span_0 rfl (lv_at hl 1 rfl) (hp_n (n := 1) rfl ?_)
  refine lv_iload_n hx hb dX11_span_1 rfl (lv_at hl 2 rfl) (hp_n (n := 2) rfl ?_)
  refine q_ci (pc' := 5) B (hp_runS (As := [.int a1, .int a2]) (rest := []) C B (t_X11_isThing Γ l α B.2.2.1 a1 a2) lb_X11_isThing ls_X11_isThing lk_X11_301 rfl (by decide) rfl hl.1 rfl (Nat.le_of_ble_eq_true rfl) dX11_span_2 ⟨Nat.le_refl _, Nat.le_refl _⟩) (fun _ _ h => by rw [h.1]; exact B.2.2) rfl (fun rh_1 αh_1 Hh_1 Lh_1 ph_1 Bh_1 => ?_)
  rw [ph_1.1] at Bh_1
  have zh_1 := ph_1.2
  have J23 : ∀ (Hh_2 : Heap) (Lh_2 : List Loc) (Bh_2 : hp_B Γ (cw w_X11_span) s α α Hh_2 Lh_2) (ls : Array Slot) (hl : lv_has ls 5 [(0, .ref a0)]), W p l e (hp_rm 4 0 0) s m ([.ref a0, .int a1, .int a2, .int a3, .int a4] : List Value).toArray below meth c Hh_2 Lh_2 0 0 (MQ below (hp_Qi Γ (fun r β => cw w_X11_span α β)) ([.ref a0, .int a1, .int a2, .int a3, .int a4] : List Value).toArray s 0 0 (hp_A Γ)) (F0 m 23 ls []) := by
    intro Hh_2 Lh_2 Bh_2 ls hl
    refine lv_aload_n hx hb dX11_span_23 rfl (lv_at hl 0 rfl) (hp_n (n := 24) rfl ?_)
    refine lv_iconst (v := 1) hx hb dX11_span_24 (by decide) (hp_n (n := 25) rfl ?_)
    refine q_ci (pc' := 28) Bh_2 (hp_runV (As := [.int 1]) (rest := []) C Bh_2 (t_X11_refuse Γ l α Bh_2.2.2.1 a0 (cw_k Bh_2.2.2 k0) 1) lb_X11_refuse lv_X11_refuse lk_X11_98 (cw_k Bh_2.2.2 k0) rfl (by decide) rfl hl.1 rfl (Nat.le_of_ble_eq_true rfl) dX11_span_25 ⟨Nat.le_refl _, Nat.le_refl _⟩) (fun _ _ h => cw_tr Bh_2.2.2 h (by decide)) rfl (fun rh_3 αh_3 Hh_3 Lh_3 ph_3 Bh_3 => ?_)
    exact q_iret C Bh_3 hr hlk Bh_3.2.2 dX11_span_28
  refine lv_if_eq (tgt := 23) hx hb dX11_span_5 (by decide) (fun c_4 => ?_) (fun c_4 => hp_n (n := 8) rfl ?_)
  ·
    have jc_4 := il_eq c_4
    exact J23 Hh_1 Lh_1 Bh_1 ls (lv_sub hl [0] rfl)
  ·
    have jc_4 := il_ne c_4
    refine lv_iload_n hx hb dX11_span_8 rfl (lv_at hl 3 rfl) (hp_n (n := 9) rfl ?_)
    refine lv_if_lt (tgt := 23) hx hb dX11_span_9 (by decide) (fun c_5 => ?_) (fun c_5 => hp_n (n := 12) rfl ?_)
    ·
      have jc_5 := il_lt c_5
      exact J23 Hh_1 Lh_1 Bh_1 ls (lv_sub hl [0] rfl)
    ·
      have jc_5 := il_nlt c_5
      refine lv_iload hx hb dX11_span_12 (lv_at hl 4 rfl) (hp_n (n := 14) rfl ?_)
      refine lv_if_lt (tgt := 23) hx hb dX11_span_14 (by decide) (fun c_6 => ?_) (fun c_6 => hp_n (n := 17) rfl ?_)
      ·
        have jc_6 := il_lt c_6
        exact J23 Hh_1 Lh_1 Bh_1 ls (lv_sub hl [0] rfl)
      ·
        have jc_6 := il_nlt c_6
        refine lv_iload hx hb dX11_span_17 (lv_at hl 4 rfl) (hp_n (n := 19) rfl ?_)
        refine lv_iconst (v := 1) hx hb dX11_span_19 (by decide) (hp_n (n := 20) rfl ?_)
        refine lv_icmp_le (tgt := 29) hx hb dX11_span_20 (by decide) (fun c_7 => ?_) (fun c_7 => hp_n (n := 23) rfl ?_)
        ·
          have jc_7 := il_le c_7
          refine lv_aload_n hx hb dX11_span_29 rfl (lv_at hl 0 rfl) (hp_n (n := 30) rfl ?_)
          refine q_getr (κ := 12) (k := 12) (φ := 612) (pc' := 33) C Bh_1 (cw_k Bh_1.2.2 k0) fl_X11_62 rfl rfl rfl (cw_r Bh_1.2.2 k0 rfl rfl (by decide) (by decide)) dX11_span_30 rfl (fun b_8 eb_8 kb_8 => ?_)
          refine lv_iload_n hx hb dX11_span_33 rfl (lv_at hl 1 rfl) (hp_n (n := 34) rfl ?_)
          refine lv_iload_n hx hb dX11_span_34 rfl (lv_at hl 2 rfl) (hp_n (n := 35) rfl ?_)
          refine q_cv (pc' := 38) Bh_1 (hp_runV (As := [.int a1, .int a2]) (rest := []) C Bh_1 (t_X8_toThing Γ l α Bh_1.2.2.1 b_8 (cw_k Bh_1.2.2 kb_8) a1 a2) lb_X8_toThing lv_X8_toThing lk_X11_267 (cw_k Bh_1.2.2 kb_8) rfl (by decide) rfl hl.1 rfl (Nat.le_of_ble_eq_true rfl) dX11_span_35 ⟨Nat.le_refl _, Nat.le_refl _⟩) (fun _ h => cw_tr Bh_1.2.2 h (by decide)) rfl (fun αh_9 Hh_9 Lh_9 ph_9 Bh_9 => ?_)
          refine lv_aload_n hx hb dX11_span_38 rfl (lv_at hl 0 rfl) (hp_n (n := 39) rfl ?_)
          refine lv_iload_n hx hb dX11_span_39 rfl (lv_at hl 3 rfl) (hp_n (n := 40) rfl ?_)
          refine lv_iload hx hb dX11_span_40 (lv_at hl 4 rfl) (hp_n (n := 42) rfl ?_)
          refine q_ci (pc' := 45) Bh_9 (hp_runV (As := [.int a3, .int a4]) (rest := []) C Bh_9 (t_X11_treeOfWay Γ l αh_9 Bh_9.2.2.1 a0 (cw_k Bh_9.2.2 k0) a3 a4) lb_X11_treeOfWay lv_X11_treeOfWay lk_X11_392 (cw_k Bh_9.2.2 k0) rfl (by decide) rfl hl.1 rfl (Nat.le_of_ble_eq_true rfl) dX11_span_42 ⟨Nat.le_refl _, Nat.le_refl _⟩) (fun _ _ h => cw_tr Bh_9.2.2 h (by decide)) rfl (fun rh_10 αh_10 Hh_10 Lh_10 ph_10 Bh_10 => ?_)
          exact q_iret C Bh_10 hr hlk Bh_10.2.2 dX11_span_45
        ·
          have jc_7 := il_nle c_7
          exact J23 Hh_1 Lh_1 Bh_1 ls (lv_sub hl [0] rfl)
abbrev w_X11_rise : cw_W := ([453, 454, 600], [], [21, 22, 23], [])
set_option maxRecDepth 100000 in
set_option maxHeartbeats 4000000 in
theorem t_X11_rise (Γ : hp_G) (l : Launch) (α : hp_T) (g : GC α) (a0 : Nat) (k0 : hp_K α a0 = 12) (a1 : Int32) (a2 : Int32) (a3 : Int32) (a4 : Int32) : Met l yX11_rise (hp_ws yX11_rise cX11_rise 5 (some .int)) (hp_rm 4 0 0) (hp_Pc Γ α [.ref a0, .int a1, .int a2, .int a3, .int a4]) (hp_Qi Γ (fun r β => cw w_X11_rise α β)) 0 0 (hp_A Γ) := by
  refine hp_start (by decide) ?_
  intro p e s m below meth c C hr hlk B0 hnm
  have C : hp_C Γ p m c cX11_rise 5 s ([.ref a0, .int a1, .int a2, .int a3, .int a4] : List Value).toArray RX11 := C
  have hx := C.1.1
  have hb := C.1.2.1
  have hown := C.1.2.2.2.1
  have hts := C.1.2.2.2.2
  have B : hp_B Γ (cw w_X11_rise) s α α s.heap [] := ⟨B0.1, B0.2.1, cw_rf g⟩
  have lit0 : (0 : Int32).toInt = 0 := by decide
  have lit1 : (1 : Int32).toInt = 1 := by decide
  have hl := lv_entry ([.ref a0, .int a1, .int a2, .int a3, .int a4]) (n := 5) (Nat.le_of_ble_eq_true rfl)
  show W p l e (hp_rm 4 0 0) s m ([.ref a0, .int a1, .int a2, .int a3, .int a4] : List Value).toArray below meth c s.heap [] 0 0 (MQ below (hp_Qi Γ (fun r β => cw w_X11_rise α β)) ([.ref a0, .int a1, .int a2, .int a3, .int a4] : List Value).toArray s 0 0 (hp_A Γ)) (entryFrame m ([.ref a0, .int a1, .int a2, .int a3, .int a4] : List Value).toArray 5)
  rw [lg_entry_eq]
  generalize (lg_sl ([.ref a0, .int a1, .int a2, .int a3, .int a4]) ++ List.replicate (5 - (lg_sl ([.ref a0, .int a1, .int a2, .int a3, .int a4])).length) Slot.unset).toArray = ls at hl ⊢
  have hl : lv_has ls 5 [(0, .ref a0), (1, .int a1), (2, .int a2), (3, .int a3), (4, .int a4)] := hl
  refine lv_iload_n hx hb dX11_rise_0 rfl (lv_at hl 1 rfl) (hp_n (n := 1) rfl ?_)
  have J24 : ∀ (Hh_1 : Heap) (Lh_1 : List Loc) (Bh_1 : hp_B Γ (cw w_X11_rise) s α α Hh_1 Lh_1) (ls : Array Slot) (hl : lv_has ls 5 [(0, .ref a0)]), W p l e (hp_rm 4 0 0) s m ([.ref a0, .int a1, .int a2, .int a3, .int a4] : List Value).toArray below meth c Hh_1 Lh_1 0 0 (MQ below (hp_Qi Γ (fun r β => cw w_X11_rise α β)) ([.ref a0, .int a1, .int a2, .int a3, .int a4] : List Value).toArray s 0 0 (hp_A Γ)) (F0 m 24 ls []) := by
    intro Hh_1 Lh_1 Bh_1 ls hl
    refine lv_aload_n hx hb dX11_rise_24 rfl (lv_at hl 0 rfl) (hp_n (n := 25) rfl ?_)
    refine lv_iconst (v := 1) hx hb dX11_rise_25 (by decide) (hp_n (n := 26) rfl ?_)
    refine q_ci (pc' := 29) Bh_1 (hp_runV (As := [.int 1]) (rest := []) C Bh_1 (t_X11_refuse Γ l α Bh_1.2.2.1 a0 (cw_k Bh_1.2.2 k0) 1) lb_X11_refuse lv_X11_refuse lk_X11_98 (cw_k Bh_1.2.2 k0) rfl (by decide) rfl hl.1 rfl (Nat.le_of_ble_eq_true rfl) dX11_rise_26 ⟨Nat.le_refl _, Nat.le_refl _⟩) (fun _ _ h => cw_tr Bh_1.2.2 h (by decide)) rfl (fun rh_2 αh_2 Hh_2 Lh_2 ph_2 Bh_2 => ?_)
    exact q_iret C Bh_2 hr hlk Bh_2.2.2 dX11_rise_29
  refine lv_if_lt (tgt := 24) hx hb dX11_rise_1 (by decide) (fun c_3 => ?_) (fun c_3 => hp_n (n := 4) rfl ?_)
  ·
    have jc_3 := il_lt c_3
    exact J24 s.heap [] B ls (lv_sub hl [0] rfl)
  ·
    have jc_3 := il_nlt c_3
    refine lv_iload_n hx hb dX11_rise_4 rfl (lv_at hl 1 rfl) (hp_n (n := 5) rfl ?_)
    refine lv_iload_n hx hb dX11_rise_5 rfl (lv_at hl 2 rfl) (hp_n (n := 6) rfl ?_)
    refine lv_icmp_gt (tgt := 24) hx hb dX11_rise_6 (by decide) (fun c_4 => ?_) (fun c_4 => hp_n (n := 9) rfl ?_)
    ·
      have jc_4 := il_lt c_4
      exact J24 s.heap [] B ls (lv_sub hl [0] rfl)
    ·
      have jc_4 := il_nlt c_4
      refine lv_iload_n hx hb dX11_rise_9 rfl (lv_at hl 3 rfl) (hp_n (n := 10) rfl ?_)
      refine lv_if_lt (tgt := 24) hx hb dX11_rise_10 (by decide) (fun c_5 => ?_) (fun c_5 => hp_n (n := 13) rfl ?_)
      ·
        have jc_5 := il_lt c_5
        exact J24 s.heap [] B ls (lv_sub hl [0] rfl)
      ·
        have jc_5 := il_nlt c_5
        refine lv_iload hx hb dX11_rise_13 (lv_at hl 4 rfl) (hp_n (n := 15) rfl ?_)
        refine lv_if_lt (tgt := 24) hx hb dX11_rise_15 (by decide) (fun c_6 => ?_) (fun c_6 => hp_n (n := 18) rfl ?_)
        ·
          have jc_6 := il_lt c_6
          exact J24 s.heap [] B ls (lv_sub hl [0] rfl)
        ·
          have jc_6 := il_nlt c_6
          refine lv_iload hx hb dX11_rise_18 (lv_at hl 4 rfl) (hp_n (n := 20) rfl ?_)
          refine lv_iconst (v := 1) hx hb dX11_rise_20 (by decide) (hp_n (n := 21) rfl ?_)
          refine lv_icmp_le (tgt := 30) hx hb dX11_rise_21 (by decide) (fun c_7 => ?_) (fun c_7 => hp_n (n := 24) rfl ?_)
          ·
            have jc_7 := il_le c_7
            refine lv_aload_n hx hb dX11_rise_30 rfl (lv_at hl 0 rfl) (hp_n (n := 31) rfl ?_)
            refine q_getr (κ := 12) (k := 12) (φ := 612) (pc' := 34) C B (cw_k B.2.2 k0) fl_X11_62 rfl rfl rfl (cw_r B.2.2 k0 rfl rfl (by decide) (by decide)) dX11_rise_31 rfl (fun b_8 eb_8 kb_8 => ?_)
            refine lv_iload_n hx hb dX11_rise_34 rfl (lv_at hl 1 rfl) (hp_n (n := 35) rfl ?_)
            refine lv_iload_n hx hb dX11_rise_35 rfl (lv_at hl 2 rfl) (hp_n (n := 36) rfl ?_)
            refine q_cv (pc' := 39) B (hp_runV (As := [.int a1, .int a2]) (rest := []) C B (t_X8_toGrowth Γ l α B.2.2.1 b_8 (cw_k B.2.2 kb_8) a1 a2) lb_X8_toGrowth lv_X8_toGrowth lk_X11_274 (cw_k B.2.2 kb_8) rfl (by decide) rfl hl.1 rfl (Nat.le_of_ble_eq_true rfl) dX11_rise_36 ⟨Nat.le_refl _, Nat.le_refl _⟩) (fun _ h => cw_tr B.2.2 h (by decide)) rfl (fun αh_9 Hh_9 Lh_9 ph_9 Bh_9 => ?_)
            refine lv_aload_n hx hb dX11_rise_39 rfl (lv_at hl 0 rfl) (hp_n (n := 40) rfl ?_)
            refine lv_iload_n hx hb dX11_rise_40 rfl (lv_at hl 3 rfl) (hp_n (n := 41) rfl ?_)
            refine lv_iload hx hb dX11_rise_41 (lv_at hl 4 rfl) (hp_n (n := 43) rfl ?_)
            refine q_ci (pc' := 46) Bh_9 (hp_runV (As := [.int a3, .int a4]) (rest := []) C Bh_9 (t_X11_treeOfWay Γ l αh_9 Bh_9.2.2.1 a0 (cw_k Bh_9.2.2 k0) a3 a4) lb_X11_treeOfWay lv_X11_treeOfWay lk_X11_392 (cw_k Bh_9.2.2 k0) rfl (by decide) rfl hl.1 rfl (Nat.le_of_ble_eq_true rfl) dX11_rise_43 ⟨Nat.le_refl _, Nat.le_refl _⟩) (fun _ _ h => cw_tr Bh_9.2.2 h (by decide)) rfl (fun rh_10 αh_10 Hh_10 Lh_10 ph_10 Bh_10 => ?_)
            exact q_iret C Bh_10 hr hlk Bh_10.2.2 dX11_rise_46
          ·
            have jc_7 := il_nle c_7
            exact J24 s.heap [] B ls (lv_sub hl [0] rfl)
abbrev w_X11_kept : cw_W := ([453, 454, 600], [], [21, 22, 23], [])
set_option maxRecDepth 100000 in
set_option maxHeartbeats 4000000 in
theorem t_X11_kept (Γ : hp_G) (l : Launch) (α : hp_T) (g : GC α) (a0 : Nat) (k0 : hp_K α a0 = 12) (a1 : Int32) (a2 : Int32) (a3 : Int32) : Met l yX11_kept (hp_ws yX11_kept cX11_kept 4 (some .int)) (hp_rm 4 0 0) (hp_Pc Γ α [.ref a0, .int a1, .int a2, .int a3]) (hp_Qi Γ (fun r β => cw w_X11_kept α β)) 0 0 (hp_A Γ) := by
  refine hp_start (by decide) ?_
  intro p e s m below meth c C hr hlk B0 hnm
  have C : hp_C Γ p m c cX11_kept 4 s ([.ref a0, .int a1, .int a2, .int a3] : List Value).toArray RX11 := C
  have hx := C.1.1
  have hb := C.1.2.1
  have hown := C.1.2.2.2.1
  have hts := C.1.2.2.2.2
  have B : hp_B Γ (cw w_X11_kept) s α α s.heap [] := ⟨B0.1, B0.2.1, cw_rf g⟩
  have lit0 : (0 : Int32).toInt = 0 := by decide
  have lit1 : (1 : Int32).toInt = 1 := by decide
  have hl := lv_entry ([.ref a0, .int a1, .int a2, .int a3]) (n := 4) (Nat.le_of_ble_eq_true rfl)
  show W p l e (hp_rm 4 0 0) s m ([.ref a0, .int a1, .int a2, .int a3] : List Value).toArray below meth c s.heap [] 0 0 (MQ below (hp_Qi Γ (fun r β => cw w_X11_kept α β)) ([.ref a0, .int a1, .int a2, .int a3] : List Value).toArray s 0 0 (hp_A Γ)) (entryFrame m ([.ref a0, .int a1, .int a2, .int a3] : List Value).toArray 4)
  rw [lg_entry_eq]
  generalize (lg_sl ([.ref a0, .int a1, .int a2, .int a3]) ++ List.replicate (4 - (lg_sl ([.ref a0, .int a1, .int a2, .int a3])).length) Slot.unset).toArray = ls at hl ⊢
  have hl : lv_has ls 4 [(0, .ref a0), (1, .int a1), (2, .int a2), (3, .int a3)] := hl
  refine lv_iload_n hx hb dX11_kept_0 rfl (lv_at hl 1 rfl) (hp_n (n := 1) rfl ?_)
  refine lv_iload_n hx hb dX11_kept_1 rfl (lv_at hl 2 rfl) (hp_n (n := 2) rfl ?_)
  refine q_ci (pc' := 5) B (hp_runS (As := [.int a1, .int a2]) (rest := []) C B (t_X11_isThing Γ l α B.2.2.1 a1 a2) lb_X11_isThing ls_X11_isThing lk_X11_301 rfl (by decide) rfl hl.1 rfl (Nat.le_of_ble_eq_true rfl) dX11_kept_2 ⟨Nat.le_refl _, Nat.le_refl _⟩) (fun _ _ h => by rw [h.1]; exact B.2.2) rfl (fun rh_1 αh_1 Hh_1 Lh_1 ph_1 Bh_1 => ?_)
  rw [ph_1.1] at Bh_1
  have zh_1 := ph_1.2
  have J13 : ∀ (Hh_2 : Heap) (Lh_2 : List Loc) (Bh_2 : hp_B Γ (cw w_X11_kept) s α α Hh_2 Lh_2) (ls : Array Slot) (hl : lv_has ls 4 [(0, .ref a0)]), W p l e (hp_rm 4 0 0) s m ([.ref a0, .int a1, .int a2, .int a3] : List Value).toArray below meth c Hh_2 Lh_2 0 0 (MQ below (hp_Qi Γ (fun r β => cw w_X11_kept α β)) ([.ref a0, .int a1, .int a2, .int a3] : List Value).toArray s 0 0 (hp_A Γ)) (F0 m 13 ls []) := by
    intro Hh_2 Lh_2 Bh_2 ls hl
    refine lv_aload_n hx hb dX11_kept_13 rfl (lv_at hl 0 rfl) (hp_n (n := 14) rfl ?_)
    refine lv_iconst (v := 1) hx hb dX11_kept_14 (by decide) (hp_n (n := 15) rfl ?_)
    refine q_ci (pc' := 18) Bh_2 (hp_runV (As := [.int 1]) (rest := []) C Bh_2 (t_X11_refuse Γ l α Bh_2.2.2.1 a0 (cw_k Bh_2.2.2 k0) 1) lb_X11_refuse lv_X11_refuse lk_X11_98 (cw_k Bh_2.2.2 k0) rfl (by decide) rfl hl.1 rfl (Nat.le_of_ble_eq_true rfl) dX11_kept_15 ⟨Nat.le_refl _, Nat.le_refl _⟩) (fun _ _ h => cw_tr Bh_2.2.2 h (by decide)) rfl (fun rh_3 αh_3 Hh_3 Lh_3 ph_3 Bh_3 => ?_)
    exact q_iret C Bh_3 hr hlk Bh_3.2.2 dX11_kept_18
  refine lv_if_eq (tgt := 13) hx hb dX11_kept_5 (by decide) (fun c_4 => ?_) (fun c_4 => hp_n (n := 8) rfl ?_)
  ·
    have jc_4 := il_eq c_4
    exact J13 Hh_1 Lh_1 Bh_1 ls (lv_sub hl [0] rfl)
  ·
    have jc_4 := il_ne c_4
    refine lv_iload_n hx hb dX11_kept_8 rfl (lv_at hl 3 rfl) (hp_n (n := 9) rfl ?_)
    refine lv_iload_n hx hb dX11_kept_9 rfl (lv_at hl 2 rfl) (hp_n (n := 10) rfl ?_)
    refine lv_icmp_ge (tgt := 19) hx hb dX11_kept_10 (by decide) (fun c_5 => ?_) (fun c_5 => hp_n (n := 13) rfl ?_)
    ·
      have jc_5 := il_le c_5
      refine lv_aload_n hx hb dX11_kept_19 rfl (lv_at hl 0 rfl) (hp_n (n := 20) rfl ?_)
      refine q_getr (κ := 12) (k := 12) (φ := 612) (pc' := 23) C Bh_1 (cw_k Bh_1.2.2 k0) fl_X11_62 rfl rfl rfl (cw_r Bh_1.2.2 k0 rfl rfl (by decide) (by decide)) dX11_kept_20 rfl (fun b_6 eb_6 kb_6 => ?_)
      refine lv_iload_n hx hb dX11_kept_23 rfl (lv_at hl 1 rfl) (hp_n (n := 24) rfl ?_)
      refine lv_iload_n hx hb dX11_kept_24 rfl (lv_at hl 2 rfl) (hp_n (n := 25) rfl ?_)
      refine q_cv (pc' := 28) Bh_1 (hp_runV (As := [.int a1, .int a2]) (rest := []) C Bh_1 (t_X8_toThing Γ l α Bh_1.2.2.1 b_6 (cw_k Bh_1.2.2 kb_6) a1 a2) lb_X8_toThing lv_X8_toThing lk_X11_267 (cw_k Bh_1.2.2 kb_6) rfl (by decide) rfl hl.1 rfl (Nat.le_of_ble_eq_true rfl) dX11_kept_25 ⟨Nat.le_refl _, Nat.le_refl _⟩) (fun _ h => cw_tr Bh_1.2.2 h (by decide)) rfl (fun αh_7 Hh_7 Lh_7 ph_7 Bh_7 => ?_)
      refine lv_aload_n hx hb dX11_kept_28 rfl (lv_at hl 0 rfl) (hp_n (n := 29) rfl ?_)
      refine q_getr (κ := 12) (k := 13) (φ := 613) (pc' := 32) C Bh_7 (cw_k Bh_7.2.2 k0) fl_X11_66 rfl rfl rfl (cw_r Bh_7.2.2 k0 rfl rfl (by decide) (by decide)) dX11_kept_29 rfl (fun b_8 eb_8 kb_8 => ?_)
      refine lv_iload_n hx hb dX11_kept_32 rfl (lv_at hl 1 rfl) (hp_n (n := 33) rfl ?_)
      refine lv_iload_n hx hb dX11_kept_33 rfl (lv_at hl 3 rfl) (hp_n (n := 34) rfl ?_)
      refine q_cv (pc' := 37) Bh_7 (hp_runV (As := [.int a1, .int a3]) (rest := []) C Bh_7 (t_X8_toThing Γ l αh_7 Bh_7.2.2.1 b_8 (cw_k Bh_7.2.2 kb_8) a1 a3) lb_X8_toThing lv_X8_toThing lk_X11_267 (cw_k Bh_7.2.2 kb_8) rfl (by decide) rfl hl.1 rfl (Nat.le_of_ble_eq_true rfl) dX11_kept_34 ⟨Nat.le_refl _, Nat.le_refl _⟩) (fun _ h => cw_tr Bh_7.2.2 h (by decide)) rfl (fun αh_9 Hh_9 Lh_9 ph_9 Bh_9 => ?_)
      refine lv_aload_n hx hb dX11_kept_37 rfl (lv_at hl 0 rfl) (hp_n (n := 38) rfl ?_)
      refine lv_aload_n hx hb dX11_kept_38 rfl (lv_at hl 0 rfl) (hp_n (n := 39) rfl ?_)
      have t_10 : b_6 = hp_R αh_7 612 a0 := by rw [cw_R ph_7 a0 (by decide)]; exact eb_6
      have t_11 : b_6 = hp_R αh_9 612 a0 := by rw [cw_R ph_9 a0 (by decide)]; exact t_10
      refine q_gets (κ := 12) (k := 12) (φ := 612) (pc' := 42) C Bh_9 (cw_k Bh_9.2.2 k0) fl_X11_62 rfl rfl rfl t_11 dX11_kept_39 rfl ?_
      refine lv_aload_n hx hb dX11_kept_42 rfl (lv_at hl 0 rfl) (hp_n (n := 43) rfl ?_)
      have t_12 : b_8 = hp_R αh_9 613 a0 := by rw [cw_R ph_9 a0 (by decide)]; exact eb_8
      refine q_gets (κ := 12) (k := 13) (φ := 613) (pc' := 46) C Bh_9 (cw_k Bh_9.2.2 k0) fl_X11_66 rfl rfl rfl t_12 dX11_kept_43 rfl ?_
      refine q_ci (pc' := 49) Bh_9 (hp_runV (As := [.ref b_8]) (rest := [.ref a0]) C Bh_9 (t_X8_countShared Γ l αh_9 Bh_9.2.2.1 b_6 (cw_k Bh_9.2.2 kb_6) b_8 (cw_k Bh_9.2.2 kb_8)) lb_X8_countShared lv_X8_countShared lk_X11_395 (cw_k Bh_9.2.2 kb_6) rfl (by decide) rfl hl.1 rfl (Nat.le_of_ble_eq_true rfl) dX11_kept_46 ⟨Nat.le_refl _, Nat.le_refl _⟩) (fun _ _ h => by rw [h]; exact Bh_9.2.2) rfl (fun rh_13 αh_13 Hh_13 Lh_13 ph_13 Bh_13 => ?_)
      rw [ph_13] at Bh_13
      refine q_ci (pc' := 52) Bh_13 (hp_runV (As := [.int rh_13]) (rest := []) C Bh_13 (t_X11_answer Γ l αh_9 Bh_13.2.2.1 a0 (cw_k Bh_13.2.2 k0) rh_13) lb_X11_answer lv_X11_answer lk_X11_115 (cw_k Bh_13.2.2 k0) rfl (by decide) rfl hl.1 rfl (Nat.le_of_ble_eq_true rfl) dX11_kept_49 ⟨Nat.le_refl _, Nat.le_refl _⟩) (fun _ _ h => cw_tr Bh_13.2.2 h (by decide)) rfl (fun rh_14 αh_14 Hh_14 Lh_14 ph_14 Bh_14 => ?_)
      exact q_iret C Bh_14 hr hlk Bh_14.2.2 dX11_kept_52
    ·
      have jc_5 := il_nle c_5
      exact J13 Hh_1 Lh_1 Bh_1 ls (lv_sub hl [0] rfl)
abbrev w_X11_sick : cw_W := ([301, 600], [], [20, 33], [])
set_option maxRecDepth 100000 in
set_option maxHeartbeats 4000000 in
theorem t_X11_sick (Γ : hp_G) (l : Launch) (α : hp_T) (g : GC α) (a0 : Nat) (k0 : hp_K α a0 = 12) (a1 : Int32) : Met l yX11_sick (hp_ws yX11_sick cX11_sick 3 (some .int)) (hp_rm 4 0 0) (hp_Pc Γ α [.ref a0, .int a1]) (hp_Qi Γ (fun r β => cw w_X11_sick α β)) 0 0 (hp_A Γ) := by
  refine hp_start (by decide) ?_
  intro p e s m below meth c C hr hlk B0 hnm
  have C : hp_C Γ p m c cX11_sick 3 s ([.ref a0, .int a1] : List Value).toArray RX11 := C
  have hx := C.1.1
  have hb := C.1.2.1
  have hown := C.1.2.2.2.1
  have hts := C.1.2.2.2.2
  have B : hp_B Γ (cw w_X11_sick) s α α s.heap [] := ⟨B0.1, B0.2.1, cw_rf g⟩
  have lit0 : (0 : Int32).toInt = 0 := by decide
  have lit1 : (1 : Int32).toInt = 1 := by decide
  have lit5 : (5 : Int32).toInt = 5 := by decide
  have hl := lv_entry ([.ref a0, .int a1]) (n := 3) (Nat.le_of_ble_eq_true rfl)
  show W p l e (hp_rm 4 0 0) s m ([.ref a0, .int a1] : List Value).toArray below meth c s.heap [] 0 0 (MQ below (hp_Qi Γ (fun r β => cw w_X11_sick α β)) ([.ref a0, .int a1] : List Value).toArray s 0 0 (hp_A Γ)) (entryFrame m ([.ref a0, .int a1] : List Value).toArray 3)
  rw [lg_entry_eq]
  generalize (lg_sl ([.ref a0, .int a1]) ++ List.replicate (3 - (lg_sl ([.ref a0, .int a1])).length) Slot.unset).toArray = ls at hl ⊢
  have hl : lv_has ls 3 [(0, .ref a0), (1, .int a1)] := hl
  refine lv_iload_n hx hb dX11_sick_0 rfl (lv_at hl 1 rfl) (hp_n (n := 1) rfl ?_)
  refine lv_if_ge (tgt := 10) hx hb dX11_sick_1 (by decide) (fun c_1 => ?_) (fun c_1 => hp_n (n := 4) rfl ?_)
  ·
    have jc_1 := il_le c_1
    refine lv_aload_n hx hb dX11_sick_10 rfl (lv_at hl 0 rfl) (hp_n (n := 11) rfl ?_)
    refine q_getr (κ := 12) (k := 1) (φ := 601) (pc' := 14) C B (cw_k B.2.2 k0) fl_X11_16 rfl rfl rfl (cw_r B.2.2 k0 rfl rfl (by decide) (by decide)) dX11_sick_11 rfl (fun b_2 eb_2 kb_2 => ?_)
    refine lv_iload_n hx hb dX11_sick_14 rfl (lv_at hl 1 rfl) (hp_n (n := 15) rfl ?_)
    refine q_cq (pc' := 18) B (hp_runV (As := [.int a1]) (rest := []) C B (t_X10_frozenAt Γ l α B.2.2.1 b_2 (cw_k B.2.2 kb_2) a1) lb_X10_frozenAt lv_X10_frozenAt lk_X11_198 (cw_k B.2.2 kb_2) rfl (by decide) rfl hl.1 rfl (Nat.le_of_ble_eq_true rfl) dX11_sick_15 ⟨Nat.le_refl _, Nat.le_refl _⟩) (fun _ _ h => by rw [h.1]; exact B.2.2) rfl (fun rh_3 αh_3 Hh_3 Lh_3 ph_3 Bh_3 => ?_)
    rw [ph_3.1] at Bh_3
    rcases rh_3 with _ | bh_3
    ·
      refine lv_astore_nN (lv' := [(2, .null), (0, .ref a0), (1, .int a1)]) hx hb dX11_sick_18 rfl hl (by decide) rfl (fun ls hl => hp_n (n := 19) rfl ?_)
      refine lv_aload_nN hx hb dX11_sick_19 rfl (lv_at hl 0 rfl) (hp_n (n := 20) rfl ?_)
      refine lv_ifnonnullN hx hb dX11_sick_20 (hp_n (n := 23) rfl ?_)
      refine lv_aload_n hx hb dX11_sick_23 rfl (lv_at hl 1 rfl) (hp_n (n := 24) rfl ?_)
      refine lv_iconst (v := 5) hx hb dX11_sick_24 (by decide) (hp_n (n := 25) rfl ?_)
      refine q_ci (pc' := 28) Bh_3 (hp_runV (As := [.int 5]) (rest := []) C Bh_3 (t_X11_refuse Γ l α Bh_3.2.2.1 a0 (cw_k Bh_3.2.2 k0) 5) lb_X11_refuse lv_X11_refuse lk_X11_98 (cw_k Bh_3.2.2 k0) rfl (by decide) rfl hl.1 rfl (Nat.le_of_ble_eq_true rfl) dX11_sick_25 ⟨Nat.le_refl _, Nat.le_refl _⟩) (fun _ _ h => cw_tr Bh_3.2.2 h (by decide)) rfl (fun rh_4 αh_4 Hh_4 Lh_4 ph_4 Bh_4 => ?_)
      refine lv_goto (tgt := 47) hx hb dX11_sick_28 (by decide) ?_
      exact q_iret C Bh_4 hr hlk Bh_4.2.2 dX11_sick_47
    ·
      have kbh_3 : hp_K α bh_3 = 2 := cw_k' Bh_3.2.2 (ph_3.2 bh_3 rfl)
      refine lv_astore_n (lv' := [(2, .ref bh_3), (0, .ref a0), (1, .int a1)]) hx hb dX11_sick_18 rfl hl (by decide) rfl (fun ls hl => hp_n (n := 19) rfl ?_)
      refine lv_aload_n hx hb dX11_sick_19 rfl (lv_at hl 0 rfl) (hp_n (n := 20) rfl ?_)
      refine lv_ifnonnull (tgt := 31) hx hb dX11_sick_20 (by decide) ?_
      refine lv_aload_n hx hb dX11_sick_31 rfl (lv_at hl 1 rfl) (hp_n (n := 32) rfl ?_)
      refine lv_aload_n hx hb dX11_sick_32 rfl (lv_at hl 1 rfl) (hp_n (n := 33) rfl ?_)
      refine q_gets (κ := 12) (k := 1) (φ := 601) (pc' := 36) C Bh_3 (cw_k Bh_3.2.2 k0) fl_X11_16 rfl rfl rfl eb_2 dX11_sick_33 rfl ?_
      refine lv_aload_n hx hb dX11_sick_36 rfl (lv_at hl 0 rfl) (hp_n (n := 37) rfl ?_)
      refine lv_aload_n hx hb dX11_sick_37 rfl (lv_at hl 1 rfl) (hp_n (n := 38) rfl ?_)
      refine q_getr (κ := 12) (k := 14) (φ := 614) (pc' := 41) C Bh_3 (cw_k Bh_3.2.2 k0) fl_X11_69 rfl rfl rfl (cw_r Bh_3.2.2 k0 rfl rfl (by decide) (by decide)) dX11_sick_38 rfl (fun b_5 eb_5 kb_5 => ?_)
      refine q_ci (pc' := 44) Bh_3 (hp_runV (As := [.ref bh_3, .ref b_5]) (rest := [.ref a0]) C Bh_3 (t_X10_sickBits Γ l α Bh_3.2.2.1 b_2 (cw_k Bh_3.2.2 kb_2) bh_3 (cw_k Bh_3.2.2 kbh_3) b_5 (cw_k Bh_3.2.2 kb_5)) lb_X10_sickBits lv_X10_sickBits lk_X11_399 (cw_k Bh_3.2.2 kb_2) rfl (by decide) rfl hl.1 rfl (Nat.le_of_ble_eq_true rfl) dX11_sick_41 ⟨Nat.le_refl _, Nat.le_refl _⟩) (fun _ _ h => cw_tr Bh_3.2.2 h (by decide)) rfl (fun rh_6 αh_6 Hh_6 Lh_6 ph_6 Bh_6 => ?_)
      refine q_ci (pc' := 47) Bh_6 (hp_runV (As := [.int rh_6]) (rest := []) C Bh_6 (t_X11_answer Γ l αh_6 Bh_6.2.2.1 a0 (cw_k Bh_6.2.2 k0) rh_6) lb_X11_answer lv_X11_answer lk_X11_115 (cw_k Bh_6.2.2 k0) rfl (by decide) rfl hl.1 rfl (Nat.le_of_ble_eq_true rfl) dX11_sick_44 ⟨Nat.le_refl _, Nat.le_refl _⟩) (fun _ _ h => cw_tr Bh_6.2.2 h (by decide)) rfl (fun rh_7 αh_7 Hh_7 Lh_7 ph_7 Bh_7 => ?_)
      exact q_iret C Bh_7 hr hlk Bh_7.2.2 dX11_sick_47
  ·
    have jc_1 := il_nle c_1
    refine lv_aload_n hx hb dX11_sick_4 rfl (lv_at hl 0 rfl) (hp_n (n := 5) rfl ?_)
    refine lv_iconst (v := 1) hx hb dX11_sick_5 (by decide) (hp_n (n := 6) rfl ?_)
    refine q_ci (pc' := 9) B (hp_runV (As := [.int 1]) (rest := []) C B (t_X11_refuse Γ l α B.2.2.1 a0 (cw_k B.2.2 k0) 1) lb_X11_refuse lv_X11_refuse lk_X11_98 (cw_k B.2.2 k0) rfl (by decide) rfl hl.1 rfl (Nat.le_of_ble_eq_true rfl) dX11_sick_6 ⟨Nat.le_refl _, Nat.le_refl _⟩) (fun _ _ h => cw_tr B.2.2 h (by decide)) rfl (fun rh_8 αh_8 Hh_8 Lh_8 ph_8 Bh_8 => ?_)
    exact q_iret C Bh_8 hr hlk Bh_8.2.2 dX11_sick_9
abbrev w_X11_isLink : cw_W := ([], [], [], [])
set_option maxRecDepth 100000 in
set_option maxHeartbeats 4000000 in
theorem t_X11_isLink (Γ : hp_G) (l : Launch) (α : hp_T) (g : GC α) (a0 : Nat) (k0 : hp_K α a0 = 12) (a1 : Int32) (a2 : Int32) : Met l yX11_isLink (hp_ws yX11_isLink cX11_isLink 4 (some .boolean)) (hp_rm 0 0 0) (hp_Pc Γ α [.ref a0, .int a1, .int a2]) (hp_Qi Γ (fun r β => β = α ∧ (r = 0 ∨ r = 1))) 0 0 (hp_A Γ) := by
  refine hp_start (by decide) ?_
  intro p e s m below meth c C hr hlk B0 hnm
  have C : hp_C Γ p m c cX11_isLink 4 s ([.ref a0, .int a1, .int a2] : List Value).toArray RX11 := C
  have hx := C.1.1
  have hb := C.1.2.1
  have hown := C.1.2.2.2.1
  have hts := C.1.2.2.2.2
  have B : hp_B Γ (cw w_X11_isLink) s α α s.heap [] := ⟨B0.1, B0.2.1, cw_rf g⟩
  have lit0 : (0 : Int32).toInt = 0 := by decide
  have lit1 : (1 : Int32).toInt = 1 := by decide
  have lit256 : (256 : Int32).toInt = 256 := by decide
  have hl := lv_entry ([.ref a0, .int a1, .int a2]) (n := 4) (Nat.le_of_ble_eq_true rfl)
  show W p l e (hp_rm 0 0 0) s m ([.ref a0, .int a1, .int a2] : List Value).toArray below meth c s.heap [] 0 0 (MQ below (hp_Qi Γ (fun r β => β = α ∧ (r = 0 ∨ r = 1))) ([.ref a0, .int a1, .int a2] : List Value).toArray s 0 0 (hp_A Γ)) (entryFrame m ([.ref a0, .int a1, .int a2] : List Value).toArray 4)
  rw [lg_entry_eq]
  generalize (lg_sl ([.ref a0, .int a1, .int a2]) ++ List.replicate (4 - (lg_sl ([.ref a0, .int a1, .int a2])).length) Slot.unset).toArray = ls at hl ⊢
  have hl : lv_has ls 4 [(0, .ref a0), (1, .int a1), (2, .int a2)] := hl
  refine lv_iconst (v := 0) hx hb dX11_isLink_0 (by decide) (hp_n (n := 1) rfl ?_)
  have J2 : ∀ (nq : Nat) (Hh_1 : Heap) (Lh_1 : List Loc) (Bh_1 : hp_B Γ (cw w_X11_isLink) s α α Hh_1 Lh_1) (v3_h_1 : Int32) (ih_1_0 : 0 ≤ v3_h_1.toInt) (ls : Array Slot) (hl : lv_has ls 4 [(0, .ref a0), (1, .int a1), (2, .int a2), (3, .int v3_h_1)]) (hmu2 : (2147483647 - v3_h_1.toInt).toNat = nq), W p l e (hp_rm 0 0 0) s m ([.ref a0, .int a1, .int a2] : List Value).toArray below meth c Hh_1 Lh_1 0 0 (MQ below (hp_Qi Γ (fun r β => β = α ∧ (r = 0 ∨ r = 1))) ([.ref a0, .int a1, .int a2] : List Value).toArray s 0 0 (hp_A Γ)) (F0 m 2 ls []) := by
    intro nq
    induction nq using Nat.strongRecOn with
    | ind nq ih2 =>
    intro Hh_1 Lh_1 Bh_1 v3_h_1 ih_1_0 ls hl hmu2
    have inv2_0 := ih_1_0
    refine lv_iload_n hx hb dX11_isLink_2 rfl (lv_at hl 3 rfl) (hp_n (n := 3) rfl ?_)
    refine lv_iload_n hx hb dX11_isLink_3 rfl (lv_at hl 2 rfl) (hp_n (n := 4) rfl ?_)
    refine lv_icmp_ge (tgt := 34) hx hb dX11_isLink_4 (by decide) (fun c_2 => ?_) (fun c_2 => hp_n (n := 7) rfl ?_)
    ·
      have jc_2 := il_le c_2
      refine lv_iconst (v := 0) hx hb dX11_isLink_34 (by decide) (hp_n (n := 35) rfl ?_)
      exact q_zret C Bh_1 hr hlk (by decide) ⟨rfl, (Or.inl rfl)⟩ dX11_isLink_35
    ·
      have jc_2 := il_nle c_2
      refine lv_iload_n hx hb dX11_isLink_7 rfl (lv_at hl 3 rfl) (hp_n (n := 8) rfl ?_)
      refine lv_aload_n hx hb dX11_isLink_8 rfl (lv_at hl 0 rfl) (hp_n (n := 9) rfl ?_)
      refine q_getr (κ := 12) (k := 17) (φ := 617) (pc' := 12) C Bh_1 (cw_k Bh_1.2.2 k0) fl_X11_86 rfl rfl rfl (cw_r Bh_1.2.2 k0 rfl rfl (by decide) (by decide)) dX11_isLink_9 rfl (fun b_3 eb_3 kb_3 => ?_)
      refine q_alen (κ := 26) (t := 0) (n := 256) (x := 256) (ty := .int) (pc' := 13) C Bh_1 (cw_k Bh_1.2.2 kb_3) (by decide) rfl rfl rfl dX11_isLink_12 rfl ?_
      refine lv_icmp_ge (tgt := 34) hx hb dX11_isLink_13 (by decide) (fun c_4 => ?_) (fun c_4 => hp_n (n := 16) rfl ?_)
      ·
        have jc_4 := il_le c_4
        refine lv_iconst (v := 0) hx hb dX11_isLink_34 (by decide) (hp_n (n := 35) rfl ?_)
        exact q_zret C Bh_1 hr hlk (by decide) ⟨rfl, (Or.inl rfl)⟩ dX11_isLink_35
      ·
        have jc_4 := il_nle c_4
        refine lv_aload_n hx hb dX11_isLink_16 rfl (lv_at hl 0 rfl) (hp_n (n := 17) rfl ?_)
        refine q_gets (κ := 12) (k := 17) (φ := 617) (pc' := 20) C Bh_1 (cw_k Bh_1.2.2 k0) fl_X11_86 rfl rfl rfl eb_3 dX11_isLink_17 rfl ?_
        refine lv_iload_n hx hb dX11_isLink_20 rfl (lv_at hl 3 rfl) (hp_n (n := 21) rfl ?_)
        refine q_ial (κ := 26) (n := 256) (pc' := 22) C Bh_1 (cw_k Bh_1.2.2 kb_3) (by decide) rfl (vi_of (by omega) (by omega)) dX11_isLink_21 rfl (lv_topi (fun x_5 ex_5 => ?_))
        refine lv_iload_n hx hb dX11_isLink_22 rfl (lv_at hl 1 rfl) (hp_n (n := 23) rfl ?_)
        refine lv_icmp_ne (tgt := 28) hx hb dX11_isLink_23 (by decide) (fun c_6 => ?_) (fun c_6 => hp_n (n := 26) rfl ?_)
        ·
          have jc_6 := il_ne c_6
          obtain ⟨x_7, ex_7⟩ : ∃ y : Int32, y = v3_h_1 + 1 := ⟨_, rfl⟩
          have qx_7 : x_7.toInt = v3_h_1.toInt + 1 := by have q0 := ib_hi a2; have qa := ib_lo v3_h_1; rw [ex_7]; exact ii_add (by omega) (by omega)
          refine lv_iinc (v := x_7) (lv' := [(3, .int x_7), (0, .ref a0), (1, .int a1), (2, .int a2)]) hx hb dX11_isLink_28 hl (k := 3) rfl (by rw [ex_7]; rfl) (by decide) rfl (fun ls hl => hp_n (n := 31) rfl ?_)
          refine lv_goto (tgt := 2) hx hb dX11_isLink_31 (by decide) ?_
          exact ih2 _ (by have q0 := ib_hi a2; have q1 := ib_lo a2; have qa := ib_hi v3_h_1; have qb := ib_lo v3_h_1; have qc : (v3_h_1 + 1).toInt = v3_h_1.toInt + (1 : Int32).toInt := ii_add (by omega) (by omega); rw [ex_7]; omega) Hh_1 Lh_1 Bh_1 x_7 (by omega) ls (lv_sub hl [1, 2, 3, 0] rfl) rfl
        ·
          have jc_6 := il_eq c_6
          refine lv_iconst (v := 1) hx hb dX11_isLink_26 (by decide) (hp_n (n := 27) rfl ?_)
          exact q_zret C Bh_1 hr hlk (by decide) ⟨rfl, (Or.inr rfl)⟩ dX11_isLink_27
  refine lv_istore_n (lv' := [(3, .int 0), (0, .ref a0), (1, .int a1), (2, .int a2)]) hx hb dX11_isLink_1 rfl hl (by decide) rfl (fun ls hl => hp_n (n := 2) rfl ?_)
  exact J2 _ s.heap [] B 0 (by omega) ls (lv_sub hl [1, 2, 3, 0] rfl) rfl
abbrev w_X11_addLinks : cw_W := ([], [], [26], [])
set_option maxRecDepth 100000 in
set_option maxHeartbeats 4000000 in
theorem t_X11_addLinks (Γ : hp_G) (l : Launch) (α : hp_T) (g : GC α) (a0 : Nat) (k0 : hp_K α a0 = 12) (a1 : Int32) : Met l yX11_addLinks (hp_ws yX11_addLinks cX11_addLinks 5 (some .int)) (hp_rm 1 0 0) (hp_Pc Γ α [.ref a0, .int a1]) (hp_Qi Γ (fun r β => cw w_X11_addLinks α β)) 0 0 (hp_A Γ) := by
  refine hp_start (by decide) ?_
  intro p e s m below meth c C hr hlk B0 hnm
  have C : hp_C Γ p m c cX11_addLinks 5 s ([.ref a0, .int a1] : List Value).toArray RX11 := C
  have hx := C.1.1
  have hb := C.1.2.1
  have hown := C.1.2.2.2.1
  have hts := C.1.2.2.2.2
  have B : hp_B Γ (cw w_X11_addLinks) s α α s.heap [] := ⟨B0.1, B0.2.1, cw_rf g⟩
  have lit0 : (0 : Int32).toInt = 0 := by decide
  have lit1 : (1 : Int32).toInt = 1 := by decide
  have lit64 : (64 : Int32).toInt = 64 := by decide
  have lit256 : (256 : Int32).toInt = 256 := by decide
  have hl := lv_entry ([.ref a0, .int a1]) (n := 5) (Nat.le_of_ble_eq_true rfl)
  show W p l e (hp_rm 1 0 0) s m ([.ref a0, .int a1] : List Value).toArray below meth c s.heap [] 0 0 (MQ below (hp_Qi Γ (fun r β => cw w_X11_addLinks α β)) ([.ref a0, .int a1] : List Value).toArray s 0 0 (hp_A Γ)) (entryFrame m ([.ref a0, .int a1] : List Value).toArray 5)
  rw [lg_entry_eq]
  generalize (lg_sl ([.ref a0, .int a1]) ++ List.replicate (5 - (lg_sl ([.ref a0, .int a1])).length) Slot.unset).toArray = ls at hl ⊢
  have hl : lv_has ls 5 [(0, .ref a0), (1, .int a1)] := hl
  refine lv_iload_n hx hb dX11_addLinks_0 rfl (lv_at hl 1 rfl) (hp_n (n := 1) rfl ?_)
  refine lv_istore_n (lv' := [(2, .int a1), (0, .ref a0), (1, .int a1)]) hx hb dX11_addLinks_1 rfl hl (by decide) rfl (fun ls hl => hp_n (n := 2) rfl ?_)
  refine lv_iconst (v := 0) hx hb dX11_addLinks_2 (by decide) (hp_n (n := 3) rfl ?_)
  have J4 : ∀ (nq : Nat) (αh_1 : hp_T) (Hh_1 : Heap) (Lh_1 : List Loc) (Bh_1 : hp_B Γ (cw w_X11_addLinks) s α αh_1 Hh_1 Lh_1) (v2_h_1 : Int32) (v3_h_1 : Int32) (ih_1_0 : 0 ≤ v3_h_1.toInt) (ls : Array Slot) (hl : lv_has ls 5 [(0, .ref a0), (2, .int v2_h_1), (3, .int v3_h_1)]) (hmu4 : (2147483647 - v3_h_1.toInt).toNat = nq), W p l e (hp_rm 1 0 0) s m ([.ref a0, .int a1] : List Value).toArray below meth c Hh_1 Lh_1 0 0 (MQ below (hp_Qi Γ (fun r β => cw w_X11_addLinks α β)) ([.ref a0, .int a1] : List Value).toArray s 0 0 (hp_A Γ)) (F0 m 4 ls []) := by
    intro nq
    induction nq using Nat.strongRecOn with
    | ind nq ih4 =>
    intro αh_1 Hh_1 Lh_1 Bh_1 v2_h_1 v3_h_1 ih_1_0 ls hl hmu4
    have inv4_0 := ih_1_0
    refine lv_iload_n hx hb dX11_addLinks_4 rfl (lv_at hl 2 rfl) (hp_n (n := 5) rfl ?_)
    refine lv_aload_n hx hb dX11_addLinks_5 rfl (lv_at hl 0 rfl) (hp_n (n := 6) rfl ?_)
    refine q_getr (κ := 12) (k := 12) (φ := 612) (pc' := 9) C Bh_1 (cw_k Bh_1.2.2 k0) fl_X11_62 rfl rfl rfl (cw_r Bh_1.2.2 k0 rfl rfl (by decide) (by decide)) dX11_addLinks_6 rfl (fun b_2 eb_2 kb_2 => ?_)
    refine q_geti (κ := 9) (k := 3) (φ := 453) (pc' := 12) C Bh_1 (cw_k Bh_1.2.2 kb_2) fl_X11_312 rfl rfl rfl dX11_addLinks_9 rfl (fun x_3 ex_3 => ?_)
    obtain ⟨gx_3a, gx_3b⟩ : 0 ≤ x_3.toInt ∧ x_3.toInt ≤ 64 := by rw [ex_3]; exact Bh_1.2.2.1.1 453 b_2 rfl
    refine lv_icmp_ge (tgt := 77) hx hb dX11_addLinks_12 (by decide) (fun c_4 => ?_) (fun c_4 => hp_n (n := 15) rfl ?_)
    ·
      have jc_4 := il_le c_4
      refine lv_iload_n hx hb dX11_addLinks_77 rfl (lv_at hl 1 rfl) (hp_n (n := 78) rfl ?_)
      exact q_iret C Bh_1 hr hlk Bh_1.2.2 dX11_addLinks_78
    ·
      have jc_4 := il_nle c_4
      refine lv_aload_n hx hb dX11_addLinks_15 rfl (lv_at hl 0 rfl) (hp_n (n := 16) rfl ?_)
      refine q_gets (κ := 12) (k := 12) (φ := 612) (pc' := 19) C Bh_1 (cw_k Bh_1.2.2 k0) fl_X11_62 rfl rfl rfl eb_2 dX11_addLinks_16 rfl ?_
      refine lv_iload_n hx hb dX11_addLinks_19 rfl (lv_at hl 2 rfl) (hp_n (n := 20) rfl ?_)
      refine q_ci (pc' := 23) Bh_1 (hp_runV (As := [.int v3_h_1]) (rest := []) C Bh_1 (t_X8_firstAt Γ l αh_1 Bh_1.2.2.1 b_2 (cw_k Bh_1.2.2 kb_2) v3_h_1) lb_X8_firstAt lv_X8_firstAt lk_X11_333 (cw_k Bh_1.2.2 kb_2) rfl (by decide) rfl hl.1 rfl (Nat.le_of_ble_eq_true rfl) dX11_addLinks_20 ⟨Nat.le_refl _, Nat.le_refl _⟩) (fun _ _ h => by rw [h]; exact Bh_1.2.2) rfl (fun rh_5 αh_5 Hh_5 Lh_5 ph_5 Bh_5 => ?_)
      rw [ph_5] at Bh_5
      refine lv_bipush (v := 64) hx hb dX11_addLinks_23 (by decide) (hp_n (n := 25) rfl ?_)
      refine lv_imul hx hb dX11_addLinks_25 (hp_n (n := 26) rfl (lv_topi (fun x_6 ex_6 => ?_)))
      refine lv_aload_n hx hb dX11_addLinks_26 rfl (lv_at hl 0 rfl) (hp_n (n := 27) rfl ?_)
      refine q_gets (κ := 12) (k := 12) (φ := 612) (pc' := 30) C Bh_5 (cw_k Bh_5.2.2 k0) fl_X11_62 rfl rfl rfl eb_2 dX11_addLinks_27 rfl ?_
      refine lv_iload_n hx hb dX11_addLinks_30 rfl (lv_at hl 2 rfl) (hp_n (n := 31) rfl ?_)
      refine q_ci (pc' := 34) Bh_5 (hp_runV (As := [.int v3_h_1]) (rest := [.int x_6]) C Bh_5 (t_X8_manyAt Γ l αh_1 Bh_5.2.2.1 b_2 (cw_k Bh_5.2.2 kb_2) v3_h_1) lb_X8_manyAt lv_X8_manyAt lk_X11_336 (cw_k Bh_5.2.2 kb_2) rfl (by decide) rfl hl.1 rfl (Nat.le_of_ble_eq_true rfl) dX11_addLinks_31 ⟨Nat.le_refl _, Nat.le_refl _⟩) (fun _ _ h => by rw [h]; exact Bh_5.2.2) rfl (fun rh_7 αh_7 Hh_7 Lh_7 ph_7 Bh_7 => ?_)
      rw [ph_7] at Bh_7
      refine lv_iadd hx hb dX11_addLinks_34 (hp_n (n := 35) rfl (lv_topi (fun x_8 ex_8 => ?_)))
      refine lv_istore (lv' := [(4, .int x_8), (0, .ref a0), (2, .int v2_h_1), (3, .int v3_h_1)]) hx hb dX11_addLinks_35 hl (by decide) rfl (fun ls hl => hp_n (n := 37) rfl ?_)
      refine lv_aload_n hx hb dX11_addLinks_37 rfl (lv_at hl 1 rfl) (hp_n (n := 38) rfl ?_)
      refine lv_iload hx hb dX11_addLinks_38 (lv_at hl 0 rfl) (hp_n (n := 40) rfl ?_)
      refine lv_iload_n hx hb dX11_addLinks_40 rfl (lv_at hl 2 rfl) (hp_n (n := 41) rfl ?_)
      refine q_ci (pc' := 44) Bh_7 (hp_runV (As := [.int x_8, .int v2_h_1]) (rest := []) C Bh_7 (t_X11_isLink Γ l αh_1 Bh_7.2.2.1 a0 (cw_k Bh_7.2.2 k0) x_8 v2_h_1) lb_X11_isLink lv_X11_isLink lk_X11_482 (cw_k Bh_7.2.2 k0) rfl (by decide) rfl hl.1 rfl (Nat.le_of_ble_eq_true rfl) dX11_addLinks_41 ⟨Nat.le_refl _, Nat.le_refl _⟩) (fun _ _ h => by rw [h.1]; exact Bh_7.2.2) rfl (fun rh_9 αh_9 Hh_9 Lh_9 ph_9 Bh_9 => ?_)
      rw [ph_9.1] at Bh_9
      have zh_9 := ph_9.2
      refine lv_if_ne (tgt := 71) hx hb dX11_addLinks_44 (by decide) (fun c_10 => ?_) (fun c_10 => hp_n (n := 47) rfl ?_)
      ·
        have jc_10 := il_ne c_10
        obtain ⟨x_11, ex_11⟩ : ∃ y : Int32, y = v3_h_1 + 1 := ⟨_, rfl⟩
        have qx_11 : x_11.toInt = v3_h_1.toInt + 1 := by have q0 := ib_hi x_3; have qa := ib_lo v3_h_1; rw [ex_11]; exact ii_add (by omega) (by omega)
        refine lv_iinc (v := x_11) (lv' := [(3, .int x_11), (4, .int x_8), (0, .ref a0), (2, .int v2_h_1)]) hx hb dX11_addLinks_71 hl (k := 3) rfl (by rw [ex_11]; rfl) (by decide) rfl (fun ls hl => hp_n (n := 74) rfl ?_)
        refine lv_goto (tgt := 4) hx hb dX11_addLinks_74 (by decide) ?_
        exact ih4 _ (by have q0 := ib_hi x_3; have q1 := ib_lo x_3; have qa := ib_hi v3_h_1; have qb := ib_lo v3_h_1; have qc : (v3_h_1 + 1).toInt = v3_h_1.toInt + (1 : Int32).toInt := ii_add (by omega) (by omega); rw [ex_11]; omega) αh_1 Hh_9 Lh_9 Bh_9 v2_h_1 x_11 (by omega) ls (lv_sub hl [2, 3, 0] rfl) rfl
      ·
        have jc_10 := il_eq c_10
        refine lv_iload_n hx hb dX11_addLinks_47 rfl (lv_at hl 2 rfl) (hp_n (n := 48) rfl ?_)
        refine lv_if_lt (tgt := 71) hx hb dX11_addLinks_48 (by decide) (fun c_12 => ?_) (fun c_12 => hp_n (n := 51) rfl ?_)
        ·
          have jc_12 := il_lt c_12
          obtain ⟨x_13, ex_13⟩ : ∃ y : Int32, y = v3_h_1 + 1 := ⟨_, rfl⟩
          have qx_13 : x_13.toInt = v3_h_1.toInt + 1 := by have q0 := ib_hi x_3; have qa := ib_lo v3_h_1; rw [ex_13]; exact ii_add (by omega) (by omega)
          refine lv_iinc (v := x_13) (lv' := [(3, .int x_13), (4, .int x_8), (0, .ref a0), (2, .int v2_h_1)]) hx hb dX11_addLinks_71 hl (k := 3) rfl (by rw [ex_13]; rfl) (by decide) rfl (fun ls hl => hp_n (n := 74) rfl ?_)
          refine lv_goto (tgt := 4) hx hb dX11_addLinks_74 (by decide) ?_
          exact ih4 _ (by have q0 := ib_hi x_3; have q1 := ib_lo x_3; have qa := ib_hi v3_h_1; have qb := ib_lo v3_h_1; have qc : (v3_h_1 + 1).toInt = v3_h_1.toInt + (1 : Int32).toInt := ii_add (by omega) (by omega); rw [ex_13]; omega) αh_1 Hh_9 Lh_9 Bh_9 v2_h_1 x_13 (by omega) ls (lv_sub hl [2, 3, 0] rfl) rfl
        ·
          have jc_12 := il_nlt c_12
          refine lv_iload_n hx hb dX11_addLinks_51 rfl (lv_at hl 2 rfl) (hp_n (n := 52) rfl ?_)
          refine lv_aload_n hx hb dX11_addLinks_52 rfl (lv_at hl 1 rfl) (hp_n (n := 53) rfl ?_)
          refine q_getr (κ := 12) (k := 17) (φ := 617) (pc' := 56) C Bh_9 (cw_k Bh_9.2.2 k0) fl_X11_86 rfl rfl rfl (cw_r Bh_9.2.2 k0 rfl rfl (by decide) (by decide)) dX11_addLinks_53 rfl (fun b_14 eb_14 kb_14 => ?_)
          refine q_alen (κ := 26) (t := 0) (n := 256) (x := 256) (ty := .int) (pc' := 57) C Bh_9 (cw_k Bh_9.2.2 kb_14) (by decide) rfl rfl rfl dX11_addLinks_56 rfl ?_
          refine lv_icmp_ge (tgt := 71) hx hb dX11_addLinks_57 (by decide) (fun c_15 => ?_) (fun c_15 => hp_n (n := 60) rfl ?_)
          ·
            have jc_15 := il_le c_15
            obtain ⟨x_16, ex_16⟩ : ∃ y : Int32, y = v3_h_1 + 1 := ⟨_, rfl⟩
            have qx_16 : x_16.toInt = v3_h_1.toInt + 1 := by have q0 := ib_hi x_3; have qa := ib_lo v3_h_1; rw [ex_16]; exact ii_add (by omega) (by omega)
            refine lv_iinc (v := x_16) (lv' := [(3, .int x_16), (4, .int x_8), (0, .ref a0), (2, .int v2_h_1)]) hx hb dX11_addLinks_71 hl (k := 3) rfl (by rw [ex_16]; rfl) (by decide) rfl (fun ls hl => hp_n (n := 74) rfl ?_)
            refine lv_goto (tgt := 4) hx hb dX11_addLinks_74 (by decide) ?_
            exact ih4 _ (by have q0 := ib_hi x_3; have q1 := ib_lo x_3; have qa := ib_hi v3_h_1; have qb := ib_lo v3_h_1; have qc : (v3_h_1 + 1).toInt = v3_h_1.toInt + (1 : Int32).toInt := ii_add (by omega) (by omega); rw [ex_16]; omega) αh_1 Hh_9 Lh_9 Bh_9 v2_h_1 x_16 (by omega) ls (lv_sub hl [2, 3, 0] rfl) rfl
          ·
            have jc_15 := il_nle c_15
            refine lv_aload_n hx hb dX11_addLinks_60 rfl (lv_at hl 1 rfl) (hp_n (n := 61) rfl ?_)
            refine q_gets (κ := 12) (k := 17) (φ := 617) (pc' := 64) C Bh_9 (cw_k Bh_9.2.2 k0) fl_X11_86 rfl rfl rfl eb_14 dX11_addLinks_61 rfl ?_
            refine lv_iload_n hx hb dX11_addLinks_64 rfl (lv_at hl 2 rfl) (hp_n (n := 65) rfl ?_)
            refine lv_iload hx hb dX11_addLinks_65 (lv_at hl 0 rfl) (hp_n (n := 67) rfl ?_)
            refine q_ias (κ := 26) (n := 256) (pc' := 68) C Bh_9 (cw_k Bh_9.2.2 kb_14) (by decide) rfl (vi_of (by omega) (by omega)) rfl (cw_sE Bh_9.2.2 (by decide)) dX11_addLinks_67 rfl (fun αh_17 Hh_17 Lh_17 eh_17 Bh_17 => ?_)
            obtain ⟨x_18, ex_18⟩ : ∃ y : Int32, y = v2_h_1 + 1 := ⟨_, rfl⟩
            have qx_18 : x_18.toInt = v2_h_1.toInt + 1 := by have qa := ib_lo v2_h_1; rw [ex_18]; exact ii_add (by omega) (by omega)
            refine lv_iinc (v := x_18) (lv' := [(2, .int x_18), (4, .int x_8), (0, .ref a0), (3, .int v3_h_1)]) hx hb dX11_addLinks_68 hl (k := 2) rfl (by rw [ex_18]; rfl) (by decide) rfl (fun ls hl => hp_n (n := 71) rfl ?_)
            obtain ⟨x_19, ex_19⟩ : ∃ y : Int32, y = v3_h_1 + 1 := ⟨_, rfl⟩
            have qx_19 : x_19.toInt = v3_h_1.toInt + 1 := by have q0 := ib_hi x_3; have qa := ib_lo v3_h_1; rw [ex_19]; exact ii_add (by omega) (by omega)
            refine lv_iinc (v := x_19) (lv' := [(3, .int x_19), (2, .int x_18), (4, .int x_8), (0, .ref a0)]) hx hb dX11_addLinks_71 hl (k := 3) rfl (by rw [ex_19]; rfl) (by decide) rfl (fun ls hl => hp_n (n := 74) rfl ?_)
            refine lv_goto (tgt := 4) hx hb dX11_addLinks_74 (by decide) ?_
            exact ih4 _ (by have q0 := ib_hi x_3; have q1 := ib_lo x_3; have qa := ib_hi v3_h_1; have qb := ib_lo v3_h_1; have qc : (v3_h_1 + 1).toInt = v3_h_1.toInt + (1 : Int32).toInt := ii_add (by omega) (by omega); rw [ex_19]; omega) αh_17 Hh_17 Lh_17 Bh_17 x_18 x_19 (by omega) ls (lv_sub hl [3, 1, 0] rfl) rfl
  refine lv_istore_n (lv' := [(3, .int 0), (2, .int a1), (0, .ref a0), (1, .int a1)]) hx hb dX11_addLinks_3 rfl hl (by decide) rfl (fun ls hl => hp_n (n := 4) rfl ?_)
  exact J4 _ α s.heap [] B a1 0 (by omega) ls (lv_sub hl [2, 1, 0] rfl) rfl
abbrev w_X11_chain : cw_W := ([453, 454, 600], [], [21, 22, 23, 26], [])
set_option maxRecDepth 100000 in
set_option maxHeartbeats 4000000 in
theorem t_X11_chain (Γ : hp_G) (l : Launch) (α : hp_T) (g : GC α) (a0 : Nat) (k0 : hp_K α a0 = 12) (a1 : Int32) (a2 : Int32) : Met l yX11_chain (hp_ws yX11_chain cX11_chain 9 (some .int)) (hp_rm 4 0 0) (hp_Pc Γ α [.ref a0, .int a1, .int a2]) (hp_Qi Γ (fun r β => cw w_X11_chain α β)) 0 0 (hp_A Γ) := by
  refine hp_start (by decide) ?_
  intro p e s m below meth c C hr hlk B0 hnm
  have C : hp_C Γ p m c cX11_chain 9 s ([.ref a0, .int a1, .int a2] : List Value).toArray RX11 := C
  have hx := C.1.1
  have hb := C.1.2.1
  have hown := C.1.2.2.2.1
  have hts := C.1.2.2.2.2
  have B : hp_B Γ (cw w_X11_chain) s α α s.heap [] := ⟨B0.1, B0.2.1, cw_rf g⟩
  have litm1 : ((-1) : Int32).toInt = (-1) := by decide
  have lit0 : (0 : Int32).toInt = 0 := by decide
  have lit1 : (1 : Int32).toInt = 1 := by decide
  have lit2 : (2 : Int32).toInt = 2 := by decide
  have lit16 : (16 : Int32).toInt = 16 := by decide
  have hl := lv_entry ([.ref a0, .int a1, .int a2]) (n := 9) (Nat.le_of_ble_eq_true rfl)
  show W p l e (hp_rm 4 0 0) s m ([.ref a0, .int a1, .int a2] : List Value).toArray below meth c s.heap [] 0 0 (MQ below (hp_Qi Γ (fun r β => cw w_X11_chain α β)) ([.ref a0, .int a1, .int a2] : List Value).toArray s 0 0 (hp_A Γ)) (entryFrame m ([.ref a0, .int a1, .int a2] : List Value).toArray 9)
  rw [lg_entry_eq]
  generalize (lg_sl ([.ref a0, .int a1, .int a2]) ++ List.replicate (9 - (lg_sl ([.ref a0, .int a1, .int a2])).length) Slot.unset).toArray = ls at hl ⊢
  have hl : lv_has ls 9 [(0, .ref a0), (1, .int a1), (2, .int a2)] := hl
  refine lv_iload_n hx hb dX11_chain_0 rfl (lv_at hl 2 rfl) (hp_n (n := 1) rfl ?_)
  have J9 : ∀ (Hh_1 : Heap) (Lh_1 : List Loc) (Bh_1 : hp_B Γ (cw w_X11_chain) s α α Hh_1 Lh_1) (ls : Array Slot) (hl : lv_has ls 9 [(0, .ref a0)]), W p l e (hp_rm 4 0 0) s m ([.ref a0, .int a1, .int a2] : List Value).toArray below meth c Hh_1 Lh_1 0 0 (MQ below (hp_Qi Γ (fun r β => cw w_X11_chain α β)) ([.ref a0, .int a1, .int a2] : List Value).toArray s 0 0 (hp_A Γ)) (F0 m 9 ls []) := by
    intro Hh_1 Lh_1 Bh_1 ls hl
    refine lv_aload_n hx hb dX11_chain_9 rfl (lv_at hl 0 rfl) (hp_n (n := 10) rfl ?_)
    refine lv_iconst (v := 1) hx hb dX11_chain_10 (by decide) (hp_n (n := 11) rfl ?_)
    refine q_ci (pc' := 14) Bh_1 (hp_runV (As := [.int 1]) (rest := []) C Bh_1 (t_X11_refuse Γ l α Bh_1.2.2.1 a0 (cw_k Bh_1.2.2 k0) 1) lb_X11_refuse lv_X11_refuse lk_X11_98 (cw_k Bh_1.2.2 k0) rfl (by decide) rfl hl.1 rfl (Nat.le_of_ble_eq_true rfl) dX11_chain_11 ⟨Nat.le_refl _, Nat.le_refl _⟩) (fun _ _ h => cw_tr Bh_1.2.2 h (by decide)) rfl (fun rh_2 αh_2 Hh_2 Lh_2 ph_2 Bh_2 => ?_)
    exact q_iret C Bh_2 hr hlk Bh_2.2.2 dX11_chain_14
  refine lv_if_lt (tgt := 9) hx hb dX11_chain_1 (by decide) (fun c_3 => ?_) (fun c_3 => hp_n (n := 4) rfl ?_)
  ·
    have jc_3 := il_lt c_3
    exact J9 s.heap [] B ls (lv_sub hl [0] rfl)
  ·
    have jc_3 := il_nlt c_3
    refine lv_iload_n hx hb dX11_chain_4 rfl (lv_at hl 2 rfl) (hp_n (n := 5) rfl ?_)
    refine lv_iconst (v := 2) hx hb dX11_chain_5 (by decide) (hp_n (n := 6) rfl ?_)
    refine lv_icmp_le (tgt := 15) hx hb dX11_chain_6 (by decide) (fun c_4 => ?_) (fun c_4 => hp_n (n := 9) rfl ?_)
    ·
      have jc_4 := il_le c_4
      refine lv_aload_n hx hb dX11_chain_15 rfl (lv_at hl 0 rfl) (hp_n (n := 16) rfl ?_)
      refine q_getr (κ := 12) (k := 1) (φ := 601) (pc' := 19) C B (cw_k B.2.2 k0) fl_X11_16 rfl rfl rfl (cw_r B.2.2 k0 rfl rfl (by decide) (by decide)) dX11_chain_16 rfl (fun b_5 eb_5 kb_5 => ?_)
      refine lv_iload_n hx hb dX11_chain_19 rfl (lv_at hl 1 rfl) (hp_n (n := 20) rfl ?_)
      refine q_cq (pc' := 23) B (hp_runV (As := [.int a1]) (rest := []) C B (t_X10_logAt Γ l α B.2.2.1 b_5 (cw_k B.2.2 kb_5) a1) lb_X10_logAt lv_X10_logAt lk_X11_163 (cw_k B.2.2 kb_5) rfl (by decide) rfl hl.1 rfl (Nat.le_of_ble_eq_true rfl) dX11_chain_20 ⟨Nat.le_refl _, Nat.le_refl _⟩) (fun _ _ h => by rw [h.1]; exact B.2.2) rfl (fun rh_6 αh_6 Hh_6 Lh_6 ph_6 Bh_6 => ?_)
      rw [ph_6.1] at Bh_6
      rcases rh_6 with _ | bh_6
      ·
        refine lv_ifnonnullN hx hb dX11_chain_23 (hp_n (n := 26) rfl ?_)
        refine lv_aload_n hx hb dX11_chain_26 rfl (lv_at hl 0 rfl) (hp_n (n := 27) rfl ?_)
        refine lv_iconst (v := 2) hx hb dX11_chain_27 (by decide) (hp_n (n := 28) rfl ?_)
        refine q_ci (pc' := 31) Bh_6 (hp_runV (As := [.int 2]) (rest := []) C Bh_6 (t_X11_refuse Γ l α Bh_6.2.2.1 a0 (cw_k Bh_6.2.2 k0) 2) lb_X11_refuse lv_X11_refuse lk_X11_98 (cw_k Bh_6.2.2 k0) rfl (by decide) rfl hl.1 rfl (Nat.le_of_ble_eq_true rfl) dX11_chain_28 ⟨Nat.le_refl _, Nat.le_refl _⟩) (fun _ _ h => cw_tr Bh_6.2.2 h (by decide)) rfl (fun rh_7 αh_7 Hh_7 Lh_7 ph_7 Bh_7 => ?_)
        exact q_iret C Bh_7 hr hlk Bh_7.2.2 dX11_chain_31
      ·
        have kbh_6 : hp_K α bh_6 = 3 := cw_k' Bh_6.2.2 (ph_6.2 bh_6 rfl)
        refine lv_ifnonnull (tgt := 32) hx hb dX11_chain_23 (by decide) ?_
        refine lv_iconst (v := 0) hx hb dX11_chain_32 (by decide) (hp_n (n := 33) rfl ?_)
        refine lv_istore_n (lv' := [(3, .int 0), (0, .ref a0), (1, .int a1), (2, .int a2)]) hx hb dX11_chain_33 rfl hl (by decide) rfl (fun ls hl => hp_n (n := 34) rfl ?_)
        refine lv_iconst (v := 0) hx hb dX11_chain_34 (by decide) (hp_n (n := 35) rfl ?_)
        refine lv_istore (lv' := [(4, .int 0), (3, .int 0), (0, .ref a0), (1, .int a1), (2, .int a2)]) hx hb dX11_chain_35 hl (by decide) rfl (fun ls hl => hp_n (n := 37) rfl ?_)
        refine lv_iconst (v := 0) hx hb dX11_chain_37 (by decide) (hp_n (n := 38) rfl ?_)
        refine lv_istore (lv' := [(5, .int 0), (4, .int 0), (3, .int 0), (0, .ref a0), (1, .int a1), (2, .int a2)]) hx hb dX11_chain_38 hl (by decide) rfl (fun ls hl => hp_n (n := 40) rfl ?_)
        refine lv_iconst (v := (-1)) hx hb dX11_chain_40 (by decide) (hp_n (n := 41) rfl ?_)
        refine lv_istore (lv' := [(6, .int (-1)), (5, .int 0), (4, .int 0), (3, .int 0), (0, .ref a0), (1, .int a1), (2, .int a2)]) hx hb dX11_chain_41 hl (by decide) rfl (fun ls hl => hp_n (n := 43) rfl ?_)
        refine lv_iconst (v := 0) hx hb dX11_chain_43 (by decide) (hp_n (n := 44) rfl ?_)
        have J46 : ∀ (nq : Nat) (αh_8 : hp_T) (Hh_8 : Heap) (Lh_8 : List Loc) (Bh_8 : hp_B Γ (cw w_X11_chain) s α αh_8 Hh_8 Lh_8) (v3_h_8 : Int32) (v4_h_8 : Int32) (v5_h_8 : Int32) (v6_h_8 : Int32) (v7_h_8 : Int32) (ih_8_0 : 0 ≤ v7_h_8.toInt) (ls : Array Slot) (hl : lv_has ls 9 [(0, .ref a0), (1, .int a1), (2, .int a2), (3, .int v3_h_8), (4, .int v4_h_8), (5, .int v5_h_8), (6, .int v6_h_8), (7, .int v7_h_8)]) (hmu46 : (2147483647 - v7_h_8.toInt).toNat = nq), W p l e (hp_rm 4 0 0) s m ([.ref a0, .int a1, .int a2] : List Value).toArray below meth c Hh_8 Lh_8 0 0 (MQ below (hp_Qi Γ (fun r β => cw w_X11_chain α β)) ([.ref a0, .int a1, .int a2] : List Value).toArray s 0 0 (hp_A Γ)) (F0 m 46 ls []) := by
          intro nq
          induction nq using Nat.strongRecOn with
          | ind nq ih46 =>
          intro αh_8 Hh_8 Lh_8 Bh_8 v3_h_8 v4_h_8 v5_h_8 v6_h_8 v7_h_8 ih_8_0 ls hl hmu46
          have inv46_0 := ih_8_0
          refine lv_iload hx hb dX11_chain_46 (lv_at hl 7 rfl) (hp_n (n := 48) rfl ?_)
          refine lv_bipush (v := 16) hx hb dX11_chain_48 (by decide) (hp_n (n := 50) rfl ?_)
          have J124 : ∀ (Hh_9 : Heap) (Lh_9 : List Loc) (Bh_9 : hp_B Γ (cw w_X11_chain) s α αh_8 Hh_9 Lh_9) (ls : Array Slot) (hl : lv_has ls 9 [(0, .ref a0), (2, .int a2), (3, .int v3_h_8), (4, .int v4_h_8), (5, .int v5_h_8)]), W p l e (hp_rm 4 0 0) s m ([.ref a0, .int a1, .int a2] : List Value).toArray below meth c Hh_9 Lh_9 0 0 (MQ below (hp_Qi Γ (fun r β => cw w_X11_chain α β)) ([.ref a0, .int a1, .int a2] : List Value).toArray s 0 0 (hp_A Γ)) (F0 m 124 ls []) := by
            intro Hh_9 Lh_9 Bh_9 ls hl
            refine lv_iload_n hx hb dX11_chain_124 rfl (lv_at hl 1 rfl) (hp_n (n := 125) rfl ?_)
            refine lv_if_ne (tgt := 134) hx hb dX11_chain_125 (by decide) (fun c_10 => ?_) (fun c_10 => hp_n (n := 128) rfl ?_)
            ·
              have jc_10 := il_ne c_10
              refine lv_aload_n hx hb dX11_chain_134 rfl (lv_at hl 0 rfl) (hp_n (n := 135) rfl ?_)
              refine lv_iload_n hx hb dX11_chain_135 rfl (lv_at hl 1 rfl) (hp_n (n := 136) rfl ?_)
              refine lv_iconst (v := 1) hx hb dX11_chain_136 (by decide) (hp_n (n := 137) rfl ?_)
              refine lv_icmp_ne (tgt := 145) hx hb dX11_chain_137 (by decide) (fun c_11 => ?_) (fun c_11 => hp_n (n := 140) rfl ?_)
              ·
                have jc_11 := il_ne c_11
                refine lv_iload hx hb dX11_chain_145 (lv_at hl 4 rfl) (hp_n (n := 147) rfl ?_)
                refine q_ci (pc' := 150) Bh_9 (hp_runV (As := [.int v5_h_8]) (rest := []) C Bh_9 (t_X11_answer Γ l αh_8 Bh_9.2.2.1 a0 (cw_k Bh_9.2.2 k0) v5_h_8) lb_X11_answer lv_X11_answer lk_X11_115 (cw_k Bh_9.2.2 k0) rfl (by decide) rfl hl.1 rfl (Nat.le_of_ble_eq_true rfl) dX11_chain_147 ⟨Nat.le_refl _, Nat.le_refl _⟩) (fun _ _ h => cw_tr Bh_9.2.2 h (by decide)) rfl (fun rh_12 αh_12 Hh_12 Lh_12 ph_12 Bh_12 => ?_)
                exact q_iret C Bh_12 hr hlk Bh_12.2.2 dX11_chain_150
              ·
                have jc_11 := il_eq c_11
                refine lv_iload hx hb dX11_chain_140 (lv_at hl 3 rfl) (hp_n (n := 142) rfl ?_)
                refine lv_goto (tgt := 147) hx hb dX11_chain_142 (by decide) ?_
                refine q_ci (pc' := 150) Bh_9 (hp_runV (As := [.int v4_h_8]) (rest := []) C Bh_9 (t_X11_answer Γ l αh_8 Bh_9.2.2.1 a0 (cw_k Bh_9.2.2 k0) v4_h_8) lb_X11_answer lv_X11_answer lk_X11_115 (cw_k Bh_9.2.2 k0) rfl (by decide) rfl hl.1 rfl (Nat.le_of_ble_eq_true rfl) dX11_chain_147 ⟨Nat.le_refl _, Nat.le_refl _⟩) (fun _ _ h => cw_tr Bh_9.2.2 h (by decide)) rfl (fun rh_13 αh_13 Hh_13 Lh_13 ph_13 Bh_13 => ?_)
                exact q_iret C Bh_13 hr hlk Bh_13.2.2 dX11_chain_150
            ·
              have jc_10 := il_eq c_10
              refine lv_aload_n hx hb dX11_chain_128 rfl (lv_at hl 0 rfl) (hp_n (n := 129) rfl ?_)
              refine lv_iload_n hx hb dX11_chain_129 rfl (lv_at hl 2 rfl) (hp_n (n := 130) rfl ?_)
              refine q_ci (pc' := 133) Bh_9 (hp_runV (As := [.int v3_h_8]) (rest := []) C Bh_9 (t_X11_answer Γ l αh_8 Bh_9.2.2.1 a0 (cw_k Bh_9.2.2 k0) v3_h_8) lb_X11_answer lv_X11_answer lk_X11_115 (cw_k Bh_9.2.2 k0) rfl (by decide) rfl hl.1 rfl (Nat.le_of_ble_eq_true rfl) dX11_chain_130 ⟨Nat.le_refl _, Nat.le_refl _⟩) (fun _ _ h => cw_tr Bh_9.2.2 h (by decide)) rfl (fun rh_14 αh_14 Hh_14 Lh_14 ph_14 Bh_14 => ?_)
              exact q_iret C Bh_14 hr hlk Bh_14.2.2 dX11_chain_133
          refine lv_icmp_gt (tgt := 124) hx hb dX11_chain_50 (by decide) (fun c_15 => ?_) (fun c_15 => hp_n (n := 53) rfl ?_)
          ·
            have jc_15 := il_lt c_15
            exact J124 Hh_8 Lh_8 Bh_8 ls (lv_sub hl [0, 2, 3, 4, 5] rfl)
          ·
            have jc_15 := il_nlt c_15
            refine lv_aload_n hx hb dX11_chain_53 rfl (lv_at hl 0 rfl) (hp_n (n := 54) rfl ?_)
            refine q_getr (κ := 12) (k := 1) (φ := 601) (pc' := 57) C Bh_8 (cw_k Bh_8.2.2 k0) fl_X11_16 rfl rfl rfl (cw_r Bh_8.2.2 k0 rfl rfl (by decide) (by decide)) dX11_chain_54 rfl (fun b_16 eb_16 kb_16 => ?_)
            refine lv_iload_n hx hb dX11_chain_57 rfl (lv_at hl 1 rfl) (hp_n (n := 58) rfl ?_)
            refine lv_iload hx hb dX11_chain_58 (lv_at hl 6 rfl) (hp_n (n := 60) rfl ?_)
            refine q_ci (pc' := 63) Bh_8 (hp_runV (As := [.int a1, .int v6_h_8]) (rest := []) C Bh_8 (t_X10_leastFrozenAbove Γ l αh_8 Bh_8.2.2.1 b_16 (cw_k Bh_8.2.2 kb_16) a1 v6_h_8) lb_X10_leastFrozenAbove lv_X10_leastFrozenAbove lk_X11_403 (cw_k Bh_8.2.2 kb_16) rfl (by decide) rfl hl.1 rfl (Nat.le_of_ble_eq_true rfl) dX11_chain_60 ⟨Nat.le_refl _, Nat.le_refl _⟩) (fun _ _ h => by rw [h]; exact Bh_8.2.2) rfl (fun rh_17 αh_17 Hh_17 Lh_17 ph_17 Bh_17 => ?_)
            rw [ph_17] at Bh_17
            refine lv_istore (lv' := [(8, .int rh_17), (0, .ref a0), (1, .int a1), (2, .int a2), (3, .int v3_h_8), (4, .int v4_h_8), (5, .int v5_h_8), (6, .int v6_h_8), (7, .int v7_h_8)]) hx hb dX11_chain_63 hl (by decide) rfl (fun ls hl => hp_n (n := 65) rfl ?_)
            refine lv_iload hx hb dX11_chain_65 (lv_at hl 0 rfl) (hp_n (n := 67) rfl ?_)
            refine lv_iconst (v := (-1)) hx hb dX11_chain_67 (by decide) (hp_n (n := 68) rfl ?_)
            refine lv_icmp_ne (tgt := 74) hx hb dX11_chain_68 (by decide) (fun c_18 => ?_) (fun c_18 => hp_n (n := 71) rfl ?_)
            ·
              have jc_18 := il_ne c_18
              obtain ⟨x_19, ex_19⟩ : ∃ y : Int32, y = v3_h_8 + 1 := ⟨_, rfl⟩
              refine lv_iinc (v := x_19) (lv' := [(3, .int x_19), (8, .int rh_17), (0, .ref a0), (1, .int a1), (2, .int a2), (4, .int v4_h_8), (5, .int v5_h_8), (6, .int v6_h_8), (7, .int v7_h_8)]) hx hb dX11_chain_74 hl (k := 4) rfl (by rw [ex_19]; rfl) (by decide) rfl (fun ls hl => hp_n (n := 77) rfl ?_)
              refine lv_iload hx hb dX11_chain_77 (lv_at hl 7 rfl) (hp_n (n := 79) rfl ?_)
              refine lv_iconst (v := (-1)) hx hb dX11_chain_79 (by decide) (hp_n (n := 80) rfl ?_)
              refine lv_icmp_eq (tgt := 114) hx hb dX11_chain_80 (by decide) (fun c_20 => ?_) (fun c_20 => hp_n (n := 83) rfl ?_)
              ·
                have jc_20 := il_eq c_20
                refine lv_iload hx hb dX11_chain_114 (lv_at hl 1 rfl) (hp_n (n := 116) rfl ?_)
                refine lv_istore (lv' := [(6, .int rh_17), (3, .int x_19), (8, .int rh_17), (0, .ref a0), (1, .int a1), (2, .int a2), (4, .int v4_h_8), (5, .int v5_h_8), (7, .int v7_h_8)]) hx hb dX11_chain_116 hl (by decide) rfl (fun ls hl => hp_n (n := 118) rfl ?_)
                obtain ⟨x_21, ex_21⟩ : ∃ y : Int32, y = v7_h_8 + 1 := ⟨_, rfl⟩
                have qx_21 : x_21.toInt = v7_h_8.toInt + 1 := by have qa := ib_lo v7_h_8; rw [ex_21]; exact ii_add (by omega) (by omega)
                refine lv_iinc (v := x_21) (lv' := [(7, .int x_21), (6, .int rh_17), (3, .int x_19), (8, .int rh_17), (0, .ref a0), (1, .int a1), (2, .int a2), (4, .int v4_h_8), (5, .int v5_h_8)]) hx hb dX11_chain_118 hl (k := 8) rfl (by rw [ex_21]; rfl) (by decide) rfl (fun ls hl => hp_n (n := 121) rfl ?_)
                refine lv_goto (tgt := 46) hx hb dX11_chain_121 (by decide) ?_
                exact ih46 _ (by have qa := ib_hi v7_h_8; have qb := ib_lo v7_h_8; have qc : (v7_h_8 + 1).toInt = v7_h_8.toInt + (1 : Int32).toInt := ii_add (by omega) (by omega); rw [ex_21]; omega) αh_8 Hh_17 Lh_17 Bh_17 x_19 v4_h_8 v5_h_8 rh_17 x_21 (by omega) ls (lv_sub hl [4, 5, 6, 2, 7, 8, 1, 0] rfl) rfl
              ·
                have jc_20 := il_ne c_20
                refine lv_aload_n hx hb dX11_chain_83 rfl (lv_at hl 2 rfl) (hp_n (n := 84) rfl ?_)
                refine q_getr (κ := 12) (k := 12) (φ := 612) (pc' := 87) C Bh_17 (cw_k Bh_17.2.2 k0) fl_X11_62 rfl rfl rfl (cw_r Bh_17.2.2 k0 rfl rfl (by decide) (by decide)) dX11_chain_84 rfl (fun b_22 eb_22 kb_22 => ?_)
                refine lv_iload hx hb dX11_chain_87 (lv_at hl 7 rfl) (hp_n (n := 89) rfl ?_)
                refine lv_iload hx hb dX11_chain_89 (lv_at hl 1 rfl) (hp_n (n := 91) rfl ?_)
                refine q_cv (pc' := 94) Bh_17 (hp_runV (As := [.int v6_h_8, .int rh_17]) (rest := []) C Bh_17 (t_X8_toGrowth Γ l αh_8 Bh_17.2.2.1 b_22 (cw_k Bh_17.2.2 kb_22) v6_h_8 rh_17) lb_X8_toGrowth lv_X8_toGrowth lk_X11_274 (cw_k Bh_17.2.2 kb_22) rfl (by decide) rfl hl.1 rfl (Nat.le_of_ble_eq_true rfl) dX11_chain_91 ⟨Nat.le_refl _, Nat.le_refl _⟩) (fun _ h => cw_tr Bh_17.2.2 h (by decide)) rfl (fun αh_23 Hh_23 Lh_23 ph_23 Bh_23 => ?_)
                refine lv_iload hx hb dX11_chain_94 (lv_at hl 5 rfl) (hp_n (n := 96) rfl ?_)
                refine lv_aload_n hx hb dX11_chain_96 rfl (lv_at hl 2 rfl) (hp_n (n := 97) rfl ?_)
                have t_24 : b_22 = hp_R αh_23 612 a0 := by rw [cw_R ph_23 a0 (by decide)]; exact eb_22
                refine q_gets (κ := 12) (k := 12) (φ := 612) (pc' := 100) C Bh_23 (cw_k Bh_23.2.2 k0) fl_X11_62 rfl rfl rfl t_24 dX11_chain_97 rfl ?_
                refine q_geti (κ := 9) (k := 3) (φ := 453) (pc' := 103) C Bh_23 (cw_k Bh_23.2.2 kb_22) fl_X11_312 rfl rfl rfl dX11_chain_100 rfl (fun x_25 ex_25 => ?_)
                obtain ⟨gx_25a, gx_25b⟩ : 0 ≤ x_25.toInt ∧ x_25.toInt ≤ 64 := by rw [ex_25]; exact Bh_23.2.2.1.1 453 b_22 rfl
                refine lv_iadd hx hb dX11_chain_103 (hp_n (n := 104) rfl (lv_topi (fun x_26 ex_26 => ?_)))
                refine lv_istore (lv' := [(4, .int x_26), (3, .int x_19), (8, .int rh_17), (0, .ref a0), (1, .int a1), (2, .int a2), (5, .int v5_h_8), (6, .int v6_h_8), (7, .int v7_h_8)]) hx hb dX11_chain_104 hl (by decide) rfl (fun ls hl => hp_n (n := 106) rfl ?_)
                refine lv_aload_n hx hb dX11_chain_106 rfl (lv_at hl 3 rfl) (hp_n (n := 107) rfl ?_)
                refine lv_iload hx hb dX11_chain_107 (lv_at hl 6 rfl) (hp_n (n := 109) rfl ?_)
                refine q_ci (pc' := 112) Bh_23 (hp_runV (As := [.int v5_h_8]) (rest := []) C Bh_23 (t_X11_addLinks Γ l αh_23 Bh_23.2.2.1 a0 (cw_k Bh_23.2.2 k0) v5_h_8) lb_X11_addLinks lv_X11_addLinks lk_X11_406 (cw_k Bh_23.2.2 k0) rfl (by decide) rfl hl.1 rfl (Nat.le_of_ble_eq_true rfl) dX11_chain_109 ⟨Nat.le_refl _, Nat.le_refl _⟩) (fun _ _ h => cw_tr Bh_23.2.2 h (by decide)) rfl (fun rh_27 αh_27 Hh_27 Lh_27 ph_27 Bh_27 => ?_)
                refine lv_istore (lv' := [(5, .int rh_27), (4, .int x_26), (3, .int x_19), (8, .int rh_17), (0, .ref a0), (1, .int a1), (2, .int a2), (6, .int v6_h_8), (7, .int v7_h_8)]) hx hb dX11_chain_112 hl (by decide) rfl (fun ls hl => hp_n (n := 114) rfl ?_)
                refine lv_iload hx hb dX11_chain_114 (lv_at hl 3 rfl) (hp_n (n := 116) rfl ?_)
                refine lv_istore (lv' := [(6, .int rh_17), (5, .int rh_27), (4, .int x_26), (3, .int x_19), (8, .int rh_17), (0, .ref a0), (1, .int a1), (2, .int a2), (7, .int v7_h_8)]) hx hb dX11_chain_116 hl (by decide) rfl (fun ls hl => hp_n (n := 118) rfl ?_)
                obtain ⟨x_28, ex_28⟩ : ∃ y : Int32, y = v7_h_8 + 1 := ⟨_, rfl⟩
                have qx_28 : x_28.toInt = v7_h_8.toInt + 1 := by have qa := ib_lo v7_h_8; rw [ex_28]; exact ii_add (by omega) (by omega)
                refine lv_iinc (v := x_28) (lv' := [(7, .int x_28), (6, .int rh_17), (5, .int rh_27), (4, .int x_26), (3, .int x_19), (8, .int rh_17), (0, .ref a0), (1, .int a1), (2, .int a2)]) hx hb dX11_chain_118 hl (k := 8) rfl (by rw [ex_28]; rfl) (by decide) rfl (fun ls hl => hp_n (n := 121) rfl ?_)
                refine lv_goto (tgt := 46) hx hb dX11_chain_121 (by decide) ?_
                exact ih46 _ (by have qa := ib_hi v7_h_8; have qb := ib_lo v7_h_8; have qc : (v7_h_8 + 1).toInt = v7_h_8.toInt + (1 : Int32).toInt := ii_add (by omega) (by omega); rw [ex_28]; omega) αh_27 Hh_27 Lh_27 Bh_27 x_19 x_26 rh_27 rh_17 x_28 (by omega) ls (lv_sub hl [6, 7, 8, 4, 3, 2, 1, 0] rfl) rfl
            ·
              have jc_18 := il_eq c_18
              refine lv_goto (tgt := 124) hx hb dX11_chain_71 (by decide) ?_
              exact J124 Hh_17 Lh_17 Bh_17 ls (lv_sub hl [1, 3, 4, 5, 6] rfl)
        refine lv_istore (lv' := [(7, .int 0), (6, .int (-1)), (5, .int 0), (4, .int 0), (3, .int 0), (0, .ref a0), (1, .int a1), (2, .int a2)]) hx hb dX11_chain_44 hl (by decide) rfl (fun ls hl => hp_n (n := 46) rfl ?_)
        exact J46 _ α Hh_6 Lh_6 Bh_6 0 0 0 (-1) 0 (by omega) ls (lv_sub hl [5, 6, 7, 4, 3, 2, 1, 0] rfl) rfl
    ·
      have jc_4 := il_nle c_4
      exact J9 s.heap [] B ls (lv_sub hl [0] rfl)
abbrev w_X11_split : cw_W := ([600], [], [33], [])
set_option maxRecDepth 100000 in
set_option maxHeartbeats 4000000 in
theorem t_X11_split (Γ : hp_G) (l : Launch) (α : hp_T) (g : GC α) (a0 : Nat) (k0 : hp_K α a0 = 12) (a1 : Int32) : Met l yX11_split (hp_ws yX11_split cX11_split 6 (some .int)) (hp_rm 5 0 0) (hp_Pc Γ α [.ref a0, .int a1]) (hp_Qi Γ (fun r β => cw w_X11_split α β)) 0 0 (hp_A Γ) := by
  refine hp_start (by decide) ?_
  intro p e s m below meth c C hr hlk B0 hnm
  have C : hp_C Γ p m c cX11_split 6 s ([.ref a0, .int a1] : List Value).toArray RX11 := C
  have hx := C.1.1
  have hb := C.1.2.1
  have hown := C.1.2.2.2.1
  have hts := C.1.2.2.2.2
  have B : hp_B Γ (cw w_X11_split) s α α s.heap [] := ⟨B0.1, B0.2.1, cw_rf g⟩
  have litm1 : ((-1) : Int32).toInt = (-1) := by decide
  have lit0 : (0 : Int32).toInt = 0 := by decide
  have lit1 : (1 : Int32).toInt = 1 := by decide
  have lit4 : (4 : Int32).toInt = 4 := by decide
  have lit5 : (5 : Int32).toInt = 5 := by decide
  have lit10 : (10 : Int32).toInt = 10 := by decide
  have hl := lv_entry ([.ref a0, .int a1]) (n := 6) (Nat.le_of_ble_eq_true rfl)
  show W p l e (hp_rm 5 0 0) s m ([.ref a0, .int a1] : List Value).toArray below meth c s.heap [] 0 0 (MQ below (hp_Qi Γ (fun r β => cw w_X11_split α β)) ([.ref a0, .int a1] : List Value).toArray s 0 0 (hp_A Γ)) (entryFrame m ([.ref a0, .int a1] : List Value).toArray 6)
  rw [lg_entry_eq]
  generalize (lg_sl ([.ref a0, .int a1]) ++ List.replicate (6 - (lg_sl ([.ref a0, .int a1])).length) Slot.unset).toArray = ls at hl ⊢
  have hl : lv_has ls 6 [(0, .ref a0), (1, .int a1)] := hl
  refine lv_iload_n hx hb dX11_split_0 rfl (lv_at hl 1 rfl) (hp_n (n := 1) rfl ?_)
  have J9 : ∀ (Hh_1 : Heap) (Lh_1 : List Loc) (Bh_1 : hp_B Γ (cw w_X11_split) s α α Hh_1 Lh_1) (ls : Array Slot) (hl : lv_has ls 6 [(0, .ref a0)]), W p l e (hp_rm 5 0 0) s m ([.ref a0, .int a1] : List Value).toArray below meth c Hh_1 Lh_1 0 0 (MQ below (hp_Qi Γ (fun r β => cw w_X11_split α β)) ([.ref a0, .int a1] : List Value).toArray s 0 0 (hp_A Γ)) (F0 m 9 ls []) := by
    intro Hh_1 Lh_1 Bh_1 ls hl
    refine lv_aload_n hx hb dX11_split_9 rfl (lv_at hl 0 rfl) (hp_n (n := 10) rfl ?_)
    refine lv_iconst (v := 1) hx hb dX11_split_10 (by decide) (hp_n (n := 11) rfl ?_)
    refine q_ci (pc' := 14) Bh_1 (hp_runV (As := [.int 1]) (rest := []) C Bh_1 (t_X11_refuse Γ l α Bh_1.2.2.1 a0 (cw_k Bh_1.2.2 k0) 1) lb_X11_refuse lv_X11_refuse lk_X11_98 (cw_k Bh_1.2.2 k0) rfl (by decide) rfl hl.1 rfl (Nat.le_of_ble_eq_true rfl) dX11_split_11 ⟨Nat.le_refl _, Nat.le_refl _⟩) (fun _ _ h => cw_tr Bh_1.2.2 h (by decide)) rfl (fun rh_2 αh_2 Hh_2 Lh_2 ph_2 Bh_2 => ?_)
    exact q_iret C Bh_2 hr hlk Bh_2.2.2 dX11_split_14
  refine lv_if_lt (tgt := 9) hx hb dX11_split_1 (by decide) (fun c_3 => ?_) (fun c_3 => hp_n (n := 4) rfl ?_)
  ·
    have jc_3 := il_lt c_3
    exact J9 s.heap [] B ls (lv_sub hl [0] rfl)
  ·
    have jc_3 := il_nlt c_3
    refine lv_iload_n hx hb dX11_split_4 rfl (lv_at hl 1 rfl) (hp_n (n := 5) rfl ?_)
    refine lv_iconst (v := 1) hx hb dX11_split_5 (by decide) (hp_n (n := 6) rfl ?_)
    refine lv_icmp_le (tgt := 15) hx hb dX11_split_6 (by decide) (fun c_4 => ?_) (fun c_4 => hp_n (n := 9) rfl ?_)
    ·
      have jc_4 := il_le c_4
      refine lv_iconst (v := 0) hx hb dX11_split_15 (by decide) (hp_n (n := 16) rfl ?_)
      refine lv_istore_n (lv' := [(2, .int 0), (0, .ref a0), (1, .int a1)]) hx hb dX11_split_16 rfl hl (by decide) rfl (fun ls hl => hp_n (n := 17) rfl ?_)
      refine lv_iconst (v := (-1)) hx hb dX11_split_17 (by decide) (hp_n (n := 18) rfl ?_)
      refine lv_istore_n (lv' := [(3, .int (-1)), (2, .int 0), (0, .ref a0), (1, .int a1)]) hx hb dX11_split_18 rfl hl (by decide) rfl (fun ls hl => hp_n (n := 19) rfl ?_)
      refine lv_iconst (v := 0) hx hb dX11_split_19 (by decide) (hp_n (n := 20) rfl ?_)
      have J22 : ∀ (nq : Nat) (αh_5 : hp_T) (Hh_5 : Heap) (Lh_5 : List Loc) (Bh_5 : hp_B Γ (cw w_X11_split) s α αh_5 Hh_5 Lh_5) (v2_h_5 : Int32) (v3_h_5 : Int32) (v4_h_5 : Int32) (ih_5_0 : 0 ≤ v4_h_5.toInt) (ls : Array Slot) (hl : lv_has ls 6 [(0, .ref a0), (1, .int a1), (2, .int v2_h_5), (3, .int v3_h_5), (4, .int v4_h_5)]) (hmu22 : (2147483647 - v4_h_5.toInt).toNat = nq), W p l e (hp_rm 5 0 0) s m ([.ref a0, .int a1] : List Value).toArray below meth c Hh_5 Lh_5 0 0 (MQ below (hp_Qi Γ (fun r β => cw w_X11_split α β)) ([.ref a0, .int a1] : List Value).toArray s 0 0 (hp_A Γ)) (F0 m 22 ls []) := by
        intro nq
        induction nq using Nat.strongRecOn with
        | ind nq ih22 =>
        intro αh_5 Hh_5 Lh_5 Bh_5 v2_h_5 v3_h_5 v4_h_5 ih_5_0 ls hl hmu22
        have inv22_0 := ih_5_0
        refine lv_iload hx hb dX11_split_22 (lv_at hl 4 rfl) (hp_n (n := 24) rfl ?_)
        refine lv_iconst (v := 4) hx hb dX11_split_24 (by decide) (hp_n (n := 25) rfl ?_)
        refine lv_icmp_ge (tgt := 100) hx hb dX11_split_25 (by decide) (fun c_6 => ?_) (fun c_6 => hp_n (n := 28) rfl ?_)
        ·
          have jc_6 := il_le c_6
          refine lv_iload_n hx hb dX11_split_100 rfl (lv_at hl 1 rfl) (hp_n (n := 101) rfl ?_)
          refine lv_if_ne (tgt := 110) hx hb dX11_split_101 (by decide) (fun c_7 => ?_) (fun c_7 => hp_n (n := 104) rfl ?_)
          ·
            have jc_7 := il_ne c_7
            refine lv_iload_n hx hb dX11_split_110 rfl (lv_at hl 2 rfl) (hp_n (n := 111) rfl ?_)
            refine lv_if_ne (tgt := 122) hx hb dX11_split_111 (by decide) (fun c_8 => ?_) (fun c_8 => hp_n (n := 114) rfl ?_)
            ·
              have jc_8 := il_ne c_8
              refine lv_aload_n hx hb dX11_split_122 rfl (lv_at hl 0 rfl) (hp_n (n := 123) rfl ?_)
              refine lv_iload_n hx hb dX11_split_123 rfl (lv_at hl 3 rfl) (hp_n (n := 124) rfl ?_)
              refine q_ci (pc' := 127) Bh_5 (hp_runV (As := [.int v3_h_5]) (rest := []) C Bh_5 (t_X11_answer Γ l αh_5 Bh_5.2.2.1 a0 (cw_k Bh_5.2.2 k0) v3_h_5) lb_X11_answer lv_X11_answer lk_X11_115 (cw_k Bh_5.2.2 k0) rfl (by decide) rfl hl.1 rfl (Nat.le_of_ble_eq_true rfl) dX11_split_124 ⟨Nat.le_refl _, Nat.le_refl _⟩) (fun _ _ h => cw_tr Bh_5.2.2 h (by decide)) rfl (fun rh_9 αh_9 Hh_9 Lh_9 ph_9 Bh_9 => ?_)
              exact q_iret C Bh_9 hr hlk Bh_9.2.2 dX11_split_127
            ·
              have jc_8 := il_eq c_8
              refine lv_aload_n hx hb dX11_split_114 rfl (lv_at hl 0 rfl) (hp_n (n := 115) rfl ?_)
              refine lv_iconst (v := 5) hx hb dX11_split_115 (by decide) (hp_n (n := 116) rfl ?_)
              refine q_ci (pc' := 119) Bh_5 (hp_runV (As := [.int 5]) (rest := []) C Bh_5 (t_X11_refuse Γ l αh_5 Bh_5.2.2.1 a0 (cw_k Bh_5.2.2 k0) 5) lb_X11_refuse lv_X11_refuse lk_X11_98 (cw_k Bh_5.2.2 k0) rfl (by decide) rfl hl.1 rfl (Nat.le_of_ble_eq_true rfl) dX11_split_116 ⟨Nat.le_refl _, Nat.le_refl _⟩) (fun _ _ h => cw_tr Bh_5.2.2 h (by decide)) rfl (fun rh_10 αh_10 Hh_10 Lh_10 ph_10 Bh_10 => ?_)
              refine lv_goto (tgt := 127) hx hb dX11_split_119 (by decide) ?_
              exact q_iret C Bh_10 hr hlk Bh_10.2.2 dX11_split_127
          ·
            have jc_7 := il_eq c_7
            refine lv_aload_n hx hb dX11_split_104 rfl (lv_at hl 0 rfl) (hp_n (n := 105) rfl ?_)
            refine lv_iload_n hx hb dX11_split_105 rfl (lv_at hl 2 rfl) (hp_n (n := 106) rfl ?_)
            refine q_ci (pc' := 109) Bh_5 (hp_runV (As := [.int v2_h_5]) (rest := []) C Bh_5 (t_X11_answer Γ l αh_5 Bh_5.2.2.1 a0 (cw_k Bh_5.2.2 k0) v2_h_5) lb_X11_answer lv_X11_answer lk_X11_115 (cw_k Bh_5.2.2 k0) rfl (by decide) rfl hl.1 rfl (Nat.le_of_ble_eq_true rfl) dX11_split_106 ⟨Nat.le_refl _, Nat.le_refl _⟩) (fun _ _ h => cw_tr Bh_5.2.2 h (by decide)) rfl (fun rh_11 αh_11 Hh_11 Lh_11 ph_11 Bh_11 => ?_)
            exact q_iret C Bh_11 hr hlk Bh_11.2.2 dX11_split_109
        ·
          have jc_6 := il_nle c_6
          refine lv_iload hx hb dX11_split_28 (lv_at hl 4 rfl) (hp_n (n := 30) rfl ?_)
          refine lv_iconst (v := 1) hx hb dX11_split_30 (by decide) (hp_n (n := 31) rfl ?_)
          refine lv_iadd hx hb dX11_split_31 (hp_n (n := 32) rfl (lv_topi (fun x_12 ex_12 => ?_)))
          have qx_12 : x_12.toInt = v4_h_5.toInt + 1 := by have qa := ib_lo v4_h_5; rw [ex_12]; exact ii_add (by omega) (by omega)
          have J34 : ∀ (nq : Nat) (αh_13 : hp_T) (Hh_13 : Heap) (Lh_13 : List Loc) (Bh_13 : hp_B Γ (cw w_X11_split) s α αh_13 Hh_13 Lh_13) (v2_h_13 : Int32) (v3_h_13 : Int32) (v5_h_13 : Int32) (ls : Array Slot) (hl : lv_has ls 6 [(0, .ref a0), (1, .int a1), (2, .int v2_h_13), (3, .int v3_h_13), (4, .int v4_h_5), (5, .int v5_h_13)]) (hmu34 : (2147483647 - v5_h_13.toInt).toNat = nq), W p l e (hp_rm 5 0 0) s m ([.ref a0, .int a1] : List Value).toArray below meth c Hh_13 Lh_13 0 0 (MQ below (hp_Qi Γ (fun r β => cw w_X11_split α β)) ([.ref a0, .int a1] : List Value).toArray s 0 0 (hp_A Γ)) (F0 m 34 ls []) := by
            intro nq
            induction nq using Nat.strongRecOn with
            | ind nq ih34 =>
            intro αh_13 Hh_13 Lh_13 Bh_13 v2_h_13 v3_h_13 v5_h_13 ls hl hmu34
            refine lv_iload hx hb dX11_split_34 (lv_at hl 5 rfl) (hp_n (n := 36) rfl ?_)
            refine lv_iconst (v := 4) hx hb dX11_split_36 (by decide) (hp_n (n := 37) rfl ?_)
            refine lv_icmp_ge (tgt := 94) hx hb dX11_split_37 (by decide) (fun c_14 => ?_) (fun c_14 => hp_n (n := 40) rfl ?_)
            ·
              have jc_14 := il_le c_14
              obtain ⟨x_15, ex_15⟩ : ∃ y : Int32, y = v4_h_5 + 1 := ⟨_, rfl⟩
              have qx_15 : x_15.toInt = v4_h_5.toInt + 1 := by have qa := ib_lo v4_h_5; rw [ex_15]; exact ii_add (by omega) (by omega)
              refine lv_iinc (v := x_15) (lv' := [(4, .int x_15), (0, .ref a0), (1, .int a1), (2, .int v2_h_13), (3, .int v3_h_13), (5, .int v5_h_13)]) hx hb dX11_split_94 hl (k := 4) rfl (by rw [ex_15]; rfl) (by decide) rfl (fun ls hl => hp_n (n := 97) rfl ?_)
              refine lv_goto (tgt := 22) hx hb dX11_split_97 (by decide) ?_
              exact ih22 _ (by have qa := ib_hi v4_h_5; have qb := ib_lo v4_h_5; have qc : (v4_h_5 + 1).toInt = v4_h_5.toInt + (1 : Int32).toInt := ii_add (by omega) (by omega); rw [ex_15]; omega) αh_13 Hh_13 Lh_13 Bh_13 v2_h_13 v3_h_13 x_15 (by omega) ls (lv_sub hl [1, 2, 3, 4, 0] rfl) rfl
            ·
              have jc_14 := il_nle c_14
              refine lv_aload_n hx hb dX11_split_40 rfl (lv_at hl 0 rfl) (hp_n (n := 41) rfl ?_)
              refine q_getr (κ := 12) (k := 1) (φ := 601) (pc' := 44) C Bh_13 (cw_k Bh_13.2.2 k0) fl_X11_16 rfl rfl rfl (cw_r Bh_13.2.2 k0 rfl rfl (by decide) (by decide)) dX11_split_41 rfl (fun b_16 eb_16 kb_16 => ?_)
              refine lv_aload_n hx hb dX11_split_44 rfl (lv_at hl 0 rfl) (hp_n (n := 45) rfl ?_)
              refine q_gets (κ := 12) (k := 1) (φ := 601) (pc' := 48) C Bh_13 (cw_k Bh_13.2.2 k0) fl_X11_16 rfl rfl rfl eb_16 dX11_split_45 rfl ?_
              refine lv_iload hx hb dX11_split_48 (lv_at hl 4 rfl) (hp_n (n := 50) rfl ?_)
              refine q_cq (pc' := 53) Bh_13 (hp_runV (As := [.int v4_h_5]) (rest := [.ref b_16]) C Bh_13 (t_X10_watcherAt Γ l αh_13 Bh_13.2.2.1 b_16 (cw_k Bh_13.2.2 kb_16) v4_h_5) lb_X10_watcherAt lv_X10_watcherAt lk_X11_220 (cw_k Bh_13.2.2 kb_16) rfl (by decide) rfl hl.1 rfl (Nat.le_of_ble_eq_true rfl) dX11_split_50 ⟨Nat.le_refl _, Nat.le_refl _⟩) (fun _ _ h => by rw [h.1]; exact Bh_13.2.2) rfl (fun rh_17 αh_17 Hh_17 Lh_17 ph_17 Bh_17 => ?_)
              rw [ph_17.1] at Bh_17
              rcases rh_17 with _ | bh_17
              ·
                refine lv_aload_n hx hb dX11_split_53 rfl (lv_at hl 0 rfl) (hp_n (n := 54) rfl ?_)
                refine q_gets (κ := 12) (k := 1) (φ := 601) (pc' := 57) C Bh_17 (cw_k Bh_17.2.2 k0) fl_X11_16 rfl rfl rfl eb_16 dX11_split_54 rfl ?_
                refine lv_iload hx hb dX11_split_57 (lv_at hl 5 rfl) (hp_n (n := 59) rfl ?_)
                refine q_cq (pc' := 62) Bh_17 (hp_runV (As := [.int v5_h_13]) (rest := [.null, .ref b_16]) C Bh_17 (t_X10_watcherAt Γ l αh_13 Bh_17.2.2.1 b_16 (cw_k Bh_17.2.2 kb_16) v5_h_13) lb_X10_watcherAt lv_X10_watcherAt lk_X11_220 (cw_k Bh_17.2.2 kb_16) rfl (by decide) rfl hl.1 rfl (Nat.le_of_ble_eq_true rfl) dX11_split_59 ⟨Nat.le_refl _, Nat.le_refl _⟩) (fun _ _ h => by rw [h.1]; exact Bh_17.2.2) rfl (fun rh_18 αh_18 Hh_18 Lh_18 ph_18 Bh_18 => ?_)
                rw [ph_18.1] at Bh_18
                rcases rh_18 with _ | bh_18
                ·
                  refine q_ci (pc' := 65) Bh_18 (hp_runV (As := [va_rf none, va_rf none]) (rest := []) C Bh_18 (t_X10_doAgree Γ l αh_13 Bh_18.2.2.1 b_16 (cw_k Bh_18.2.2 kb_16) none (fun b h => by cases h) none (fun b h => by cases h)) lb_X10_doAgree lv_X10_doAgree lk_X11_319 (cw_k Bh_18.2.2 kb_16) rfl (by decide) rfl hl.1 rfl (Nat.le_of_ble_eq_true rfl) dX11_split_62 ⟨Nat.le_refl _, Nat.le_refl _⟩) (fun _ _ h => cw_tr Bh_18.2.2 h.1 (by decide)) rfl (fun rh_19 αh_19 Hh_19 Lh_19 ph_19 Bh_19 => ?_)
                  have zh_19 := ph_19.2
                  refine lv_if_ne (tgt := 88) hx hb dX11_split_65 (by decide) (fun c_20 => ?_) (fun c_20 => hp_n (n := 68) rfl ?_)
                  ·
                    have jc_20 := il_ne c_20
                    obtain ⟨x_21, ex_21⟩ : ∃ y : Int32, y = v5_h_13 + 1 := ⟨_, rfl⟩
                    have qx_21 : x_21.toInt = v5_h_13.toInt + 1 := by have qa := ib_lo v5_h_13; rw [ex_21]; exact ii_add (by omega) (by omega)
                    refine lv_iinc (v := x_21) (lv' := [(5, .int x_21), (0, .ref a0), (1, .int a1), (2, .int v2_h_13), (3, .int v3_h_13), (4, .int v4_h_5)]) hx hb dX11_split_88 hl (k := 5) rfl (by rw [ex_21]; rfl) (by decide) rfl (fun ls hl => hp_n (n := 91) rfl ?_)
                    refine lv_goto (tgt := 34) hx hb dX11_split_91 (by decide) ?_
                    exact ih34 _ (by have qa := ib_hi v5_h_13; have qb := ib_lo v5_h_13; have qc : (v5_h_13 + 1).toInt = v5_h_13.toInt + (1 : Int32).toInt := ii_add (by omega) (by omega); rw [ex_21]; omega) αh_19 Hh_19 Lh_19 Bh_19 v2_h_13 v3_h_13 x_21 ls (lv_sub hl [1, 2, 3, 4, 5, 0] rfl) rfl
                  ·
                    have jc_20 := il_eq c_20
                    refine lv_iload_n hx hb dX11_split_68 rfl (lv_at hl 2 rfl) (hp_n (n := 69) rfl ?_)
                    refine lv_if_ne (tgt := 83) hx hb dX11_split_69 (by decide) (fun c_22 => ?_) (fun c_22 => hp_n (n := 72) rfl ?_)
                    ·
                      have jc_22 := il_ne c_22
                      refine lv_iload_n hx hb dX11_split_83 rfl (lv_at hl 3 rfl) (hp_n (n := 84) rfl ?_)
                      refine lv_istore_n (lv' := [(3, .int v3_h_13), (0, .ref a0), (1, .int a1), (2, .int v2_h_13), (4, .int v4_h_5), (5, .int v5_h_13)]) hx hb dX11_split_84 rfl hl (by decide) rfl (fun ls hl => hp_n (n := 85) rfl ?_)
                      obtain ⟨x_23, ex_23⟩ : ∃ y : Int32, y = v2_h_13 + 1 := ⟨_, rfl⟩
                      refine lv_iinc (v := x_23) (lv' := [(2, .int x_23), (3, .int v3_h_13), (0, .ref a0), (1, .int a1), (4, .int v4_h_5), (5, .int v5_h_13)]) hx hb dX11_split_85 hl (k := 3) rfl (by rw [ex_23]; rfl) (by decide) rfl (fun ls hl => hp_n (n := 88) rfl ?_)
                      obtain ⟨x_24, ex_24⟩ : ∃ y : Int32, y = v5_h_13 + 1 := ⟨_, rfl⟩
                      have qx_24 : x_24.toInt = v5_h_13.toInt + 1 := by have qa := ib_lo v5_h_13; rw [ex_24]; exact ii_add (by omega) (by omega)
                      refine lv_iinc (v := x_24) (lv' := [(5, .int x_24), (2, .int x_23), (3, .int v3_h_13), (0, .ref a0), (1, .int a1), (4, .int v4_h_5)]) hx hb dX11_split_88 hl (k := 5) rfl (by rw [ex_24]; rfl) (by decide) rfl (fun ls hl => hp_n (n := 91) rfl ?_)
                      refine lv_goto (tgt := 34) hx hb dX11_split_91 (by decide) ?_
                      exact ih34 _ (by have qa := ib_hi v5_h_13; have qb := ib_lo v5_h_13; have qc : (v5_h_13 + 1).toInt = v5_h_13.toInt + (1 : Int32).toInt := ii_add (by omega) (by omega); rw [ex_24]; omega) αh_19 Hh_19 Lh_19 Bh_19 x_23 v3_h_13 x_24 ls (lv_sub hl [3, 4, 1, 2, 5, 0] rfl) rfl
                    ·
                      have jc_22 := il_eq c_22
                      refine lv_bipush (v := 10) hx hb dX11_split_72 (by decide) (hp_n (n := 74) rfl ?_)
                      refine lv_iload hx hb dX11_split_74 (lv_at hl 4 rfl) (hp_n (n := 76) rfl ?_)
                      refine lv_imul hx hb dX11_split_76 (hp_n (n := 77) rfl (lv_topi (fun x_25 ex_25 => ?_)))
                      refine lv_iload hx hb dX11_split_77 (lv_at hl 5 rfl) (hp_n (n := 79) rfl ?_)
                      refine lv_iadd hx hb dX11_split_79 (hp_n (n := 80) rfl (lv_topi (fun x_26 ex_26 => ?_)))
                      refine lv_goto (tgt := 84) hx hb dX11_split_80 (by decide) ?_
                      refine lv_istore_n (lv' := [(3, .int x_26), (0, .ref a0), (1, .int a1), (2, .int v2_h_13), (4, .int v4_h_5), (5, .int v5_h_13)]) hx hb dX11_split_84 rfl hl (by decide) rfl (fun ls hl => hp_n (n := 85) rfl ?_)
                      obtain ⟨x_27, ex_27⟩ : ∃ y : Int32, y = v2_h_13 + 1 := ⟨_, rfl⟩
                      refine lv_iinc (v := x_27) (lv' := [(2, .int x_27), (3, .int x_26), (0, .ref a0), (1, .int a1), (4, .int v4_h_5), (5, .int v5_h_13)]) hx hb dX11_split_85 hl (k := 3) rfl (by rw [ex_27]; rfl) (by decide) rfl (fun ls hl => hp_n (n := 88) rfl ?_)
                      obtain ⟨x_28, ex_28⟩ : ∃ y : Int32, y = v5_h_13 + 1 := ⟨_, rfl⟩
                      have qx_28 : x_28.toInt = v5_h_13.toInt + 1 := by have qa := ib_lo v5_h_13; rw [ex_28]; exact ii_add (by omega) (by omega)
                      refine lv_iinc (v := x_28) (lv' := [(5, .int x_28), (2, .int x_27), (3, .int x_26), (0, .ref a0), (1, .int a1), (4, .int v4_h_5)]) hx hb dX11_split_88 hl (k := 5) rfl (by rw [ex_28]; rfl) (by decide) rfl (fun ls hl => hp_n (n := 91) rfl ?_)
                      refine lv_goto (tgt := 34) hx hb dX11_split_91 (by decide) ?_
                      exact ih34 _ (by have qa := ib_hi v5_h_13; have qb := ib_lo v5_h_13; have qc : (v5_h_13 + 1).toInt = v5_h_13.toInt + (1 : Int32).toInt := ii_add (by omega) (by omega); rw [ex_28]; omega) αh_19 Hh_19 Lh_19 Bh_19 x_27 x_26 x_28 ls (lv_sub hl [3, 4, 1, 2, 5, 0] rfl) rfl
                ·
                  have kbh_18 : hp_K α bh_18 = 8 := cw_k' Bh_18.2.2 (ph_18.2 bh_18 rfl)
                  refine q_ci (pc' := 65) Bh_18 (hp_runV (As := [va_rf none, va_rf (some bh_18)]) (rest := []) C Bh_18 (t_X10_doAgree Γ l αh_13 Bh_18.2.2.1 b_16 (cw_k Bh_18.2.2 kb_16) none (fun b h => by cases h) (some bh_18) (fun b h => by cases h; exact (cw_k Bh_18.2.2 kbh_18))) lb_X10_doAgree lv_X10_doAgree lk_X11_319 (cw_k Bh_18.2.2 kb_16) rfl (by decide) rfl hl.1 rfl (Nat.le_of_ble_eq_true rfl) dX11_split_62 ⟨Nat.le_refl _, Nat.le_refl _⟩) (fun _ _ h => cw_tr Bh_18.2.2 h.1 (by decide)) rfl (fun rh_29 αh_29 Hh_29 Lh_29 ph_29 Bh_29 => ?_)
                  have zh_29 := ph_29.2
                  refine lv_if_ne (tgt := 88) hx hb dX11_split_65 (by decide) (fun c_30 => ?_) (fun c_30 => hp_n (n := 68) rfl ?_)
                  ·
                    have jc_30 := il_ne c_30
                    obtain ⟨x_31, ex_31⟩ : ∃ y : Int32, y = v5_h_13 + 1 := ⟨_, rfl⟩
                    have qx_31 : x_31.toInt = v5_h_13.toInt + 1 := by have qa := ib_lo v5_h_13; rw [ex_31]; exact ii_add (by omega) (by omega)
                    refine lv_iinc (v := x_31) (lv' := [(5, .int x_31), (0, .ref a0), (1, .int a1), (2, .int v2_h_13), (3, .int v3_h_13), (4, .int v4_h_5)]) hx hb dX11_split_88 hl (k := 5) rfl (by rw [ex_31]; rfl) (by decide) rfl (fun ls hl => hp_n (n := 91) rfl ?_)
                    refine lv_goto (tgt := 34) hx hb dX11_split_91 (by decide) ?_
                    exact ih34 _ (by have qa := ib_hi v5_h_13; have qb := ib_lo v5_h_13; have qc : (v5_h_13 + 1).toInt = v5_h_13.toInt + (1 : Int32).toInt := ii_add (by omega) (by omega); rw [ex_31]; omega) αh_29 Hh_29 Lh_29 Bh_29 v2_h_13 v3_h_13 x_31 ls (lv_sub hl [1, 2, 3, 4, 5, 0] rfl) rfl
                  ·
                    have jc_30 := il_eq c_30
                    refine lv_iload_n hx hb dX11_split_68 rfl (lv_at hl 2 rfl) (hp_n (n := 69) rfl ?_)
                    refine lv_if_ne (tgt := 83) hx hb dX11_split_69 (by decide) (fun c_32 => ?_) (fun c_32 => hp_n (n := 72) rfl ?_)
                    ·
                      have jc_32 := il_ne c_32
                      refine lv_iload_n hx hb dX11_split_83 rfl (lv_at hl 3 rfl) (hp_n (n := 84) rfl ?_)
                      refine lv_istore_n (lv' := [(3, .int v3_h_13), (0, .ref a0), (1, .int a1), (2, .int v2_h_13), (4, .int v4_h_5), (5, .int v5_h_13)]) hx hb dX11_split_84 rfl hl (by decide) rfl (fun ls hl => hp_n (n := 85) rfl ?_)
                      obtain ⟨x_33, ex_33⟩ : ∃ y : Int32, y = v2_h_13 + 1 := ⟨_, rfl⟩
                      refine lv_iinc (v := x_33) (lv' := [(2, .int x_33), (3, .int v3_h_13), (0, .ref a0), (1, .int a1), (4, .int v4_h_5), (5, .int v5_h_13)]) hx hb dX11_split_85 hl (k := 3) rfl (by rw [ex_33]; rfl) (by decide) rfl (fun ls hl => hp_n (n := 88) rfl ?_)
                      obtain ⟨x_34, ex_34⟩ : ∃ y : Int32, y = v5_h_13 + 1 := ⟨_, rfl⟩
                      have qx_34 : x_34.toInt = v5_h_13.toInt + 1 := by have qa := ib_lo v5_h_13; rw [ex_34]; exact ii_add (by omega) (by omega)
                      refine lv_iinc (v := x_34) (lv' := [(5, .int x_34), (2, .int x_33), (3, .int v3_h_13), (0, .ref a0), (1, .int a1), (4, .int v4_h_5)]) hx hb dX11_split_88 hl (k := 5) rfl (by rw [ex_34]; rfl) (by decide) rfl (fun ls hl => hp_n (n := 91) rfl ?_)
                      refine lv_goto (tgt := 34) hx hb dX11_split_91 (by decide) ?_
                      exact ih34 _ (by have qa := ib_hi v5_h_13; have qb := ib_lo v5_h_13; have qc : (v5_h_13 + 1).toInt = v5_h_13.toInt + (1 : Int32).toInt := ii_add (by omega) (by omega); rw [ex_34]; omega) αh_29 Hh_29 Lh_29 Bh_29 x_33 v3_h_13 x_34 ls (lv_sub hl [3, 4, 1, 2, 5, 0] rfl) rfl
                    ·
                      have jc_32 := il_eq c_32
                      refine lv_bipush (v := 10) hx hb dX11_split_72 (by decide) (hp_n (n := 74) rfl ?_)
                      refine lv_iload hx hb dX11_split_74 (lv_at hl 4 rfl) (hp_n (n := 76) rfl ?_)
                      refine lv_imul hx hb dX11_split_76 (hp_n (n := 77) rfl (lv_topi (fun x_35 ex_35 => ?_)))
                      refine lv_iload hx hb dX11_split_77 (lv_at hl 5 rfl) (hp_n (n := 79) rfl ?_)
                      refine lv_iadd hx hb dX11_split_79 (hp_n (n := 80) rfl (lv_topi (fun x_36 ex_36 => ?_)))
                      refine lv_goto (tgt := 84) hx hb dX11_split_80 (by decide) ?_
                      refine lv_istore_n (lv' := [(3, .int x_36), (0, .ref a0), (1, .int a1), (2, .int v2_h_13), (4, .int v4_h_5), (5, .int v5_h_13)]) hx hb dX11_split_84 rfl hl (by decide) rfl (fun ls hl => hp_n (n := 85) rfl ?_)
                      obtain ⟨x_37, ex_37⟩ : ∃ y : Int32, y = v2_h_13 + 1 := ⟨_, rfl⟩
                      refine lv_iinc (v := x_37) (lv' := [(2, .int x_37), (3, .int x_36), (0, .ref a0), (1, .int a1), (4, .int v4_h_5), (5, .int v5_h_13)]) hx hb dX11_split_85 hl (k := 3) rfl (by rw [ex_37]; rfl) (by decide) rfl (fun ls hl => hp_n (n := 88) rfl ?_)
                      obtain ⟨x_38, ex_38⟩ : ∃ y : Int32, y = v5_h_13 + 1 := ⟨_, rfl⟩
                      have qx_38 : x_38.toInt = v5_h_13.toInt + 1 := by have qa := ib_lo v5_h_13; rw [ex_38]; exact ii_add (by omega) (by omega)
                      refine lv_iinc (v := x_38) (lv' := [(5, .int x_38), (2, .int x_37), (3, .int x_36), (0, .ref a0), (1, .int a1), (4, .int v4_h_5)]) hx hb dX11_split_88 hl (k := 5) rfl (by rw [ex_38]; rfl) (by decide) rfl (fun ls hl => hp_n (n := 91) rfl ?_)
                      refine lv_goto (tgt := 34) hx hb dX11_split_91 (by decide) ?_
                      exact ih34 _ (by have qa := ib_hi v5_h_13; have qb := ib_lo v5_h_13; have qc : (v5_h_13 + 1).toInt = v5_h_13.toInt + (1 : Int32).toInt := ii_add (by omega) (by omega); rw [ex_38]; omega) αh_29 Hh_29 Lh_29 Bh_29 x_37 x_36 x_38 ls (lv_sub hl [3, 4, 1, 2, 5, 0] rfl) rfl
              ·
                have kbh_17 : hp_K α bh_17 = 8 := cw_k' Bh_17.2.2 (ph_17.2 bh_17 rfl)
                refine lv_aload_n hx hb dX11_split_53 rfl (lv_at hl 0 rfl) (hp_n (n := 54) rfl ?_)
                refine q_gets (κ := 12) (k := 1) (φ := 601) (pc' := 57) C Bh_17 (cw_k Bh_17.2.2 k0) fl_X11_16 rfl rfl rfl eb_16 dX11_split_54 rfl ?_
                refine lv_iload hx hb dX11_split_57 (lv_at hl 5 rfl) (hp_n (n := 59) rfl ?_)
                refine q_cq (pc' := 62) Bh_17 (hp_runV (As := [.int v5_h_13]) (rest := [.ref bh_17, .ref b_16]) C Bh_17 (t_X10_watcherAt Γ l αh_13 Bh_17.2.2.1 b_16 (cw_k Bh_17.2.2 kb_16) v5_h_13) lb_X10_watcherAt lv_X10_watcherAt lk_X11_220 (cw_k Bh_17.2.2 kb_16) rfl (by decide) rfl hl.1 rfl (Nat.le_of_ble_eq_true rfl) dX11_split_59 ⟨Nat.le_refl _, Nat.le_refl _⟩) (fun _ _ h => by rw [h.1]; exact Bh_17.2.2) rfl (fun rh_39 αh_39 Hh_39 Lh_39 ph_39 Bh_39 => ?_)
                rw [ph_39.1] at Bh_39
                rcases rh_39 with _ | bh_39
                ·
                  refine q_ci (pc' := 65) Bh_39 (hp_runV (As := [va_rf (some bh_17), va_rf none]) (rest := []) C Bh_39 (t_X10_doAgree Γ l αh_13 Bh_39.2.2.1 b_16 (cw_k Bh_39.2.2 kb_16) (some bh_17) (fun b h => by cases h; exact (cw_k Bh_39.2.2 kbh_17)) none (fun b h => by cases h)) lb_X10_doAgree lv_X10_doAgree lk_X11_319 (cw_k Bh_39.2.2 kb_16) rfl (by decide) rfl hl.1 rfl (Nat.le_of_ble_eq_true rfl) dX11_split_62 ⟨Nat.le_refl _, Nat.le_refl _⟩) (fun _ _ h => cw_tr Bh_39.2.2 h.1 (by decide)) rfl (fun rh_40 αh_40 Hh_40 Lh_40 ph_40 Bh_40 => ?_)
                  have zh_40 := ph_40.2
                  refine lv_if_ne (tgt := 88) hx hb dX11_split_65 (by decide) (fun c_41 => ?_) (fun c_41 => hp_n (n := 68) rfl ?_)
                  ·
                    have jc_41 := il_ne c_41
                    obtain ⟨x_42, ex_42⟩ : ∃ y : Int32, y = v5_h_13 + 1 := ⟨_, rfl⟩
                    have qx_42 : x_42.toInt = v5_h_13.toInt + 1 := by have qa := ib_lo v5_h_13; rw [ex_42]; exact ii_add (by omega) (by omega)
                    refine lv_iinc (v := x_42) (lv' := [(5, .int x_42), (0, .ref a0), (1, .int a1), (2, .int v2_h_13), (3, .int v3_h_13), (4, .int v4_h_5)]) hx hb dX11_split_88 hl (k := 5) rfl (by rw [ex_42]; rfl) (by decide) rfl (fun ls hl => hp_n (n := 91) rfl ?_)
                    refine lv_goto (tgt := 34) hx hb dX11_split_91 (by decide) ?_
                    exact ih34 _ (by have qa := ib_hi v5_h_13; have qb := ib_lo v5_h_13; have qc : (v5_h_13 + 1).toInt = v5_h_13.toInt + (1 : Int32).toInt := ii_add (by omega) (by omega); rw [ex_42]; omega) αh_40 Hh_40 Lh_40 Bh_40 v2_h_13 v3_h_13 x_42 ls (lv_sub hl [1, 2, 3, 4, 5, 0] rfl) rfl
                  ·
                    have jc_41 := il_eq c_41
                    refine lv_iload_n hx hb dX11_split_68 rfl (lv_at hl 2 rfl) (hp_n (n := 69) rfl ?_)
                    refine lv_if_ne (tgt := 83) hx hb dX11_split_69 (by decide) (fun c_43 => ?_) (fun c_43 => hp_n (n := 72) rfl ?_)
                    ·
                      have jc_43 := il_ne c_43
                      refine lv_iload_n hx hb dX11_split_83 rfl (lv_at hl 3 rfl) (hp_n (n := 84) rfl ?_)
                      refine lv_istore_n (lv' := [(3, .int v3_h_13), (0, .ref a0), (1, .int a1), (2, .int v2_h_13), (4, .int v4_h_5), (5, .int v5_h_13)]) hx hb dX11_split_84 rfl hl (by decide) rfl (fun ls hl => hp_n (n := 85) rfl ?_)
                      obtain ⟨x_44, ex_44⟩ : ∃ y : Int32, y = v2_h_13 + 1 := ⟨_, rfl⟩
                      refine lv_iinc (v := x_44) (lv' := [(2, .int x_44), (3, .int v3_h_13), (0, .ref a0), (1, .int a1), (4, .int v4_h_5), (5, .int v5_h_13)]) hx hb dX11_split_85 hl (k := 3) rfl (by rw [ex_44]; rfl) (by decide) rfl (fun ls hl => hp_n (n := 88) rfl ?_)
                      obtain ⟨x_45, ex_45⟩ : ∃ y : Int32, y = v5_h_13 + 1 := ⟨_, rfl⟩
                      have qx_45 : x_45.toInt = v5_h_13.toInt + 1 := by have qa := ib_lo v5_h_13; rw [ex_45]; exact ii_add (by omega) (by omega)
                      refine lv_iinc (v := x_45) (lv' := [(5, .int x_45), (2, .int x_44), (3, .int v3_h_13), (0, .ref a0), (1, .int a1), (4, .int v4_h_5)]) hx hb dX11_split_88 hl (k := 5) rfl (by rw [ex_45]; rfl) (by decide) rfl (fun ls hl => hp_n (n := 91) rfl ?_)
                      refine lv_goto (tgt := 34) hx hb dX11_split_91 (by decide) ?_
                      exact ih34 _ (by have qa := ib_hi v5_h_13; have qb := ib_lo v5_h_13; have qc : (v5_h_13 + 1).toInt = v5_h_13.toInt + (1 : Int32).toInt := ii_add (by omega) (by omega); rw [ex_45]; omega) αh_40 Hh_40 Lh_40 Bh_40 x_44 v3_h_13 x_45 ls (lv_sub hl [3, 4, 1, 2, 5, 0] rfl) rfl
                    ·
                      have jc_43 := il_eq c_43
                      refine lv_bipush (v := 10) hx hb dX11_split_72 (by decide) (hp_n (n := 74) rfl ?_)
                      refine lv_iload hx hb dX11_split_74 (lv_at hl 4 rfl) (hp_n (n := 76) rfl ?_)
                      refine lv_imul hx hb dX11_split_76 (hp_n (n := 77) rfl (lv_topi (fun x_46 ex_46 => ?_)))
                      refine lv_iload hx hb dX11_split_77 (lv_at hl 5 rfl) (hp_n (n := 79) rfl ?_)
                      refine lv_iadd hx hb dX11_split_79 (hp_n (n := 80) rfl (lv_topi (fun x_47 ex_47 => ?_)))
                      refine lv_goto (tgt := 84) hx hb dX11_split_80 (by decide) ?_
                      refine lv_istore_n (lv' := [(3, .int x_47), (0, .ref a0), (1, .int a1), (2, .int v2_h_13), (4, .int v4_h_5), (5, .int v5_h_13)]) hx hb dX11_split_84 rfl hl (by decide) rfl (fun ls hl => hp_n (n := 85) rfl ?_)
                      obtain ⟨x_48, ex_48⟩ : ∃ y : Int32, y = v2_h_13 + 1 := ⟨_, rfl⟩
                      refine lv_iinc (v := x_48) (lv' := [(2, .int x_48), (3, .int x_47), (0, .ref a0), (1, .int a1), (4, .int v4_h_5), (5, .int v5_h_13)]) hx hb dX11_split_85 hl (k := 3) rfl (by rw [ex_48]; rfl) (by decide) rfl (fun ls hl => hp_n (n := 88) rfl ?_)
                      obtain ⟨x_49, ex_49⟩ : ∃ y : Int32, y = v5_h_13 + 1 := ⟨_, rfl⟩
                      have qx_49 : x_49.toInt = v5_h_13.toInt + 1 := by have qa := ib_lo v5_h_13; rw [ex_49]; exact ii_add (by omega) (by omega)
                      refine lv_iinc (v := x_49) (lv' := [(5, .int x_49), (2, .int x_48), (3, .int x_47), (0, .ref a0), (1, .int a1), (4, .int v4_h_5)]) hx hb dX11_split_88 hl (k := 5) rfl (by rw [ex_49]; rfl) (by decide) rfl (fun ls hl => hp_n (n := 91) rfl ?_)
                      refine lv_goto (tgt := 34) hx hb dX11_split_91 (by decide) ?_
                      exact ih34 _ (by have qa := ib_hi v5_h_13; have qb := ib_lo v5_h_13; have qc : (v5_h_13 + 1).toInt = v5_h_13.toInt + (1 : Int32).toInt := ii_add (by omega) (by omega); rw [ex_49]; omega) αh_40 Hh_40 Lh_40 Bh_40 x_48 x_47 x_49 ls (lv_sub hl [3, 4, 1, 2, 5, 0] rfl) rfl
                ·
                  have kbh_39 : hp_K α bh_39 = 8 := cw_k' Bh_39.2.2 (ph_39.2 bh_39 rfl)
                  refine q_ci (pc' := 65) Bh_39 (hp_runV (As := [va_rf (some bh_17), va_rf (some bh_39)]) (rest := []) C Bh_39 (t_X10_doAgree Γ l αh_13 Bh_39.2.2.1 b_16 (cw_k Bh_39.2.2 kb_16) (some bh_17) (fun b h => by cases h; exact (cw_k Bh_39.2.2 kbh_17)) (some bh_39) (fun b h => by cases h; exact (cw_k Bh_39.2.2 kbh_39))) lb_X10_doAgree lv_X10_doAgree lk_X11_319 (cw_k Bh_39.2.2 kb_16) rfl (by decide) rfl hl.1 rfl (Nat.le_of_ble_eq_true rfl) dX11_split_62 ⟨Nat.le_refl _, Nat.le_refl _⟩) (fun _ _ h => cw_tr Bh_39.2.2 h.1 (by decide)) rfl (fun rh_50 αh_50 Hh_50 Lh_50 ph_50 Bh_50 => ?_)
                  have zh_50 := ph_50.2
                  refine lv_if_ne (tgt := 88) hx hb dX11_split_65 (by decide) (fun c_51 => ?_) (fun c_51 => hp_n (n := 68) rfl ?_)
                  ·
                    have jc_51 := il_ne c_51
                    obtain ⟨x_52, ex_52⟩ : ∃ y : Int32, y = v5_h_13 + 1 := ⟨_, rfl⟩
                    have qx_52 : x_52.toInt = v5_h_13.toInt + 1 := by have qa := ib_lo v5_h_13; rw [ex_52]; exact ii_add (by omega) (by omega)
                    refine lv_iinc (v := x_52) (lv' := [(5, .int x_52), (0, .ref a0), (1, .int a1), (2, .int v2_h_13), (3, .int v3_h_13), (4, .int v4_h_5)]) hx hb dX11_split_88 hl (k := 5) rfl (by rw [ex_52]; rfl) (by decide) rfl (fun ls hl => hp_n (n := 91) rfl ?_)
                    refine lv_goto (tgt := 34) hx hb dX11_split_91 (by decide) ?_
                    exact ih34 _ (by have qa := ib_hi v5_h_13; have qb := ib_lo v5_h_13; have qc : (v5_h_13 + 1).toInt = v5_h_13.toInt + (1 : Int32).toInt := ii_add (by omega) (by omega); rw [ex_52]; omega) αh_50 Hh_50 Lh_50 Bh_50 v2_h_13 v3_h_13 x_52 ls (lv_sub hl [1, 2, 3, 4, 5, 0] rfl) rfl
                  ·
                    have jc_51 := il_eq c_51
                    refine lv_iload_n hx hb dX11_split_68 rfl (lv_at hl 2 rfl) (hp_n (n := 69) rfl ?_)
                    refine lv_if_ne (tgt := 83) hx hb dX11_split_69 (by decide) (fun c_53 => ?_) (fun c_53 => hp_n (n := 72) rfl ?_)
                    ·
                      have jc_53 := il_ne c_53
                      refine lv_iload_n hx hb dX11_split_83 rfl (lv_at hl 3 rfl) (hp_n (n := 84) rfl ?_)
                      refine lv_istore_n (lv' := [(3, .int v3_h_13), (0, .ref a0), (1, .int a1), (2, .int v2_h_13), (4, .int v4_h_5), (5, .int v5_h_13)]) hx hb dX11_split_84 rfl hl (by decide) rfl (fun ls hl => hp_n (n := 85) rfl ?_)
                      obtain ⟨x_54, ex_54⟩ : ∃ y : Int32, y = v2_h_13 + 1 := ⟨_, rfl⟩
                      refine lv_iinc (v := x_54) (lv' := [(2, .int x_54), (3, .int v3_h_13), (0, .ref a0), (1, .int a1), (4, .int v4_h_5), (5, .int v5_h_13)]) hx hb dX11_split_85 hl (k := 3) rfl (by rw [ex_54]; rfl) (by decide) rfl (fun ls hl => hp_n (n := 88) rfl ?_)
                      obtain ⟨x_55, ex_55⟩ : ∃ y : Int32, y = v5_h_13 + 1 := ⟨_, rfl⟩
                      have qx_55 : x_55.toInt = v5_h_13.toInt + 1 := by have qa := ib_lo v5_h_13; rw [ex_55]; exact ii_add (by omega) (by omega)
                      refine lv_iinc (v := x_55) (lv' := [(5, .int x_55), (2, .int x_54), (3, .int v3_h_13), (0, .ref a0), (1, .int a1), (4, .int v4_h_5)]) hx hb dX11_split_88 hl (k := 5) rfl (by rw [ex_55]; rfl) (by decide) rfl (fun ls hl => hp_n (n := 91) rfl ?_)
                      refine lv_goto (tgt := 34) hx hb dX11_split_91 (by decide) ?_
                      exact ih34 _ (by have qa := ib_hi v5_h_13; have qb := ib_lo v5_h_13; have qc : (v5_h_13 + 1).toInt = v5_h_13.toInt + (1 : Int32).toInt := ii_add (by omega) (by omega); rw [ex_55]; omega) αh_50 Hh_50 Lh_50 Bh_50 x_54 v3_h_13 x_55 ls (lv_sub hl [3, 4, 1, 2, 5, 0] rfl) rfl
                    ·
                      have jc_53 := il_eq c_53
                      refine lv_bipush (v := 10) hx hb dX11_split_72 (by decide) (hp_n (n := 74) rfl ?_)
                      refine lv_iload hx hb dX11_split_74 (lv_at hl 4 rfl) (hp_n (n := 76) rfl ?_)
                      refine lv_imul hx hb dX11_split_76 (hp_n (n := 77) rfl (lv_topi (fun x_56 ex_56 => ?_)))
                      refine lv_iload hx hb dX11_split_77 (lv_at hl 5 rfl) (hp_n (n := 79) rfl ?_)
                      refine lv_iadd hx hb dX11_split_79 (hp_n (n := 80) rfl (lv_topi (fun x_57 ex_57 => ?_)))
                      refine lv_goto (tgt := 84) hx hb dX11_split_80 (by decide) ?_
                      refine lv_istore_n (lv' := [(3, .int x_57), (0, .ref a0), (1, .int a1), (2, .int v2_h_13), (4, .int v4_h_5), (5, .int v5_h_13)]) hx hb dX11_split_84 rfl hl (by decide) rfl (fun ls hl => hp_n (n := 85) rfl ?_)
                      obtain ⟨x_58, ex_58⟩ : ∃ y : Int32, y = v2_h_13 + 1 := ⟨_, rfl⟩
                      refine lv_iinc (v := x_58) (lv' := [(2, .int x_58), (3, .int x_57), (0, .ref a0), (1, .int a1), (4, .int v4_h_5), (5, .int v5_h_13)]) hx hb dX11_split_85 hl (k := 3) rfl (by rw [ex_58]; rfl) (by decide) rfl (fun ls hl => hp_n (n := 88) rfl ?_)
                      obtain ⟨x_59, ex_59⟩ : ∃ y : Int32, y = v5_h_13 + 1 := ⟨_, rfl⟩
                      have qx_59 : x_59.toInt = v5_h_13.toInt + 1 := by have qa := ib_lo v5_h_13; rw [ex_59]; exact ii_add (by omega) (by omega)
                      refine lv_iinc (v := x_59) (lv' := [(5, .int x_59), (2, .int x_58), (3, .int x_57), (0, .ref a0), (1, .int a1), (4, .int v4_h_5)]) hx hb dX11_split_88 hl (k := 5) rfl (by rw [ex_59]; rfl) (by decide) rfl (fun ls hl => hp_n (n := 91) rfl ?_)
                      refine lv_goto (tgt := 34) hx hb dX11_split_91 (by decide) ?_
                      exact ih34 _ (by have qa := ib_hi v5_h_13; have qb := ib_lo v5_h_13; have qc : (v5_h_13 + 1).toInt = v5_h_13.toInt + (1 : Int32).toInt := ii_add (by omega) (by omega); rw [ex_59]; omega) αh_50 Hh_50 Lh_50 Bh_50 x_58 x_57 x_59 ls (lv_sub hl [3, 4, 1, 2, 5, 0] rfl) rfl
          refine lv_istore (lv' := [(5, .int x_12), (0, .ref a0), (1, .int a1), (2, .int v2_h_5), (3, .int v3_h_5), (4, .int v4_h_5)]) hx hb dX11_split_32 hl (by decide) rfl (fun ls hl => hp_n (n := 34) rfl ?_)
          exact J34 _ αh_5 Hh_5 Lh_5 Bh_5 v2_h_5 v3_h_5 x_12 ls (lv_sub hl [1, 2, 3, 4, 5, 0] rfl) rfl
      refine lv_istore (lv' := [(4, .int 0), (3, .int (-1)), (2, .int 0), (0, .ref a0), (1, .int a1)]) hx hb dX11_split_20 hl (by decide) rfl (fun ls hl => hp_n (n := 22) rfl ?_)
      exact J22 _ α s.heap [] B 0 (-1) 0 (by omega) ls (lv_sub hl [3, 4, 2, 1, 0] rfl) rfl
    ·
      have jc_4 := il_nle c_4
      exact J9 s.heap [] B ls (lv_sub hl [0] rfl)
abbrev w_X11_tellByte : cw_W := ([611], [], [25], [])
set_option maxRecDepth 100000 in
set_option maxHeartbeats 4000000 in
theorem t_X11_tellByte (Γ : hp_G) (l : Launch) (α : hp_T) (g : GC α) (a0 : Nat) (k0 : hp_K α a0 = 12) (a1 : Int32) : Met l yX11_tellByte (hp_ws yX11_tellByte cX11_tellByte 2 none) (hp_rm 0 0 0) (hp_Pc Γ α [.ref a0, .int a1]) (hp_Qv Γ (fun β => cw w_X11_tellByte α β)) 0 0 (hp_A Γ) := by
  refine hp_start (by decide) ?_
  intro p e s m below meth c C hr hlk B0 hnm
  have C : hp_C Γ p m c cX11_tellByte 2 s ([.ref a0, .int a1] : List Value).toArray RX11 := C
  have hx := C.1.1
  have hb := C.1.2.1
  have hown := C.1.2.2.2.1
  have hts := C.1.2.2.2.2
  have B : hp_B Γ (cw w_X11_tellByte) s α α s.heap [] := ⟨B0.1, B0.2.1, cw_rf g⟩
  have lit0 : (0 : Int32).toInt = 0 := by decide
  have lit1 : (1 : Int32).toInt = 1 := by decide
  have lit256 : (256 : Int32).toInt = 256 := by decide
  have hl := lv_entry ([.ref a0, .int a1]) (n := 2) (Nat.le_of_ble_eq_true rfl)
  show W p l e (hp_rm 0 0 0) s m ([.ref a0, .int a1] : List Value).toArray below meth c s.heap [] 0 0 (MQ below (hp_Qv Γ (fun β => cw w_X11_tellByte α β)) ([.ref a0, .int a1] : List Value).toArray s 0 0 (hp_A Γ)) (entryFrame m ([.ref a0, .int a1] : List Value).toArray 2)
  rw [lg_entry_eq]
  generalize (lg_sl ([.ref a0, .int a1]) ++ List.replicate (2 - (lg_sl ([.ref a0, .int a1])).length) Slot.unset).toArray = ls at hl ⊢
  have hl : lv_has ls 2 [(0, .ref a0), (1, .int a1)] := hl
  refine lv_aload_n hx hb dX11_tellByte_0 rfl (lv_at hl 0 rfl) (hp_n (n := 1) rfl ?_)
  refine q_geti (κ := 12) (k := 11) (φ := 611) (pc' := 4) C B (cw_k B.2.2 k0) fl_X11_56 rfl rfl rfl dX11_tellByte_1 rfl (fun x_1 ex_1 => ?_)
  refine lv_if_lt (tgt := 40) hx hb dX11_tellByte_4 (by decide) (fun c_2 => ?_) (fun c_2 => hp_n (n := 7) rfl ?_)
  ·
    have jc_2 := il_lt c_2
    exact q_vret C B hr hlk B.2.2 dX11_tellByte_40
  ·
    have jc_2 := il_nlt c_2
    refine lv_aload_n hx hb dX11_tellByte_7 rfl (lv_at hl 0 rfl) (hp_n (n := 8) rfl ?_)
    refine q_getj (κ := 12) (k := 11) (φ := 611) (pc' := 11) C B (cw_k B.2.2 k0) fl_X11_56 rfl rfl rfl ex_1 dX11_tellByte_8 rfl ?_
    refine lv_aload_n hx hb dX11_tellByte_11 rfl (lv_at hl 0 rfl) (hp_n (n := 12) rfl ?_)
    refine q_getr (κ := 12) (k := 10) (φ := 610) (pc' := 15) C B (cw_k B.2.2 k0) fl_X11_53 rfl rfl rfl (cw_r B.2.2 k0 rfl rfl (by decide) (by decide)) dX11_tellByte_12 rfl (fun b_3 eb_3 kb_3 => ?_)
    refine q_alen (κ := 25) (t := 1) (n := 256) (x := 256) (ty := .byte) (pc' := 16) C B (cw_k B.2.2 kb_3) (by decide) rfl rfl rfl dX11_tellByte_15 rfl ?_
    refine lv_icmp_ge (tgt := 40) hx hb dX11_tellByte_16 (by decide) (fun c_4 => ?_) (fun c_4 => hp_n (n := 19) rfl ?_)
    ·
      have jc_4 := il_le c_4
      exact q_vret C B hr hlk B.2.2 dX11_tellByte_40
    ·
      have jc_4 := il_nle c_4
      refine lv_aload_n hx hb dX11_tellByte_19 rfl (lv_at hl 0 rfl) (hp_n (n := 20) rfl ?_)
      refine q_gets (κ := 12) (k := 10) (φ := 610) (pc' := 23) C B (cw_k B.2.2 k0) fl_X11_53 rfl rfl rfl eb_3 dX11_tellByte_20 rfl ?_
      refine lv_aload_n hx hb dX11_tellByte_23 rfl (lv_at hl 0 rfl) (hp_n (n := 24) rfl ?_)
      refine q_getj (κ := 12) (k := 11) (φ := 611) (pc' := 27) C B (cw_k B.2.2 k0) fl_X11_56 rfl rfl rfl ex_1 dX11_tellByte_24 rfl ?_
      refine lv_iload_n hx hb dX11_tellByte_27 rfl (lv_at hl 1 rfl) (hp_n (n := 28) rfl ?_)
      refine lv_i2b hx hb dX11_tellByte_28 rfl (hp_n (n := 29) rfl (lv_topi (fun x_5 ex_5 => ?_)))
      refine q_bas (κ := 25) (n := 256) (pc' := 30) C B (cw_k B.2.2 kb_3) (by decide) rfl (vi_of (by omega) (by omega)) rfl rfl (cw_sE B.2.2 (by decide)) dX11_tellByte_29 rfl (fun αh_6 Hh_6 Lh_6 eh_6 Bh_6 => ?_)
      refine lv_aload_n hx hb dX11_tellByte_30 rfl (lv_at hl 0 rfl) (hp_n (n := 31) rfl ?_)
      refine lv_dup hx hb dX11_tellByte_31 rfl (hp_n (n := 32) rfl ?_)
      have t_7 : x_1 = hp_I αh_6 611 a0 := by rw [eh_6]; exact ex_1
      refine q_getj (κ := 12) (k := 11) (φ := 611) (pc' := 35) C Bh_6 (cw_k Bh_6.2.2 k0) fl_X11_56 rfl rfl rfl t_7 dX11_tellByte_32 rfl ?_
      refine lv_iconst (v := 1) hx hb dX11_tellByte_35 (by decide) (hp_n (n := 36) rfl ?_)
      refine lv_iadd hx hb dX11_tellByte_36 (hp_n (n := 37) rfl (lv_topi (fun x_8 ex_8 => ?_)))
      have qx_8 : x_8.toInt = x_1.toInt + 1 := by have qa := ib_lo x_1; rw [ex_8]; exact ii_add (by omega) (by omega)
      refine q_puti (κ := 12) (k := 11) (φ := 611) (pc' := 40) C Bh_6 (cw_k Bh_6.2.2 k0) fl_X11_56 rfl rfl rfl rfl rfl rfl (cw_sI Bh_6.2.2 (by decide) (fun h => absurd h (by decide))) dX11_tellByte_37 rfl (fun αh_9 Hh_9 Lh_9 eh_9 Bh_9 => ?_)
      exact q_vret C Bh_9 hr hlk Bh_9.2.2 dX11_tellByte_40
abbrev w_X11_tellText : cw_W := ([611], [], [25], [])
set_option maxRecDepth 100000 in
set_option maxHeartbeats 4000000 in
theorem t_X11_tellText (Γ : hp_G) (l : Launch) (α : hp_T) (g : GC α) (a0 : Nat) (k0 : hp_K α a0 = 12) (i1 : Nat) (h1 : i1 < 21) : Met l yX11_tellText (hp_ws yX11_tellText cX11_tellText 3 none) (hp_rm 4 0 0) (hp_Pc Γ α [.ref a0, .ref (Γ.2.2.2.2.1 i1)]) (hp_Qv Γ (fun β => cw w_X11_tellText α β)) 0 0 (hp_A Γ) := by
  refine hp_start (by decide) ?_
  intro p e s m below meth c C hr hlk B0 hnm
  have C : hp_C Γ p m c cX11_tellText 3 s ([.ref a0, .ref (Γ.2.2.2.2.1 i1)] : List Value).toArray RX11 := C
  have hx := C.1.1
  have hb := C.1.2.1
  have hown := C.1.2.2.2.1
  have hts := C.1.2.2.2.2
  have B : hp_B Γ (cw w_X11_tellText) s α α s.heap [] := ⟨B0.1, B0.2.1, cw_rf g⟩
  have lit0 : (0 : Int32).toInt = 0 := by decide
  have lit1 : (1 : Int32).toInt = 1 := by decide
  have hl := lv_entry ([.ref a0, .ref (Γ.2.2.2.2.1 i1)]) (n := 3) (Nat.le_of_ble_eq_true rfl)
  show W p l e (hp_rm 4 0 0) s m ([.ref a0, .ref (Γ.2.2.2.2.1 i1)] : List Value).toArray below meth c s.heap [] 0 0 (MQ below (hp_Qv Γ (fun β => cw w_X11_tellText α β)) ([.ref a0, .ref (Γ.2.2.2.2.1 i1)] : List Value).toArray s 0 0 (hp_A Γ)) (entryFrame m ([.ref a0, .ref (Γ.2.2.2.2.1 i1)] : List Value).toArray 3)
  rw [lg_entry_eq]
  generalize (lg_sl ([.ref a0, .ref (Γ.2.2.2.2.1 i1)]) ++ List.replicate (3 - (lg_sl ([.ref a0, .ref (Γ.2.2.2.2.1 i1)])).length) Slot.unset).toArray = ls at hl ⊢
  have hl : lv_has ls 3 [(0, .ref a0), (1, .ref (Γ.2.2.2.2.1 i1))] := hl
  refine lv_iconst (v := 0) hx hb dX11_tellText_0 (by decide) (hp_n (n := 1) rfl ?_)
  have J2 : ∀ (nq : Nat) (αh_1 : hp_T) (Hh_1 : Heap) (Lh_1 : List Loc) (Bh_1 : hp_B Γ (cw w_X11_tellText) s α αh_1 Hh_1 Lh_1) (v2_h_1 : Int32) (ih_1_0 : 0 ≤ v2_h_1.toInt) (ls : Array Slot) (hl : lv_has ls 3 [(0, .ref a0), (1, .ref (Γ.2.2.2.2.1 i1)), (2, .int v2_h_1)]) (hmu2 : (2147483647 - v2_h_1.toInt).toNat = nq), W p l e (hp_rm 4 0 0) s m ([.ref a0, .ref (Γ.2.2.2.2.1 i1)] : List Value).toArray below meth c Hh_1 Lh_1 0 0 (MQ below (hp_Qv Γ (fun β => cw w_X11_tellText α β)) ([.ref a0, .ref (Γ.2.2.2.2.1 i1)] : List Value).toArray s 0 0 (hp_A Γ)) (F0 m 2 ls []) := by
    intro nq
    induction nq using Nat.strongRecOn with
    | ind nq ih2 =>
    intro αh_1 Hh_1 Lh_1 Bh_1 v2_h_1 ih_1_0 ls hl hmu2
    have inv2_0 := ih_1_0
    refine lv_iload_n hx hb dX11_tellText_2 rfl (lv_at hl 2 rfl) (hp_n (n := 3) rfl ?_)
    refine lv_aload_n hx hb dX11_tellText_3 rfl (lv_at hl 1 rfl) (hp_n (n := 4) rfl ?_)
    refine q_ci (pc' := 7) Bh_1 (hp_runT (i := i1) (As := []) (rest := [.int v2_h_1]) C B0.1 Bh_1 h1 (t_J0_length_8abf5 Γ l αh_1 i1 h1) lb_J0_length_8abf5 li_J0_length_8abf5 sx_J0_length_8abf5 rfl lk_X11_485 rfl (by decide) rfl hl.1 rfl (Nat.le_of_ble_eq_true rfl) dX11_tellText_4 ⟨Nat.le_refl _, Nat.le_refl _⟩) (fun _ _ h => by rw [h.1]; exact Bh_1.2.2) rfl (fun rh_2 αh_2 Hh_2 Lh_2 ph_2 Bh_2 => ?_)
    rw [ph_2.1] at Bh_2
    have lnh_2 : rh_2.toInt = (hp_len i1).toInt := by rw [ph_2.2]
    refine lv_icmp_ge (tgt := 25) hx hb dX11_tellText_7 (by decide) (fun c_3 => ?_) (fun c_3 => hp_n (n := 10) rfl ?_)
    ·
      have jc_3 := il_le c_3
      exact q_vret C Bh_2 hr hlk Bh_2.2.2 dX11_tellText_25
    ·
      have jc_3 := il_nle c_3
      refine lv_aload_n hx hb dX11_tellText_10 rfl (lv_at hl 0 rfl) (hp_n (n := 11) rfl ?_)
      refine lv_aload_n hx hb dX11_tellText_11 rfl (lv_at hl 1 rfl) (hp_n (n := 12) rfl ?_)
      refine lv_iload_n hx hb dX11_tellText_12 rfl (lv_at hl 2 rfl) (hp_n (n := 13) rfl ?_)
      refine q_ci (pc' := 16) Bh_2 (hp_runT (i := i1) (As := [.int v2_h_1]) (rest := [.ref a0]) C B0.1 Bh_2 h1 (t_J0_charAt_5068e Γ l αh_1 i1 h1 v2_h_1 (by omega) (by omega)) lb_J0_charAt_5068e li_J0_charAt_5068e sx_J0_charAt_5068e rfl lk_X11_489 rfl (by decide) rfl hl.1 rfl (Nat.le_of_ble_eq_true rfl) dX11_tellText_13 ⟨Nat.le_refl _, Nat.le_refl _⟩) (fun _ _ h => by rw [h.1]; exact Bh_2.2.2) rfl (fun rh_4 αh_4 Hh_4 Lh_4 ph_4 Bh_4 => ?_)
      rw [ph_4.1] at Bh_4
      refine q_cv (pc' := 19) Bh_4 (hp_runV (As := [.int rh_4]) (rest := []) C Bh_4 (t_X11_tellByte Γ l αh_1 Bh_4.2.2.1 a0 (cw_k Bh_4.2.2 k0) rh_4) lb_X11_tellByte lv_X11_tellByte lk_X11_493 (cw_k Bh_4.2.2 k0) rfl (by decide) rfl hl.1 rfl (Nat.le_of_ble_eq_true rfl) dX11_tellText_16 ⟨Nat.le_refl _, Nat.le_refl _⟩) (fun _ h => cw_tr Bh_4.2.2 h (by decide)) rfl (fun αh_5 Hh_5 Lh_5 ph_5 Bh_5 => ?_)
      obtain ⟨x_6, ex_6⟩ : ∃ y : Int32, y = v2_h_1 + 1 := ⟨_, rfl⟩
      have qx_6 : x_6.toInt = v2_h_1.toInt + 1 := by have q0 := ib_hi rh_2; have qa := ib_lo v2_h_1; rw [ex_6]; exact ii_add (by omega) (by omega)
      refine lv_iinc (v := x_6) (lv' := [(2, .int x_6), (0, .ref a0), (1, .ref (Γ.2.2.2.2.1 i1))]) hx hb dX11_tellText_19 hl (k := 2) rfl (by rw [ex_6]; rfl) (by decide) rfl (fun ls hl => hp_n (n := 22) rfl ?_)
      refine lv_goto (tgt := 2) hx hb dX11_tellText_22 (by decide) ?_
      exact ih2 _ (by have q0 := ib_hi rh_2; have q1 := ib_lo rh_2; have qa := ib_hi v2_h_1; have qb := ib_lo v2_h_1; have qc : (v2_h_1 + 1).toInt = v2_h_1.toInt + (1 : Int32).toInt := ii_add (by omega) (by omega); rw [ex_6]; omega) αh_5 Hh_5 Lh_5 Bh_5 x_6 (by omega) ls (lv_sub hl [1, 2, 0] rfl) rfl
  refine lv_istore_n (lv' := [(2, .int 0), (0, .ref a0), (1, .ref (Γ.2.2.2.2.1 i1))]) hx hb dX11_tellText_1 rfl hl (by decide) rfl (fun ls hl => hp_n (n := 2) rfl ?_)
  exact J2 _ α s.heap [] B 0 (by omega) ls (lv_sub hl [1, 2, 0] rfl) rfl
abbrev w_X11_tellNumber : cw_W := ([611], [], [25], [])
set_option maxRecDepth 100000 in
set_option maxHeartbeats 4000000 in
theorem t_X11_tellNumber (Γ : hp_G) (l : Launch) (α : hp_T) (g : GC α) (a0 : Nat) (k0 : hp_K α a0 = 12) (a1 : Int32) : Met l yX11_tellNumber (hp_ws yX11_tellNumber cX11_tellNumber 4 none) (hp_rm 1 0 0) (hp_Pc Γ α [.ref a0, .int a1]) (hp_Qv Γ (fun β => cw w_X11_tellNumber α β)) 0 0 (hp_A Γ) := by
  refine hp_start (by decide) ?_
  intro p e s m below meth c C hr hlk B0 hnm
  have C : hp_C Γ p m c cX11_tellNumber 4 s ([.ref a0, .int a1] : List Value).toArray RX11 := C
  have hx := C.1.1
  have hb := C.1.2.1
  have hown := C.1.2.2.2.1
  have hts := C.1.2.2.2.2
  have B : hp_B Γ (cw w_X11_tellNumber) s α α s.heap [] := ⟨B0.1, B0.2.1, cw_rf g⟩
  have lit0 : (0 : Int32).toInt = 0 := by decide
  have lit1 : (1 : Int32).toInt = 1 := by decide
  have lit8 : (8 : Int32).toInt = 8 := by decide
  have lit10 : (10 : Int32).toInt = 10 := by decide
  have lit48 : (48 : Int32).toInt = 48 := by decide
  have hl := lv_entry ([.ref a0, .int a1]) (n := 4) (Nat.le_of_ble_eq_true rfl)
  show W p l e (hp_rm 1 0 0) s m ([.ref a0, .int a1] : List Value).toArray below meth c s.heap [] 0 0 (MQ below (hp_Qv Γ (fun β => cw w_X11_tellNumber α β)) ([.ref a0, .int a1] : List Value).toArray s 0 0 (hp_A Γ)) (entryFrame m ([.ref a0, .int a1] : List Value).toArray 4)
  rw [lg_entry_eq]
  generalize (lg_sl ([.ref a0, .int a1]) ++ List.replicate (4 - (lg_sl ([.ref a0, .int a1])).length) Slot.unset).toArray = ls at hl ⊢
  have hl : lv_has ls 4 [(0, .ref a0), (1, .int a1)] := hl
  refine lv_iconst (v := 1) hx hb dX11_tellNumber_0 (by decide) (hp_n (n := 1) rfl ?_)
  refine lv_istore_n (lv' := [(2, .int 1), (0, .ref a0), (1, .int a1)]) hx hb dX11_tellNumber_1 rfl hl (by decide) rfl (fun ls hl => hp_n (n := 2) rfl ?_)
  refine lv_iconst (v := 0) hx hb dX11_tellNumber_2 (by decide) (hp_n (n := 3) rfl ?_)
  have J4 : ∀ (nq : Nat) (Hh_1 : Heap) (Lh_1 : List Loc) (Bh_1 : hp_B Γ (cw w_X11_tellNumber) s α α Hh_1 Lh_1) (v2_h_1 : Int32) (v3_h_1 : Int32) (ih_1_0 : 0 ≤ v3_h_1.toInt) (ls : Array Slot) (hl : lv_has ls 4 [(0, .ref a0), (1, .int a1), (2, .int v2_h_1), (3, .int v3_h_1)]) (hmu4 : (2147483647 - v3_h_1.toInt).toNat = nq), W p l e (hp_rm 1 0 0) s m ([.ref a0, .int a1] : List Value).toArray below meth c Hh_1 Lh_1 0 0 (MQ below (hp_Qv Γ (fun β => cw w_X11_tellNumber α β)) ([.ref a0, .int a1] : List Value).toArray s 0 0 (hp_A Γ)) (F0 m 4 ls []) := by
    intro nq
    induction nq using Nat.strongRecOn with
    | ind nq ih4 =>
    intro Hh_1 Lh_1 Bh_1 v2_h_1 v3_h_1 ih_1_0 ls hl hmu4
    have inv4_0 := ih_1_0
    refine lv_iload_n hx hb dX11_tellNumber_4 rfl (lv_at hl 3 rfl) (hp_n (n := 5) rfl ?_)
    refine lv_bipush (v := 8) hx hb dX11_tellNumber_5 (by decide) (hp_n (n := 7) rfl ?_)
    have J29 : ∀ (nq : Nat) (αh_2 : hp_T) (Hh_2 : Heap) (Lh_2 : List Loc) (Bh_2 : hp_B Γ (cw w_X11_tellNumber) s α αh_2 Hh_2 Lh_2) (v2_h_2 : Int32) (ls : Array Slot) (hl : lv_has ls 4 [(0, .ref a0), (1, .int a1), (2, .int v2_h_2)]) (hmu29 : v2_h_2.toInt.toNat = nq), W p l e (hp_rm 1 0 0) s m ([.ref a0, .int a1] : List Value).toArray below meth c Hh_2 Lh_2 0 0 (MQ below (hp_Qv Γ (fun β => cw w_X11_tellNumber α β)) ([.ref a0, .int a1] : List Value).toArray s 0 0 (hp_A Γ)) (F0 m 29 ls []) := by
      intro nq
      induction nq using Nat.strongRecOn with
      | ind nq ih29 =>
      intro αh_2 Hh_2 Lh_2 Bh_2 v2_h_2 ls hl hmu29
      refine lv_iload_n hx hb dX11_tellNumber_29 rfl (lv_at hl 2 rfl) (hp_n (n := 30) rfl ?_)
      refine lv_if_le (tgt := 54) hx hb dX11_tellNumber_30 (by decide) (fun c_3 => ?_) (fun c_3 => hp_n (n := 33) rfl ?_)
      ·
        have jc_3 := il_le c_3
        exact q_vret C Bh_2 hr hlk Bh_2.2.2 dX11_tellNumber_54
      ·
        have jc_3 := il_nle c_3
        refine lv_aload_n hx hb dX11_tellNumber_33 rfl (lv_at hl 0 rfl) (hp_n (n := 34) rfl ?_)
        refine lv_bipush (v := 48) hx hb dX11_tellNumber_34 (by decide) (hp_n (n := 36) rfl ?_)
        refine lv_iload_n hx hb dX11_tellNumber_36 rfl (lv_at hl 1 rfl) (hp_n (n := 37) rfl ?_)
        refine lv_iload_n hx hb dX11_tellNumber_37 rfl (lv_at hl 2 rfl) (hp_n (n := 38) rfl ?_)
        refine lv_idiv hx hb dX11_tellNumber_38 (by intro hz; have hz := il_eq hz; omega) (hp_n (n := 39) rfl (lv_topi (fun x_4 ex_4 => ?_)))
        refine lv_bipush (v := 10) hx hb dX11_tellNumber_39 (by decide) (hp_n (n := 41) rfl ?_)
        refine lv_irem hx hb dX11_tellNumber_41 (by decide) (hp_n (n := 42) rfl (lv_topi (fun x_5 ex_5 => ?_)))
        refine lv_iadd hx hb dX11_tellNumber_42 (hp_n (n := 43) rfl (lv_topi (fun x_6 ex_6 => ?_)))
        refine q_cv (pc' := 46) Bh_2 (hp_runV (As := [.int x_6]) (rest := []) C Bh_2 (t_X11_tellByte Γ l αh_2 Bh_2.2.2.1 a0 (cw_k Bh_2.2.2 k0) x_6) lb_X11_tellByte lv_X11_tellByte lk_X11_493 (cw_k Bh_2.2.2 k0) rfl (by decide) rfl hl.1 rfl (Nat.le_of_ble_eq_true rfl) dX11_tellNumber_43 ⟨Nat.le_refl _, Nat.le_refl _⟩) (fun _ h => cw_tr Bh_2.2.2 h (by decide)) rfl (fun αh_7 Hh_7 Lh_7 ph_7 Bh_7 => ?_)
        refine lv_iload_n hx hb dX11_tellNumber_46 rfl (lv_at hl 2 rfl) (hp_n (n := 47) rfl ?_)
        refine lv_bipush (v := 10) hx hb dX11_tellNumber_47 (by decide) (hp_n (n := 49) rfl ?_)
        refine lv_idiv hx hb dX11_tellNumber_49 (by decide) (hp_n (n := 50) rfl (lv_topi (fun x_8 ex_8 => ?_)))
        refine lv_istore_n (lv' := [(2, .int x_8), (0, .ref a0), (1, .int a1)]) hx hb dX11_tellNumber_50 rfl hl (by decide) rfl (fun ls hl => hp_n (n := 51) rfl ?_)
        refine lv_goto (tgt := 29) hx hb dX11_tellNumber_51 (by decide) ?_
        exact ih29 _ (by rw [ex_8]; have q1 := id_lt10 (x := v2_h_2) (by omega); omega) αh_7 Hh_7 Lh_7 Bh_7 x_8 ls (lv_sub hl [1, 2, 0] rfl) rfl
    refine lv_icmp_ge (tgt := 29) hx hb dX11_tellNumber_7 (by decide) (fun c_9 => ?_) (fun c_9 => hp_n (n := 10) rfl ?_)
    ·
      have jc_9 := il_le c_9
      exact J29 _ α Hh_1 Lh_1 Bh_1 v2_h_1 ls (lv_sub hl [0, 1, 2] rfl) rfl
    ·
      have jc_9 := il_nle c_9
      refine lv_iload_n hx hb dX11_tellNumber_10 rfl (lv_at hl 1 rfl) (hp_n (n := 11) rfl ?_)
      refine lv_bipush (v := 10) hx hb dX11_tellNumber_11 (by decide) (hp_n (n := 13) rfl ?_)
      refine lv_idiv hx hb dX11_tellNumber_13 (by decide) (hp_n (n := 14) rfl (lv_topi (fun x_10 ex_10 => ?_)))
      refine lv_iload_n hx hb dX11_tellNumber_14 rfl (lv_at hl 2 rfl) (hp_n (n := 15) rfl ?_)
      refine lv_icmp_lt (tgt := 29) hx hb dX11_tellNumber_15 (by decide) (fun c_11 => ?_) (fun c_11 => hp_n (n := 18) rfl ?_)
      ·
        have jc_11 := il_lt c_11
        exact J29 _ α Hh_1 Lh_1 Bh_1 v2_h_1 ls (lv_sub hl [0, 1, 2] rfl) rfl
      ·
        have jc_11 := il_nlt c_11
        refine lv_iload_n hx hb dX11_tellNumber_18 rfl (lv_at hl 2 rfl) (hp_n (n := 19) rfl ?_)
        refine lv_bipush (v := 10) hx hb dX11_tellNumber_19 (by decide) (hp_n (n := 21) rfl ?_)
        refine lv_imul hx hb dX11_tellNumber_21 (hp_n (n := 22) rfl (lv_topi (fun x_12 ex_12 => ?_)))
        refine lv_istore_n (lv' := [(2, .int x_12), (0, .ref a0), (1, .int a1), (3, .int v3_h_1)]) hx hb dX11_tellNumber_22 rfl hl (by decide) rfl (fun ls hl => hp_n (n := 23) rfl ?_)
        obtain ⟨x_13, ex_13⟩ : ∃ y : Int32, y = v3_h_1 + 1 := ⟨_, rfl⟩
        have qx_13 : x_13.toInt = v3_h_1.toInt + 1 := by have qa := ib_lo v3_h_1; rw [ex_13]; exact ii_add (by omega) (by omega)
        refine lv_iinc (v := x_13) (lv' := [(3, .int x_13), (2, .int x_12), (0, .ref a0), (1, .int a1)]) hx hb dX11_tellNumber_23 hl (k := 3) rfl (by rw [ex_13]; rfl) (by decide) rfl (fun ls hl => hp_n (n := 26) rfl ?_)
        refine lv_goto (tgt := 4) hx hb dX11_tellNumber_26 (by decide) ?_
        exact ih4 _ (by have qa := ib_hi v3_h_1; have qb := ib_lo v3_h_1; have qc : (v3_h_1 + 1).toInt = v3_h_1.toInt + (1 : Int32).toInt := ii_add (by omega) (by omega); rw [ex_13]; omega) Hh_1 Lh_1 Bh_1 x_12 x_13 (by omega) ls (lv_sub hl [2, 3, 1, 0] rfl) rfl
  refine lv_istore_n (lv' := [(3, .int 0), (2, .int 1), (0, .ref a0), (1, .int a1)]) hx hb dX11_tellNumber_3 rfl hl (by decide) rfl (fun ls hl => hp_n (n := 4) rfl ?_)
  exact J4 _ s.heap [] B 1 0 (by omega) ls (lv_sub hl [2, 3, 1, 0] rfl) rfl
abbrev w_X11_tellProof : cw_W := ([611], [], [25], [])
set_option maxRecDepth 100000 in
set_option maxHeartbeats 4000000 in
theorem t_X11_tellProof (Γ : hp_G) (l : Launch) (α : hp_T) (g : GC α) (a0 : Nat) (k0 : hp_K α a0 = 12) : Met l yX11_tellProof (hp_ws yX11_tellProof cX11_tellProof 2 none) (hp_rm 5 0 0) (hp_Pc Γ α [.ref a0]) (hp_Qv Γ (fun β => cw w_X11_tellProof α β)) 0 0 (hp_A Γ) := by
  refine hp_start (by decide) ?_
  intro p e s m below meth c C hr hlk B0 hnm
  have C : hp_C Γ p m c cX11_tellProof 2 s ([.ref a0] : List Value).toArray RX11 := C
  have hx := C.1.1
  have hb := C.1.2.1
  have hown := C.1.2.2.2.1
  have hts := C.1.2.2.2.2
  have B : hp_B Γ (cw w_X11_tellProof) s α α s.heap [] := ⟨B0.1, B0.2.1, cw_rf g⟩
  have lit0 : (0 : Int32).toInt = 0 := by decide
  have lit1 : (1 : Int32).toInt = 1 := by decide
  have hl := lv_entry ([.ref a0]) (n := 2) (Nat.le_of_ble_eq_true rfl)
  show W p l e (hp_rm 5 0 0) s m ([.ref a0] : List Value).toArray below meth c s.heap [] 0 0 (MQ below (hp_Qv Γ (fun β => cw w_X11_tellProof α β)) ([.ref a0] : List Value).toArray s 0 0 (hp_A Γ)) (entryFrame m ([.ref a0] : List Value).toArray 2)
  rw [lg_entry_eq]
  generalize (lg_sl ([.ref a0]) ++ List.replicate (2 - (lg_sl ([.ref a0])).length) Slot.unset).toArray = ls at hl ⊢
  have hl : lv_has ls 2 [(0, .ref a0)] := hl
  refine lv_aload_n hx hb dX11_tellProof_0 rfl (lv_at hl 0 rfl) (hp_n (n := 1) rfl ?_)
  refine st_ldcw hx hb hown (sr_X11_496 C.2) dX11_tellProof_1 (hp_n (n := 4) rfl ?_)
  refine q_cv (pc' := 7) B (hp_runV (As := [.ref (Γ.2.2.2.2.1 1)]) (rest := []) C B (t_X11_tellText Γ l α B.2.2.1 a0 (cw_k B.2.2 k0) 1 (by decide)) lb_X11_tellText lv_X11_tellText lk_X11_411 (cw_k B.2.2 k0) rfl (by decide) rfl hl.1 rfl (Nat.le_of_ble_eq_true rfl) dX11_tellProof_4 ⟨Nat.le_refl _, Nat.le_refl _⟩) (fun _ h => cw_tr B.2.2 h (by decide)) rfl (fun αh_1 Hh_1 Lh_1 ph_1 Bh_1 => ?_)
  refine lv_iconst (v := 0) hx hb dX11_tellProof_7 (by decide) (hp_n (n := 8) rfl ?_)
  have J9 : ∀ (nq : Nat) (αh_2 : hp_T) (Hh_2 : Heap) (Lh_2 : List Loc) (Bh_2 : hp_B Γ (cw w_X11_tellProof) s α αh_2 Hh_2 Lh_2) (v1_h_2 : Int32) (ih_2_0 : 0 ≤ v1_h_2.toInt) (ls : Array Slot) (hl : lv_has ls 2 [(0, .ref a0), (1, .int v1_h_2)]) (hmu9 : (2147483647 - v1_h_2.toInt).toNat = nq), W p l e (hp_rm 5 0 0) s m ([.ref a0] : List Value).toArray below meth c Hh_2 Lh_2 0 0 (MQ below (hp_Qv Γ (fun β => cw w_X11_tellProof α β)) ([.ref a0] : List Value).toArray s 0 0 (hp_A Γ)) (F0 m 9 ls []) := by
    intro nq
    induction nq using Nat.strongRecOn with
    | ind nq ih9 =>
    intro αh_2 Hh_2 Lh_2 Bh_2 v1_h_2 ih_2_0 ls hl hmu9
    have inv9_0 := ih_2_0
    refine lv_iload_n hx hb dX11_tellProof_9 rfl (lv_at hl 1 rfl) (hp_n (n := 10) rfl ?_)
    refine lv_aload_n hx hb dX11_tellProof_10 rfl (lv_at hl 0 rfl) (hp_n (n := 11) rfl ?_)
    refine q_getr (κ := 12) (k := 14) (φ := 614) (pc' := 14) C Bh_2 (cw_k Bh_2.2.2 k0) fl_X11_69 rfl rfl rfl (cw_r Bh_2.2.2 k0 rfl rfl (by decide) (by decide)) dX11_tellProof_11 rfl (fun b_3 eb_3 kb_3 => ?_)
    refine q_geti (κ := 6) (k := 1) (φ := 301) (pc' := 17) C Bh_2 (cw_k Bh_2.2.2 kb_3) fl_X11_132 rfl rfl rfl dX11_tellProof_14 rfl (fun x_4 ex_4 => ?_)
    refine lv_icmp_ge (tgt := 45) hx hb dX11_tellProof_17 (by decide) (fun c_5 => ?_) (fun c_5 => hp_n (n := 20) rfl ?_)
    ·
      have jc_5 := il_le c_5
      refine lv_aload_n hx hb dX11_tellProof_45 rfl (lv_at hl 0 rfl) (hp_n (n := 46) rfl ?_)
      refine st_ldcw hx hb hown (sr_X11_500 C.2) dX11_tellProof_46 (hp_n (n := 49) rfl ?_)
      refine q_cv (pc' := 52) Bh_2 (hp_runV (As := [.ref (Γ.2.2.2.2.1 6)]) (rest := []) C Bh_2 (t_X11_tellText Γ l αh_2 Bh_2.2.2.1 a0 (cw_k Bh_2.2.2 k0) 6 (by decide)) lb_X11_tellText lv_X11_tellText lk_X11_411 (cw_k Bh_2.2.2 k0) rfl (by decide) rfl hl.1 rfl (Nat.le_of_ble_eq_true rfl) dX11_tellProof_49 ⟨Nat.le_refl _, Nat.le_refl _⟩) (fun _ h => cw_tr Bh_2.2.2 h (by decide)) rfl (fun αh_6 Hh_6 Lh_6 ph_6 Bh_6 => ?_)
      exact q_vret C Bh_6 hr hlk Bh_6.2.2 dX11_tellProof_52
    ·
      have jc_5 := il_nle c_5
      refine lv_aload_n hx hb dX11_tellProof_20 rfl (lv_at hl 0 rfl) (hp_n (n := 21) rfl ?_)
      refine st_ldcw hx hb hown (sr_X11_498 C.2) dX11_tellProof_21 (hp_n (n := 24) rfl ?_)
      refine q_cv (pc' := 27) Bh_2 (hp_runV (As := [.ref (Γ.2.2.2.2.1 0)]) (rest := []) C Bh_2 (t_X11_tellText Γ l αh_2 Bh_2.2.2.1 a0 (cw_k Bh_2.2.2 k0) 0 (by decide)) lb_X11_tellText lv_X11_tellText lk_X11_411 (cw_k Bh_2.2.2 k0) rfl (by decide) rfl hl.1 rfl (Nat.le_of_ble_eq_true rfl) dX11_tellProof_24 ⟨Nat.le_refl _, Nat.le_refl _⟩) (fun _ h => cw_tr Bh_2.2.2 h (by decide)) rfl (fun αh_7 Hh_7 Lh_7 ph_7 Bh_7 => ?_)
      refine lv_aload_n hx hb dX11_tellProof_27 rfl (lv_at hl 0 rfl) (hp_n (n := 28) rfl ?_)
      refine lv_aload_n hx hb dX11_tellProof_28 rfl (lv_at hl 0 rfl) (hp_n (n := 29) rfl ?_)
      have t_8 : b_3 = hp_R αh_7 614 a0 := by rw [cw_R ph_7 a0 (by decide)]; exact eb_3
      refine q_gets (κ := 12) (k := 14) (φ := 614) (pc' := 32) C Bh_7 (cw_k Bh_7.2.2 k0) fl_X11_69 rfl rfl rfl t_8 dX11_tellProof_29 rfl ?_
      refine lv_iload_n hx hb dX11_tellProof_32 rfl (lv_at hl 1 rfl) (hp_n (n := 33) rfl ?_)
      refine q_ci (pc' := 36) Bh_7 (hp_runV (As := [.int v1_h_2]) (rest := [.ref a0]) C Bh_7 (t_X5_at Γ l αh_7 Bh_7.2.2.1 b_3 (cw_k Bh_7.2.2 kb_3) v1_h_2) lb_X5_at lv_X5_at lk_X11_135 (cw_k Bh_7.2.2 kb_3) rfl (by decide) rfl hl.1 rfl (Nat.le_of_ble_eq_true rfl) dX11_tellProof_33 ⟨Nat.le_refl _, Nat.le_refl _⟩) (fun _ _ h => by rw [h]; exact Bh_7.2.2) rfl (fun rh_9 αh_9 Hh_9 Lh_9 ph_9 Bh_9 => ?_)
      rw [ph_9] at Bh_9
      refine q_cv (pc' := 39) Bh_9 (hp_runV (As := [.int rh_9]) (rest := []) C Bh_9 (t_X11_tellNumber Γ l αh_7 Bh_9.2.2.1 a0 (cw_k Bh_9.2.2 k0) rh_9) lb_X11_tellNumber lv_X11_tellNumber lk_X11_415 (cw_k Bh_9.2.2 k0) rfl (by decide) rfl hl.1 rfl (Nat.le_of_ble_eq_true rfl) dX11_tellProof_36 ⟨Nat.le_refl _, Nat.le_refl _⟩) (fun _ h => cw_tr Bh_9.2.2 h (by decide)) rfl (fun αh_10 Hh_10 Lh_10 ph_10 Bh_10 => ?_)
      obtain ⟨x_11, ex_11⟩ : ∃ y : Int32, y = v1_h_2 + 1 := ⟨_, rfl⟩
      have qx_11 : x_11.toInt = v1_h_2.toInt + 1 := by have q0 := ib_hi x_4; have qa := ib_lo v1_h_2; rw [ex_11]; exact ii_add (by omega) (by omega)
      refine lv_iinc (v := x_11) (lv' := [(1, .int x_11), (0, .ref a0)]) hx hb dX11_tellProof_39 hl (k := 1) rfl (by rw [ex_11]; rfl) (by decide) rfl (fun ls hl => hp_n (n := 42) rfl ?_)
      refine lv_goto (tgt := 9) hx hb dX11_tellProof_42 (by decide) ?_
      exact ih9 _ (by have q0 := ib_hi x_4; have q1 := ib_lo x_4; have qa := ib_hi v1_h_2; have qb := ib_lo v1_h_2; have qc : (v1_h_2 + 1).toInt = v1_h_2.toInt + (1 : Int32).toInt := ii_add (by omega) (by omega); rw [ex_11]; omega) αh_10 Hh_10 Lh_10 Bh_10 x_11 (by omega) ls (lv_sub hl [1, 0] rfl) rfl
  refine lv_istore_n (lv' := [(1, .int 0), (0, .ref a0)]) hx hb dX11_tellProof_8 rfl hl (by decide) rfl (fun ls hl => hp_n (n := 9) rfl ?_)
  exact J9 _ αh_1 Hh_1 Lh_1 Bh_1 0 (by omega) ls (lv_sub hl [1, 0] rfl) rfl
abbrev w_X11_tell : cw_W := ([301, 453, 454, 600, 611], [], [20, 21, 22, 23, 25, 33], [])
set_option maxRecDepth 100000 in
set_option maxHeartbeats 4000000 in
theorem t_X11_tell (Γ : hp_G) (l : Launch) (α : hp_T) (g : GC α) (a0 : Nat) (k0 : hp_K α a0 = 12) (a1 : Int32) (a2 : Int32) (a3 : Int32) : Met l yX11_tell (hp_ws yX11_tell cX11_tell 6 (some .int)) (hp_rm 6 0 0) (hp_Pc Γ α [.ref a0, .int a1, .int a2, .int a3]) (hp_Qi Γ (fun r β => cw w_X11_tell α β)) 0 0 (hp_A Γ) := by
  refine hp_start (by decide) ?_
  intro p e s m below meth c C hr hlk B0 hnm
  have C : hp_C Γ p m c cX11_tell 6 s ([.ref a0, .int a1, .int a2, .int a3] : List Value).toArray RX11 := C
  have hx := C.1.1
  have hb := C.1.2.1
  have hown := C.1.2.2.2.1
  have hts := C.1.2.2.2.2
  have B : hp_B Γ (cw w_X11_tell) s α α s.heap [] := ⟨B0.1, B0.2.1, cw_rf g⟩
  have lit0 : (0 : Int32).toInt = 0 := by decide
  have hl := lv_entry ([.ref a0, .int a1, .int a2, .int a3]) (n := 6) (Nat.le_of_ble_eq_true rfl)
  show W p l e (hp_rm 6 0 0) s m ([.ref a0, .int a1, .int a2, .int a3] : List Value).toArray below meth c s.heap [] 0 0 (MQ below (hp_Qi Γ (fun r β => cw w_X11_tell α β)) ([.ref a0, .int a1, .int a2, .int a3] : List Value).toArray s 0 0 (hp_A Γ)) (entryFrame m ([.ref a0, .int a1, .int a2, .int a3] : List Value).toArray 6)
  rw [lg_entry_eq]
  generalize (lg_sl ([.ref a0, .int a1, .int a2, .int a3]) ++ List.replicate (6 - (lg_sl ([.ref a0, .int a1, .int a2, .int a3])).length) Slot.unset).toArray = ls at hl ⊢
  have hl : lv_has ls 6 [(0, .ref a0), (1, .int a1), (2, .int a2), (3, .int a3)] := hl
  refine lv_aload_n hx hb dX11_tell_0 rfl (lv_at hl 0 rfl) (hp_n (n := 1) rfl ?_)
  refine q_getr (κ := 12) (k := 1) (φ := 601) (pc' := 4) C B (cw_k B.2.2 k0) fl_X11_16 rfl rfl rfl (cw_r B.2.2 k0 rfl rfl (by decide) (by decide)) dX11_tell_1 rfl (fun b_1 eb_1 kb_1 => ?_)
  refine lv_iload_n hx hb dX11_tell_4 rfl (lv_at hl 1 rfl) (hp_n (n := 5) rfl ?_)
  refine q_cq (pc' := 8) B (hp_runV (As := [.int a1]) (rest := []) C B (t_X10_logAt Γ l α B.2.2.1 b_1 (cw_k B.2.2 kb_1) a1) lb_X10_logAt lv_X10_logAt lk_X11_163 (cw_k B.2.2 kb_1) rfl (by decide) rfl hl.1 rfl (Nat.le_of_ble_eq_true rfl) dX11_tell_5 ⟨Nat.le_refl _, Nat.le_refl _⟩) (fun _ _ h => by rw [h.1]; exact B.2.2) rfl (fun rh_2 αh_2 Hh_2 Lh_2 ph_2 Bh_2 => ?_)
  rw [ph_2.1] at Bh_2
  rcases rh_2 with _ | bh_2
  ·
    refine lv_astoreN (lv' := [(4, .null), (0, .ref a0), (1, .int a1), (2, .int a2), (3, .int a3)]) hx hb dX11_tell_8 hl (by decide) rfl (fun ls hl => hp_n (n := 10) rfl ?_)
    refine lv_aloadN hx hb dX11_tell_10 (lv_at hl 0 rfl) (hp_n (n := 12) rfl ?_)
    refine lv_iload_n hx hb dX11_tell_12 rfl (lv_at hl 3 rfl) (hp_n (n := 13) rfl ?_)
    refine lv_iload_n hx hb dX11_tell_13 rfl (lv_at hl 4 rfl) (hp_n (n := 14) rfl ?_)
    refine q_ci (pc' := 17) Bh_2 (hp_runS (As := [va_rf none, .int a2, .int a3]) (rest := []) C Bh_2 (t_X11_wrongInclusion Γ l α Bh_2.2.2.1 none (fun b h => by cases h) a2 a3) lb_X11_wrongInclusion ls_X11_wrongInclusion lk_X11_264 rfl (by decide) rfl hl.1 rfl (Nat.le_of_ble_eq_true rfl) dX11_tell_14 ⟨Nat.le_refl _, Nat.le_refl _⟩) (fun _ _ h => by rw [h]; exact Bh_2.2.2) rfl (fun rh_3 αh_3 Hh_3 Lh_3 ph_3 Bh_3 => ?_)
    rw [ph_3] at Bh_3
    refine lv_istore (lv' := [(5, .int rh_3), (4, .null), (0, .ref a0), (1, .int a1), (2, .int a2), (3, .int a3)]) hx hb dX11_tell_17 hl (by decide) rfl (fun ls hl => hp_n (n := 19) rfl ?_)
    refine lv_iload hx hb dX11_tell_19 (lv_at hl 0 rfl) (hp_n (n := 21) rfl ?_)
    have J29 : ∀ (Hh_4 : Heap) (Lh_4 : List Loc) (Bh_4 : hp_B Γ (cw w_X11_tell) s α α Hh_4 Lh_4) (ls : Array Slot) (hl : lv_has ls 6 [(0, .ref a0), (5, .int rh_3)]), W p l e (hp_rm 6 0 0) s m ([.ref a0, .int a1, .int a2, .int a3] : List Value).toArray below meth c Hh_4 Lh_4 0 0 (MQ below (hp_Qi Γ (fun r β => cw w_X11_tell α β)) ([.ref a0, .int a1, .int a2, .int a3] : List Value).toArray s 0 0 (hp_A Γ)) (F0 m 29 ls []) := by
      intro Hh_4 Lh_4 Bh_4 ls hl
      refine lv_aload_n hx hb dX11_tell_29 rfl (lv_at hl 0 rfl) (hp_n (n := 30) rfl ?_)
      refine lv_iload hx hb dX11_tell_30 (lv_at hl 1 rfl) (hp_n (n := 32) rfl ?_)
      refine q_ci (pc' := 35) Bh_4 (hp_runV (As := [.int rh_3]) (rest := []) C Bh_4 (t_X11_refuse Γ l α Bh_4.2.2.1 a0 (cw_k Bh_4.2.2 k0) rh_3) lb_X11_refuse lv_X11_refuse lk_X11_98 (cw_k Bh_4.2.2 k0) rfl (by decide) rfl hl.1 rfl (Nat.le_of_ble_eq_true rfl) dX11_tell_32 ⟨Nat.le_refl _, Nat.le_refl _⟩) (fun _ _ h => cw_tr Bh_4.2.2 h (by decide)) rfl (fun rh_5 αh_5 Hh_5 Lh_5 ph_5 Bh_5 => ?_)
      exact q_iret C Bh_5 hr hlk Bh_5.2.2 dX11_tell_35
    refine lv_if_ne (tgt := 29) hx hb dX11_tell_21 (by decide) (fun c_6 => ?_) (fun c_6 => hp_n (n := 24) rfl ?_)
    ·
      have jc_6 := il_ne c_6
      exact J29 Hh_3 Lh_3 Bh_3 ls (lv_sub hl [2, 0] rfl)
    ·
      have jc_6 := il_eq c_6
      refine lv_aloadN hx hb dX11_tell_24 (lv_at hl 1 rfl) (hp_n (n := 26) rfl ?_)
      refine lv_ifnonnullN hx hb dX11_tell_26 (hp_n (n := 29) rfl ?_)
      exact J29 Hh_3 Lh_3 Bh_3 ls (lv_sub hl [2, 0] rfl)
  ·
    have kbh_2 : hp_K α bh_2 = 3 := cw_k' Bh_2.2.2 (ph_2.2 bh_2 rfl)
    refine lv_astore (lv' := [(4, .ref bh_2), (0, .ref a0), (1, .int a1), (2, .int a2), (3, .int a3)]) hx hb dX11_tell_8 hl (by decide) rfl (fun ls hl => hp_n (n := 10) rfl ?_)
    refine lv_aload hx hb dX11_tell_10 (lv_at hl 0 rfl) (hp_n (n := 12) rfl ?_)
    refine lv_iload_n hx hb dX11_tell_12 rfl (lv_at hl 3 rfl) (hp_n (n := 13) rfl ?_)
    refine lv_iload_n hx hb dX11_tell_13 rfl (lv_at hl 4 rfl) (hp_n (n := 14) rfl ?_)
    refine q_ci (pc' := 17) Bh_2 (hp_runS (As := [va_rf (some bh_2), .int a2, .int a3]) (rest := []) C Bh_2 (t_X11_wrongInclusion Γ l α Bh_2.2.2.1 (some bh_2) (fun b h => by cases h; exact (cw_k Bh_2.2.2 kbh_2)) a2 a3) lb_X11_wrongInclusion ls_X11_wrongInclusion lk_X11_264 rfl (by decide) rfl hl.1 rfl (Nat.le_of_ble_eq_true rfl) dX11_tell_14 ⟨Nat.le_refl _, Nat.le_refl _⟩) (fun _ _ h => by rw [h]; exact Bh_2.2.2) rfl (fun rh_7 αh_7 Hh_7 Lh_7 ph_7 Bh_7 => ?_)
    rw [ph_7] at Bh_7
    refine lv_istore (lv' := [(5, .int rh_7), (4, .ref bh_2), (0, .ref a0), (1, .int a1), (2, .int a2), (3, .int a3)]) hx hb dX11_tell_17 hl (by decide) rfl (fun ls hl => hp_n (n := 19) rfl ?_)
    refine lv_iload hx hb dX11_tell_19 (lv_at hl 0 rfl) (hp_n (n := 21) rfl ?_)
    have J29 : ∀ (Hh_8 : Heap) (Lh_8 : List Loc) (Bh_8 : hp_B Γ (cw w_X11_tell) s α α Hh_8 Lh_8) (ls : Array Slot) (hl : lv_has ls 6 [(0, .ref a0), (5, .int rh_7)]), W p l e (hp_rm 6 0 0) s m ([.ref a0, .int a1, .int a2, .int a3] : List Value).toArray below meth c Hh_8 Lh_8 0 0 (MQ below (hp_Qi Γ (fun r β => cw w_X11_tell α β)) ([.ref a0, .int a1, .int a2, .int a3] : List Value).toArray s 0 0 (hp_A Γ)) (F0 m 29 ls []) := by
      intro Hh_8 Lh_8 Bh_8 ls hl
      refine lv_aload_n hx hb dX11_tell_29 rfl (lv_at hl 0 rfl) (hp_n (n := 30) rfl ?_)
      refine lv_iload hx hb dX11_tell_30 (lv_at hl 1 rfl) (hp_n (n := 32) rfl ?_)
      refine q_ci (pc' := 35) Bh_8 (hp_runV (As := [.int rh_7]) (rest := []) C Bh_8 (t_X11_refuse Γ l α Bh_8.2.2.1 a0 (cw_k Bh_8.2.2 k0) rh_7) lb_X11_refuse lv_X11_refuse lk_X11_98 (cw_k Bh_8.2.2 k0) rfl (by decide) rfl hl.1 rfl (Nat.le_of_ble_eq_true rfl) dX11_tell_32 ⟨Nat.le_refl _, Nat.le_refl _⟩) (fun _ _ h => cw_tr Bh_8.2.2 h (by decide)) rfl (fun rh_9 αh_9 Hh_9 Lh_9 ph_9 Bh_9 => ?_)
      exact q_iret C Bh_9 hr hlk Bh_9.2.2 dX11_tell_35
    refine lv_if_ne (tgt := 29) hx hb dX11_tell_21 (by decide) (fun c_10 => ?_) (fun c_10 => hp_n (n := 24) rfl ?_)
    ·
      have jc_10 := il_ne c_10
      exact J29 Hh_7 Lh_7 Bh_7 ls (lv_sub hl [2, 0] rfl)
    ·
      have jc_10 := il_eq c_10
      refine lv_aload hx hb dX11_tell_24 (lv_at hl 1 rfl) (hp_n (n := 26) rfl ?_)
      refine lv_ifnonnull (tgt := 36) hx hb dX11_tell_26 (by decide) ?_
      refine lv_aload_n hx hb dX11_tell_36 rfl (lv_at hl 2 rfl) (hp_n (n := 37) rfl ?_)
      refine q_getr (κ := 12) (k := 12) (φ := 612) (pc' := 40) C Bh_7 (cw_k Bh_7.2.2 k0) fl_X11_62 rfl rfl rfl (cw_r Bh_7.2.2 k0 rfl rfl (by decide) (by decide)) dX11_tell_37 rfl (fun b_11 eb_11 kb_11 => ?_)
      refine lv_iload_n hx hb dX11_tell_40 rfl (lv_at hl 4 rfl) (hp_n (n := 41) rfl ?_)
      refine lv_iload_n hx hb dX11_tell_41 rfl (lv_at hl 5 rfl) (hp_n (n := 42) rfl ?_)
      refine q_cv (pc' := 45) Bh_7 (hp_runV (As := [.int a2, .int a3]) (rest := []) C Bh_7 (t_X8_toThing Γ l α Bh_7.2.2.1 b_11 (cw_k Bh_7.2.2 kb_11) a2 a3) lb_X8_toThing lv_X8_toThing lk_X11_267 (cw_k Bh_7.2.2 kb_11) rfl (by decide) rfl hl.1 rfl (Nat.le_of_ble_eq_true rfl) dX11_tell_42 ⟨Nat.le_refl _, Nat.le_refl _⟩) (fun _ h => cw_tr Bh_7.2.2 h (by decide)) rfl (fun αh_12 Hh_12 Lh_12 ph_12 Bh_12 => ?_)
      refine lv_aload_n hx hb dX11_tell_45 rfl (lv_at hl 2 rfl) (hp_n (n := 46) rfl ?_)
      have t_13 : b_1 = hp_R αh_12 601 a0 := by rw [cw_R ph_12 a0 (by decide)]; exact eb_1
      refine q_gets (κ := 12) (k := 1) (φ := 601) (pc' := 49) C Bh_12 (cw_k Bh_12.2.2 k0) fl_X11_16 rfl rfl rfl t_13 dX11_tell_46 rfl ?_
      refine lv_aload_n hx hb dX11_tell_49 rfl (lv_at hl 2 rfl) (hp_n (n := 50) rfl ?_)
      have t_14 : b_11 = hp_R αh_12 612 a0 := by rw [cw_R ph_12 a0 (by decide)]; exact eb_11
      refine q_gets (κ := 12) (k := 12) (φ := 612) (pc' := 53) C Bh_12 (cw_k Bh_12.2.2 k0) fl_X11_62 rfl rfl rfl t_14 dX11_tell_50 rfl ?_
      refine lv_aload hx hb dX11_tell_53 (lv_at hl 1 rfl) (hp_n (n := 55) rfl ?_)
      refine lv_aload_n hx hb dX11_tell_55 rfl (lv_at hl 2 rfl) (hp_n (n := 56) rfl ?_)
      refine q_getr (κ := 12) (k := 14) (φ := 614) (pc' := 59) C Bh_12 (cw_k Bh_12.2.2 k0) fl_X11_69 rfl rfl rfl (cw_r Bh_12.2.2 k0 rfl rfl (by decide) (by decide)) dX11_tell_56 rfl (fun b_15 eb_15 kb_15 => ?_)
      refine q_cv (pc' := 62) Bh_12 (hp_runV (As := [.ref b_11, va_rf (some bh_2), .ref b_15]) (rest := []) C Bh_12 (t_X10_marksAlong Γ l αh_12 Bh_12.2.2.1 b_1 (cw_k Bh_12.2.2 kb_1) b_11 (cw_k Bh_12.2.2 kb_11) (some bh_2) (fun b h => by cases h; exact (cw_k Bh_12.2.2 kbh_2)) b_15 (cw_k Bh_12.2.2 kb_15)) lb_X10_marksAlong lv_X10_marksAlong lk_X11_270 (cw_k Bh_12.2.2 kb_1) rfl (by decide) rfl hl.1 rfl (Nat.le_of_ble_eq_true rfl) dX11_tell_59 ⟨Nat.le_refl _, Nat.le_refl _⟩) (fun _ h => cw_tr Bh_12.2.2 h (by decide)) rfl (fun αh_16 Hh_16 Lh_16 ph_16 Bh_16 => ?_)
      refine lv_aload_n hx hb dX11_tell_62 rfl (lv_at hl 2 rfl) (hp_n (n := 63) rfl ?_)
      refine lv_iconst (v := 0) hx hb dX11_tell_63 (by decide) (hp_n (n := 64) rfl ?_)
      refine q_puti (κ := 12) (k := 11) (φ := 611) (pc' := 67) C Bh_16 (cw_k Bh_16.2.2 k0) fl_X11_56 rfl rfl rfl rfl rfl rfl (cw_sI Bh_16.2.2 (by decide) (fun h => absurd h (by decide))) dX11_tell_64 rfl (fun αh_17 Hh_17 Lh_17 eh_17 Bh_17 => ?_)
      refine lv_aload_n hx hb dX11_tell_67 rfl (lv_at hl 2 rfl) (hp_n (n := 68) rfl ?_)
      refine st_ldcw hx hb hown (sr_X11_409 C.2) dX11_tell_68 (hp_n (n := 71) rfl ?_)
      refine q_cv (pc' := 74) Bh_17 (hp_runV (As := [.ref (Γ.2.2.2.2.1 15)]) (rest := []) C Bh_17 (t_X11_tellText Γ l αh_17 Bh_17.2.2.1 a0 (cw_k Bh_17.2.2 k0) 15 (by decide)) lb_X11_tellText lv_X11_tellText lk_X11_411 (cw_k Bh_17.2.2 k0) rfl (by decide) rfl hl.1 rfl (Nat.le_of_ble_eq_true rfl) dX11_tell_71 ⟨Nat.le_refl _, Nat.le_refl _⟩) (fun _ h => cw_tr Bh_17.2.2 h (by decide)) rfl (fun αh_18 Hh_18 Lh_18 ph_18 Bh_18 => ?_)
      refine lv_aload_n hx hb dX11_tell_74 rfl (lv_at hl 2 rfl) (hp_n (n := 75) rfl ?_)
      refine lv_iload_n hx hb dX11_tell_75 rfl (lv_at hl 4 rfl) (hp_n (n := 76) rfl ?_)
      refine q_cv (pc' := 79) Bh_18 (hp_runV (As := [.int a2]) (rest := []) C Bh_18 (t_X11_tellNumber Γ l αh_18 Bh_18.2.2.1 a0 (cw_k Bh_18.2.2 k0) a2) lb_X11_tellNumber lv_X11_tellNumber lk_X11_415 (cw_k Bh_18.2.2 k0) rfl (by decide) rfl hl.1 rfl (Nat.le_of_ble_eq_true rfl) dX11_tell_76 ⟨Nat.le_refl _, Nat.le_refl _⟩) (fun _ h => cw_tr Bh_18.2.2 h (by decide)) rfl (fun αh_19 Hh_19 Lh_19 ph_19 Bh_19 => ?_)
      refine lv_aload_n hx hb dX11_tell_79 rfl (lv_at hl 2 rfl) (hp_n (n := 80) rfl ?_)
      refine st_ldcw hx hb hown (sr_X11_418 C.2) dX11_tell_80 (hp_n (n := 83) rfl ?_)
      refine q_cv (pc' := 86) Bh_19 (hp_runV (As := [.ref (Γ.2.2.2.2.1 4)]) (rest := []) C Bh_19 (t_X11_tellText Γ l αh_19 Bh_19.2.2.1 a0 (cw_k Bh_19.2.2 k0) 4 (by decide)) lb_X11_tellText lv_X11_tellText lk_X11_411 (cw_k Bh_19.2.2 k0) rfl (by decide) rfl hl.1 rfl (Nat.le_of_ble_eq_true rfl) dX11_tell_83 ⟨Nat.le_refl _, Nat.le_refl _⟩) (fun _ h => cw_tr Bh_19.2.2 h (by decide)) rfl (fun αh_20 Hh_20 Lh_20 ph_20 Bh_20 => ?_)
      refine lv_aload_n hx hb dX11_tell_86 rfl (lv_at hl 2 rfl) (hp_n (n := 87) rfl ?_)
      refine lv_iload_n hx hb dX11_tell_87 rfl (lv_at hl 5 rfl) (hp_n (n := 88) rfl ?_)
      refine q_cv (pc' := 91) Bh_20 (hp_runV (As := [.int a3]) (rest := []) C Bh_20 (t_X11_tellNumber Γ l αh_20 Bh_20.2.2.1 a0 (cw_k Bh_20.2.2 k0) a3) lb_X11_tellNumber lv_X11_tellNumber lk_X11_415 (cw_k Bh_20.2.2 k0) rfl (by decide) rfl hl.1 rfl (Nat.le_of_ble_eq_true rfl) dX11_tell_88 ⟨Nat.le_refl _, Nat.le_refl _⟩) (fun _ h => cw_tr Bh_20.2.2 h (by decide)) rfl (fun αh_21 Hh_21 Lh_21 ph_21 Bh_21 => ?_)
      refine lv_aload_n hx hb dX11_tell_91 rfl (lv_at hl 2 rfl) (hp_n (n := 92) rfl ?_)
      refine st_ldcw hx hb hown (sr_X11_420 C.2) dX11_tell_92 (hp_n (n := 95) rfl ?_)
      refine q_cv (pc' := 98) Bh_21 (hp_runV (As := [.ref (Γ.2.2.2.2.1 3)]) (rest := []) C Bh_21 (t_X11_tellText Γ l αh_21 Bh_21.2.2.1 a0 (cw_k Bh_21.2.2 k0) 3 (by decide)) lb_X11_tellText lv_X11_tellText lk_X11_411 (cw_k Bh_21.2.2 k0) rfl (by decide) rfl hl.1 rfl (Nat.le_of_ble_eq_true rfl) dX11_tell_95 ⟨Nat.le_refl _, Nat.le_refl _⟩) (fun _ h => cw_tr Bh_21.2.2 h (by decide)) rfl (fun αh_22 Hh_22 Lh_22 ph_22 Bh_22 => ?_)
      refine lv_aload_n hx hb dX11_tell_98 rfl (lv_at hl 2 rfl) (hp_n (n := 99) rfl ?_)
      refine lv_aload hx hb dX11_tell_99 (lv_at hl 1 rfl) (hp_n (n := 101) rfl ?_)
      refine lv_iload_n hx hb dX11_tell_101 rfl (lv_at hl 4 rfl) (hp_n (n := 102) rfl ?_)
      refine q_ci (pc' := 105) Bh_22 (hp_runV (As := [.int a2]) (rest := [.ref a0]) C Bh_22 (t_X2_markAt Γ l αh_22 Bh_22.2.2.1 bh_2 (cw_k Bh_22.2.2 kbh_2) a2) lb_X2_markAt lv_X2_markAt lk_X11_174 (cw_k Bh_22.2.2 kbh_2) rfl (by decide) rfl hl.1 rfl (Nat.le_of_ble_eq_true rfl) dX11_tell_102 ⟨Nat.le_refl _, Nat.le_refl _⟩) (fun _ _ h => by rw [h]; exact Bh_22.2.2) rfl (fun rh_23 αh_23 Hh_23 Lh_23 ph_23 Bh_23 => ?_)
      rw [ph_23] at Bh_23
      refine q_cv (pc' := 108) Bh_23 (hp_runV (As := [.int rh_23]) (rest := []) C Bh_23 (t_X11_tellNumber Γ l αh_22 Bh_23.2.2.1 a0 (cw_k Bh_23.2.2 k0) rh_23) lb_X11_tellNumber lv_X11_tellNumber lk_X11_415 (cw_k Bh_23.2.2 k0) rfl (by decide) rfl hl.1 rfl (Nat.le_of_ble_eq_true rfl) dX11_tell_105 ⟨Nat.le_refl _, Nat.le_refl _⟩) (fun _ h => cw_tr Bh_23.2.2 h (by decide)) rfl (fun αh_24 Hh_24 Lh_24 ph_24 Bh_24 => ?_)
      refine lv_aload_n hx hb dX11_tell_108 rfl (lv_at hl 2 rfl) (hp_n (n := 109) rfl ?_)
      refine st_ldcw hx hb hown (sr_X11_422 C.2) dX11_tell_109 (hp_n (n := 112) rfl ?_)
      refine q_cv (pc' := 115) Bh_24 (hp_runV (As := [.ref (Γ.2.2.2.2.1 2)]) (rest := []) C Bh_24 (t_X11_tellText Γ l αh_24 Bh_24.2.2.1 a0 (cw_k Bh_24.2.2 k0) 2 (by decide)) lb_X11_tellText lv_X11_tellText lk_X11_411 (cw_k Bh_24.2.2 k0) rfl (by decide) rfl hl.1 rfl (Nat.le_of_ble_eq_true rfl) dX11_tell_112 ⟨Nat.le_refl _, Nat.le_refl _⟩) (fun _ h => cw_tr Bh_24.2.2 h (by decide)) rfl (fun αh_25 Hh_25 Lh_25 ph_25 Bh_25 => ?_)
      refine lv_aload_n hx hb dX11_tell_115 rfl (lv_at hl 2 rfl) (hp_n (n := 116) rfl ?_)
      refine lv_aload_n hx hb dX11_tell_116 rfl (lv_at hl 2 rfl) (hp_n (n := 117) rfl ?_)
      have t_26 : b_1 = hp_R αh_16 601 a0 := by rw [cw_R ph_16 a0 (by decide)]; exact t_13
      have t_27 : b_1 = hp_R αh_17 601 a0 := by rw [eh_17]; exact t_26
      have t_28 : b_1 = hp_R αh_18 601 a0 := by rw [cw_R ph_18 a0 (by decide)]; exact t_27
      have t_29 : b_1 = hp_R αh_19 601 a0 := by rw [cw_R ph_19 a0 (by decide)]; exact t_28
      have t_30 : b_1 = hp_R αh_20 601 a0 := by rw [cw_R ph_20 a0 (by decide)]; exact t_29
      have t_31 : b_1 = hp_R αh_21 601 a0 := by rw [cw_R ph_21 a0 (by decide)]; exact t_30
      have t_32 : b_1 = hp_R αh_22 601 a0 := by rw [cw_R ph_22 a0 (by decide)]; exact t_31
      have t_33 : b_1 = hp_R αh_24 601 a0 := by rw [cw_R ph_24 a0 (by decide)]; exact t_32
      have t_34 : b_1 = hp_R αh_25 601 a0 := by rw [cw_R ph_25 a0 (by decide)]; exact t_33
      refine q_gets (κ := 12) (k := 1) (φ := 601) (pc' := 120) C Bh_25 (cw_k Bh_25.2.2 k0) fl_X11_16 rfl rfl rfl t_34 dX11_tell_117 rfl ?_
      refine lv_aload hx hb dX11_tell_120 (lv_at hl 1 rfl) (hp_n (n := 122) rfl ?_)
      refine lv_iload_n hx hb dX11_tell_122 rfl (lv_at hl 5 rfl) (hp_n (n := 123) rfl ?_)
      refine q_ci (pc' := 126) Bh_25 (hp_runV (As := [va_rf (some bh_2), .int a3]) (rest := [.ref a0]) C Bh_25 (t_X10_headOf Γ l αh_25 Bh_25.2.2.1 b_1 (cw_k Bh_25.2.2 kb_1) (some bh_2) (fun b h => by cases h; exact (cw_k Bh_25.2.2 kbh_2)) a3) lb_X10_headOf lv_X10_headOf lk_X11_184 (cw_k Bh_25.2.2 kb_1) rfl (by decide) rfl hl.1 rfl (Nat.le_of_ble_eq_true rfl) dX11_tell_123 ⟨Nat.le_refl _, Nat.le_refl _⟩) (fun _ _ h => cw_tr Bh_25.2.2 h (by decide)) rfl (fun rh_35 αh_35 Hh_35 Lh_35 ph_35 Bh_35 => ?_)
      refine q_cv (pc' := 129) Bh_35 (hp_runV (As := [.int rh_35]) (rest := []) C Bh_35 (t_X11_tellNumber Γ l αh_35 Bh_35.2.2.1 a0 (cw_k Bh_35.2.2 k0) rh_35) lb_X11_tellNumber lv_X11_tellNumber lk_X11_415 (cw_k Bh_35.2.2 k0) rfl (by decide) rfl hl.1 rfl (Nat.le_of_ble_eq_true rfl) dX11_tell_126 ⟨Nat.le_refl _, Nat.le_refl _⟩) (fun _ h => cw_tr Bh_35.2.2 h (by decide)) rfl (fun αh_36 Hh_36 Lh_36 ph_36 Bh_36 => ?_)
      refine lv_aload_n hx hb dX11_tell_129 rfl (lv_at hl 2 rfl) (hp_n (n := 130) rfl ?_)
      refine q_cv (pc' := 133) Bh_36 (hp_runV (As := []) (rest := []) C Bh_36 (t_X11_tellProof Γ l αh_36 Bh_36.2.2.1 a0 (cw_k Bh_36.2.2 k0)) lb_X11_tellProof lv_X11_tellProof lk_X11_424 (cw_k Bh_36.2.2 k0) rfl (by decide) rfl hl.1 rfl (Nat.le_of_ble_eq_true rfl) dX11_tell_130 ⟨Nat.le_refl _, Nat.le_refl _⟩) (fun _ h => cw_tr Bh_36.2.2 h (by decide)) rfl (fun αh_37 Hh_37 Lh_37 ph_37 Bh_37 => ?_)
      refine lv_aload_n hx hb dX11_tell_133 rfl (lv_at hl 2 rfl) (hp_n (n := 134) rfl ?_)
      refine lv_aload_n hx hb dX11_tell_134 rfl (lv_at hl 2 rfl) (hp_n (n := 135) rfl ?_)
      have t_38 : 0 = hp_I αh_17 611 a0 := by rw [eh_17]; exact hp_I_at.symm
      refine q_geti (κ := 12) (k := 11) (φ := 611) (pc' := 138) C Bh_37 (cw_k Bh_37.2.2 k0) fl_X11_56 rfl rfl rfl dX11_tell_135 rfl (fun x_39 ex_39 => ?_)
      refine q_ci (pc' := 141) Bh_37 (hp_runV (As := [.int x_39]) (rest := []) C Bh_37 (t_X11_answer Γ l αh_37 Bh_37.2.2.1 a0 (cw_k Bh_37.2.2 k0) x_39) lb_X11_answer lv_X11_answer lk_X11_115 (cw_k Bh_37.2.2 k0) rfl (by decide) rfl hl.1 rfl (Nat.le_of_ble_eq_true rfl) dX11_tell_138 ⟨Nat.le_refl _, Nat.le_refl _⟩) (fun _ _ h => cw_tr Bh_37.2.2 h (by decide)) rfl (fun rh_40 αh_40 Hh_40 Lh_40 ph_40 Bh_40 => ?_)
      exact q_iret C Bh_40 hr hlk Bh_40.2.2 dX11_tell_141
abbrev w_X11_tellGrowth : cw_W := ([301, 453, 454, 600, 611], [], [20, 21, 22, 23, 25, 33], [])
set_option maxRecDepth 100000 in
set_option maxHeartbeats 4000000 in
theorem t_X11_tellGrowth (Γ : hp_G) (l : Launch) (α : hp_T) (g : GC α) (a0 : Nat) (k0 : hp_K α a0 = 12) (a1 : Int32) (a2 : Int32) (a3 : Int32) : Met l yX11_tellGrowth (hp_ws yX11_tellGrowth cX11_tellGrowth 6 (some .int)) (hp_rm 6 0 0) (hp_Pc Γ α [.ref a0, .int a1, .int a2, .int a3]) (hp_Qi Γ (fun r β => cw w_X11_tellGrowth α β)) 0 0 (hp_A Γ) := by
  refine hp_start (by decide) ?_
  intro p e s m below meth c C hr hlk B0 hnm
  have C : hp_C Γ p m c cX11_tellGrowth 6 s ([.ref a0, .int a1, .int a2, .int a3] : List Value).toArray RX11 := C
  have hx := C.1.1
  have hb := C.1.2.1
  have hown := C.1.2.2.2.1
  have hts := C.1.2.2.2.2
  have B : hp_B Γ (cw w_X11_tellGrowth) s α α s.heap [] := ⟨B0.1, B0.2.1, cw_rf g⟩
  have lit0 : (0 : Int32).toInt = 0 := by decide
  have hl := lv_entry ([.ref a0, .int a1, .int a2, .int a3]) (n := 6) (Nat.le_of_ble_eq_true rfl)
  show W p l e (hp_rm 6 0 0) s m ([.ref a0, .int a1, .int a2, .int a3] : List Value).toArray below meth c s.heap [] 0 0 (MQ below (hp_Qi Γ (fun r β => cw w_X11_tellGrowth α β)) ([.ref a0, .int a1, .int a2, .int a3] : List Value).toArray s 0 0 (hp_A Γ)) (entryFrame m ([.ref a0, .int a1, .int a2, .int a3] : List Value).toArray 6)
  rw [lg_entry_eq]
  generalize (lg_sl ([.ref a0, .int a1, .int a2, .int a3]) ++ List.replicate (6 - (lg_sl ([.ref a0, .int a1, .int a2, .int a3])).length) Slot.unset).toArray = ls at hl ⊢
  have hl : lv_has ls 6 [(0, .ref a0), (1, .int a1), (2, .int a2), (3, .int a3)] := hl
  refine lv_aload_n hx hb dX11_tellGrowth_0 rfl (lv_at hl 0 rfl) (hp_n (n := 1) rfl ?_)
  refine q_getr (κ := 12) (k := 1) (φ := 601) (pc' := 4) C B (cw_k B.2.2 k0) fl_X11_16 rfl rfl rfl (cw_r B.2.2 k0 rfl rfl (by decide) (by decide)) dX11_tellGrowth_1 rfl (fun b_1 eb_1 kb_1 => ?_)
  refine lv_iload_n hx hb dX11_tellGrowth_4 rfl (lv_at hl 1 rfl) (hp_n (n := 5) rfl ?_)
  refine q_cq (pc' := 8) B (hp_runV (As := [.int a1]) (rest := []) C B (t_X10_logAt Γ l α B.2.2.1 b_1 (cw_k B.2.2 kb_1) a1) lb_X10_logAt lv_X10_logAt lk_X11_163 (cw_k B.2.2 kb_1) rfl (by decide) rfl hl.1 rfl (Nat.le_of_ble_eq_true rfl) dX11_tellGrowth_5 ⟨Nat.le_refl _, Nat.le_refl _⟩) (fun _ _ h => by rw [h.1]; exact B.2.2) rfl (fun rh_2 αh_2 Hh_2 Lh_2 ph_2 Bh_2 => ?_)
  rw [ph_2.1] at Bh_2
  rcases rh_2 with _ | bh_2
  ·
    refine lv_astoreN (lv' := [(4, .null), (0, .ref a0), (1, .int a1), (2, .int a2), (3, .int a3)]) hx hb dX11_tellGrowth_8 hl (by decide) rfl (fun ls hl => hp_n (n := 10) rfl ?_)
    refine lv_aloadN hx hb dX11_tellGrowth_10 (lv_at hl 0 rfl) (hp_n (n := 12) rfl ?_)
    refine lv_iload_n hx hb dX11_tellGrowth_12 rfl (lv_at hl 3 rfl) (hp_n (n := 13) rfl ?_)
    refine lv_iload_n hx hb dX11_tellGrowth_13 rfl (lv_at hl 4 rfl) (hp_n (n := 14) rfl ?_)
    refine q_ci (pc' := 17) Bh_2 (hp_runS (As := [va_rf none, .int a2, .int a3]) (rest := []) C Bh_2 (t_X11_wrongGrowth Γ l α Bh_2.2.2.1 none (fun b h => by cases h) a2 a3) lb_X11_wrongGrowth ls_X11_wrongGrowth lk_X11_180 rfl (by decide) rfl hl.1 rfl (Nat.le_of_ble_eq_true rfl) dX11_tellGrowth_14 ⟨Nat.le_refl _, Nat.le_refl _⟩) (fun _ _ h => by rw [h]; exact Bh_2.2.2) rfl (fun rh_3 αh_3 Hh_3 Lh_3 ph_3 Bh_3 => ?_)
    rw [ph_3] at Bh_3
    refine lv_istore (lv' := [(5, .int rh_3), (4, .null), (0, .ref a0), (1, .int a1), (2, .int a2), (3, .int a3)]) hx hb dX11_tellGrowth_17 hl (by decide) rfl (fun ls hl => hp_n (n := 19) rfl ?_)
    refine lv_iload hx hb dX11_tellGrowth_19 (lv_at hl 0 rfl) (hp_n (n := 21) rfl ?_)
    refine lv_if_eq (tgt := 31) hx hb dX11_tellGrowth_21 (by decide) (fun c_4 => ?_) (fun c_4 => hp_n (n := 24) rfl ?_)
    ·
      have jc_4 := il_eq c_4
      refine lv_aload_n hx hb dX11_tellGrowth_31 rfl (lv_at hl 2 rfl) (hp_n (n := 32) rfl ?_)
      refine q_getr (κ := 12) (k := 12) (φ := 612) (pc' := 35) C Bh_3 (cw_k Bh_3.2.2 k0) fl_X11_62 rfl rfl rfl (cw_r Bh_3.2.2 k0 rfl rfl (by decide) (by decide)) dX11_tellGrowth_32 rfl (fun b_5 eb_5 kb_5 => ?_)
      refine lv_iload_n hx hb dX11_tellGrowth_35 rfl (lv_at hl 4 rfl) (hp_n (n := 36) rfl ?_)
      refine lv_iload_n hx hb dX11_tellGrowth_36 rfl (lv_at hl 5 rfl) (hp_n (n := 37) rfl ?_)
      refine q_cv (pc' := 40) Bh_3 (hp_runV (As := [.int a2, .int a3]) (rest := []) C Bh_3 (t_X8_toGrowth Γ l α Bh_3.2.2.1 b_5 (cw_k Bh_3.2.2 kb_5) a2 a3) lb_X8_toGrowth lv_X8_toGrowth lk_X11_274 (cw_k Bh_3.2.2 kb_5) rfl (by decide) rfl hl.1 rfl (Nat.le_of_ble_eq_true rfl) dX11_tellGrowth_37 ⟨Nat.le_refl _, Nat.le_refl _⟩) (fun _ h => cw_tr Bh_3.2.2 h (by decide)) rfl (fun αh_6 Hh_6 Lh_6 ph_6 Bh_6 => ?_)
      refine lv_aload_n hx hb dX11_tellGrowth_40 rfl (lv_at hl 2 rfl) (hp_n (n := 41) rfl ?_)
      have t_7 : b_1 = hp_R αh_6 601 a0 := by rw [cw_R ph_6 a0 (by decide)]; exact eb_1
      refine q_gets (κ := 12) (k := 1) (φ := 601) (pc' := 44) C Bh_6 (cw_k Bh_6.2.2 k0) fl_X11_16 rfl rfl rfl t_7 dX11_tellGrowth_41 rfl ?_
      refine lv_aload_n hx hb dX11_tellGrowth_44 rfl (lv_at hl 2 rfl) (hp_n (n := 45) rfl ?_)
      have t_8 : b_5 = hp_R αh_6 612 a0 := by rw [cw_R ph_6 a0 (by decide)]; exact eb_5
      refine q_gets (κ := 12) (k := 12) (φ := 612) (pc' := 48) C Bh_6 (cw_k Bh_6.2.2 k0) fl_X11_62 rfl rfl rfl t_8 dX11_tellGrowth_45 rfl ?_
      refine lv_aloadN hx hb dX11_tellGrowth_48 (lv_at hl 1 rfl) (hp_n (n := 50) rfl ?_)
      refine lv_aload_n hx hb dX11_tellGrowth_50 rfl (lv_at hl 2 rfl) (hp_n (n := 51) rfl ?_)
      refine q_getr (κ := 12) (k := 14) (φ := 614) (pc' := 54) C Bh_6 (cw_k Bh_6.2.2 k0) fl_X11_69 rfl rfl rfl (cw_r Bh_6.2.2 k0 rfl rfl (by decide) (by decide)) dX11_tellGrowth_51 rfl (fun b_9 eb_9 kb_9 => ?_)
      refine q_cv (pc' := 57) Bh_6 (hp_runV (As := [.ref b_5, va_rf none, .ref b_9]) (rest := []) C Bh_6 (t_X10_marksAlong Γ l αh_6 Bh_6.2.2.1 b_1 (cw_k Bh_6.2.2 kb_1) b_5 (cw_k Bh_6.2.2 kb_5) none (fun b h => by cases h) b_9 (cw_k Bh_6.2.2 kb_9)) lb_X10_marksAlong lv_X10_marksAlong lk_X11_270 (cw_k Bh_6.2.2 kb_1) rfl (by decide) rfl hl.1 rfl (Nat.le_of_ble_eq_true rfl) dX11_tellGrowth_54 ⟨Nat.le_refl _, Nat.le_refl _⟩) (fun _ h => cw_tr Bh_6.2.2 h (by decide)) rfl (fun αh_10 Hh_10 Lh_10 ph_10 Bh_10 => ?_)
      refine lv_aload_n hx hb dX11_tellGrowth_57 rfl (lv_at hl 2 rfl) (hp_n (n := 58) rfl ?_)
      refine lv_iconst (v := 0) hx hb dX11_tellGrowth_58 (by decide) (hp_n (n := 59) rfl ?_)
      refine q_puti (κ := 12) (k := 11) (φ := 611) (pc' := 62) C Bh_10 (cw_k Bh_10.2.2 k0) fl_X11_56 rfl rfl rfl rfl rfl rfl (cw_sI Bh_10.2.2 (by decide) (fun h => absurd h (by decide))) dX11_tellGrowth_59 rfl (fun αh_11 Hh_11 Lh_11 eh_11 Bh_11 => ?_)
      refine lv_aload_n hx hb dX11_tellGrowth_62 rfl (lv_at hl 2 rfl) (hp_n (n := 63) rfl ?_)
      refine st_ldcw hx hb hown (sr_X11_427 C.2) dX11_tellGrowth_63 (hp_n (n := 66) rfl ?_)
      refine q_cv (pc' := 69) Bh_11 (hp_runV (As := [.ref (Γ.2.2.2.2.1 12)]) (rest := []) C Bh_11 (t_X11_tellText Γ l αh_11 Bh_11.2.2.1 a0 (cw_k Bh_11.2.2 k0) 12 (by decide)) lb_X11_tellText lv_X11_tellText lk_X11_411 (cw_k Bh_11.2.2 k0) rfl (by decide) rfl hl.1 rfl (Nat.le_of_ble_eq_true rfl) dX11_tellGrowth_66 ⟨Nat.le_refl _, Nat.le_refl _⟩) (fun _ h => cw_tr Bh_11.2.2 h (by decide)) rfl (fun αh_12 Hh_12 Lh_12 ph_12 Bh_12 => ?_)
      refine lv_aload_n hx hb dX11_tellGrowth_69 rfl (lv_at hl 2 rfl) (hp_n (n := 70) rfl ?_)
      refine lv_iload_n hx hb dX11_tellGrowth_70 rfl (lv_at hl 4 rfl) (hp_n (n := 71) rfl ?_)
      refine q_cv (pc' := 74) Bh_12 (hp_runV (As := [.int a2]) (rest := []) C Bh_12 (t_X11_tellNumber Γ l αh_12 Bh_12.2.2.1 a0 (cw_k Bh_12.2.2 k0) a2) lb_X11_tellNumber lv_X11_tellNumber lk_X11_415 (cw_k Bh_12.2.2 k0) rfl (by decide) rfl hl.1 rfl (Nat.le_of_ble_eq_true rfl) dX11_tellGrowth_71 ⟨Nat.le_refl _, Nat.le_refl _⟩) (fun _ h => cw_tr Bh_12.2.2 h (by decide)) rfl (fun αh_13 Hh_13 Lh_13 ph_13 Bh_13 => ?_)
      refine lv_aload_n hx hb dX11_tellGrowth_74 rfl (lv_at hl 2 rfl) (hp_n (n := 75) rfl ?_)
      refine st_ldcw hx hb hown (sr_X11_420 C.2) dX11_tellGrowth_75 (hp_n (n := 78) rfl ?_)
      refine q_cv (pc' := 81) Bh_13 (hp_runV (As := [.ref (Γ.2.2.2.2.1 3)]) (rest := []) C Bh_13 (t_X11_tellText Γ l αh_13 Bh_13.2.2.1 a0 (cw_k Bh_13.2.2 k0) 3 (by decide)) lb_X11_tellText lv_X11_tellText lk_X11_411 (cw_k Bh_13.2.2 k0) rfl (by decide) rfl hl.1 rfl (Nat.le_of_ble_eq_true rfl) dX11_tellGrowth_78 ⟨Nat.le_refl _, Nat.le_refl _⟩) (fun _ h => cw_tr Bh_13.2.2 h (by decide)) rfl (fun αh_14 Hh_14 Lh_14 ph_14 Bh_14 => ?_)
      refine lv_aload_n hx hb dX11_tellGrowth_81 rfl (lv_at hl 2 rfl) (hp_n (n := 82) rfl ?_)
      refine lv_aload_n hx hb dX11_tellGrowth_82 rfl (lv_at hl 2 rfl) (hp_n (n := 83) rfl ?_)
      have t_15 : b_1 = hp_R αh_10 601 a0 := by rw [cw_R ph_10 a0 (by decide)]; exact t_7
      have t_16 : b_1 = hp_R αh_11 601 a0 := by rw [eh_11]; exact t_15
      have t_17 : b_1 = hp_R αh_12 601 a0 := by rw [cw_R ph_12 a0 (by decide)]; exact t_16
      have t_18 : b_1 = hp_R αh_13 601 a0 := by rw [cw_R ph_13 a0 (by decide)]; exact t_17
      have t_19 : b_1 = hp_R αh_14 601 a0 := by rw [cw_R ph_14 a0 (by decide)]; exact t_18
      refine q_gets (κ := 12) (k := 1) (φ := 601) (pc' := 86) C Bh_14 (cw_k Bh_14.2.2 k0) fl_X11_16 rfl rfl rfl t_19 dX11_tellGrowth_83 rfl ?_
      refine lv_aloadN hx hb dX11_tellGrowth_86 (lv_at hl 1 rfl) (hp_n (n := 88) rfl ?_)
      refine lv_iload_n hx hb dX11_tellGrowth_88 rfl (lv_at hl 4 rfl) (hp_n (n := 89) rfl ?_)
      refine q_ci (pc' := 92) Bh_14 (hp_runV (As := [va_rf none, .int a2]) (rest := [.ref a0]) C Bh_14 (t_X10_headOf Γ l αh_14 Bh_14.2.2.1 b_1 (cw_k Bh_14.2.2 kb_1) none (fun b h => by cases h) a2) lb_X10_headOf lv_X10_headOf lk_X11_184 (cw_k Bh_14.2.2 kb_1) rfl (by decide) rfl hl.1 rfl (Nat.le_of_ble_eq_true rfl) dX11_tellGrowth_89 ⟨Nat.le_refl _, Nat.le_refl _⟩) (fun _ _ h => cw_tr Bh_14.2.2 h (by decide)) rfl (fun rh_20 αh_20 Hh_20 Lh_20 ph_20 Bh_20 => ?_)
      refine q_cv (pc' := 95) Bh_20 (hp_runV (As := [.int rh_20]) (rest := []) C Bh_20 (t_X11_tellNumber Γ l αh_20 Bh_20.2.2.1 a0 (cw_k Bh_20.2.2 k0) rh_20) lb_X11_tellNumber lv_X11_tellNumber lk_X11_415 (cw_k Bh_20.2.2 k0) rfl (by decide) rfl hl.1 rfl (Nat.le_of_ble_eq_true rfl) dX11_tellGrowth_92 ⟨Nat.le_refl _, Nat.le_refl _⟩) (fun _ h => cw_tr Bh_20.2.2 h (by decide)) rfl (fun αh_21 Hh_21 Lh_21 ph_21 Bh_21 => ?_)
      refine lv_aload_n hx hb dX11_tellGrowth_95 rfl (lv_at hl 2 rfl) (hp_n (n := 96) rfl ?_)
      refine st_ldcw hx hb hown (sr_X11_429 C.2) dX11_tellGrowth_96 (hp_n (n := 99) rfl ?_)
      refine q_cv (pc' := 102) Bh_21 (hp_runV (As := [.ref (Γ.2.2.2.2.1 5)]) (rest := []) C Bh_21 (t_X11_tellText Γ l αh_21 Bh_21.2.2.1 a0 (cw_k Bh_21.2.2 k0) 5 (by decide)) lb_X11_tellText lv_X11_tellText lk_X11_411 (cw_k Bh_21.2.2 k0) rfl (by decide) rfl hl.1 rfl (Nat.le_of_ble_eq_true rfl) dX11_tellGrowth_99 ⟨Nat.le_refl _, Nat.le_refl _⟩) (fun _ h => cw_tr Bh_21.2.2 h (by decide)) rfl (fun αh_22 Hh_22 Lh_22 ph_22 Bh_22 => ?_)
      refine lv_aload_n hx hb dX11_tellGrowth_102 rfl (lv_at hl 2 rfl) (hp_n (n := 103) rfl ?_)
      refine lv_iload_n hx hb dX11_tellGrowth_103 rfl (lv_at hl 5 rfl) (hp_n (n := 104) rfl ?_)
      refine q_cv (pc' := 107) Bh_22 (hp_runV (As := [.int a3]) (rest := []) C Bh_22 (t_X11_tellNumber Γ l αh_22 Bh_22.2.2.1 a0 (cw_k Bh_22.2.2 k0) a3) lb_X11_tellNumber lv_X11_tellNumber lk_X11_415 (cw_k Bh_22.2.2 k0) rfl (by decide) rfl hl.1 rfl (Nat.le_of_ble_eq_true rfl) dX11_tellGrowth_104 ⟨Nat.le_refl _, Nat.le_refl _⟩) (fun _ h => cw_tr Bh_22.2.2 h (by decide)) rfl (fun αh_23 Hh_23 Lh_23 ph_23 Bh_23 => ?_)
      refine lv_aload_n hx hb dX11_tellGrowth_107 rfl (lv_at hl 2 rfl) (hp_n (n := 108) rfl ?_)
      refine st_ldcw hx hb hown (sr_X11_422 C.2) dX11_tellGrowth_108 (hp_n (n := 111) rfl ?_)
      refine q_cv (pc' := 114) Bh_23 (hp_runV (As := [.ref (Γ.2.2.2.2.1 2)]) (rest := []) C Bh_23 (t_X11_tellText Γ l αh_23 Bh_23.2.2.1 a0 (cw_k Bh_23.2.2 k0) 2 (by decide)) lb_X11_tellText lv_X11_tellText lk_X11_411 (cw_k Bh_23.2.2 k0) rfl (by decide) rfl hl.1 rfl (Nat.le_of_ble_eq_true rfl) dX11_tellGrowth_111 ⟨Nat.le_refl _, Nat.le_refl _⟩) (fun _ h => cw_tr Bh_23.2.2 h (by decide)) rfl (fun αh_24 Hh_24 Lh_24 ph_24 Bh_24 => ?_)
      refine lv_aload_n hx hb dX11_tellGrowth_114 rfl (lv_at hl 2 rfl) (hp_n (n := 115) rfl ?_)
      refine lv_aload_n hx hb dX11_tellGrowth_115 rfl (lv_at hl 2 rfl) (hp_n (n := 116) rfl ?_)
      have t_25 : b_1 = hp_R αh_20 601 a0 := by rw [cw_R ph_20 a0 (by decide)]; exact t_19
      have t_26 : b_1 = hp_R αh_21 601 a0 := by rw [cw_R ph_21 a0 (by decide)]; exact t_25
      have t_27 : b_1 = hp_R αh_22 601 a0 := by rw [cw_R ph_22 a0 (by decide)]; exact t_26
      have t_28 : b_1 = hp_R αh_23 601 a0 := by rw [cw_R ph_23 a0 (by decide)]; exact t_27
      have t_29 : b_1 = hp_R αh_24 601 a0 := by rw [cw_R ph_24 a0 (by decide)]; exact t_28
      refine q_gets (κ := 12) (k := 1) (φ := 601) (pc' := 119) C Bh_24 (cw_k Bh_24.2.2 k0) fl_X11_16 rfl rfl rfl t_29 dX11_tellGrowth_116 rfl ?_
      refine lv_aloadN hx hb dX11_tellGrowth_119 (lv_at hl 1 rfl) (hp_n (n := 121) rfl ?_)
      refine lv_iload_n hx hb dX11_tellGrowth_121 rfl (lv_at hl 5 rfl) (hp_n (n := 122) rfl ?_)
      refine q_ci (pc' := 125) Bh_24 (hp_runV (As := [va_rf none, .int a3]) (rest := [.ref a0]) C Bh_24 (t_X10_headOf Γ l αh_24 Bh_24.2.2.1 b_1 (cw_k Bh_24.2.2 kb_1) none (fun b h => by cases h) a3) lb_X10_headOf lv_X10_headOf lk_X11_184 (cw_k Bh_24.2.2 kb_1) rfl (by decide) rfl hl.1 rfl (Nat.le_of_ble_eq_true rfl) dX11_tellGrowth_122 ⟨Nat.le_refl _, Nat.le_refl _⟩) (fun _ _ h => cw_tr Bh_24.2.2 h (by decide)) rfl (fun rh_30 αh_30 Hh_30 Lh_30 ph_30 Bh_30 => ?_)
      refine q_cv (pc' := 128) Bh_30 (hp_runV (As := [.int rh_30]) (rest := []) C Bh_30 (t_X11_tellNumber Γ l αh_30 Bh_30.2.2.1 a0 (cw_k Bh_30.2.2 k0) rh_30) lb_X11_tellNumber lv_X11_tellNumber lk_X11_415 (cw_k Bh_30.2.2 k0) rfl (by decide) rfl hl.1 rfl (Nat.le_of_ble_eq_true rfl) dX11_tellGrowth_125 ⟨Nat.le_refl _, Nat.le_refl _⟩) (fun _ h => cw_tr Bh_30.2.2 h (by decide)) rfl (fun αh_31 Hh_31 Lh_31 ph_31 Bh_31 => ?_)
      refine lv_aload_n hx hb dX11_tellGrowth_128 rfl (lv_at hl 2 rfl) (hp_n (n := 129) rfl ?_)
      refine q_cv (pc' := 132) Bh_31 (hp_runV (As := []) (rest := []) C Bh_31 (t_X11_tellProof Γ l αh_31 Bh_31.2.2.1 a0 (cw_k Bh_31.2.2 k0)) lb_X11_tellProof lv_X11_tellProof lk_X11_424 (cw_k Bh_31.2.2 k0) rfl (by decide) rfl hl.1 rfl (Nat.le_of_ble_eq_true rfl) dX11_tellGrowth_129 ⟨Nat.le_refl _, Nat.le_refl _⟩) (fun _ h => cw_tr Bh_31.2.2 h (by decide)) rfl (fun αh_32 Hh_32 Lh_32 ph_32 Bh_32 => ?_)
      refine lv_aload_n hx hb dX11_tellGrowth_132 rfl (lv_at hl 2 rfl) (hp_n (n := 133) rfl ?_)
      refine lv_aload_n hx hb dX11_tellGrowth_133 rfl (lv_at hl 2 rfl) (hp_n (n := 134) rfl ?_)
      have t_33 : 0 = hp_I αh_11 611 a0 := by rw [eh_11]; exact hp_I_at.symm
      refine q_geti (κ := 12) (k := 11) (φ := 611) (pc' := 137) C Bh_32 (cw_k Bh_32.2.2 k0) fl_X11_56 rfl rfl rfl dX11_tellGrowth_134 rfl (fun x_34 ex_34 => ?_)
      refine q_ci (pc' := 140) Bh_32 (hp_runV (As := [.int x_34]) (rest := []) C Bh_32 (t_X11_answer Γ l αh_32 Bh_32.2.2.1 a0 (cw_k Bh_32.2.2 k0) x_34) lb_X11_answer lv_X11_answer lk_X11_115 (cw_k Bh_32.2.2 k0) rfl (by decide) rfl hl.1 rfl (Nat.le_of_ble_eq_true rfl) dX11_tellGrowth_137 ⟨Nat.le_refl _, Nat.le_refl _⟩) (fun _ _ h => cw_tr Bh_32.2.2 h (by decide)) rfl (fun rh_35 αh_35 Hh_35 Lh_35 ph_35 Bh_35 => ?_)
      exact q_iret C Bh_35 hr hlk Bh_35.2.2 dX11_tellGrowth_140
    ·
      have jc_4 := il_ne c_4
      refine lv_aload_n hx hb dX11_tellGrowth_24 rfl (lv_at hl 2 rfl) (hp_n (n := 25) rfl ?_)
      refine lv_iload hx hb dX11_tellGrowth_25 (lv_at hl 0 rfl) (hp_n (n := 27) rfl ?_)
      refine q_ci (pc' := 30) Bh_3 (hp_runV (As := [.int rh_3]) (rest := []) C Bh_3 (t_X11_refuse Γ l α Bh_3.2.2.1 a0 (cw_k Bh_3.2.2 k0) rh_3) lb_X11_refuse lv_X11_refuse lk_X11_98 (cw_k Bh_3.2.2 k0) rfl (by decide) rfl hl.1 rfl (Nat.le_of_ble_eq_true rfl) dX11_tellGrowth_27 ⟨Nat.le_refl _, Nat.le_refl _⟩) (fun _ _ h => cw_tr Bh_3.2.2 h (by decide)) rfl (fun rh_36 αh_36 Hh_36 Lh_36 ph_36 Bh_36 => ?_)
      exact q_iret C Bh_36 hr hlk Bh_36.2.2 dX11_tellGrowth_30
  ·
    have kbh_2 : hp_K α bh_2 = 3 := cw_k' Bh_2.2.2 (ph_2.2 bh_2 rfl)
    refine lv_astore (lv' := [(4, .ref bh_2), (0, .ref a0), (1, .int a1), (2, .int a2), (3, .int a3)]) hx hb dX11_tellGrowth_8 hl (by decide) rfl (fun ls hl => hp_n (n := 10) rfl ?_)
    refine lv_aload hx hb dX11_tellGrowth_10 (lv_at hl 0 rfl) (hp_n (n := 12) rfl ?_)
    refine lv_iload_n hx hb dX11_tellGrowth_12 rfl (lv_at hl 3 rfl) (hp_n (n := 13) rfl ?_)
    refine lv_iload_n hx hb dX11_tellGrowth_13 rfl (lv_at hl 4 rfl) (hp_n (n := 14) rfl ?_)
    refine q_ci (pc' := 17) Bh_2 (hp_runS (As := [va_rf (some bh_2), .int a2, .int a3]) (rest := []) C Bh_2 (t_X11_wrongGrowth Γ l α Bh_2.2.2.1 (some bh_2) (fun b h => by cases h; exact (cw_k Bh_2.2.2 kbh_2)) a2 a3) lb_X11_wrongGrowth ls_X11_wrongGrowth lk_X11_180 rfl (by decide) rfl hl.1 rfl (Nat.le_of_ble_eq_true rfl) dX11_tellGrowth_14 ⟨Nat.le_refl _, Nat.le_refl _⟩) (fun _ _ h => by rw [h]; exact Bh_2.2.2) rfl (fun rh_37 αh_37 Hh_37 Lh_37 ph_37 Bh_37 => ?_)
    rw [ph_37] at Bh_37
    refine lv_istore (lv' := [(5, .int rh_37), (4, .ref bh_2), (0, .ref a0), (1, .int a1), (2, .int a2), (3, .int a3)]) hx hb dX11_tellGrowth_17 hl (by decide) rfl (fun ls hl => hp_n (n := 19) rfl ?_)
    refine lv_iload hx hb dX11_tellGrowth_19 (lv_at hl 0 rfl) (hp_n (n := 21) rfl ?_)
    refine lv_if_eq (tgt := 31) hx hb dX11_tellGrowth_21 (by decide) (fun c_38 => ?_) (fun c_38 => hp_n (n := 24) rfl ?_)
    ·
      have jc_38 := il_eq c_38
      refine lv_aload_n hx hb dX11_tellGrowth_31 rfl (lv_at hl 2 rfl) (hp_n (n := 32) rfl ?_)
      refine q_getr (κ := 12) (k := 12) (φ := 612) (pc' := 35) C Bh_37 (cw_k Bh_37.2.2 k0) fl_X11_62 rfl rfl rfl (cw_r Bh_37.2.2 k0 rfl rfl (by decide) (by decide)) dX11_tellGrowth_32 rfl (fun b_39 eb_39 kb_39 => ?_)
      refine lv_iload_n hx hb dX11_tellGrowth_35 rfl (lv_at hl 4 rfl) (hp_n (n := 36) rfl ?_)
      refine lv_iload_n hx hb dX11_tellGrowth_36 rfl (lv_at hl 5 rfl) (hp_n (n := 37) rfl ?_)
      refine q_cv (pc' := 40) Bh_37 (hp_runV (As := [.int a2, .int a3]) (rest := []) C Bh_37 (t_X8_toGrowth Γ l α Bh_37.2.2.1 b_39 (cw_k Bh_37.2.2 kb_39) a2 a3) lb_X8_toGrowth lv_X8_toGrowth lk_X11_274 (cw_k Bh_37.2.2 kb_39) rfl (by decide) rfl hl.1 rfl (Nat.le_of_ble_eq_true rfl) dX11_tellGrowth_37 ⟨Nat.le_refl _, Nat.le_refl _⟩) (fun _ h => cw_tr Bh_37.2.2 h (by decide)) rfl (fun αh_40 Hh_40 Lh_40 ph_40 Bh_40 => ?_)
      refine lv_aload_n hx hb dX11_tellGrowth_40 rfl (lv_at hl 2 rfl) (hp_n (n := 41) rfl ?_)
      have t_41 : b_1 = hp_R αh_40 601 a0 := by rw [cw_R ph_40 a0 (by decide)]; exact eb_1
      refine q_gets (κ := 12) (k := 1) (φ := 601) (pc' := 44) C Bh_40 (cw_k Bh_40.2.2 k0) fl_X11_16 rfl rfl rfl t_41 dX11_tellGrowth_41 rfl ?_
      refine lv_aload_n hx hb dX11_tellGrowth_44 rfl (lv_at hl 2 rfl) (hp_n (n := 45) rfl ?_)
      have t_42 : b_39 = hp_R αh_40 612 a0 := by rw [cw_R ph_40 a0 (by decide)]; exact eb_39
      refine q_gets (κ := 12) (k := 12) (φ := 612) (pc' := 48) C Bh_40 (cw_k Bh_40.2.2 k0) fl_X11_62 rfl rfl rfl t_42 dX11_tellGrowth_45 rfl ?_
      refine lv_aload hx hb dX11_tellGrowth_48 (lv_at hl 1 rfl) (hp_n (n := 50) rfl ?_)
      refine lv_aload_n hx hb dX11_tellGrowth_50 rfl (lv_at hl 2 rfl) (hp_n (n := 51) rfl ?_)
      refine q_getr (κ := 12) (k := 14) (φ := 614) (pc' := 54) C Bh_40 (cw_k Bh_40.2.2 k0) fl_X11_69 rfl rfl rfl (cw_r Bh_40.2.2 k0 rfl rfl (by decide) (by decide)) dX11_tellGrowth_51 rfl (fun b_43 eb_43 kb_43 => ?_)
      refine q_cv (pc' := 57) Bh_40 (hp_runV (As := [.ref b_39, va_rf (some bh_2), .ref b_43]) (rest := []) C Bh_40 (t_X10_marksAlong Γ l αh_40 Bh_40.2.2.1 b_1 (cw_k Bh_40.2.2 kb_1) b_39 (cw_k Bh_40.2.2 kb_39) (some bh_2) (fun b h => by cases h; exact (cw_k Bh_40.2.2 kbh_2)) b_43 (cw_k Bh_40.2.2 kb_43)) lb_X10_marksAlong lv_X10_marksAlong lk_X11_270 (cw_k Bh_40.2.2 kb_1) rfl (by decide) rfl hl.1 rfl (Nat.le_of_ble_eq_true rfl) dX11_tellGrowth_54 ⟨Nat.le_refl _, Nat.le_refl _⟩) (fun _ h => cw_tr Bh_40.2.2 h (by decide)) rfl (fun αh_44 Hh_44 Lh_44 ph_44 Bh_44 => ?_)
      refine lv_aload_n hx hb dX11_tellGrowth_57 rfl (lv_at hl 2 rfl) (hp_n (n := 58) rfl ?_)
      refine lv_iconst (v := 0) hx hb dX11_tellGrowth_58 (by decide) (hp_n (n := 59) rfl ?_)
      refine q_puti (κ := 12) (k := 11) (φ := 611) (pc' := 62) C Bh_44 (cw_k Bh_44.2.2 k0) fl_X11_56 rfl rfl rfl rfl rfl rfl (cw_sI Bh_44.2.2 (by decide) (fun h => absurd h (by decide))) dX11_tellGrowth_59 rfl (fun αh_45 Hh_45 Lh_45 eh_45 Bh_45 => ?_)
      refine lv_aload_n hx hb dX11_tellGrowth_62 rfl (lv_at hl 2 rfl) (hp_n (n := 63) rfl ?_)
      refine st_ldcw hx hb hown (sr_X11_427 C.2) dX11_tellGrowth_63 (hp_n (n := 66) rfl ?_)
      refine q_cv (pc' := 69) Bh_45 (hp_runV (As := [.ref (Γ.2.2.2.2.1 12)]) (rest := []) C Bh_45 (t_X11_tellText Γ l αh_45 Bh_45.2.2.1 a0 (cw_k Bh_45.2.2 k0) 12 (by decide)) lb_X11_tellText lv_X11_tellText lk_X11_411 (cw_k Bh_45.2.2 k0) rfl (by decide) rfl hl.1 rfl (Nat.le_of_ble_eq_true rfl) dX11_tellGrowth_66 ⟨Nat.le_refl _, Nat.le_refl _⟩) (fun _ h => cw_tr Bh_45.2.2 h (by decide)) rfl (fun αh_46 Hh_46 Lh_46 ph_46 Bh_46 => ?_)
      refine lv_aload_n hx hb dX11_tellGrowth_69 rfl (lv_at hl 2 rfl) (hp_n (n := 70) rfl ?_)
      refine lv_iload_n hx hb dX11_tellGrowth_70 rfl (lv_at hl 4 rfl) (hp_n (n := 71) rfl ?_)
      refine q_cv (pc' := 74) Bh_46 (hp_runV (As := [.int a2]) (rest := []) C Bh_46 (t_X11_tellNumber Γ l αh_46 Bh_46.2.2.1 a0 (cw_k Bh_46.2.2 k0) a2) lb_X11_tellNumber lv_X11_tellNumber lk_X11_415 (cw_k Bh_46.2.2 k0) rfl (by decide) rfl hl.1 rfl (Nat.le_of_ble_eq_true rfl) dX11_tellGrowth_71 ⟨Nat.le_refl _, Nat.le_refl _⟩) (fun _ h => cw_tr Bh_46.2.2 h (by decide)) rfl (fun αh_47 Hh_47 Lh_47 ph_47 Bh_47 => ?_)
      refine lv_aload_n hx hb dX11_tellGrowth_74 rfl (lv_at hl 2 rfl) (hp_n (n := 75) rfl ?_)
      refine st_ldcw hx hb hown (sr_X11_420 C.2) dX11_tellGrowth_75 (hp_n (n := 78) rfl ?_)
      refine q_cv (pc' := 81) Bh_47 (hp_runV (As := [.ref (Γ.2.2.2.2.1 3)]) (rest := []) C Bh_47 (t_X11_tellText Γ l αh_47 Bh_47.2.2.1 a0 (cw_k Bh_47.2.2 k0) 3 (by decide)) lb_X11_tellText lv_X11_tellText lk_X11_411 (cw_k Bh_47.2.2 k0) rfl (by decide) rfl hl.1 rfl (Nat.le_of_ble_eq_true rfl) dX11_tellGrowth_78 ⟨Nat.le_refl _, Nat.le_refl _⟩) (fun _ h => cw_tr Bh_47.2.2 h (by decide)) rfl (fun αh_48 Hh_48 Lh_48 ph_48 Bh_48 => ?_)
      refine lv_aload_n hx hb dX11_tellGrowth_81 rfl (lv_at hl 2 rfl) (hp_n (n := 82) rfl ?_)
      refine lv_aload_n hx hb dX11_tellGrowth_82 rfl (lv_at hl 2 rfl) (hp_n (n := 83) rfl ?_)
      have t_49 : b_1 = hp_R αh_44 601 a0 := by rw [cw_R ph_44 a0 (by decide)]; exact t_41
      have t_50 : b_1 = hp_R αh_45 601 a0 := by rw [eh_45]; exact t_49
      have t_51 : b_1 = hp_R αh_46 601 a0 := by rw [cw_R ph_46 a0 (by decide)]; exact t_50
      have t_52 : b_1 = hp_R αh_47 601 a0 := by rw [cw_R ph_47 a0 (by decide)]; exact t_51
      have t_53 : b_1 = hp_R αh_48 601 a0 := by rw [cw_R ph_48 a0 (by decide)]; exact t_52
      refine q_gets (κ := 12) (k := 1) (φ := 601) (pc' := 86) C Bh_48 (cw_k Bh_48.2.2 k0) fl_X11_16 rfl rfl rfl t_53 dX11_tellGrowth_83 rfl ?_
      refine lv_aload hx hb dX11_tellGrowth_86 (lv_at hl 1 rfl) (hp_n (n := 88) rfl ?_)
      refine lv_iload_n hx hb dX11_tellGrowth_88 rfl (lv_at hl 4 rfl) (hp_n (n := 89) rfl ?_)
      refine q_ci (pc' := 92) Bh_48 (hp_runV (As := [va_rf (some bh_2), .int a2]) (rest := [.ref a0]) C Bh_48 (t_X10_headOf Γ l αh_48 Bh_48.2.2.1 b_1 (cw_k Bh_48.2.2 kb_1) (some bh_2) (fun b h => by cases h; exact (cw_k Bh_48.2.2 kbh_2)) a2) lb_X10_headOf lv_X10_headOf lk_X11_184 (cw_k Bh_48.2.2 kb_1) rfl (by decide) rfl hl.1 rfl (Nat.le_of_ble_eq_true rfl) dX11_tellGrowth_89 ⟨Nat.le_refl _, Nat.le_refl _⟩) (fun _ _ h => cw_tr Bh_48.2.2 h (by decide)) rfl (fun rh_54 αh_54 Hh_54 Lh_54 ph_54 Bh_54 => ?_)
      refine q_cv (pc' := 95) Bh_54 (hp_runV (As := [.int rh_54]) (rest := []) C Bh_54 (t_X11_tellNumber Γ l αh_54 Bh_54.2.2.1 a0 (cw_k Bh_54.2.2 k0) rh_54) lb_X11_tellNumber lv_X11_tellNumber lk_X11_415 (cw_k Bh_54.2.2 k0) rfl (by decide) rfl hl.1 rfl (Nat.le_of_ble_eq_true rfl) dX11_tellGrowth_92 ⟨Nat.le_refl _, Nat.le_refl _⟩) (fun _ h => cw_tr Bh_54.2.2 h (by decide)) rfl (fun αh_55 Hh_55 Lh_55 ph_55 Bh_55 => ?_)
      refine lv_aload_n hx hb dX11_tellGrowth_95 rfl (lv_at hl 2 rfl) (hp_n (n := 96) rfl ?_)
      refine st_ldcw hx hb hown (sr_X11_429 C.2) dX11_tellGrowth_96 (hp_n (n := 99) rfl ?_)
      refine q_cv (pc' := 102) Bh_55 (hp_runV (As := [.ref (Γ.2.2.2.2.1 5)]) (rest := []) C Bh_55 (t_X11_tellText Γ l αh_55 Bh_55.2.2.1 a0 (cw_k Bh_55.2.2 k0) 5 (by decide)) lb_X11_tellText lv_X11_tellText lk_X11_411 (cw_k Bh_55.2.2 k0) rfl (by decide) rfl hl.1 rfl (Nat.le_of_ble_eq_true rfl) dX11_tellGrowth_99 ⟨Nat.le_refl _, Nat.le_refl _⟩) (fun _ h => cw_tr Bh_55.2.2 h (by decide)) rfl (fun αh_56 Hh_56 Lh_56 ph_56 Bh_56 => ?_)
      refine lv_aload_n hx hb dX11_tellGrowth_102 rfl (lv_at hl 2 rfl) (hp_n (n := 103) rfl ?_)
      refine lv_iload_n hx hb dX11_tellGrowth_103 rfl (lv_at hl 5 rfl) (hp_n (n := 104) rfl ?_)
      refine q_cv (pc' := 107) Bh_56 (hp_runV (As := [.int a3]) (rest := []) C Bh_56 (t_X11_tellNumber Γ l αh_56 Bh_56.2.2.1 a0 (cw_k Bh_56.2.2 k0) a3) lb_X11_tellNumber lv_X11_tellNumber lk_X11_415 (cw_k Bh_56.2.2 k0) rfl (by decide) rfl hl.1 rfl (Nat.le_of_ble_eq_true rfl) dX11_tellGrowth_104 ⟨Nat.le_refl _, Nat.le_refl _⟩) (fun _ h => cw_tr Bh_56.2.2 h (by decide)) rfl (fun αh_57 Hh_57 Lh_57 ph_57 Bh_57 => ?_)
      refine lv_aload_n hx hb dX11_tellGrowth_107 rfl (lv_at hl 2 rfl) (hp_n (n := 108) rfl ?_)
      refine st_ldcw hx hb hown (sr_X11_422 C.2) dX11_tellGrowth_108 (hp_n (n := 111) rfl ?_)
      refine q_cv (pc' := 114) Bh_57 (hp_runV (As := [.ref (Γ.2.2.2.2.1 2)]) (rest := []) C Bh_57 (t_X11_tellText Γ l αh_57 Bh_57.2.2.1 a0 (cw_k Bh_57.2.2 k0) 2 (by decide)) lb_X11_tellText lv_X11_tellText lk_X11_411 (cw_k Bh_57.2.2 k0) rfl (by decide) rfl hl.1 rfl (Nat.le_of_ble_eq_true rfl) dX11_tellGrowth_111 ⟨Nat.le_refl _, Nat.le_refl _⟩) (fun _ h => cw_tr Bh_57.2.2 h (by decide)) rfl (fun αh_58 Hh_58 Lh_58 ph_58 Bh_58 => ?_)
      refine lv_aload_n hx hb dX11_tellGrowth_114 rfl (lv_at hl 2 rfl) (hp_n (n := 115) rfl ?_)
      refine lv_aload_n hx hb dX11_tellGrowth_115 rfl (lv_at hl 2 rfl) (hp_n (n := 116) rfl ?_)
      have t_59 : b_1 = hp_R αh_54 601 a0 := by rw [cw_R ph_54 a0 (by decide)]; exact t_53
      have t_60 : b_1 = hp_R αh_55 601 a0 := by rw [cw_R ph_55 a0 (by decide)]; exact t_59
      have t_61 : b_1 = hp_R αh_56 601 a0 := by rw [cw_R ph_56 a0 (by decide)]; exact t_60
      have t_62 : b_1 = hp_R αh_57 601 a0 := by rw [cw_R ph_57 a0 (by decide)]; exact t_61
      have t_63 : b_1 = hp_R αh_58 601 a0 := by rw [cw_R ph_58 a0 (by decide)]; exact t_62
      refine q_gets (κ := 12) (k := 1) (φ := 601) (pc' := 119) C Bh_58 (cw_k Bh_58.2.2 k0) fl_X11_16 rfl rfl rfl t_63 dX11_tellGrowth_116 rfl ?_
      refine lv_aload hx hb dX11_tellGrowth_119 (lv_at hl 1 rfl) (hp_n (n := 121) rfl ?_)
      refine lv_iload_n hx hb dX11_tellGrowth_121 rfl (lv_at hl 5 rfl) (hp_n (n := 122) rfl ?_)
      refine q_ci (pc' := 125) Bh_58 (hp_runV (As := [va_rf (some bh_2), .int a3]) (rest := [.ref a0]) C Bh_58 (t_X10_headOf Γ l αh_58 Bh_58.2.2.1 b_1 (cw_k Bh_58.2.2 kb_1) (some bh_2) (fun b h => by cases h; exact (cw_k Bh_58.2.2 kbh_2)) a3) lb_X10_headOf lv_X10_headOf lk_X11_184 (cw_k Bh_58.2.2 kb_1) rfl (by decide) rfl hl.1 rfl (Nat.le_of_ble_eq_true rfl) dX11_tellGrowth_122 ⟨Nat.le_refl _, Nat.le_refl _⟩) (fun _ _ h => cw_tr Bh_58.2.2 h (by decide)) rfl (fun rh_64 αh_64 Hh_64 Lh_64 ph_64 Bh_64 => ?_)
      refine q_cv (pc' := 128) Bh_64 (hp_runV (As := [.int rh_64]) (rest := []) C Bh_64 (t_X11_tellNumber Γ l αh_64 Bh_64.2.2.1 a0 (cw_k Bh_64.2.2 k0) rh_64) lb_X11_tellNumber lv_X11_tellNumber lk_X11_415 (cw_k Bh_64.2.2 k0) rfl (by decide) rfl hl.1 rfl (Nat.le_of_ble_eq_true rfl) dX11_tellGrowth_125 ⟨Nat.le_refl _, Nat.le_refl _⟩) (fun _ h => cw_tr Bh_64.2.2 h (by decide)) rfl (fun αh_65 Hh_65 Lh_65 ph_65 Bh_65 => ?_)
      refine lv_aload_n hx hb dX11_tellGrowth_128 rfl (lv_at hl 2 rfl) (hp_n (n := 129) rfl ?_)
      refine q_cv (pc' := 132) Bh_65 (hp_runV (As := []) (rest := []) C Bh_65 (t_X11_tellProof Γ l αh_65 Bh_65.2.2.1 a0 (cw_k Bh_65.2.2 k0)) lb_X11_tellProof lv_X11_tellProof lk_X11_424 (cw_k Bh_65.2.2 k0) rfl (by decide) rfl hl.1 rfl (Nat.le_of_ble_eq_true rfl) dX11_tellGrowth_129 ⟨Nat.le_refl _, Nat.le_refl _⟩) (fun _ h => cw_tr Bh_65.2.2 h (by decide)) rfl (fun αh_66 Hh_66 Lh_66 ph_66 Bh_66 => ?_)
      refine lv_aload_n hx hb dX11_tellGrowth_132 rfl (lv_at hl 2 rfl) (hp_n (n := 133) rfl ?_)
      refine lv_aload_n hx hb dX11_tellGrowth_133 rfl (lv_at hl 2 rfl) (hp_n (n := 134) rfl ?_)
      have t_67 : 0 = hp_I αh_45 611 a0 := by rw [eh_45]; exact hp_I_at.symm
      refine q_geti (κ := 12) (k := 11) (φ := 611) (pc' := 137) C Bh_66 (cw_k Bh_66.2.2 k0) fl_X11_56 rfl rfl rfl dX11_tellGrowth_134 rfl (fun x_68 ex_68 => ?_)
      refine q_ci (pc' := 140) Bh_66 (hp_runV (As := [.int x_68]) (rest := []) C Bh_66 (t_X11_answer Γ l αh_66 Bh_66.2.2.1 a0 (cw_k Bh_66.2.2 k0) x_68) lb_X11_answer lv_X11_answer lk_X11_115 (cw_k Bh_66.2.2 k0) rfl (by decide) rfl hl.1 rfl (Nat.le_of_ble_eq_true rfl) dX11_tellGrowth_137 ⟨Nat.le_refl _, Nat.le_refl _⟩) (fun _ _ h => cw_tr Bh_66.2.2 h (by decide)) rfl (fun rh_69 αh_69 Hh_69 Lh_69 ph_69 Bh_69 => ?_)
      exact q_iret C Bh_69 hr hlk Bh_69.2.2 dX11_tellGrowth_140
    ·
      have jc_38 := il_ne c_38
      refine lv_aload_n hx hb dX11_tellGrowth_24 rfl (lv_at hl 2 rfl) (hp_n (n := 25) rfl ?_)
      refine lv_iload hx hb dX11_tellGrowth_25 (lv_at hl 0 rfl) (hp_n (n := 27) rfl ?_)
      refine q_ci (pc' := 30) Bh_37 (hp_runV (As := [.int rh_37]) (rest := []) C Bh_37 (t_X11_refuse Γ l α Bh_37.2.2.1 a0 (cw_k Bh_37.2.2 k0) rh_37) lb_X11_refuse lv_X11_refuse lk_X11_98 (cw_k Bh_37.2.2 k0) rfl (by decide) rfl hl.1 rfl (Nat.le_of_ble_eq_true rfl) dX11_tellGrowth_27 ⟨Nat.le_refl _, Nat.le_refl _⟩) (fun _ _ h => cw_tr Bh_37.2.2 h (by decide)) rfl (fun rh_70 αh_70 Hh_70 Lh_70 ph_70 Bh_70 => ?_)
      exact q_iret C Bh_70 hr hlk Bh_70.2.2 dX11_tellGrowth_30
abbrev w_X11_out : cw_W := ([600], [], [], [])
set_option maxRecDepth 100000 in
set_option maxHeartbeats 4000000 in
theorem t_X11_out (Γ : hp_G) (l : Launch) (α : hp_T) (g : GC α) (a0 : Nat) (k0 : hp_K α a0 = 12) (a1 : Int32) : Met l yX11_out (hp_ws yX11_out cX11_out 2 (some .int)) (hp_rm 1 0 0) (hp_Pc Γ α [.ref a0, .int a1]) (hp_Qi Γ (fun r β => cw w_X11_out α β)) 0 0 (hp_A Γ) := by
  refine hp_start (by decide) ?_
  intro p e s m below meth c C hr hlk B0 hnm
  have C : hp_C Γ p m c cX11_out 2 s ([.ref a0, .int a1] : List Value).toArray RX11 := C
  have hx := C.1.1
  have hb := C.1.2.1
  have hown := C.1.2.2.2.1
  have hts := C.1.2.2.2.2
  have B : hp_B Γ (cw w_X11_out) s α α s.heap [] := ⟨B0.1, B0.2.1, cw_rf g⟩
  have lit0 : (0 : Int32).toInt = 0 := by decide
  have lit1 : (1 : Int32).toInt = 1 := by decide
  have lit5 : (5 : Int32).toInt = 5 := by decide
  have lit256 : (256 : Int32).toInt = 256 := by decide
  have hl := lv_entry ([.ref a0, .int a1]) (n := 2) (Nat.le_of_ble_eq_true rfl)
  show W p l e (hp_rm 1 0 0) s m ([.ref a0, .int a1] : List Value).toArray below meth c s.heap [] 0 0 (MQ below (hp_Qi Γ (fun r β => cw w_X11_out α β)) ([.ref a0, .int a1] : List Value).toArray s 0 0 (hp_A Γ)) (entryFrame m ([.ref a0, .int a1] : List Value).toArray 2)
  rw [lg_entry_eq]
  generalize (lg_sl ([.ref a0, .int a1]) ++ List.replicate (2 - (lg_sl ([.ref a0, .int a1])).length) Slot.unset).toArray = ls at hl ⊢
  have hl : lv_has ls 2 [(0, .ref a0), (1, .int a1)] := hl
  refine lv_iload_n hx hb dX11_out_0 rfl (lv_at hl 1 rfl) (hp_n (n := 1) rfl ?_)
  refine lv_if_ge (tgt := 10) hx hb dX11_out_1 (by decide) (fun c_1 => ?_) (fun c_1 => hp_n (n := 4) rfl ?_)
  ·
    have jc_1 := il_le c_1
    refine lv_iload_n hx hb dX11_out_10 rfl (lv_at hl 1 rfl) (hp_n (n := 11) rfl ?_)
    refine lv_aload_n hx hb dX11_out_11 rfl (lv_at hl 0 rfl) (hp_n (n := 12) rfl ?_)
    refine q_geti (κ := 12) (k := 11) (φ := 611) (pc' := 15) C B (cw_k B.2.2 k0) fl_X11_56 rfl rfl rfl dX11_out_12 rfl (fun x_2 ex_2 => ?_)
    have J40 : ∀ (Hh_3 : Heap) (Lh_3 : List Loc) (Bh_3 : hp_B Γ (cw w_X11_out) s α α Hh_3 Lh_3) (ls : Array Slot) (hl : lv_has ls 2 [(0, .ref a0)]), W p l e (hp_rm 1 0 0) s m ([.ref a0, .int a1] : List Value).toArray below meth c Hh_3 Lh_3 0 0 (MQ below (hp_Qi Γ (fun r β => cw w_X11_out α β)) ([.ref a0, .int a1] : List Value).toArray s 0 0 (hp_A Γ)) (F0 m 40 ls []) := by
      intro Hh_3 Lh_3 Bh_3 ls hl
      refine lv_aload_n hx hb dX11_out_40 rfl (lv_at hl 0 rfl) (hp_n (n := 41) rfl ?_)
      refine lv_iconst (v := 5) hx hb dX11_out_41 (by decide) (hp_n (n := 42) rfl ?_)
      refine q_ci (pc' := 45) Bh_3 (hp_runV (As := [.int 5]) (rest := []) C Bh_3 (t_X11_refuse Γ l α Bh_3.2.2.1 a0 (cw_k Bh_3.2.2 k0) 5) lb_X11_refuse lv_X11_refuse lk_X11_98 (cw_k Bh_3.2.2 k0) rfl (by decide) rfl hl.1 rfl (Nat.le_of_ble_eq_true rfl) dX11_out_42 ⟨Nat.le_refl _, Nat.le_refl _⟩) (fun _ _ h => cw_tr Bh_3.2.2 h (by decide)) rfl (fun rh_4 αh_4 Hh_4 Lh_4 ph_4 Bh_4 => ?_)
      exact q_iret C Bh_4 hr hlk Bh_4.2.2 dX11_out_45
    refine lv_icmp_ge (tgt := 40) hx hb dX11_out_15 (by decide) (fun c_5 => ?_) (fun c_5 => hp_n (n := 18) rfl ?_)
    ·
      have jc_5 := il_le c_5
      exact J40 s.heap [] B ls (lv_sub hl [0] rfl)
    ·
      have jc_5 := il_nle c_5
      refine lv_iload_n hx hb dX11_out_18 rfl (lv_at hl 1 rfl) (hp_n (n := 19) rfl ?_)
      refine lv_aload_n hx hb dX11_out_19 rfl (lv_at hl 0 rfl) (hp_n (n := 20) rfl ?_)
      refine q_getr (κ := 12) (k := 10) (φ := 610) (pc' := 23) C B (cw_k B.2.2 k0) fl_X11_53 rfl rfl rfl (cw_r B.2.2 k0 rfl rfl (by decide) (by decide)) dX11_out_20 rfl (fun b_6 eb_6 kb_6 => ?_)
      refine q_alen (κ := 25) (t := 1) (n := 256) (x := 256) (ty := .byte) (pc' := 24) C B (cw_k B.2.2 kb_6) (by decide) rfl rfl rfl dX11_out_23 rfl ?_
      refine lv_icmp_ge (tgt := 40) hx hb dX11_out_24 (by decide) (fun c_7 => ?_) (fun c_7 => hp_n (n := 27) rfl ?_)
      ·
        have jc_7 := il_le c_7
        exact J40 s.heap [] B ls (lv_sub hl [0] rfl)
      ·
        have jc_7 := il_nle c_7
        refine lv_aload_n hx hb dX11_out_27 rfl (lv_at hl 0 rfl) (hp_n (n := 28) rfl ?_)
        refine lv_aload_n hx hb dX11_out_28 rfl (lv_at hl 0 rfl) (hp_n (n := 29) rfl ?_)
        refine q_gets (κ := 12) (k := 10) (φ := 610) (pc' := 32) C B (cw_k B.2.2 k0) fl_X11_53 rfl rfl rfl eb_6 dX11_out_29 rfl ?_
        refine lv_iload_n hx hb dX11_out_32 rfl (lv_at hl 1 rfl) (hp_n (n := 33) rfl ?_)
        refine q_bal (κ := 25) (n := 256) (pc' := 34) C B (cw_k B.2.2 kb_6) (by decide) rfl (vi_of (by omega) (by omega)) dX11_out_33 rfl (lv_topi (fun x_8 ex_8 => ?_))
        refine q_ci (pc' := 37) B (hp_runV (As := [.int x_8]) (rest := []) C B (t_X11_answer Γ l α B.2.2.1 a0 (cw_k B.2.2 k0) x_8) lb_X11_answer lv_X11_answer lk_X11_115 (cw_k B.2.2 k0) rfl (by decide) rfl hl.1 rfl (Nat.le_of_ble_eq_true rfl) dX11_out_34 ⟨Nat.le_refl _, Nat.le_refl _⟩) (fun _ _ h => cw_tr B.2.2 h (by decide)) rfl (fun rh_9 αh_9 Hh_9 Lh_9 ph_9 Bh_9 => ?_)
        refine lv_goto (tgt := 45) hx hb dX11_out_37 (by decide) ?_
        exact q_iret C Bh_9 hr hlk Bh_9.2.2 dX11_out_45
  ·
    have jc_1 := il_nle c_1
    refine lv_aload_n hx hb dX11_out_4 rfl (lv_at hl 0 rfl) (hp_n (n := 5) rfl ?_)
    refine lv_iconst (v := 1) hx hb dX11_out_5 (by decide) (hp_n (n := 6) rfl ?_)
    refine q_ci (pc' := 9) B (hp_runV (As := [.int 1]) (rest := []) C B (t_X11_refuse Γ l α B.2.2.1 a0 (cw_k B.2.2 k0) 1) lb_X11_refuse lv_X11_refuse lk_X11_98 (cw_k B.2.2 k0) rfl (by decide) rfl hl.1 rfl (Nat.le_of_ble_eq_true rfl) dX11_out_6 ⟨Nat.le_refl _, Nat.le_refl _⟩) (fun _ _ h => cw_tr B.2.2 h (by decide)) rfl (fun rh_10 αh_10 Hh_10 Lh_10 ph_10 Bh_10 => ?_)
    exact q_iret C Bh_10 hr hlk Bh_10.2.2 dX11_out_9
abbrev w_X11_trusted : cw_W := ([600], [], [], [])
set_option maxRecDepth 100000 in
set_option maxHeartbeats 4000000 in
theorem t_X11_trusted (Γ : hp_G) (l : Launch) (α : hp_T) (g : GC α) (a0 : Nat) (k0 : hp_K α a0 = 12) (a1 : Int32) (a2 : Int32) : Met l yX11_trusted (hp_ws yX11_trusted cX11_trusted 6 (some .int)) (hp_rm 1 0 0) (hp_Pc Γ α [.ref a0, .int a1, .int a2]) (hp_Qi Γ (fun r β => cw w_X11_trusted α β)) 0 0 (hp_A Γ) := by
  refine hp_start (by decide) ?_
  intro p e s m below meth c C hr hlk B0 hnm
  have C : hp_C Γ p m c cX11_trusted 6 s ([.ref a0, .int a1, .int a2] : List Value).toArray RX11 := C
  have hx := C.1.1
  have hb := C.1.2.1
  have hown := C.1.2.2.2.1
  have hts := C.1.2.2.2.2
  have B : hp_B Γ (cw w_X11_trusted) s α α s.heap [] := ⟨B0.1, B0.2.1, cw_rf g⟩
  have lit0 : (0 : Int32).toInt = 0 := by decide
  have lit1 : (1 : Int32).toInt = 1 := by decide
  have lit4 : (4 : Int32).toInt = 4 := by decide
  have hl := lv_entry ([.ref a0, .int a1, .int a2]) (n := 6) (Nat.le_of_ble_eq_true rfl)
  show W p l e (hp_rm 1 0 0) s m ([.ref a0, .int a1, .int a2] : List Value).toArray below meth c s.heap [] 0 0 (MQ below (hp_Qi Γ (fun r β => cw w_X11_trusted α β)) ([.ref a0, .int a1, .int a2] : List Value).toArray s 0 0 (hp_A Γ)) (entryFrame m ([.ref a0, .int a1, .int a2] : List Value).toArray 6)
  rw [lg_entry_eq]
  generalize (lg_sl ([.ref a0, .int a1, .int a2]) ++ List.replicate (6 - (lg_sl ([.ref a0, .int a1, .int a2])).length) Slot.unset).toArray = ls at hl ⊢
  have hl : lv_has ls 6 [(0, .ref a0), (1, .int a1), (2, .int a2)] := hl
  refine lv_iload_n hx hb dX11_trusted_0 rfl (lv_at hl 1 rfl) (hp_n (n := 1) rfl ?_)
  have J12 : ∀ (Hh_1 : Heap) (Lh_1 : List Loc) (Bh_1 : hp_B Γ (cw w_X11_trusted) s α α Hh_1 Lh_1) (ls : Array Slot) (hl : lv_has ls 6 [(0, .ref a0)]), W p l e (hp_rm 1 0 0) s m ([.ref a0, .int a1, .int a2] : List Value).toArray below meth c Hh_1 Lh_1 0 0 (MQ below (hp_Qi Γ (fun r β => cw w_X11_trusted α β)) ([.ref a0, .int a1, .int a2] : List Value).toArray s 0 0 (hp_A Γ)) (F0 m 12 ls []) := by
    intro Hh_1 Lh_1 Bh_1 ls hl
    refine lv_aload_n hx hb dX11_trusted_12 rfl (lv_at hl 0 rfl) (hp_n (n := 13) rfl ?_)
    refine lv_iconst (v := 1) hx hb dX11_trusted_13 (by decide) (hp_n (n := 14) rfl ?_)
    refine q_ci (pc' := 17) Bh_1 (hp_runV (As := [.int 1]) (rest := []) C Bh_1 (t_X11_refuse Γ l α Bh_1.2.2.1 a0 (cw_k Bh_1.2.2 k0) 1) lb_X11_refuse lv_X11_refuse lk_X11_98 (cw_k Bh_1.2.2 k0) rfl (by decide) rfl hl.1 rfl (Nat.le_of_ble_eq_true rfl) dX11_trusted_14 ⟨Nat.le_refl _, Nat.le_refl _⟩) (fun _ _ h => cw_tr Bh_1.2.2 h (by decide)) rfl (fun rh_2 αh_2 Hh_2 Lh_2 ph_2 Bh_2 => ?_)
    exact q_iret C Bh_2 hr hlk Bh_2.2.2 dX11_trusted_17
  refine lv_if_lt (tgt := 12) hx hb dX11_trusted_1 (by decide) (fun c_3 => ?_) (fun c_3 => hp_n (n := 4) rfl ?_)
  ·
    have jc_3 := il_lt c_3
    exact J12 s.heap [] B ls (lv_sub hl [0] rfl)
  ·
    have jc_3 := il_nlt c_3
    refine lv_aload_n hx hb dX11_trusted_4 rfl (lv_at hl 0 rfl) (hp_n (n := 5) rfl ?_)
    refine lv_iload_n hx hb dX11_trusted_5 rfl (lv_at hl 2 rfl) (hp_n (n := 6) rfl ?_)
    refine q_ci (pc' := 9) B (hp_runV (As := [.int a2]) (rest := []) C B (t_X11_isMark Γ l α B.2.2.1 a0 (cw_k B.2.2 k0) a2) lb_X11_isMark lv_X11_isMark lk_X11_188 (cw_k B.2.2 k0) rfl (by decide) rfl hl.1 rfl (Nat.le_of_ble_eq_true rfl) dX11_trusted_6 ⟨Nat.le_refl _, Nat.le_refl _⟩) (fun _ _ h => by rw [h.1]; exact B.2.2) rfl (fun rh_4 αh_4 Hh_4 Lh_4 ph_4 Bh_4 => ?_)
    rw [ph_4.1] at Bh_4
    have zh_4 := ph_4.2
    refine lv_if_ne (tgt := 18) hx hb dX11_trusted_9 (by decide) (fun c_5 => ?_) (fun c_5 => hp_n (n := 12) rfl ?_)
    ·
      have jc_5 := il_ne c_5
      refine lv_iconst (v := 0) hx hb dX11_trusted_18 (by decide) (hp_n (n := 19) rfl ?_)
      refine lv_istore_n (lv' := [(3, .int 0), (0, .ref a0), (1, .int a1), (2, .int a2)]) hx hb dX11_trusted_19 rfl hl (by decide) rfl (fun ls hl => hp_n (n := 20) rfl ?_)
      refine lv_iconst (v := 0) hx hb dX11_trusted_20 (by decide) (hp_n (n := 21) rfl ?_)
      have J23 : ∀ (nq : Nat) (Hh_6 : Heap) (Lh_6 : List Loc) (Bh_6 : hp_B Γ (cw w_X11_trusted) s α α Hh_6 Lh_6) (v3_h_6 : Int32) (v4_h_6 : Int32) (ih_6_0 : 0 ≤ v4_h_6.toInt) (ls : Array Slot) (hl : lv_has ls 6 [(0, .ref a0), (1, .int a1), (2, .int a2), (3, .int v3_h_6), (4, .int v4_h_6)]) (hmu23 : (2147483647 - v4_h_6.toInt).toNat = nq), W p l e (hp_rm 1 0 0) s m ([.ref a0, .int a1, .int a2] : List Value).toArray below meth c Hh_6 Lh_6 0 0 (MQ below (hp_Qi Γ (fun r β => cw w_X11_trusted α β)) ([.ref a0, .int a1, .int a2] : List Value).toArray s 0 0 (hp_A Γ)) (F0 m 23 ls []) := by
        intro nq
        induction nq using Nat.strongRecOn with
        | ind nq ih23 =>
        intro Hh_6 Lh_6 Bh_6 v3_h_6 v4_h_6 ih_6_0 ls hl hmu23
        have inv23_0 := ih_6_0
        refine lv_iload hx hb dX11_trusted_23 (lv_at hl 4 rfl) (hp_n (n := 25) rfl ?_)
        refine lv_iconst (v := 4) hx hb dX11_trusted_25 (by decide) (hp_n (n := 26) rfl ?_)
        refine lv_icmp_ge (tgt := 72) hx hb dX11_trusted_26 (by decide) (fun c_7 => ?_) (fun c_7 => hp_n (n := 29) rfl ?_)
        ·
          have jc_7 := il_le c_7
          refine lv_aload_n hx hb dX11_trusted_72 rfl (lv_at hl 0 rfl) (hp_n (n := 73) rfl ?_)
          refine lv_iload_n hx hb dX11_trusted_73 rfl (lv_at hl 3 rfl) (hp_n (n := 74) rfl ?_)
          refine q_ci (pc' := 77) Bh_6 (hp_runV (As := [.int v3_h_6]) (rest := []) C Bh_6 (t_X11_answer Γ l α Bh_6.2.2.1 a0 (cw_k Bh_6.2.2 k0) v3_h_6) lb_X11_answer lv_X11_answer lk_X11_115 (cw_k Bh_6.2.2 k0) rfl (by decide) rfl hl.1 rfl (Nat.le_of_ble_eq_true rfl) dX11_trusted_74 ⟨Nat.le_refl _, Nat.le_refl _⟩) (fun _ _ h => cw_tr Bh_6.2.2 h (by decide)) rfl (fun rh_8 αh_8 Hh_8 Lh_8 ph_8 Bh_8 => ?_)
          exact q_iret C Bh_8 hr hlk Bh_8.2.2 dX11_trusted_77
        ·
          have jc_7 := il_nle c_7
          refine lv_aload_n hx hb dX11_trusted_29 rfl (lv_at hl 0 rfl) (hp_n (n := 30) rfl ?_)
          refine q_getr (κ := 12) (k := 1) (φ := 601) (pc' := 33) C Bh_6 (cw_k Bh_6.2.2 k0) fl_X11_16 rfl rfl rfl (cw_r Bh_6.2.2 k0 rfl rfl (by decide) (by decide)) dX11_trusted_30 rfl (fun b_9 eb_9 kb_9 => ?_)
          refine lv_iload hx hb dX11_trusted_33 (lv_at hl 4 rfl) (hp_n (n := 35) rfl ?_)
          refine q_cq (pc' := 38) Bh_6 (hp_runV (As := [.int v4_h_6]) (rest := []) C Bh_6 (t_X10_watcherAt Γ l α Bh_6.2.2.1 b_9 (cw_k Bh_6.2.2 kb_9) v4_h_6) lb_X10_watcherAt lv_X10_watcherAt lk_X11_220 (cw_k Bh_6.2.2 kb_9) rfl (by decide) rfl hl.1 rfl (Nat.le_of_ble_eq_true rfl) dX11_trusted_35 ⟨Nat.le_refl _, Nat.le_refl _⟩) (fun _ _ h => by rw [h.1]; exact Bh_6.2.2) rfl (fun rh_10 αh_10 Hh_10 Lh_10 ph_10 Bh_10 => ?_)
          rw [ph_10.1] at Bh_10
          rcases rh_10 with _ | bh_10
          ·
            refine lv_astoreN (lv' := [(5, .null), (0, .ref a0), (1, .int a1), (2, .int a2), (3, .int v3_h_6), (4, .int v4_h_6)]) hx hb dX11_trusted_38 hl (by decide) rfl (fun ls hl => hp_n (n := 40) rfl ?_)
            refine lv_aloadN hx hb dX11_trusted_40 (lv_at hl 0 rfl) (hp_n (n := 42) rfl ?_)
            refine lv_ifnullN (tgt := 66) hx hb dX11_trusted_42 (by decide) ?_
            obtain ⟨x_11, ex_11⟩ : ∃ y : Int32, y = v4_h_6 + 1 := ⟨_, rfl⟩
            have qx_11 : x_11.toInt = v4_h_6.toInt + 1 := by have qa := ib_lo v4_h_6; rw [ex_11]; exact ii_add (by omega) (by omega)
            refine lv_iinc (v := x_11) (lv' := [(4, .int x_11), (5, .null), (0, .ref a0), (1, .int a1), (2, .int a2), (3, .int v3_h_6)]) hx hb dX11_trusted_66 hl (k := 5) rfl (by rw [ex_11]; rfl) (by decide) rfl (fun ls hl => hp_n (n := 69) rfl ?_)
            refine lv_goto (tgt := 23) hx hb dX11_trusted_69 (by decide) ?_
            exact ih23 _ (by have qa := ib_hi v4_h_6; have qb := ib_lo v4_h_6; have qc : (v4_h_6 + 1).toInt = v4_h_6.toInt + (1 : Int32).toInt := ii_add (by omega) (by omega); rw [ex_11]; omega) Hh_10 Lh_10 Bh_10 v3_h_6 x_11 (by omega) ls (lv_sub hl [2, 3, 4, 5, 0] rfl) rfl
          ·
            have kbh_10 : hp_K α bh_10 = 8 := cw_k' Bh_10.2.2 (ph_10.2 bh_10 rfl)
            refine lv_astore (lv' := [(5, .ref bh_10), (0, .ref a0), (1, .int a1), (2, .int a2), (3, .int v3_h_6), (4, .int v4_h_6)]) hx hb dX11_trusted_38 hl (by decide) rfl (fun ls hl => hp_n (n := 40) rfl ?_)
            refine lv_aload hx hb dX11_trusted_40 (lv_at hl 0 rfl) (hp_n (n := 42) rfl ?_)
            refine lv_ifnull hx hb dX11_trusted_42 (hp_n (n := 45) rfl ?_)
            refine lv_aload hx hb dX11_trusted_45 (lv_at hl 0 rfl) (hp_n (n := 47) rfl ?_)
            refine q_geti (κ := 8) (k := 0) (φ := 400) (pc' := 50) C Bh_10 (cw_k Bh_10.2.2 kbh_10) fl_X11_224 rfl rfl rfl dX11_trusted_47 rfl (fun x_12 ex_12 => ?_)
            refine lv_iload_n hx hb dX11_trusted_50 rfl (lv_at hl 2 rfl) (hp_n (n := 51) rfl ?_)
            refine lv_icmp_ne (tgt := 66) hx hb dX11_trusted_51 (by decide) (fun c_13 => ?_) (fun c_13 => hp_n (n := 54) rfl ?_)
            ·
              have jc_13 := il_ne c_13
              obtain ⟨x_14, ex_14⟩ : ∃ y : Int32, y = v4_h_6 + 1 := ⟨_, rfl⟩
              have qx_14 : x_14.toInt = v4_h_6.toInt + 1 := by have qa := ib_lo v4_h_6; rw [ex_14]; exact ii_add (by omega) (by omega)
              refine lv_iinc (v := x_14) (lv' := [(4, .int x_14), (5, .ref bh_10), (0, .ref a0), (1, .int a1), (2, .int a2), (3, .int v3_h_6)]) hx hb dX11_trusted_66 hl (k := 5) rfl (by rw [ex_14]; rfl) (by decide) rfl (fun ls hl => hp_n (n := 69) rfl ?_)
              refine lv_goto (tgt := 23) hx hb dX11_trusted_69 (by decide) ?_
              exact ih23 _ (by have qa := ib_hi v4_h_6; have qb := ib_lo v4_h_6; have qc : (v4_h_6 + 1).toInt = v4_h_6.toInt + (1 : Int32).toInt := ii_add (by omega) (by omega); rw [ex_14]; omega) Hh_10 Lh_10 Bh_10 v3_h_6 x_14 (by omega) ls (lv_sub hl [2, 3, 4, 5, 0] rfl) rfl
            ·
              have jc_13 := il_eq c_13
              refine lv_aload hx hb dX11_trusted_54 (lv_at hl 0 rfl) (hp_n (n := 56) rfl ?_)
              refine q_geti (κ := 8) (k := 1) (φ := 401) (pc' := 59) C Bh_10 (cw_k Bh_10.2.2 kbh_10) fl_X11_227 rfl rfl rfl dX11_trusted_56 rfl (fun x_15 ex_15 => ?_)
              refine lv_iload_n hx hb dX11_trusted_59 rfl (lv_at hl 3 rfl) (hp_n (n := 60) rfl ?_)
              refine lv_icmp_ne (tgt := 66) hx hb dX11_trusted_60 (by decide) (fun c_16 => ?_) (fun c_16 => hp_n (n := 63) rfl ?_)
              ·
                have jc_16 := il_ne c_16
                obtain ⟨x_17, ex_17⟩ : ∃ y : Int32, y = v4_h_6 + 1 := ⟨_, rfl⟩
                have qx_17 : x_17.toInt = v4_h_6.toInt + 1 := by have qa := ib_lo v4_h_6; rw [ex_17]; exact ii_add (by omega) (by omega)
                refine lv_iinc (v := x_17) (lv' := [(4, .int x_17), (5, .ref bh_10), (0, .ref a0), (1, .int a1), (2, .int a2), (3, .int v3_h_6)]) hx hb dX11_trusted_66 hl (k := 5) rfl (by rw [ex_17]; rfl) (by decide) rfl (fun ls hl => hp_n (n := 69) rfl ?_)
                refine lv_goto (tgt := 23) hx hb dX11_trusted_69 (by decide) ?_
                exact ih23 _ (by have qa := ib_hi v4_h_6; have qb := ib_lo v4_h_6; have qc : (v4_h_6 + 1).toInt = v4_h_6.toInt + (1 : Int32).toInt := ii_add (by omega) (by omega); rw [ex_17]; omega) Hh_10 Lh_10 Bh_10 v3_h_6 x_17 (by omega) ls (lv_sub hl [2, 3, 4, 5, 0] rfl) rfl
              ·
                have jc_16 := il_eq c_16
                obtain ⟨x_18, ex_18⟩ : ∃ y : Int32, y = v3_h_6 + 1 := ⟨_, rfl⟩
                refine lv_iinc (v := x_18) (lv' := [(3, .int x_18), (5, .ref bh_10), (0, .ref a0), (1, .int a1), (2, .int a2), (4, .int v4_h_6)]) hx hb dX11_trusted_63 hl (k := 4) rfl (by rw [ex_18]; rfl) (by decide) rfl (fun ls hl => hp_n (n := 66) rfl ?_)
                obtain ⟨x_19, ex_19⟩ : ∃ y : Int32, y = v4_h_6 + 1 := ⟨_, rfl⟩
                have qx_19 : x_19.toInt = v4_h_6.toInt + 1 := by have qa := ib_lo v4_h_6; rw [ex_19]; exact ii_add (by omega) (by omega)
                refine lv_iinc (v := x_19) (lv' := [(4, .int x_19), (3, .int x_18), (5, .ref bh_10), (0, .ref a0), (1, .int a1), (2, .int a2)]) hx hb dX11_trusted_66 hl (k := 5) rfl (by rw [ex_19]; rfl) (by decide) rfl (fun ls hl => hp_n (n := 69) rfl ?_)
                refine lv_goto (tgt := 23) hx hb dX11_trusted_69 (by decide) ?_
                exact ih23 _ (by have qa := ib_hi v4_h_6; have qb := ib_lo v4_h_6; have qc : (v4_h_6 + 1).toInt = v4_h_6.toInt + (1 : Int32).toInt := ii_add (by omega) (by omega); rw [ex_19]; omega) Hh_10 Lh_10 Bh_10 x_18 x_19 (by omega) ls (lv_sub hl [3, 4, 5, 1, 0] rfl) rfl
      refine lv_istore (lv' := [(4, .int 0), (3, .int 0), (0, .ref a0), (1, .int a1), (2, .int a2)]) hx hb dX11_trusted_21 hl (by decide) rfl (fun ls hl => hp_n (n := 23) rfl ?_)
      exact J23 _ Hh_4 Lh_4 Bh_4 0 0 (by omega) ls (lv_sub hl [2, 3, 4, 1, 0] rfl) rfl
    ·
      have jc_5 := il_eq c_5
      exact J12 Hh_4 Lh_4 Bh_4 ls (lv_sub hl [0] rfl)
abbrev w_X11_saves : cw_W := ([453, 454, 600], [], [21, 22, 23], [])
set_option maxRecDepth 100000 in
set_option maxHeartbeats 4000000 in
theorem t_X11_saves (Γ : hp_G) (l : Launch) (α : hp_T) (g : GC α) (a0 : Nat) (k0 : hp_K α a0 = 12) (a1 : Int32) (a2 : Int32) : Met l yX11_saves (hp_ws yX11_saves cX11_saves 5 (some .int)) (hp_rm 5 0 0) (hp_Pc Γ α [.ref a0, .int a1, .int a2]) (hp_Qi Γ (fun r β => cw w_X11_saves α β)) 0 0 (hp_A Γ) := by
  refine hp_start (by decide) ?_
  intro p e s m below meth c C hr hlk B0 hnm
  have C : hp_C Γ p m c cX11_saves 5 s ([.ref a0, .int a1, .int a2] : List Value).toArray RX11 := C
  have hx := C.1.1
  have hb := C.1.2.1
  have hown := C.1.2.2.2.1
  have hts := C.1.2.2.2.2
  have B : hp_B Γ (cw w_X11_saves) s α α s.heap [] := ⟨B0.1, B0.2.1, cw_rf g⟩
  have lit0 : (0 : Int32).toInt = 0 := by decide
  have lit1 : (1 : Int32).toInt = 1 := by decide
  have lit30 : (30 : Int32).toInt = 30 := by decide
  have hl := lv_entry ([.ref a0, .int a1, .int a2]) (n := 5) (Nat.le_of_ble_eq_true rfl)
  show W p l e (hp_rm 5 0 0) s m ([.ref a0, .int a1, .int a2] : List Value).toArray below meth c s.heap [] 0 0 (MQ below (hp_Qi Γ (fun r β => cw w_X11_saves α β)) ([.ref a0, .int a1, .int a2] : List Value).toArray s 0 0 (hp_A Γ)) (entryFrame m ([.ref a0, .int a1, .int a2] : List Value).toArray 5)
  rw [lg_entry_eq]
  generalize (lg_sl ([.ref a0, .int a1, .int a2]) ++ List.replicate (5 - (lg_sl ([.ref a0, .int a1, .int a2])).length) Slot.unset).toArray = ls at hl ⊢
  have hl : lv_has ls 5 [(0, .ref a0), (1, .int a1), (2, .int a2)] := hl
  refine lv_iload_n hx hb dX11_saves_0 rfl (lv_at hl 1 rfl) (hp_n (n := 1) rfl ?_)
  refine q_ci (pc' := 4) B (hp_runS (As := [.int a1]) (rest := []) C B (t_X11_isSet Γ l α B.2.2.1 a1) lb_X11_isSet ls_X11_isSet lk_X11_277 rfl (by decide) rfl hl.1 rfl (Nat.le_of_ble_eq_true rfl) dX11_saves_1 ⟨Nat.le_refl _, Nat.le_refl _⟩) (fun _ _ h => by rw [h.1]; exact B.2.2) rfl (fun rh_1 αh_1 Hh_1 Lh_1 ph_1 Bh_1 => ?_)
  rw [ph_1.1] at Bh_1
  have zh_1 := ph_1.2
  have J15 : ∀ (Hh_2 : Heap) (Lh_2 : List Loc) (Bh_2 : hp_B Γ (cw w_X11_saves) s α α Hh_2 Lh_2) (ls : Array Slot) (hl : lv_has ls 5 [(0, .ref a0)]), W p l e (hp_rm 5 0 0) s m ([.ref a0, .int a1, .int a2] : List Value).toArray below meth c Hh_2 Lh_2 0 0 (MQ below (hp_Qi Γ (fun r β => cw w_X11_saves α β)) ([.ref a0, .int a1, .int a2] : List Value).toArray s 0 0 (hp_A Γ)) (F0 m 15 ls []) := by
    intro Hh_2 Lh_2 Bh_2 ls hl
    refine lv_aload_n hx hb dX11_saves_15 rfl (lv_at hl 0 rfl) (hp_n (n := 16) rfl ?_)
    refine lv_iconst (v := 1) hx hb dX11_saves_16 (by decide) (hp_n (n := 17) rfl ?_)
    refine q_ci (pc' := 20) Bh_2 (hp_runV (As := [.int 1]) (rest := []) C Bh_2 (t_X11_refuse Γ l α Bh_2.2.2.1 a0 (cw_k Bh_2.2.2 k0) 1) lb_X11_refuse lv_X11_refuse lk_X11_98 (cw_k Bh_2.2.2 k0) rfl (by decide) rfl hl.1 rfl (Nat.le_of_ble_eq_true rfl) dX11_saves_17 ⟨Nat.le_refl _, Nat.le_refl _⟩) (fun _ _ h => cw_tr Bh_2.2.2 h (by decide)) rfl (fun rh_3 αh_3 Hh_3 Lh_3 ph_3 Bh_3 => ?_)
    exact q_iret C Bh_3 hr hlk Bh_3.2.2 dX11_saves_20
  refine lv_if_eq (tgt := 15) hx hb dX11_saves_4 (by decide) (fun c_4 => ?_) (fun c_4 => hp_n (n := 7) rfl ?_)
  ·
    have jc_4 := il_eq c_4
    exact J15 Hh_1 Lh_1 Bh_1 ls (lv_sub hl [0] rfl)
  ·
    have jc_4 := il_ne c_4
    refine lv_iload_n hx hb dX11_saves_7 rfl (lv_at hl 1 rfl) (hp_n (n := 8) rfl ?_)
    refine lv_iload_n hx hb dX11_saves_8 rfl (lv_at hl 2 rfl) (hp_n (n := 9) rfl ?_)
    refine q_ci (pc' := 12) Bh_1 (hp_runS (As := [.int a1, .int a2]) (rest := []) C Bh_1 (t_X11_lieBelow Γ l α Bh_1.2.2.1 a1 a2) lb_X11_lieBelow ls_X11_lieBelow lk_X11_280 rfl (by decide) rfl hl.1 rfl (Nat.le_of_ble_eq_true rfl) dX11_saves_9 ⟨Nat.le_refl _, Nat.le_refl _⟩) (fun _ _ h => by rw [h.1]; exact Bh_1.2.2) rfl (fun rh_5 αh_5 Hh_5 Lh_5 ph_5 Bh_5 => ?_)
    rw [ph_5.1] at Bh_5
    have zh_5 := ph_5.2
    refine lv_if_ne (tgt := 21) hx hb dX11_saves_12 (by decide) (fun c_6 => ?_) (fun c_6 => hp_n (n := 15) rfl ?_)
    ·
      have jc_6 := il_ne c_6
      refine lv_iconst (v := 0) hx hb dX11_saves_21 (by decide) (hp_n (n := 22) rfl ?_)
      refine lv_istore_n (lv' := [(3, .int 0), (0, .ref a0), (1, .int a1), (2, .int a2)]) hx hb dX11_saves_22 rfl hl (by decide) rfl (fun ls hl => hp_n (n := 23) rfl ?_)
      refine lv_iconst (v := 0) hx hb dX11_saves_23 (by decide) (hp_n (n := 24) rfl ?_)
      have J26 : ∀ (nq : Nat) (αh_7 : hp_T) (Hh_7 : Heap) (Lh_7 : List Loc) (Bh_7 : hp_B Γ (cw w_X11_saves) s α αh_7 Hh_7 Lh_7) (v3_h_7 : Int32) (v4_h_7 : Int32) (ih_7_0 : 0 ≤ v4_h_7.toInt) (ls : Array Slot) (hl : lv_has ls 5 [(0, .ref a0), (1, .int a1), (2, .int a2), (3, .int v3_h_7), (4, .int v4_h_7)]) (hmu26 : (2147483647 - v4_h_7.toInt).toNat = nq), W p l e (hp_rm 5 0 0) s m ([.ref a0, .int a1, .int a2] : List Value).toArray below meth c Hh_7 Lh_7 0 0 (MQ below (hp_Qi Γ (fun r β => cw w_X11_saves α β)) ([.ref a0, .int a1, .int a2] : List Value).toArray s 0 0 (hp_A Γ)) (F0 m 26 ls []) := by
        intro nq
        induction nq using Nat.strongRecOn with
        | ind nq ih26 =>
        intro αh_7 Hh_7 Lh_7 Bh_7 v3_h_7 v4_h_7 ih_7_0 ls hl hmu26
        have inv26_0 := ih_7_0
        refine lv_iload hx hb dX11_saves_26 (lv_at hl 4 rfl) (hp_n (n := 28) rfl ?_)
        refine lv_bipush (v := 30) hx hb dX11_saves_28 (by decide) (hp_n (n := 30) rfl ?_)
        refine lv_icmp_ge (tgt := 69) hx hb dX11_saves_30 (by decide) (fun c_8 => ?_) (fun c_8 => hp_n (n := 33) rfl ?_)
        ·
          have jc_8 := il_le c_8
          refine lv_aload_n hx hb dX11_saves_69 rfl (lv_at hl 0 rfl) (hp_n (n := 70) rfl ?_)
          refine q_getr (κ := 12) (k := 12) (φ := 612) (pc' := 73) C Bh_7 (cw_k Bh_7.2.2 k0) fl_X11_62 rfl rfl rfl (cw_r Bh_7.2.2 k0 rfl rfl (by decide) (by decide)) dX11_saves_70 rfl (fun b_9 eb_9 kb_9 => ?_)
          refine lv_iload_n hx hb dX11_saves_73 rfl (lv_at hl 1 rfl) (hp_n (n := 74) rfl ?_)
          refine lv_iload_n hx hb dX11_saves_74 rfl (lv_at hl 2 rfl) (hp_n (n := 75) rfl ?_)
          refine q_cv (pc' := 78) Bh_7 (hp_runV (As := [.int a1, .int a2]) (rest := []) C Bh_7 (t_X8_toBundle Γ l αh_7 Bh_7.2.2.1 b_9 (cw_k Bh_7.2.2 kb_9) a1 a2) lb_X8_toBundle lv_X8_toBundle lk_X11_284 (cw_k Bh_7.2.2 kb_9) rfl (by decide) rfl hl.1 rfl (Nat.le_of_ble_eq_true rfl) dX11_saves_75 ⟨Nat.le_refl _, Nat.le_refl _⟩) (fun _ h => cw_tr Bh_7.2.2 h (by decide)) rfl (fun αh_10 Hh_10 Lh_10 ph_10 Bh_10 => ?_)
          refine lv_aload_n hx hb dX11_saves_78 rfl (lv_at hl 0 rfl) (hp_n (n := 79) rfl ?_)
          refine lv_iload_n hx hb dX11_saves_79 rfl (lv_at hl 3 rfl) (hp_n (n := 80) rfl ?_)
          refine lv_aload_n hx hb dX11_saves_80 rfl (lv_at hl 0 rfl) (hp_n (n := 81) rfl ?_)
          have t_11 : b_9 = hp_R αh_10 612 a0 := by rw [cw_R ph_10 a0 (by decide)]; exact eb_9
          refine q_gets (κ := 12) (k := 12) (φ := 612) (pc' := 84) C Bh_10 (cw_k Bh_10.2.2 k0) fl_X11_62 rfl rfl rfl t_11 dX11_saves_81 rfl ?_
          refine q_geti (κ := 9) (k := 3) (φ := 453) (pc' := 87) C Bh_10 (cw_k Bh_10.2.2 kb_9) fl_X11_312 rfl rfl rfl dX11_saves_84 rfl (fun x_12 ex_12 => ?_)
          obtain ⟨gx_12a, gx_12b⟩ : 0 ≤ x_12.toInt ∧ x_12.toInt ≤ 64 := by rw [ex_12]; exact Bh_10.2.2.1.1 453 b_9 rfl
          refine lv_isub hx hb dX11_saves_87 (hp_n (n := 88) rfl (lv_topi (fun x_13 ex_13 => ?_)))
          refine q_ci (pc' := 91) Bh_10 (hp_runV (As := [.int x_13]) (rest := []) C Bh_10 (t_X11_answer Γ l αh_10 Bh_10.2.2.1 a0 (cw_k Bh_10.2.2 k0) x_13) lb_X11_answer lv_X11_answer lk_X11_115 (cw_k Bh_10.2.2 k0) rfl (by decide) rfl hl.1 rfl (Nat.le_of_ble_eq_true rfl) dX11_saves_88 ⟨Nat.le_refl _, Nat.le_refl _⟩) (fun _ _ h => cw_tr Bh_10.2.2 h (by decide)) rfl (fun rh_14 αh_14 Hh_14 Lh_14 ph_14 Bh_14 => ?_)
          exact q_iret C Bh_14 hr hlk Bh_14.2.2 dX11_saves_91
        ·
          have jc_8 := il_nle c_8
          refine lv_iload_n hx hb dX11_saves_33 rfl (lv_at hl 1 rfl) (hp_n (n := 34) rfl ?_)
          refine lv_iload hx hb dX11_saves_34 (lv_at hl 4 rfl) (hp_n (n := 36) rfl ?_)
          refine lv_iconst (v := 1) hx hb dX11_saves_36 (by decide) (hp_n (n := 37) rfl ?_)
          refine q_ci (pc' := 40) Bh_7 (hp_runS (As := [.int a1, .int v4_h_7, .int 1]) (rest := []) C Bh_7 (t_X11_hasOneOf Γ l αh_7 Bh_7.2.2.1 a1 v4_h_7 1) lb_X11_hasOneOf ls_X11_hasOneOf lk_X11_431 rfl (by decide) rfl hl.1 rfl (Nat.le_of_ble_eq_true rfl) dX11_saves_37 ⟨Nat.le_refl _, Nat.le_refl _⟩) (fun _ _ h => by rw [h.1]; exact Bh_7.2.2) rfl (fun rh_15 αh_15 Hh_15 Lh_15 ph_15 Bh_15 => ?_)
          rw [ph_15.1] at Bh_15
          have zh_15 := ph_15.2
          refine lv_if_eq (tgt := 63) hx hb dX11_saves_40 (by decide) (fun c_16 => ?_) (fun c_16 => hp_n (n := 43) rfl ?_)
          ·
            have jc_16 := il_eq c_16
            obtain ⟨x_17, ex_17⟩ : ∃ y : Int32, y = v4_h_7 + 1 := ⟨_, rfl⟩
            have qx_17 : x_17.toInt = v4_h_7.toInt + 1 := by have qa := ib_lo v4_h_7; rw [ex_17]; exact ii_add (by omega) (by omega)
            refine lv_iinc (v := x_17) (lv' := [(4, .int x_17), (0, .ref a0), (1, .int a1), (2, .int a2), (3, .int v3_h_7)]) hx hb dX11_saves_63 hl (k := 4) rfl (by rw [ex_17]; rfl) (by decide) rfl (fun ls hl => hp_n (n := 66) rfl ?_)
            refine lv_goto (tgt := 26) hx hb dX11_saves_66 (by decide) ?_
            exact ih26 _ (by have qa := ib_hi v4_h_7; have qb := ib_lo v4_h_7; have qc : (v4_h_7 + 1).toInt = v4_h_7.toInt + (1 : Int32).toInt := ii_add (by omega) (by omega); rw [ex_17]; omega) αh_7 Hh_15 Lh_15 Bh_15 v3_h_7 x_17 (by omega) ls (lv_sub hl [1, 2, 3, 4, 0] rfl) rfl
          ·
            have jc_16 := il_ne c_16
            refine lv_aload_n hx hb dX11_saves_43 rfl (lv_at hl 0 rfl) (hp_n (n := 44) rfl ?_)
            refine q_getr (κ := 12) (k := 12) (φ := 612) (pc' := 47) C Bh_15 (cw_k Bh_15.2.2 k0) fl_X11_62 rfl rfl rfl (cw_r Bh_15.2.2 k0 rfl rfl (by decide) (by decide)) dX11_saves_44 rfl (fun b_18 eb_18 kb_18 => ?_)
            refine lv_iload hx hb dX11_saves_47 (lv_at hl 4 rfl) (hp_n (n := 49) rfl ?_)
            refine lv_iload_n hx hb dX11_saves_49 rfl (lv_at hl 2 rfl) (hp_n (n := 50) rfl ?_)
            refine q_cv (pc' := 53) Bh_15 (hp_runV (As := [.int v4_h_7, .int a2]) (rest := []) C Bh_15 (t_X8_toThing Γ l αh_7 Bh_15.2.2.1 b_18 (cw_k Bh_15.2.2 kb_18) v4_h_7 a2) lb_X8_toThing lv_X8_toThing lk_X11_267 (cw_k Bh_15.2.2 kb_18) rfl (by decide) rfl hl.1 rfl (Nat.le_of_ble_eq_true rfl) dX11_saves_50 ⟨Nat.le_refl _, Nat.le_refl _⟩) (fun _ h => cw_tr Bh_15.2.2 h (by decide)) rfl (fun αh_19 Hh_19 Lh_19 ph_19 Bh_19 => ?_)
            refine lv_iload_n hx hb dX11_saves_53 rfl (lv_at hl 3 rfl) (hp_n (n := 54) rfl ?_)
            refine lv_aload_n hx hb dX11_saves_54 rfl (lv_at hl 0 rfl) (hp_n (n := 55) rfl ?_)
            have t_20 : b_18 = hp_R αh_19 612 a0 := by rw [cw_R ph_19 a0 (by decide)]; exact eb_18
            refine q_gets (κ := 12) (k := 12) (φ := 612) (pc' := 58) C Bh_19 (cw_k Bh_19.2.2 k0) fl_X11_62 rfl rfl rfl t_20 dX11_saves_55 rfl ?_
            refine q_geti (κ := 9) (k := 3) (φ := 453) (pc' := 61) C Bh_19 (cw_k Bh_19.2.2 kb_18) fl_X11_312 rfl rfl rfl dX11_saves_58 rfl (fun x_21 ex_21 => ?_)
            obtain ⟨gx_21a, gx_21b⟩ : 0 ≤ x_21.toInt ∧ x_21.toInt ≤ 64 := by rw [ex_21]; exact Bh_19.2.2.1.1 453 b_18 rfl
            refine lv_iadd hx hb dX11_saves_61 (hp_n (n := 62) rfl (lv_topi (fun x_22 ex_22 => ?_)))
            refine lv_istore_n (lv' := [(3, .int x_22), (0, .ref a0), (1, .int a1), (2, .int a2), (4, .int v4_h_7)]) hx hb dX11_saves_62 rfl hl (by decide) rfl (fun ls hl => hp_n (n := 63) rfl ?_)
            obtain ⟨x_23, ex_23⟩ : ∃ y : Int32, y = v4_h_7 + 1 := ⟨_, rfl⟩
            have qx_23 : x_23.toInt = v4_h_7.toInt + 1 := by have qa := ib_lo v4_h_7; rw [ex_23]; exact ii_add (by omega) (by omega)
            refine lv_iinc (v := x_23) (lv' := [(4, .int x_23), (3, .int x_22), (0, .ref a0), (1, .int a1), (2, .int a2)]) hx hb dX11_saves_63 hl (k := 4) rfl (by rw [ex_23]; rfl) (by decide) rfl (fun ls hl => hp_n (n := 66) rfl ?_)
            refine lv_goto (tgt := 26) hx hb dX11_saves_66 (by decide) ?_
            exact ih26 _ (by have qa := ib_hi v4_h_7; have qb := ib_lo v4_h_7; have qc : (v4_h_7 + 1).toInt = v4_h_7.toInt + (1 : Int32).toInt := ii_add (by omega) (by omega); rw [ex_23]; omega) αh_19 Hh_19 Lh_19 Bh_19 x_22 x_23 (by omega) ls (lv_sub hl [2, 3, 4, 1, 0] rfl) rfl
      refine lv_istore (lv' := [(4, .int 0), (3, .int 0), (0, .ref a0), (1, .int a1), (2, .int a2)]) hx hb dX11_saves_24 hl (by decide) rfl (fun ls hl => hp_n (n := 26) rfl ?_)
      exact J26 _ α Hh_5 Lh_5 Bh_5 0 0 (by omega) ls (lv_sub hl [2, 3, 4, 1, 0] rfl) rfl
    ·
      have jc_6 := il_eq c_6
      exact J15 Hh_5 Lh_5 Bh_5 ls (lv_sub hl [0] rfl)
abbrev w_X11_who : cw_W := ([600], [], [33], [])
set_option maxRecDepth 100000 in
set_option maxHeartbeats 4000000 in
theorem t_X11_who (Γ : hp_G) (l : Launch) (α : hp_T) (g : GC α) (a0 : Nat) (k0 : hp_K α a0 = 12) (a1 : Int32) (a2 : Int32) : Met l yX11_who (hp_ws yX11_who cX11_who 5 (some .int)) (hp_rm 4 0 0) (hp_Pc Γ α [.ref a0, .int a1, .int a2]) (hp_Qi Γ (fun r β => cw w_X11_who α β)) 0 0 (hp_A Γ) := by
  refine hp_start (by decide) ?_
  intro p e s m below meth c C hr hlk B0 hnm
  have C : hp_C Γ p m c cX11_who 5 s ([.ref a0, .int a1, .int a2] : List Value).toArray RX11 := C
  have hx := C.1.1
  have hb := C.1.2.1
  have hown := C.1.2.2.2.1
  have hts := C.1.2.2.2.2
  have B : hp_B Γ (cw w_X11_who) s α α s.heap [] := ⟨B0.1, B0.2.1, cw_rf g⟩
  have lit0 : (0 : Int32).toInt = 0 := by decide
  have lit1 : (1 : Int32).toInt = 1 := by decide
  have hl := lv_entry ([.ref a0, .int a1, .int a2]) (n := 5) (Nat.le_of_ble_eq_true rfl)
  show W p l e (hp_rm 4 0 0) s m ([.ref a0, .int a1, .int a2] : List Value).toArray below meth c s.heap [] 0 0 (MQ below (hp_Qi Γ (fun r β => cw w_X11_who α β)) ([.ref a0, .int a1, .int a2] : List Value).toArray s 0 0 (hp_A Γ)) (entryFrame m ([.ref a0, .int a1, .int a2] : List Value).toArray 5)
  rw [lg_entry_eq]
  generalize (lg_sl ([.ref a0, .int a1, .int a2]) ++ List.replicate (5 - (lg_sl ([.ref a0, .int a1, .int a2])).length) Slot.unset).toArray = ls at hl ⊢
  have hl : lv_has ls 5 [(0, .ref a0), (1, .int a1), (2, .int a2)] := hl
  refine lv_iload_n hx hb dX11_who_0 rfl (lv_at hl 1 rfl) (hp_n (n := 1) rfl ?_)
  have J12 : ∀ (Hh_1 : Heap) (Lh_1 : List Loc) (Bh_1 : hp_B Γ (cw w_X11_who) s α α Hh_1 Lh_1) (ls : Array Slot) (hl : lv_has ls 5 [(0, .ref a0)]), W p l e (hp_rm 4 0 0) s m ([.ref a0, .int a1, .int a2] : List Value).toArray below meth c Hh_1 Lh_1 0 0 (MQ below (hp_Qi Γ (fun r β => cw w_X11_who α β)) ([.ref a0, .int a1, .int a2] : List Value).toArray s 0 0 (hp_A Γ)) (F0 m 12 ls []) := by
    intro Hh_1 Lh_1 Bh_1 ls hl
    refine lv_aload_n hx hb dX11_who_12 rfl (lv_at hl 0 rfl) (hp_n (n := 13) rfl ?_)
    refine lv_iconst (v := 1) hx hb dX11_who_13 (by decide) (hp_n (n := 14) rfl ?_)
    refine q_ci (pc' := 17) Bh_1 (hp_runV (As := [.int 1]) (rest := []) C Bh_1 (t_X11_refuse Γ l α Bh_1.2.2.1 a0 (cw_k Bh_1.2.2 k0) 1) lb_X11_refuse lv_X11_refuse lk_X11_98 (cw_k Bh_1.2.2 k0) rfl (by decide) rfl hl.1 rfl (Nat.le_of_ble_eq_true rfl) dX11_who_14 ⟨Nat.le_refl _, Nat.le_refl _⟩) (fun _ _ h => cw_tr Bh_1.2.2 h (by decide)) rfl (fun rh_2 αh_2 Hh_2 Lh_2 ph_2 Bh_2 => ?_)
    exact q_iret C Bh_2 hr hlk Bh_2.2.2 dX11_who_17
  refine lv_if_lt (tgt := 12) hx hb dX11_who_1 (by decide) (fun c_3 => ?_) (fun c_3 => hp_n (n := 4) rfl ?_)
  ·
    have jc_3 := il_lt c_3
    exact J12 s.heap [] B ls (lv_sub hl [0] rfl)
  ·
    have jc_3 := il_nlt c_3
    refine lv_aload_n hx hb dX11_who_4 rfl (lv_at hl 0 rfl) (hp_n (n := 5) rfl ?_)
    refine lv_iload_n hx hb dX11_who_5 rfl (lv_at hl 2 rfl) (hp_n (n := 6) rfl ?_)
    refine q_ci (pc' := 9) B (hp_runV (As := [.int a2]) (rest := []) C B (t_X11_isMark Γ l α B.2.2.1 a0 (cw_k B.2.2 k0) a2) lb_X11_isMark lv_X11_isMark lk_X11_188 (cw_k B.2.2 k0) rfl (by decide) rfl hl.1 rfl (Nat.le_of_ble_eq_true rfl) dX11_who_6 ⟨Nat.le_refl _, Nat.le_refl _⟩) (fun _ _ h => by rw [h.1]; exact B.2.2) rfl (fun rh_4 αh_4 Hh_4 Lh_4 ph_4 Bh_4 => ?_)
    rw [ph_4.1] at Bh_4
    have zh_4 := ph_4.2
    refine lv_if_ne (tgt := 18) hx hb dX11_who_9 (by decide) (fun c_5 => ?_) (fun c_5 => hp_n (n := 12) rfl ?_)
    ·
      have jc_5 := il_ne c_5
      refine lv_iconst (v := 0) hx hb dX11_who_18 (by decide) (hp_n (n := 19) rfl ?_)
      refine lv_istore_n (lv' := [(3, .int 0), (0, .ref a0), (1, .int a1), (2, .int a2)]) hx hb dX11_who_19 rfl hl (by decide) rfl (fun ls hl => hp_n (n := 20) rfl ?_)
      refine lv_iconst (v := 0) hx hb dX11_who_20 (by decide) (hp_n (n := 21) rfl ?_)
      have J23 : ∀ (nq : Nat) (αh_6 : hp_T) (Hh_6 : Heap) (Lh_6 : List Loc) (Bh_6 : hp_B Γ (cw w_X11_who) s α αh_6 Hh_6 Lh_6) (v3_h_6 : Int32) (v4_h_6 : Int32) (ih_6_0 : 0 ≤ v4_h_6.toInt) (ls : Array Slot) (hl : lv_has ls 5 [(0, .ref a0), (1, .int a1), (2, .int a2), (3, .int v3_h_6), (4, .int v4_h_6)]) (hmu23 : (2147483647 - v4_h_6.toInt).toNat = nq), W p l e (hp_rm 4 0 0) s m ([.ref a0, .int a1, .int a2] : List Value).toArray below meth c Hh_6 Lh_6 0 0 (MQ below (hp_Qi Γ (fun r β => cw w_X11_who α β)) ([.ref a0, .int a1, .int a2] : List Value).toArray s 0 0 (hp_A Γ)) (F0 m 23 ls []) := by
        intro nq
        induction nq using Nat.strongRecOn with
        | ind nq ih23 =>
        intro αh_6 Hh_6 Lh_6 Bh_6 v3_h_6 v4_h_6 ih_6_0 ls hl hmu23
        have inv23_0 := ih_6_0
        refine lv_iload hx hb dX11_who_23 (lv_at hl 4 rfl) (hp_n (n := 25) rfl ?_)
        refine lv_aload_n hx hb dX11_who_25 rfl (lv_at hl 0 rfl) (hp_n (n := 26) rfl ?_)
        refine q_getr (κ := 12) (k := 1) (φ := 601) (pc' := 29) C Bh_6 (cw_k Bh_6.2.2 k0) fl_X11_16 rfl rfl rfl (cw_r Bh_6.2.2 k0 rfl rfl (by decide) (by decide)) dX11_who_26 rfl (fun b_7 eb_7 kb_7 => ?_)
        refine q_geti (κ := 11) (k := 2) (φ := 552) (pc' := 32) C Bh_6 (cw_k Bh_6.2.2 kb_7) fl_X11_112 rfl rfl rfl dX11_who_29 rfl (fun x_8 ex_8 => ?_)
        refine lv_icmp_ge (tgt := 69) hx hb dX11_who_32 (by decide) (fun c_9 => ?_) (fun c_9 => hp_n (n := 35) rfl ?_)
        ·
          have jc_9 := il_le c_9
          refine lv_aload_n hx hb dX11_who_69 rfl (lv_at hl 0 rfl) (hp_n (n := 70) rfl ?_)
          refine lv_iload_n hx hb dX11_who_70 rfl (lv_at hl 3 rfl) (hp_n (n := 71) rfl ?_)
          refine q_ci (pc' := 74) Bh_6 (hp_runV (As := [.int v3_h_6]) (rest := []) C Bh_6 (t_X11_answer Γ l αh_6 Bh_6.2.2.1 a0 (cw_k Bh_6.2.2 k0) v3_h_6) lb_X11_answer lv_X11_answer lk_X11_115 (cw_k Bh_6.2.2 k0) rfl (by decide) rfl hl.1 rfl (Nat.le_of_ble_eq_true rfl) dX11_who_71 ⟨Nat.le_refl _, Nat.le_refl _⟩) (fun _ _ h => cw_tr Bh_6.2.2 h (by decide)) rfl (fun rh_10 αh_10 Hh_10 Lh_10 ph_10 Bh_10 => ?_)
          exact q_iret C Bh_10 hr hlk Bh_10.2.2 dX11_who_74
        ·
          have jc_9 := il_nle c_9
          refine lv_aload_n hx hb dX11_who_35 rfl (lv_at hl 0 rfl) (hp_n (n := 36) rfl ?_)
          refine q_gets (κ := 12) (k := 1) (φ := 601) (pc' := 39) C Bh_6 (cw_k Bh_6.2.2 k0) fl_X11_16 rfl rfl rfl eb_7 dX11_who_36 rfl ?_
          refine lv_aload_n hx hb dX11_who_39 rfl (lv_at hl 0 rfl) (hp_n (n := 40) rfl ?_)
          refine q_gets (κ := 12) (k := 1) (φ := 601) (pc' := 43) C Bh_6 (cw_k Bh_6.2.2 k0) fl_X11_16 rfl rfl rfl eb_7 dX11_who_40 rfl ?_
          refine lv_iload hx hb dX11_who_43 (lv_at hl 4 rfl) (hp_n (n := 45) rfl ?_)
          refine q_cq (pc' := 48) Bh_6 (hp_runV (As := [.int v4_h_6]) (rest := [.ref b_7]) C Bh_6 (t_X10_logAt Γ l αh_6 Bh_6.2.2.1 b_7 (cw_k Bh_6.2.2 kb_7) v4_h_6) lb_X10_logAt lv_X10_logAt lk_X11_163 (cw_k Bh_6.2.2 kb_7) rfl (by decide) rfl hl.1 rfl (Nat.le_of_ble_eq_true rfl) dX11_who_45 ⟨Nat.le_refl _, Nat.le_refl _⟩) (fun _ _ h => by rw [h.1]; exact Bh_6.2.2) rfl (fun rh_11 αh_11 Hh_11 Lh_11 ph_11 Bh_11 => ?_)
          rw [ph_11.1] at Bh_11
          rcases rh_11 with _ | bh_11
          ·
            refine lv_iload_n hx hb dX11_who_48 rfl (lv_at hl 1 rfl) (hp_n (n := 49) rfl ?_)
            refine lv_iload_n hx hb dX11_who_49 rfl (lv_at hl 2 rfl) (hp_n (n := 50) rfl ?_)
            refine q_ci (pc' := 53) Bh_11 (hp_runV (As := [va_rf none, .int a1, .int a2]) (rest := []) C Bh_11 (t_X10_hasHead Γ l αh_6 Bh_11.2.2.1 b_7 (cw_k Bh_11.2.2 kb_7) none (fun b h => by cases h) a1 a2) lb_X10_hasHead lv_X10_hasHead lk_X11_435 (cw_k Bh_11.2.2 kb_7) rfl (by decide) rfl hl.1 rfl (Nat.le_of_ble_eq_true rfl) dX11_who_50 ⟨Nat.le_refl _, Nat.le_refl _⟩) (fun _ _ h => cw_tr Bh_11.2.2 h.1 (by decide)) rfl (fun rh_12 αh_12 Hh_12 Lh_12 ph_12 Bh_12 => ?_)
            have zh_12 := ph_12.2
            refine lv_if_eq (tgt := 63) hx hb dX11_who_53 (by decide) (fun c_13 => ?_) (fun c_13 => hp_n (n := 56) rfl ?_)
            ·
              have jc_13 := il_eq c_13
              obtain ⟨x_14, ex_14⟩ : ∃ y : Int32, y = v4_h_6 + 1 := ⟨_, rfl⟩
              have qx_14 : x_14.toInt = v4_h_6.toInt + 1 := by have q0 := ib_hi x_8; have qa := ib_lo v4_h_6; rw [ex_14]; exact ii_add (by omega) (by omega)
              refine lv_iinc (v := x_14) (lv' := [(4, .int x_14), (0, .ref a0), (1, .int a1), (2, .int a2), (3, .int v3_h_6)]) hx hb dX11_who_63 hl (k := 4) rfl (by rw [ex_14]; rfl) (by decide) rfl (fun ls hl => hp_n (n := 66) rfl ?_)
              refine lv_goto (tgt := 23) hx hb dX11_who_66 (by decide) ?_
              exact ih23 _ (by have q0 := ib_hi x_8; have q1 := ib_lo x_8; have qa := ib_hi v4_h_6; have qb := ib_lo v4_h_6; have qc : (v4_h_6 + 1).toInt = v4_h_6.toInt + (1 : Int32).toInt := ii_add (by omega) (by omega); rw [ex_14]; omega) αh_12 Hh_12 Lh_12 Bh_12 v3_h_6 x_14 (by omega) ls (lv_sub hl [1, 2, 3, 4, 0] rfl) rfl
            ·
              have jc_13 := il_ne c_13
              refine lv_iload_n hx hb dX11_who_56 rfl (lv_at hl 3 rfl) (hp_n (n := 57) rfl ?_)
              refine lv_iconst (v := 1) hx hb dX11_who_57 (by decide) (hp_n (n := 58) rfl ?_)
              refine lv_iload hx hb dX11_who_58 (lv_at hl 4 rfl) (hp_n (n := 60) rfl ?_)
              refine lv_ishl hx hb dX11_who_60 (hp_n (n := 61) rfl (lv_topi (fun x_15 ex_15 => ?_)))
              refine lv_ior hx hb dX11_who_61 (hp_n (n := 62) rfl (lv_topi (fun x_16 ex_16 => ?_)))
              refine lv_istore_n (lv' := [(3, .int x_16), (0, .ref a0), (1, .int a1), (2, .int a2), (4, .int v4_h_6)]) hx hb dX11_who_62 rfl hl (by decide) rfl (fun ls hl => hp_n (n := 63) rfl ?_)
              obtain ⟨x_17, ex_17⟩ : ∃ y : Int32, y = v4_h_6 + 1 := ⟨_, rfl⟩
              have qx_17 : x_17.toInt = v4_h_6.toInt + 1 := by have q0 := ib_hi x_8; have qa := ib_lo v4_h_6; rw [ex_17]; exact ii_add (by omega) (by omega)
              refine lv_iinc (v := x_17) (lv' := [(4, .int x_17), (3, .int x_16), (0, .ref a0), (1, .int a1), (2, .int a2)]) hx hb dX11_who_63 hl (k := 4) rfl (by rw [ex_17]; rfl) (by decide) rfl (fun ls hl => hp_n (n := 66) rfl ?_)
              refine lv_goto (tgt := 23) hx hb dX11_who_66 (by decide) ?_
              exact ih23 _ (by have q0 := ib_hi x_8; have q1 := ib_lo x_8; have qa := ib_hi v4_h_6; have qb := ib_lo v4_h_6; have qc : (v4_h_6 + 1).toInt = v4_h_6.toInt + (1 : Int32).toInt := ii_add (by omega) (by omega); rw [ex_17]; omega) αh_12 Hh_12 Lh_12 Bh_12 x_16 x_17 (by omega) ls (lv_sub hl [2, 3, 4, 1, 0] rfl) rfl
          ·
            have kbh_11 : hp_K α bh_11 = 3 := cw_k' Bh_11.2.2 (ph_11.2 bh_11 rfl)
            refine lv_iload_n hx hb dX11_who_48 rfl (lv_at hl 1 rfl) (hp_n (n := 49) rfl ?_)
            refine lv_iload_n hx hb dX11_who_49 rfl (lv_at hl 2 rfl) (hp_n (n := 50) rfl ?_)
            refine q_ci (pc' := 53) Bh_11 (hp_runV (As := [va_rf (some bh_11), .int a1, .int a2]) (rest := []) C Bh_11 (t_X10_hasHead Γ l αh_6 Bh_11.2.2.1 b_7 (cw_k Bh_11.2.2 kb_7) (some bh_11) (fun b h => by cases h; exact (cw_k Bh_11.2.2 kbh_11)) a1 a2) lb_X10_hasHead lv_X10_hasHead lk_X11_435 (cw_k Bh_11.2.2 kb_7) rfl (by decide) rfl hl.1 rfl (Nat.le_of_ble_eq_true rfl) dX11_who_50 ⟨Nat.le_refl _, Nat.le_refl _⟩) (fun _ _ h => cw_tr Bh_11.2.2 h.1 (by decide)) rfl (fun rh_18 αh_18 Hh_18 Lh_18 ph_18 Bh_18 => ?_)
            have zh_18 := ph_18.2
            refine lv_if_eq (tgt := 63) hx hb dX11_who_53 (by decide) (fun c_19 => ?_) (fun c_19 => hp_n (n := 56) rfl ?_)
            ·
              have jc_19 := il_eq c_19
              obtain ⟨x_20, ex_20⟩ : ∃ y : Int32, y = v4_h_6 + 1 := ⟨_, rfl⟩
              have qx_20 : x_20.toInt = v4_h_6.toInt + 1 := by have q0 := ib_hi x_8; have qa := ib_lo v4_h_6; rw [ex_20]; exact ii_add (by omega) (by omega)
              refine lv_iinc (v := x_20) (lv' := [(4, .int x_20), (0, .ref a0), (1, .int a1), (2, .int a2), (3, .int v3_h_6)]) hx hb dX11_who_63 hl (k := 4) rfl (by rw [ex_20]; rfl) (by decide) rfl (fun ls hl => hp_n (n := 66) rfl ?_)
              refine lv_goto (tgt := 23) hx hb dX11_who_66 (by decide) ?_
              exact ih23 _ (by have q0 := ib_hi x_8; have q1 := ib_lo x_8; have qa := ib_hi v4_h_6; have qb := ib_lo v4_h_6; have qc : (v4_h_6 + 1).toInt = v4_h_6.toInt + (1 : Int32).toInt := ii_add (by omega) (by omega); rw [ex_20]; omega) αh_18 Hh_18 Lh_18 Bh_18 v3_h_6 x_20 (by omega) ls (lv_sub hl [1, 2, 3, 4, 0] rfl) rfl
            ·
              have jc_19 := il_ne c_19
              refine lv_iload_n hx hb dX11_who_56 rfl (lv_at hl 3 rfl) (hp_n (n := 57) rfl ?_)
              refine lv_iconst (v := 1) hx hb dX11_who_57 (by decide) (hp_n (n := 58) rfl ?_)
              refine lv_iload hx hb dX11_who_58 (lv_at hl 4 rfl) (hp_n (n := 60) rfl ?_)
              refine lv_ishl hx hb dX11_who_60 (hp_n (n := 61) rfl (lv_topi (fun x_21 ex_21 => ?_)))
              refine lv_ior hx hb dX11_who_61 (hp_n (n := 62) rfl (lv_topi (fun x_22 ex_22 => ?_)))
              refine lv_istore_n (lv' := [(3, .int x_22), (0, .ref a0), (1, .int a1), (2, .int a2), (4, .int v4_h_6)]) hx hb dX11_who_62 rfl hl (by decide) rfl (fun ls hl => hp_n (n := 63) rfl ?_)
              obtain ⟨x_23, ex_23⟩ : ∃ y : Int32, y = v4_h_6 + 1 := ⟨_, rfl⟩
              have qx_23 : x_23.toInt = v4_h_6.toInt + 1 := by have q0 := ib_hi x_8; have qa := ib_lo v4_h_6; rw [ex_23]; exact ii_add (by omega) (by omega)
              refine lv_iinc (v := x_23) (lv' := [(4, .int x_23), (3, .int x_22), (0, .ref a0), (1, .int a1), (2, .int a2)]) hx hb dX11_who_63 hl (k := 4) rfl (by rw [ex_23]; rfl) (by decide) rfl (fun ls hl => hp_n (n := 66) rfl ?_)
              refine lv_goto (tgt := 23) hx hb dX11_who_66 (by decide) ?_
              exact ih23 _ (by have q0 := ib_hi x_8; have q1 := ib_lo x_8; have qa := ib_hi v4_h_6; have qb := ib_lo v4_h_6; have qc : (v4_h_6 + 1).toInt = v4_h_6.toInt + (1 : Int32).toInt := ii_add (by omega) (by omega); rw [ex_23]; omega) αh_18 Hh_18 Lh_18 Bh_18 x_22 x_23 (by omega) ls (lv_sub hl [2, 3, 4, 1, 0] rfl) rfl
      refine lv_istore (lv' := [(4, .int 0), (3, .int 0), (0, .ref a0), (1, .int a1), (2, .int a2)]) hx hb dX11_who_21 hl (by decide) rfl (fun ls hl => hp_n (n := 23) rfl ?_)
      exact J23 _ α Hh_4 Lh_4 Bh_4 0 0 (by omega) ls (lv_sub hl [2, 3, 4, 1, 0] rfl) rfl
    ·
      have jc_5 := il_eq c_5
      exact J12 Hh_4 Lh_4 Bh_4 ls (lv_sub hl [0] rfl)
end JN4_1
section JN4_2
/-! ===== the reference as pure functions: its state, rows over it ===== -/
abbrev ms_T : Type := (Nat → Int32) × (Nat → Nat → Int32) × Int64
def ms_I (σ : ms_T) (φ : Nat) : Int32 := σ.1 φ
def ms_E (σ : ms_T) (κ j : Nat) : Int32 := σ.2.1 κ j
def ms_J (σ : ms_T) : Int64 := σ.2.2
def ms_sI (σ : ms_T) (φ : Nat) (v : Int32) : ms_T := (fun ψ => if ψ = φ then v else σ.1 ψ, σ.2)
def ms_sE (σ : ms_T) (κ j : Nat) (v : Int32) : ms_T := (σ.1, fun ψ i => if ψ = κ ∧ i = j then v else σ.2.1 ψ i, σ.2.2)
def ms_sJ (σ : ms_T) (v : Int64) : ms_T := (σ.1, σ.2.1, v)
def ms_w (j : Nat) : Int64 := ([9886, 841, 555, 129530, 95762147, 380237, 257, 151331, 411, 257105, 161140, 79] : List Int64).getD j 0
def ms_mf : List (Nat × Nat) := [(40, 650), (41, 651), (42, 654), (43, 655), (44, 656), (45, 662), (46, 663), (47, 666), (48, 678), (49, 680), (50, 681), (51, 686), (52, 687), (53, 688), (54, 690), (55, 691), (56, 692), (57, 693), (58, 694), (59, 696)]
/-- a guard, a name, what comes behind a part -/
def ms_g {R : Type} (i : Int32) (n : Nat) (k : Option R) : Option R := if 0 ≤ i.toInt ∧ i.toInt < (n : Int) then k else none
def ms_n {R : Type} (i : Int32) (k : Option R) : Option R := if i = 0 then none else k
def ms_nl {R : Type} (i : Int64) (k : Option R) : Option R := if i = 0 then none else k
def ms_z {R : Type} (i : Int32) (k : Option R) : Option R := if i = 0 ∨ i = 1 then k else none
def ms_q {R : Type} (i k : Int32) (o : Option R) : Option R := if 0 ≤ i.toInt ∧ i.toInt < k.toInt then o else none
def ms_l {A R : Type} (v : A) (k : A → Option R) : Option R := k v
def ms_b {A R : Type} (x : Option A) (k : A → Option R) : Option R := match x with
  | some a => k a
  | none => none
def ms_c {A R : Type} (x : Option (A × ms_T)) (k : A → ms_T → Option R) : Option R := match x with
  | some q => k q.1 q.2
  | none => none
theorem ms_gE {R : Type} {i : Int32} {n : Nat} {k : Option R} {r : R} (h : ms_g i n k = some r) : (0 ≤ i.toInt ∧ i.toInt < (n : Int)) ∧ k = some r := by
  unfold ms_g at h
  split at h
  · exact ⟨by assumption, h⟩
  · cases h
theorem ms_nE {R : Type} {i : Int32} {k : Option R} {r : R} (h : ms_n i k = some r) : ¬ i = 0 ∧ k = some r := by
  unfold ms_n at h
  split at h
  · cases h
  · exact ⟨by assumption, h⟩
theorem ms_nlE {R : Type} {i : Int64} {k : Option R} {r : R} (h : ms_nl i k = some r) : ¬ i = 0 ∧ k = some r := by
  unfold ms_nl at h
  split at h
  · cases h
  · exact ⟨by assumption, h⟩
theorem ms_zE {R : Type} {i : Int32} {k : Option R} {r : R} (h : ms_z i k = some r) : (i = 0 ∨ i = 1) ∧ k = some r := by
  unfold ms_z at h
  split at h
  · exact ⟨by assumption, h⟩
  · cases h
theorem ms_qE {R : Type} {i k : Int32} {o : Option R} {r : R} (h : ms_q i k o = some r) : (0 ≤ i.toInt ∧ i.toInt < k.toInt) ∧ o = some r := by
  unfold ms_q at h
  split at h
  · exact ⟨by assumption, h⟩
  · cases h
theorem ms_lE {A R : Type} {v x : A} {k : A → Option R} {r : R} (e : x = v) (h : ms_l v k = some r) : k x = some r := by
  rw [e]; exact h
theorem ms_bE {A R : Type} {x : Option A} {k : A → Option R} {r : R} (h : ms_b x k = some r) : ∃ a, x = some a ∧ k a = some r := by
  cases x with
  | none => cases h
  | some a => exact ⟨a, rfl, h⟩
theorem ms_cE {A R : Type} {x : Option (A × ms_T)} {k : A → ms_T → Option R} {r : R} (h : ms_c x k = some r) : ∃ a σ, x = some (a, σ) ∧ k a σ = some r := by
  cases x with
  | none => cases h
  | some q => exact ⟨q.1, q.2, rfl, h⟩
theorem ms_iT {R : Type} {c : Prop} [Decidable c] {a b r : R} (h : c) (e : (if c then a else b) = r) : a = r := by
  rw [if_pos h] at e; exact e
theorem ms_iF {R : Type} {c : Prop} [Decidable c] {a b r : R} (h : ¬ c) (e : (if c then a else b) = r) : b = r := by
  rw [if_neg h] at e; exact e
/-- the reference's object in the picture -/
def hm_M (α : hp_T) (a : Nat) (ρ : Nat → Nat) (σ : ms_T) : Prop := hp_K α a = 13 ∧ (∀ q ∈ ms_mf, hp_R α q.2 a = ρ q.1 ∧ hp_K α (ρ q.1) = q.1) ∧ (∀ φ, 650 ≤ φ → hp_I α φ a = ms_I σ φ) ∧ (∀ κ j, 40 ≤ κ → κ < 60 → hp_E α κ (ρ κ) j = ms_E σ κ j) ∧ hp_J α 677 a = ms_J σ ∧ (∀ j, j < 12 → hp_L α 48 (ρ 48) j = ms_w j)
/-- all else stays -/
def mo (α0 α : hp_T) : Prop := hp_K α = hp_K α0 ∧ hp_R α = hp_R α0 ∧ hp_N α = hp_N α0 ∧ hp_Q α = hp_Q α0 ∧ hp_L α = hp_L α0 ∧ (∀ φ, φ < 650 → hp_I α φ = hp_I α0 φ) ∧ (∀ κ, κ < 40 → hp_E α κ = hp_E α0 κ)
theorem mo_rf {α : hp_T} : mo α α := ⟨rfl, rfl, rfl, rfl, rfl, fun _ _ => rfl, fun _ _ => rfl⟩
theorem mo_tr {α β γ : hp_T} (h : mo α β) (g : mo β γ) : mo α γ := by
  obtain ⟨h1, h2, h3, h4, h5, h6, h7⟩ := h
  obtain ⟨g1, g2, g3, g4, g5, g6, g7⟩ := g
  exact ⟨g1.trans h1, g2.trans h2, g3.trans h3, g4.trans h4, g5.trans h5, fun φ hφ => (g6 φ hφ).trans (h6 φ hφ), fun κ hκ => (g7 κ hκ).trans (h7 κ hκ)⟩
theorem mo_sI {α0 α : hp_T} {φ a : Nat} {v : Int32} (h : mo α0 α) (hφ : 650 ≤ φ) : mo α0 (hp_sI α φ a v) := by
  refine mo_tr h ⟨rfl, rfl, rfl, rfl, rfl, fun ψ hψ => ?_, fun _ _ => rfl⟩
  funext b
  simp [hp_I, hp_sI, hp_up, show ψ ≠ φ by omega]
theorem mo_sJ {α0 α : hp_T} {φ a : Nat} {v : Int64} (h : mo α0 α) : mo α0 (hp_sJ α φ a v) := mo_tr h ⟨rfl, rfl, rfl, rfl, rfl, fun _ _ => rfl, fun _ _ => rfl⟩
theorem mo_sE {α0 α : hp_T} {κ a j : Nat} {v : Int32} (h : mo α0 α) (hκ : 40 ≤ κ) : mo α0 (hp_sE α κ a j v) := by
  refine mo_tr h ⟨rfl, rfl, rfl, rfl, rfl, fun _ _ => rfl, fun ψ hψ => ?_⟩
  funext b i
  simp [hp_E, hp_sE, hp_uq, show ψ ≠ κ by omega]
theorem hm_sI {α : hp_T} {a : Nat} {ρ : Nat → Nat} {σ : ms_T} {φ : Nat} {v : Int32} (h : hm_M α a ρ σ) : hm_M (hp_sI α φ a v) a ρ (ms_sI σ φ v) := by
  obtain ⟨h1, h2, h3, h4, h5, h6⟩ := h
  refine ⟨h1, h2, fun ψ hψ => ?_, h4, h5, h6⟩
  have := h3 ψ hψ
  by_cases e : ψ = φ
  · subst e; simp [hp_I, hp_sI, hp_up, ms_I, ms_sI]
  · simp only [hp_I, ms_I] at this
    simp [hp_I, hp_sI, hp_up, ms_I, ms_sI, e, this]
theorem hm_sJ {α : hp_T} {a : Nat} {ρ : Nat → Nat} {σ : ms_T} {v : Int64} (h : hm_M α a ρ σ) : hm_M (hp_sJ α 677 a v) a ρ (ms_sJ σ v) := by
  obtain ⟨h1, h2, h3, h4, h5, h6⟩ := h
  refine ⟨h1, h2, h3, h4, ?_, h6⟩
  simp [hp_J, hp_sJ, hp_up, ms_J, ms_sJ]
theorem hm_sE {α : hp_T} {a : Nat} {ρ : Nat → Nat} {σ : ms_T} {κ j : Nat} {v : Int32} (h : hm_M α a ρ σ) : hm_M (hp_sE α κ (ρ κ) j v) a ρ (ms_sE σ κ j v) := by
  obtain ⟨h1, h2, h3, h4, h5, h6⟩ := h
  refine ⟨h1, h2, h3, fun ψ i hψ hψ2 => ?_, h5, h6⟩
  have := h4 ψ i hψ hψ2
  by_cases e : ψ = κ ∧ i = j
  · obtain ⟨rfl, rfl⟩ := e; simp [hp_E, hp_sE, hp_uq, ms_E, ms_sE]
  · have e2 : ¬ (ψ = κ ∧ ρ ψ = ρ κ ∧ i = j) := fun q => e ⟨q.1, q.2.2⟩
    simp only [hp_E, ms_E] at this
    simp only [hp_E, hp_sE, hp_uq, ms_E, ms_sE, if_neg e, if_neg e2]
    exact this
section HPM
variable {p : Program} {l : Launch} {e : Env} {R : Room} {s : State} {m : MethodId} {args : Array Value} {below : List Frame} {meth : Method} {c : Code} {H : Heap} {locs : List Loc} {cells slots : Nat} {Q : State → Prop} {cc : ByteArray} {nL : Nat} {own : String} {Γ : hp_G} {α0 α : hp_T} {Iv : hp_T → hp_T → Prop} {pc pc' : Nat} {ls : Array Slot} {rest : List Value} {a κ k index φ n : Nat} {ρ : Nat → Nat} {σ : ms_T} {i x : Int32}
theorem ms_mf40 : ∀ q ∈ ms_mf, 40 ≤ q.1 := by decide
theorem ms_mf60 : ∀ q ∈ ms_mf, q.1 < 60 := by decide
theorem m_geti (C : hp_C Γ p m c cc nL s args own) (B : hp_B Γ Iv s α0 α H locs) (hM : hm_M α a ρ σ) (hF : hp_F own index 13 k) (ht : (hp_tg 13)[k]? = some 0) (hφ : 650 + k = φ) (hdg : decode cc pc = .ok (.getfield index, 3)) (hpc : pc + 3 = pc')
    (kk : W p l e R s m args below meth c H locs cells slots Q (F0 m pc' ls (.int (ms_I σ φ) :: rest))) : W p l e R s m args below meth c H locs cells slots Q (F0 m pc ls (.ref a :: rest)) := by
  subst hφ
  exact q_get (κ := 13) C B hM.1 hF rfl ht (show Value.int (hp_I α (650 + k) a) = Value.int (ms_I σ (650 + k)) by rw [hM.2.2.1 _ (by omega)]) hdg hpc kk
theorem m_getl (C : hp_C Γ p m c cc nL s args own) (B : hp_B Γ Iv s α0 α H locs) (hM : hm_M α a ρ σ) (hF : hp_F own index 13 27) (hdg : decode cc pc = .ok (.getfield index, 3)) (hpc : pc + 3 = pc')
    (kk : W p l e R s m args below meth c H locs cells slots Q (F0 m pc' ls (.long (ms_J σ) :: rest))) : W p l e R s m args below meth c H locs cells slots Q (F0 m pc ls (.ref a :: rest)) := by
  exact q_get (κ := 13) (k := 27) (t := 2) C B hM.1 hF rfl rfl (show Value.long (hp_J α 677 a) = Value.long (ms_J σ) by rw [hM.2.2.2.2.1]) hdg hpc kk
theorem m_getr (C : hp_C Γ p m c cc nL s args own) (B : hp_B Γ Iv s α0 α H locs) (hM : hm_M α a ρ σ) (hF : hp_F own index 13 k) (ht : (hp_tg 13)[k]? = some 1) (hm : (κ, 650 + k) ∈ ms_mf) (hdg : decode cc pc = .ok (.getfield index, 3)) (hpc : pc + 3 = pc')
    (kk : W p l e R s m args below meth c H locs cells slots Q (F0 m pc' ls (.ref (ρ κ) :: rest))) : W p l e R s m args below meth c H locs cells slots Q (F0 m pc ls (.ref a :: rest)) :=
  q_get (κ := 13) C B hM.1 hF rfl ht (show Value.ref (hp_R α (650 + k) a) = Value.ref (ρ κ) by rw [(hM.2.1 _ hm).1]) hdg hpc kk
theorem m_puti (C : hp_C Γ p m c cc nL s args own) (B : hp_B Γ mo s α0 α H locs) (hM : hm_M α a ρ σ) (hF : hp_F own index 13 k) (ht : (hp_tg 13)[k]? = some 0) (hφ : 650 + k = φ) (hfin : ((hp_q 13).2.1 k).2.2.2 = false) (hn : narrow (hp_ty 13 k) (.int x) = .int x) (hfit : fits (hp_ty 13 k) (.int x) = true) (hdg : decode cc pc = .ok (.putfield index, 3)) (hpc : pc + 3 = pc')
    (kk : ∀ (β : hp_T) (H1 : Heap) (locs1 : List Loc) (τ : ms_T), τ = ms_sI σ φ x → hp_B Γ mo s α0 β H1 locs1 → hm_M β a ρ τ → W p l e R s m args below meth c H1 locs1 cells slots Q (F0 m pc' ls rest)) : W p l e R s m args below meth c H locs cells slots Q (F0 m pc ls (.int x :: .ref a :: rest)) := by
  subst hφ
  exact q_puti (κ := 13) (φ := 650 + k) C B hM.1 hF rfl ht hfin hn hfit rfl (mo_sI B.2.2 (by omega)) hdg hpc (fun β H1 L1 eb B1 => kk β H1 L1 _ rfl B1 (by rw [eb]; exact hm_sI hM))
theorem m_putl {x : Int64} (C : hp_C Γ p m c cc nL s args own) (B : hp_B Γ mo s α0 α H locs) (hM : hm_M α a ρ σ) (hF : hp_F own index 13 27) (hdg : decode cc pc = .ok (.putfield index, 3)) (hpc : pc + 3 = pc')
    (kk : ∀ (β : hp_T) (H1 : Heap) (locs1 : List Loc) (τ : ms_T), τ = ms_sJ σ x → hp_B Γ mo s α0 β H1 locs1 → hm_M β a ρ τ → W p l e R s m args below meth c H1 locs1 cells slots Q (F0 m pc' ls rest)) : W p l e R s m args below meth c H locs cells slots Q (F0 m pc ls (.long x :: .ref a :: rest)) := by
  exact q_putl (κ := 13) (k := 27) (φ := 677) C B hM.1 hF rfl rfl rfl rfl rfl rfl (mo_sJ B.2.2) hdg hpc (fun β H1 L1 eb B1 => kk β H1 L1 _ rfl B1 (by rw [eb]; exact hm_sJ hM))
theorem m_ial (C : hp_C Γ p m c cc nL s args own) (B : hp_B Γ Iv s α0 α H locs) (hM : hm_M α a ρ σ) (hm : (κ, φ) ∈ ms_mf) (hc : 20 ≤ κ ∧ κ < 60) (hn : hp_ar κ = (0, n)) (hin : 0 ≤ i.toInt ∧ i.toInt < (n : Int)) (hdg : decode cc pc = .ok (.iaload, 1)) (hpc : pc + 1 = pc')
    (kk : W p l e R s m args below meth c H locs cells slots Q (F0 m pc' ls (.int (ms_E σ κ i.toNatClampNeg) :: rest))) : W p l e R s m args below meth c H locs cells slots Q (F0 m pc ls (.int i :: .ref (ρ κ) :: rest)) :=
  q_ial (κ := κ) C B (hM.2.1 _ hm).2 hc hn (vi_of hin.1 hin.2) hdg hpc (by rw [hM.2.2.2.1 _ _ (ms_mf40 _ hm) (ms_mf60 _ hm)]; exact kk)
theorem m_bal (C : hp_C Γ p m c cc nL s args own) (B : hp_B Γ Iv s α0 α H locs) (hM : hm_M α a ρ σ) (hm : (κ, φ) ∈ ms_mf) (hc : 20 ≤ κ ∧ κ < 60) (hn : hp_ar κ = (1, n)) (hin : 0 ≤ i.toInt ∧ i.toInt < (n : Int)) (hdg : decode cc pc = .ok (.baload, 1)) (hpc : pc + 1 = pc')
    (kk : W p l e R s m args below meth c H locs cells slots Q (F0 m pc' ls (.int (ms_E σ κ i.toNatClampNeg) :: rest))) : W p l e R s m args below meth c H locs cells slots Q (F0 m pc ls (.int i :: .ref (ρ κ) :: rest)) :=
  q_bal (κ := κ) C B (hM.2.1 _ hm).2 hc hn (vi_of hin.1 hin.2) hdg hpc (by rw [hM.2.2.2.1 _ _ (ms_mf40 _ hm) (ms_mf60 _ hm)]; exact kk)
theorem m_lal (C : hp_C Γ p m c cc nL s args own) (B : hp_B Γ Iv s α0 α H locs) (hM : hm_M α a ρ σ) (hin : 0 ≤ i.toInt ∧ i.toInt < ((12 : Nat) : Int)) (hdg : decode cc pc = .ok (.laload, 1)) (hpc : pc + 1 = pc')
    (kk : W p l e R s m args below meth c H locs cells slots Q (F0 m pc' ls (.long (ms_w i.toNatClampNeg) :: rest))) : W p l e R s m args below meth c H locs cells slots Q (F0 m pc ls (.int i :: .ref (ρ 48) :: rest)) :=
  q_lal (κ := 48) (n := 12) C B (hM.2.1 (48, 678) (by decide)).2 (by decide) rfl (vi_of hin.1 hin.2) hdg hpc (by
    have h1 := ic_clamp hin.1
    rw [hM.2.2.2.2.2 _ (by omega)]; exact kk)
theorem m_ias (C : hp_C Γ p m c cc nL s args own) (B : hp_B Γ mo s α0 α H locs) (hM : hm_M α a ρ σ) (hm : (κ, φ) ∈ ms_mf) (hc : 40 ≤ κ ∧ κ < 60) (hn : hp_ar κ = (0, n)) (hin : 0 ≤ i.toInt ∧ i.toInt < (n : Int)) (hdg : decode cc pc = .ok (.iastore, 1)) (hpc : pc + 1 = pc')
    (kk : ∀ (β : hp_T) (H1 : Heap) (locs1 : List Loc) (τ : ms_T), τ = ms_sE σ κ i.toNatClampNeg x → hp_B Γ mo s α0 β H1 locs1 → hm_M β a ρ τ → W p l e R s m args below meth c H1 locs1 cells slots Q (F0 m pc' ls rest)) : W p l e R s m args below meth c H locs cells slots Q (F0 m pc ls (.int x :: .int i :: .ref (ρ κ) :: rest)) :=
  q_ias (κ := κ) C B (hM.2.1 _ hm).2 ⟨by omega, hc.2⟩ hn (vi_of hin.1 hin.2) rfl (mo_sE B.2.2 hc.1) hdg hpc (fun β H1 L1 eb B1 => kk β H1 L1 _ rfl B1 (by rw [eb]; exact hm_sE hM))
theorem m_bas (C : hp_C Γ p m c cc nL s args own) (B : hp_B Γ mo s α0 α H locs) (hM : hm_M α a ρ σ) (hm : (κ, φ) ∈ ms_mf) (hc : 40 ≤ κ ∧ κ < 60) (hn : hp_ar κ = (1, n)) (hin : 0 ≤ i.toInt ∧ i.toInt < (n : Int)) (hdg : decode cc pc = .ok (.bastore, 1)) (hpc : pc + 1 = pc')
    (kk : ∀ (β : hp_T) (H1 : Heap) (locs1 : List Loc) (τ : ms_T), τ = ms_sE σ κ i.toNatClampNeg x.toInt8.toInt32 → hp_B Γ mo s α0 β H1 locs1 → hm_M β a ρ τ → W p l e R s m args below meth c H1 locs1 cells slots Q (F0 m pc' ls rest)) : W p l e R s m args below meth c H locs cells slots Q (F0 m pc ls (.int x :: .int i :: .ref (ρ κ) :: rest)) :=
  q_bas (κ := κ) (y := x.toInt8.toInt32) C B (hM.2.1 _ hm).2 ⟨by omega, hc.2⟩ hn (vi_of hin.1 hin.2) rfl rfl (mo_sE B.2.2 hc.1) hdg hpc (fun β H1 L1 eb B1 => kk β H1 L1 _ rfl B1 (by rw [eb]; exact hm_sE hM))
variable {st : List Value} {mc ms : Nat} {aa : Array Value}
/-- calls: of what changes the state, of what does not -/
theorem m_ci {r : Int32} {τ : ms_T} (B : hp_B Γ mo s α0 α H locs) (hr : va_Run p l e R s m args below meth c H locs cells slots mc ms (F0 m pc ls st) rest (hp_Qi Γ (fun r' β => r' = r ∧ mo α β ∧ hm_M β a ρ τ) aa) (hp_A Γ)) (hpc : pc + 3 = pc')
    (kk : ∀ (β : hp_T) (H1 : Heap) (locs1 : List Loc), hp_B Γ mo s α0 β H1 locs1 → hm_M β a ρ τ → W p l e R s m args below meth c H1 locs1 (cells + mc) (slots + ms) Q (F0 m pc' ls (.int r :: rest))) : W p l e R s m args below meth c H locs cells slots Q (F0 m pc ls st) :=
  q_ci B hr (fun _ _ h => mo_tr B.2.2 h.2.1) hpc (fun r' β H1 L1 h B1 => by rw [h.1]; exact kk β H1 L1 B1 h.2.2)
theorem m_cv {τ : ms_T} (B : hp_B Γ mo s α0 α H locs) (hr : va_Run p l e R s m args below meth c H locs cells slots mc ms (F0 m pc ls st) rest (hp_Qv Γ (fun β => mo α β ∧ hm_M β a ρ τ) aa) (hp_A Γ)) (hpc : pc + 3 = pc')
    (kk : ∀ (β : hp_T) (H1 : Heap) (locs1 : List Loc), hp_B Γ mo s α0 β H1 locs1 → hm_M β a ρ τ → W p l e R s m args below meth c H1 locs1 (cells + mc) (slots + ms) Q (F0 m pc' ls rest)) : W p l e R s m args below meth c H locs cells slots Q (F0 m pc ls st) :=
  q_cv B hr (fun _ h => mo_tr B.2.2 h.1) hpc (fun β H1 L1 h B1 => kk β H1 L1 B1 h.2)
theorem m_cp {r : Int32} (B : hp_B Γ Iv s α0 α H locs) (hr : va_Run p l e R s m args below meth c H locs cells slots mc ms (F0 m pc ls st) rest (hp_Qi Γ (fun r' β => β = α ∧ r' = r) aa) (hp_A Γ)) (hpc : pc + 3 = pc')
    (kk : ∀ (H1 : Heap) (locs1 : List Loc), hp_B Γ Iv s α0 α H1 locs1 → W p l e R s m args below meth c H1 locs1 (cells + mc) (slots + ms) Q (F0 m pc' ls (.int r :: rest))) : W p l e R s m args below meth c H locs cells slots Q (F0 m pc ls st) :=
  q_ci B hr (fun _ β h => by rw [h.1]; exact B.2.2) hpc (fun r' β H1 L1 h B1 => by rw [h.2]; rw [h.1] at B1; exact kk H1 L1 B1)
end HPM
end JN4_2
