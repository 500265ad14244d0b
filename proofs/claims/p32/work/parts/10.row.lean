abbrev w_X5_at : cw_W := ([], [], [], [])
set_option maxRecDepth 100000 in
set_option maxHeartbeats 4000000 in
theorem t_X5_at (Γ : hp_G) (l : Launch) (α : hp_T) (g : GC α) (a0 : Nat) (k0 : hp_K α a0 = 6) (a1 : Int32) : Met l yX5_at (hp_ws yX5_at cX5_at 2 (some .int)) (hp_rm 0 0 0) (hp_Pc Γ α [.ref a0, .int a1]) (hp_Qi Γ (fun r β => β = α)) 0 0 (hp_A Γ) := by
  refine hp_start (by decide) ?_
  intro p e s m below meth c C hr hlk B0 hnm
  have C : hp_C Γ p m c cX5_at 2 s ([.ref a0, .int a1] : List Value).toArray RX5 := C
  have hx := C.1.1
  have hb := C.1.2.1
  have hown := C.1.2.2.2.1
  have hts := C.1.2.2.2.2
  have B : hp_B Γ (cw w_X5_at) s α α s.heap [] := ⟨B0.1, B0.2.1, cw_rf g⟩
  have lit0 : (0 : Int32).toInt = 0 := by decide
  have lit64 : (64 : Int32).toInt = 64 := by decide
  have hl := lv_entry ([.ref a0, .int a1]) (n := 2) (Nat.le_of_ble_eq_true rfl)
  show W p l e (hp_rm 0 0 0) s m ([.ref a0, .int a1] : List Value).toArray below meth c s.heap [] 0 0 (MQ below (hp_Qi Γ (fun r β => β = α)) ([.ref a0, .int a1] : List Value).toArray s 0 0 (hp_A Γ)) (entryFrame m ([.ref a0, .int a1] : List Value).toArray 2)
  rw [lg_entry_eq]
  generalize (lg_sl ([.ref a0, .int a1]) ++ List.replicate (2 - (lg_sl ([.ref a0, .int a1])).length) Slot.unset).toArray = ls at hl ⊢
  have hl : lv_has ls 2 [(0, .ref a0), (1, .int a1)] := hl
  refine lv_iload_n hx hb dX5_at_0 rfl (lv_at hl 1 rfl) (hp_n (n := 1) rfl ?_)
  refine lv_if_lt (tgt := 30) hx hb dX5_at_1 (by decide) (fun c_1 => ?_) (fun c_1 => hp_n (n := 4) rfl ?_)
  ·
    have jc_1 := il_lt c_1
    refine lv_iconst (v := 0) hx hb dX5_at_30 (by decide) (hp_n (n := 31) rfl ?_)
    exact q_iret C B hr hlk rfl dX5_at_31
  ·
    have jc_1 := il_nlt c_1
    refine lv_iload_n hx hb dX5_at_4 rfl (lv_at hl 1 rfl) (hp_n (n := 5) rfl ?_)
    refine lv_aload_n hx hb dX5_at_5 rfl (lv_at hl 0 rfl) (hp_n (n := 6) rfl ?_)
    refine q_geti (κ := 6) (k := 1) (φ := 301) (pc' := 9) C B (cw_k B.2.2 k0) fl_X5_15 rfl rfl rfl dX5_at_6 rfl (fun x_2 ex_2 => ?_)
    refine lv_icmp_ge (tgt := 30) hx hb dX5_at_9 (by decide) (fun c_3 => ?_) (fun c_3 => hp_n (n := 12) rfl ?_)
    ·
      have jc_3 := il_le c_3
      refine lv_iconst (v := 0) hx hb dX5_at_30 (by decide) (hp_n (n := 31) rfl ?_)
      exact q_iret C B hr hlk rfl dX5_at_31
    ·
      have jc_3 := il_nle c_3
      refine lv_iload_n hx hb dX5_at_12 rfl (lv_at hl 1 rfl) (hp_n (n := 13) rfl ?_)
      refine lv_aload_n hx hb dX5_at_13 rfl (lv_at hl 0 rfl) (hp_n (n := 14) rfl ?_)
      refine q_getr (κ := 6) (k := 0) (φ := 300) (pc' := 17) C B (cw_k B.2.2 k0) fl_X5_9 rfl rfl rfl (cw_r B.2.2 k0 rfl rfl (by decide) (by decide)) dX5_at_14 rfl (fun b_4 eb_4 kb_4 => ?_)
      refine q_alen (κ := 20) (t := 0) (n := 64) (x := 64) (ty := .int) (pc' := 18) C B (cw_k B.2.2 kb_4) (by decide) rfl rfl rfl dX5_at_17 rfl ?_
      refine lv_icmp_ge (tgt := 30) hx hb dX5_at_18 (by decide) (fun c_5 => ?_) (fun c_5 => hp_n (n := 21) rfl ?_)
      ·
        have jc_5 := il_le c_5
        refine lv_iconst (v := 0) hx hb dX5_at_30 (by decide) (hp_n (n := 31) rfl ?_)
        exact q_iret C B hr hlk rfl dX5_at_31
      ·
        have jc_5 := il_nle c_5
        refine lv_aload_n hx hb dX5_at_21 rfl (lv_at hl 0 rfl) (hp_n (n := 22) rfl ?_)
        refine q_gets (κ := 6) (k := 0) (φ := 300) (pc' := 25) C B (cw_k B.2.2 k0) fl_X5_9 rfl rfl rfl eb_4 dX5_at_22 rfl ?_
        refine lv_iload_n hx hb dX5_at_25 rfl (lv_at hl 1 rfl) (hp_n (n := 26) rfl ?_)
        refine q_ial (κ := 20) (n := 64) (pc' := 27) C B (cw_k B.2.2 kb_4) (by decide) rfl (vi_of (by omega) (by omega)) dX5_at_26 rfl (lv_topi (fun x_6 ex_6 => ?_))
        refine lv_goto (tgt := 31) hx hb dX5_at_27 (by decide) ?_
        exact q_iret C B hr hlk rfl dX5_at_31
abbrev w_X5_put : cw_W := ([301], [], [20], [])
abbrev w_X5_change : cw_W := ([], [], [20], [])
abbrev w_X5_shorten : cw_W := ([301], [], [], [])
abbrev w_X5_countOf : cw_W := ([], [], [], [])
