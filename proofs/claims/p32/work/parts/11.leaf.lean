abbrev w_X9_clear : cw_W := ([501], [], [], [])
abbrev w_X9_put : cw_W := ([501], [], [27], [])
abbrev w_X9_letterAt : cw_W := ([], [], [], [])
set_option maxRecDepth 100000 in
set_option maxHeartbeats 4000000 in
theorem t_X9_letterAt (Γ : hp_G) (l : Launch) (α : hp_T) (g : GC α) (a0 : Nat) (k0 : hp_K α a0 = 10) (a1 : Int32) : Met l yX9_letterAt (hp_ws yX9_letterAt cX9_letterAt 2 (some .int)) (hp_rm 0 0 0) (hp_Pc Γ α [.ref a0, .int a1]) (hp_Qi Γ (fun r β => β = α)) 0 0 (hp_A Γ) := by
  refine hp_start (by decide) ?_
  intro p e s m below meth c C hr hlk B0 hnm
  have C : hp_C Γ p m c cX9_letterAt 2 s ([.ref a0, .int a1] : List Value).toArray RX9 := C
  have hx := C.1.1
  have hb := C.1.2.1
  have hown := C.1.2.2.2.1
  have hts := C.1.2.2.2.2
  have B : hp_B Γ (cw w_X9_letterAt) s α α s.heap [] := ⟨B0.1, B0.2.1, cw_rf g⟩
  have lit0 : (0 : Int32).toInt = 0 := by decide
  have lit8 : (8 : Int32).toInt = 8 := by decide
  have hl := lv_entry ([.ref a0, .int a1]) (n := 2) (Nat.le_of_ble_eq_true rfl)
  show W p l e (hp_rm 0 0 0) s m ([.ref a0, .int a1] : List Value).toArray below meth c s.heap [] 0 0 (MQ below (hp_Qi Γ (fun r β => β = α)) ([.ref a0, .int a1] : List Value).toArray s 0 0 (hp_A Γ)) (entryFrame m ([.ref a0, .int a1] : List Value).toArray 2)
  rw [lg_entry_eq]
  generalize (lg_sl ([.ref a0, .int a1]) ++ List.replicate (2 - (lg_sl ([.ref a0, .int a1])).length) Slot.unset).toArray = ls at hl ⊢
  have hl : lv_has ls 2 [(0, .ref a0), (1, .int a1)] := hl
  refine lv_iload_n hx hb dX9_letterAt_0 rfl (lv_at hl 1 rfl) (hp_n (n := 1) rfl ?_)
  refine lv_if_lt (tgt := 30) hx hb dX9_letterAt_1 (by decide) (fun c_1 => ?_) (fun c_1 => hp_n (n := 4) rfl ?_)
  ·
    have jc_1 := il_lt c_1
    refine lv_iconst (v := 0) hx hb dX9_letterAt_30 (by decide) (hp_n (n := 31) rfl ?_)
    exact q_iret C B hr hlk rfl dX9_letterAt_31
  ·
    have jc_1 := il_nlt c_1
    refine lv_iload_n hx hb dX9_letterAt_4 rfl (lv_at hl 1 rfl) (hp_n (n := 5) rfl ?_)
    refine lv_aload_n hx hb dX9_letterAt_5 rfl (lv_at hl 0 rfl) (hp_n (n := 6) rfl ?_)
    refine q_geti (κ := 10) (k := 1) (φ := 501) (pc' := 9) C B (cw_k B.2.2 k0) fl_X9_15 rfl rfl rfl dX9_letterAt_6 rfl (fun x_2 ex_2 => ?_)
    refine lv_icmp_ge (tgt := 30) hx hb dX9_letterAt_9 (by decide) (fun c_3 => ?_) (fun c_3 => hp_n (n := 12) rfl ?_)
    ·
      have jc_3 := il_le c_3
      refine lv_iconst (v := 0) hx hb dX9_letterAt_30 (by decide) (hp_n (n := 31) rfl ?_)
      exact q_iret C B hr hlk rfl dX9_letterAt_31
    ·
      have jc_3 := il_nle c_3
      refine lv_iload_n hx hb dX9_letterAt_12 rfl (lv_at hl 1 rfl) (hp_n (n := 13) rfl ?_)
      refine lv_aload_n hx hb dX9_letterAt_13 rfl (lv_at hl 0 rfl) (hp_n (n := 14) rfl ?_)
      refine q_getr (κ := 10) (k := 0) (φ := 500) (pc' := 17) C B (cw_k B.2.2 k0) fl_X9_9 rfl rfl rfl (cw_r B.2.2 k0 rfl rfl (by decide) (by decide)) dX9_letterAt_14 rfl (fun b_4 eb_4 kb_4 => ?_)
      refine q_alen (κ := 27) (t := 1) (n := 8) (x := 8) (ty := .byte) (pc' := 18) C B (cw_k B.2.2 kb_4) (by decide) rfl rfl rfl dX9_letterAt_17 rfl ?_
      refine lv_icmp_ge (tgt := 30) hx hb dX9_letterAt_18 (by decide) (fun c_5 => ?_) (fun c_5 => hp_n (n := 21) rfl ?_)
      ·
        have jc_5 := il_le c_5
        refine lv_iconst (v := 0) hx hb dX9_letterAt_30 (by decide) (hp_n (n := 31) rfl ?_)
        exact q_iret C B hr hlk rfl dX9_letterAt_31
      ·
        have jc_5 := il_nle c_5
        refine lv_aload_n hx hb dX9_letterAt_21 rfl (lv_at hl 0 rfl) (hp_n (n := 22) rfl ?_)
        refine q_gets (κ := 10) (k := 0) (φ := 500) (pc' := 25) C B (cw_k B.2.2 k0) fl_X9_9 rfl rfl rfl eb_4 dX9_letterAt_22 rfl ?_
        refine lv_iload_n hx hb dX9_letterAt_25 rfl (lv_at hl 1 rfl) (hp_n (n := 26) rfl ?_)
        refine q_bal (κ := 27) (n := 8) (pc' := 27) C B (cw_k B.2.2 kb_4) (by decide) rfl (vi_of (by omega) (by omega)) dX9_letterAt_26 rfl (lv_topi (fun x_6 ex_6 => ?_))
        refine lv_goto (tgt := 31) hx hb dX9_letterAt_27 (by decide) ?_
        exact q_iret C B hr hlk rfl dX9_letterAt_31
abbrev w_X9_change : cw_W := ([], [], [27], [])
abbrev w_X9_copy : cw_W := ([501], [], [27], [])
abbrev w_X9_isLike : cw_W := ([], [], [], [])
set_option maxRecDepth 100000 in
set_option maxHeartbeats 4000000 in
theorem t_X9_isLike (Γ : hp_G) (l : Launch) (α : hp_T) (g : GC α) (a0 : Nat) (k0 : hp_K α a0 = 10) (a1 : Nat) (k1 : hp_K α a1 = 10) : Met l yX9_isLike (hp_ws yX9_isLike cX9_isLike 4 (some .boolean)) (hp_rm 1 0 0) (hp_Pc Γ α [.ref a0, .ref a1]) (hp_Qi Γ (fun r β => β = α ∧ (r = 0 ∨ r = 1))) 0 0 (hp_A Γ) := by
  refine hp_start (by decide) ?_
  intro p e s m below meth c C hr hlk B0 hnm
  have C : hp_C Γ p m c cX9_isLike 4 s ([.ref a0, .ref a1] : List Value).toArray RX9 := C
  have hx := C.1.1
  have hb := C.1.2.1
  have hown := C.1.2.2.2.1
  have hts := C.1.2.2.2.2
  have B : hp_B Γ (cw w_X9_isLike) s α α s.heap [] := ⟨B0.1, B0.2.1, cw_rf g⟩
  have lit0 : (0 : Int32).toInt = 0 := by decide
  have lit1 : (1 : Int32).toInt = 1 := by decide
  have hl := lv_entry ([.ref a0, .ref a1]) (n := 4) (Nat.le_of_ble_eq_true rfl)
  show W p l e (hp_rm 1 0 0) s m ([.ref a0, .ref a1] : List Value).toArray below meth c s.heap [] 0 0 (MQ below (hp_Qi Γ (fun r β => β = α ∧ (r = 0 ∨ r = 1))) ([.ref a0, .ref a1] : List Value).toArray s 0 0 (hp_A Γ)) (entryFrame m ([.ref a0, .ref a1] : List Value).toArray 4)
  rw [lg_entry_eq]
  generalize (lg_sl ([.ref a0, .ref a1]) ++ List.replicate (4 - (lg_sl ([.ref a0, .ref a1])).length) Slot.unset).toArray = ls at hl ⊢
  have hl : lv_has ls 4 [(0, .ref a0), (1, .ref a1)] := hl
  refine lv_aload_n hx hb dX9_isLike_0 rfl (lv_at hl 0 rfl) (hp_n (n := 1) rfl ?_)
  refine q_geti (κ := 10) (k := 1) (φ := 501) (pc' := 4) C B (cw_k B.2.2 k0) fl_X9_15 rfl rfl rfl dX9_isLike_1 rfl (fun x_1 ex_1 => ?_)
  refine lv_aload_n hx hb dX9_isLike_4 rfl (lv_at hl 1 rfl) (hp_n (n := 5) rfl ?_)
  refine q_geti (κ := 10) (k := 1) (φ := 501) (pc' := 8) C B (cw_k B.2.2 k1) fl_X9_15 rfl rfl rfl dX9_isLike_5 rfl (fun x_2 ex_2 => ?_)
  refine lv_icmp_ne (tgt := 15) hx hb dX9_isLike_8 (by decide) (fun c_3 => ?_) (fun c_3 => hp_n (n := 11) rfl ?_)
  ·
    have jc_3 := il_ne c_3
    refine lv_iconst (v := 0) hx hb dX9_isLike_15 (by decide) (hp_n (n := 16) rfl ?_)
    refine lv_istore_n (lv' := [(2, .int 0), (0, .ref a0), (1, .ref a1)]) hx hb dX9_isLike_16 rfl hl (by decide) rfl (fun ls hl => hp_n (n := 17) rfl ?_)
    refine lv_iconst (v := 0) hx hb dX9_isLike_17 (by decide) (hp_n (n := 18) rfl ?_)
    have J19 : ∀ (nq : Nat) (Hh_4 : Heap) (Lh_4 : List Loc) (Bh_4 : hp_B Γ (cw w_X9_isLike) s α α Hh_4 Lh_4) (v2_h_4 : Int32) (zv2_h_4 : v2_h_4 = 0 ∨ v2_h_4 = 1) (v3_h_4 : Int32) (ih_4_0 : 0 ≤ v3_h_4.toInt) (ls : Array Slot) (hl : lv_has ls 4 [(0, .ref a0), (1, .ref a1), (2, .int v2_h_4), (3, .int v3_h_4)]) (hmu19 : (2147483647 - v3_h_4.toInt).toNat = nq), W p l e (hp_rm 1 0 0) s m ([.ref a0, .ref a1] : List Value).toArray below meth c Hh_4 Lh_4 0 0 (MQ below (hp_Qi Γ (fun r β => β = α ∧ (r = 0 ∨ r = 1))) ([.ref a0, .ref a1] : List Value).toArray s 0 0 (hp_A Γ)) (F0 m 19 ls []) := by
      intro nq
      induction nq using Nat.strongRecOn with
      | ind nq ih19 =>
      intro Hh_4 Lh_4 Bh_4 v2_h_4 zv2_h_4 v3_h_4 ih_4_0 ls hl hmu19
      have inv19_0 := ih_4_0
      refine lv_iload_n hx hb dX9_isLike_19 rfl (lv_at hl 3 rfl) (hp_n (n := 20) rfl ?_)
      refine lv_aload_n hx hb dX9_isLike_20 rfl (lv_at hl 0 rfl) (hp_n (n := 21) rfl ?_)
      refine q_getj (κ := 10) (k := 1) (φ := 501) (pc' := 24) C Bh_4 (cw_k Bh_4.2.2 k0) fl_X9_15 rfl rfl rfl ex_1 dX9_isLike_21 rfl ?_
      refine lv_icmp_ge (tgt := 56) hx hb dX9_isLike_24 (by decide) (fun c_5 => ?_) (fun c_5 => hp_n (n := 27) rfl ?_)
      ·
        have jc_5 := il_le c_5
        refine lv_iload_n hx hb dX9_isLike_56 rfl (lv_at hl 2 rfl) (hp_n (n := 57) rfl ?_)
        exact q_zret C Bh_4 hr hlk (nz_z zv2_h_4) ⟨rfl, zv2_h_4⟩ dX9_isLike_57
      ·
        have jc_5 := il_nle c_5
        refine lv_iload_n hx hb dX9_isLike_27 rfl (lv_at hl 2 rfl) (hp_n (n := 28) rfl ?_)
        refine lv_if_eq (tgt := 56) hx hb dX9_isLike_28 (by decide) (fun c_6 => ?_) (fun c_6 => hp_n (n := 31) rfl ?_)
        ·
          have jc_6 := il_eq c_6
          refine lv_iload_n hx hb dX9_isLike_56 rfl (lv_at hl 2 rfl) (hp_n (n := 57) rfl ?_)
          exact q_zret C Bh_4 hr hlk (nz_z zv2_h_4) ⟨rfl, zv2_h_4⟩ dX9_isLike_57
        ·
          have jc_6 := il_ne c_6
          refine lv_aload_n hx hb dX9_isLike_31 rfl (lv_at hl 0 rfl) (hp_n (n := 32) rfl ?_)
          refine lv_iload_n hx hb dX9_isLike_32 rfl (lv_at hl 3 rfl) (hp_n (n := 33) rfl ?_)
          refine q_ci (pc' := 36) Bh_4 (hp_runV (As := [.int v3_h_4]) (rest := []) C Bh_4 (t_X9_letterAt Γ l α Bh_4.2.2.1 a0 (cw_k Bh_4.2.2 k0) v3_h_4) lb_X9_letterAt lv_X9_letterAt lk_X9_22 (cw_k Bh_4.2.2 k0) rfl (by decide) rfl hl.1 rfl (Nat.le_of_ble_eq_true rfl) dX9_isLike_33 ⟨Nat.le_refl _, Nat.le_refl _⟩) (fun _ _ h => by rw [h]; exact Bh_4.2.2) rfl (fun rh_7 αh_7 Hh_7 Lh_7 ph_7 Bh_7 => ?_)
          rw [ph_7] at Bh_7
          refine lv_aload_n hx hb dX9_isLike_36 rfl (lv_at hl 1 rfl) (hp_n (n := 37) rfl ?_)
          refine lv_iload_n hx hb dX9_isLike_37 rfl (lv_at hl 3 rfl) (hp_n (n := 38) rfl ?_)
          refine q_ci (pc' := 41) Bh_7 (hp_runV (As := [.int v3_h_4]) (rest := [.int rh_7]) C Bh_7 (t_X9_letterAt Γ l α Bh_7.2.2.1 a1 (cw_k Bh_7.2.2 k1) v3_h_4) lb_X9_letterAt lv_X9_letterAt lk_X9_22 (cw_k Bh_7.2.2 k1) rfl (by decide) rfl hl.1 rfl (Nat.le_of_ble_eq_true rfl) dX9_isLike_38 ⟨Nat.le_refl _, Nat.le_refl _⟩) (fun _ _ h => by rw [h]; exact Bh_7.2.2) rfl (fun rh_8 αh_8 Hh_8 Lh_8 ph_8 Bh_8 => ?_)
          rw [ph_8] at Bh_8
          refine lv_icmp_ne (tgt := 48) hx hb dX9_isLike_41 (by decide) (fun c_9 => ?_) (fun c_9 => hp_n (n := 44) rfl ?_)
          ·
            have jc_9 := il_ne c_9
            refine lv_iconst (v := 0) hx hb dX9_isLike_48 (by decide) (hp_n (n := 49) rfl ?_)
            refine lv_istore_n (lv' := [(2, .int 0), (0, .ref a0), (1, .ref a1), (3, .int v3_h_4)]) hx hb dX9_isLike_49 rfl hl (by decide) rfl (fun ls hl => hp_n (n := 50) rfl ?_)
            obtain ⟨x_10, ex_10⟩ : ∃ y : Int32, y = v3_h_4 + 1 := ⟨_, rfl⟩
            have qx_10 : x_10.toInt = v3_h_4.toInt + 1 := by have q0 := ib_hi x_1; have qa := ib_lo v3_h_4; rw [ex_10]; exact ii_add (by omega) (by omega)
            refine lv_iinc (v := x_10) (lv' := [(3, .int x_10), (2, .int 0), (0, .ref a0), (1, .ref a1)]) hx hb dX9_isLike_50 hl (k := 3) rfl (by rw [ex_10]; rfl) (by decide) rfl (fun ls hl => hp_n (n := 53) rfl ?_)
            refine lv_goto (tgt := 19) hx hb dX9_isLike_53 (by decide) ?_
            exact ih19 _ (by have q0 := ib_hi x_1; have q1 := ib_lo x_1; have qa := ib_hi v3_h_4; have qb := ib_lo v3_h_4; have qc : (v3_h_4 + 1).toInt = v3_h_4.toInt + (1 : Int32).toInt := ii_add (by omega) (by omega); rw [ex_10]; omega) Hh_8 Lh_8 Bh_8 0 (Or.inl rfl) x_10 (by omega) ls (lv_sub hl [2, 3, 1, 0] rfl) rfl
          ·
            have jc_9 := il_eq c_9
            refine lv_iconst (v := 1) hx hb dX9_isLike_44 (by decide) (hp_n (n := 45) rfl ?_)
            refine lv_goto (tgt := 49) hx hb dX9_isLike_45 (by decide) ?_
            refine lv_istore_n (lv' := [(2, .int 1), (0, .ref a0), (1, .ref a1), (3, .int v3_h_4)]) hx hb dX9_isLike_49 rfl hl (by decide) rfl (fun ls hl => hp_n (n := 50) rfl ?_)
            obtain ⟨x_11, ex_11⟩ : ∃ y : Int32, y = v3_h_4 + 1 := ⟨_, rfl⟩
            have qx_11 : x_11.toInt = v3_h_4.toInt + 1 := by have q0 := ib_hi x_1; have qa := ib_lo v3_h_4; rw [ex_11]; exact ii_add (by omega) (by omega)
            refine lv_iinc (v := x_11) (lv' := [(3, .int x_11), (2, .int 1), (0, .ref a0), (1, .ref a1)]) hx hb dX9_isLike_50 hl (k := 3) rfl (by rw [ex_11]; rfl) (by decide) rfl (fun ls hl => hp_n (n := 53) rfl ?_)
            refine lv_goto (tgt := 19) hx hb dX9_isLike_53 (by decide) ?_
            exact ih19 _ (by have q0 := ib_hi x_1; have q1 := ib_lo x_1; have qa := ib_hi v3_h_4; have qb := ib_lo v3_h_4; have qc : (v3_h_4 + 1).toInt = v3_h_4.toInt + (1 : Int32).toInt := ii_add (by omega) (by omega); rw [ex_11]; omega) Hh_8 Lh_8 Bh_8 1 (Or.inr rfl) x_11 (by omega) ls (lv_sub hl [2, 3, 1, 0] rfl) rfl
    refine lv_istore_n (lv' := [(3, .int 0), (2, .int 0), (0, .ref a0), (1, .ref a1)]) hx hb dX9_isLike_18 rfl hl (by decide) rfl (fun ls hl => hp_n (n := 19) rfl ?_)
    exact J19 _ s.heap [] B 0 (Or.inl rfl) 0 (by omega) ls (lv_sub hl [2, 3, 1, 0] rfl) rfl
  ·
    have jc_3 := il_eq c_3
    refine lv_iconst (v := 1) hx hb dX9_isLike_11 (by decide) (hp_n (n := 12) rfl ?_)
    refine lv_goto (tgt := 16) hx hb dX9_isLike_12 (by decide) ?_
    refine lv_istore_n (lv' := [(2, .int 1), (0, .ref a0), (1, .ref a1)]) hx hb dX9_isLike_16 rfl hl (by decide) rfl (fun ls hl => hp_n (n := 17) rfl ?_)
    refine lv_iconst (v := 0) hx hb dX9_isLike_17 (by decide) (hp_n (n := 18) rfl ?_)
    have J19 : ∀ (nq : Nat) (Hh_12 : Heap) (Lh_12 : List Loc) (Bh_12 : hp_B Γ (cw w_X9_isLike) s α α Hh_12 Lh_12) (v2_h_12 : Int32) (zv2_h_12 : v2_h_12 = 0 ∨ v2_h_12 = 1) (v3_h_12 : Int32) (ih_12_0 : 0 ≤ v3_h_12.toInt) (ls : Array Slot) (hl : lv_has ls 4 [(0, .ref a0), (1, .ref a1), (2, .int v2_h_12), (3, .int v3_h_12)]) (hmu19 : (2147483647 - v3_h_12.toInt).toNat = nq), W p l e (hp_rm 1 0 0) s m ([.ref a0, .ref a1] : List Value).toArray below meth c Hh_12 Lh_12 0 0 (MQ below (hp_Qi Γ (fun r β => β = α ∧ (r = 0 ∨ r = 1))) ([.ref a0, .ref a1] : List Value).toArray s 0 0 (hp_A Γ)) (F0 m 19 ls []) := by
      intro nq
      induction nq using Nat.strongRecOn with
      | ind nq ih19 =>
      intro Hh_12 Lh_12 Bh_12 v2_h_12 zv2_h_12 v3_h_12 ih_12_0 ls hl hmu19
      have inv19_0 := ih_12_0
      refine lv_iload_n hx hb dX9_isLike_19 rfl (lv_at hl 3 rfl) (hp_n (n := 20) rfl ?_)
      refine lv_aload_n hx hb dX9_isLike_20 rfl (lv_at hl 0 rfl) (hp_n (n := 21) rfl ?_)
      refine q_getj (κ := 10) (k := 1) (φ := 501) (pc' := 24) C Bh_12 (cw_k Bh_12.2.2 k0) fl_X9_15 rfl rfl rfl ex_1 dX9_isLike_21 rfl ?_
      refine lv_icmp_ge (tgt := 56) hx hb dX9_isLike_24 (by decide) (fun c_13 => ?_) (fun c_13 => hp_n (n := 27) rfl ?_)
      ·
        have jc_13 := il_le c_13
        refine lv_iload_n hx hb dX9_isLike_56 rfl (lv_at hl 2 rfl) (hp_n (n := 57) rfl ?_)
        exact q_zret C Bh_12 hr hlk (nz_z zv2_h_12) ⟨rfl, zv2_h_12⟩ dX9_isLike_57
      ·
        have jc_13 := il_nle c_13
        refine lv_iload_n hx hb dX9_isLike_27 rfl (lv_at hl 2 rfl) (hp_n (n := 28) rfl ?_)
        refine lv_if_eq (tgt := 56) hx hb dX9_isLike_28 (by decide) (fun c_14 => ?_) (fun c_14 => hp_n (n := 31) rfl ?_)
        ·
          have jc_14 := il_eq c_14
          refine lv_iload_n hx hb dX9_isLike_56 rfl (lv_at hl 2 rfl) (hp_n (n := 57) rfl ?_)
          exact q_zret C Bh_12 hr hlk (nz_z zv2_h_12) ⟨rfl, zv2_h_12⟩ dX9_isLike_57
        ·
          have jc_14 := il_ne c_14
          refine lv_aload_n hx hb dX9_isLike_31 rfl (lv_at hl 0 rfl) (hp_n (n := 32) rfl ?_)
          refine lv_iload_n hx hb dX9_isLike_32 rfl (lv_at hl 3 rfl) (hp_n (n := 33) rfl ?_)
          refine q_ci (pc' := 36) Bh_12 (hp_runV (As := [.int v3_h_12]) (rest := []) C Bh_12 (t_X9_letterAt Γ l α Bh_12.2.2.1 a0 (cw_k Bh_12.2.2 k0) v3_h_12) lb_X9_letterAt lv_X9_letterAt lk_X9_22 (cw_k Bh_12.2.2 k0) rfl (by decide) rfl hl.1 rfl (Nat.le_of_ble_eq_true rfl) dX9_isLike_33 ⟨Nat.le_refl _, Nat.le_refl _⟩) (fun _ _ h => by rw [h]; exact Bh_12.2.2) rfl (fun rh_15 αh_15 Hh_15 Lh_15 ph_15 Bh_15 => ?_)
          rw [ph_15] at Bh_15
          refine lv_aload_n hx hb dX9_isLike_36 rfl (lv_at hl 1 rfl) (hp_n (n := 37) rfl ?_)
          refine lv_iload_n hx hb dX9_isLike_37 rfl (lv_at hl 3 rfl) (hp_n (n := 38) rfl ?_)
          refine q_ci (pc' := 41) Bh_15 (hp_runV (As := [.int v3_h_12]) (rest := [.int rh_15]) C Bh_15 (t_X9_letterAt Γ l α Bh_15.2.2.1 a1 (cw_k Bh_15.2.2 k1) v3_h_12) lb_X9_letterAt lv_X9_letterAt lk_X9_22 (cw_k Bh_15.2.2 k1) rfl (by decide) rfl hl.1 rfl (Nat.le_of_ble_eq_true rfl) dX9_isLike_38 ⟨Nat.le_refl _, Nat.le_refl _⟩) (fun _ _ h => by rw [h]; exact Bh_15.2.2) rfl (fun rh_16 αh_16 Hh_16 Lh_16 ph_16 Bh_16 => ?_)
          rw [ph_16] at Bh_16
          refine lv_icmp_ne (tgt := 48) hx hb dX9_isLike_41 (by decide) (fun c_17 => ?_) (fun c_17 => hp_n (n := 44) rfl ?_)
          ·
            have jc_17 := il_ne c_17
            refine lv_iconst (v := 0) hx hb dX9_isLike_48 (by decide) (hp_n (n := 49) rfl ?_)
            refine lv_istore_n (lv' := [(2, .int 0), (0, .ref a0), (1, .ref a1), (3, .int v3_h_12)]) hx hb dX9_isLike_49 rfl hl (by decide) rfl (fun ls hl => hp_n (n := 50) rfl ?_)
            obtain ⟨x_18, ex_18⟩ : ∃ y : Int32, y = v3_h_12 + 1 := ⟨_, rfl⟩
            have qx_18 : x_18.toInt = v3_h_12.toInt + 1 := by have q0 := ib_hi x_1; have qa := ib_lo v3_h_12; rw [ex_18]; exact ii_add (by omega) (by omega)
            refine lv_iinc (v := x_18) (lv' := [(3, .int x_18), (2, .int 0), (0, .ref a0), (1, .ref a1)]) hx hb dX9_isLike_50 hl (k := 3) rfl (by rw [ex_18]; rfl) (by decide) rfl (fun ls hl => hp_n (n := 53) rfl ?_)
            refine lv_goto (tgt := 19) hx hb dX9_isLike_53 (by decide) ?_
            exact ih19 _ (by have q0 := ib_hi x_1; have q1 := ib_lo x_1; have qa := ib_hi v3_h_12; have qb := ib_lo v3_h_12; have qc : (v3_h_12 + 1).toInt = v3_h_12.toInt + (1 : Int32).toInt := ii_add (by omega) (by omega); rw [ex_18]; omega) Hh_16 Lh_16 Bh_16 0 (Or.inl rfl) x_18 (by omega) ls (lv_sub hl [2, 3, 1, 0] rfl) rfl
          ·
            have jc_17 := il_eq c_17
            refine lv_iconst (v := 1) hx hb dX9_isLike_44 (by decide) (hp_n (n := 45) rfl ?_)
            refine lv_goto (tgt := 49) hx hb dX9_isLike_45 (by decide) ?_
            refine lv_istore_n (lv' := [(2, .int 1), (0, .ref a0), (1, .ref a1), (3, .int v3_h_12)]) hx hb dX9_isLike_49 rfl hl (by decide) rfl (fun ls hl => hp_n (n := 50) rfl ?_)
            obtain ⟨x_19, ex_19⟩ : ∃ y : Int32, y = v3_h_12 + 1 := ⟨_, rfl⟩
            have qx_19 : x_19.toInt = v3_h_12.toInt + 1 := by have q0 := ib_hi x_1; have qa := ib_lo v3_h_12; rw [ex_19]; exact ii_add (by omega) (by omega)
            refine lv_iinc (v := x_19) (lv' := [(3, .int x_19), (2, .int 1), (0, .ref a0), (1, .ref a1)]) hx hb dX9_isLike_50 hl (k := 3) rfl (by rw [ex_19]; rfl) (by decide) rfl (fun ls hl => hp_n (n := 53) rfl ?_)
            refine lv_goto (tgt := 19) hx hb dX9_isLike_53 (by decide) ?_
            exact ih19 _ (by have q0 := ib_hi x_1; have q1 := ib_lo x_1; have qa := ib_hi v3_h_12; have qb := ib_lo v3_h_12; have qc : (v3_h_12 + 1).toInt = v3_h_12.toInt + (1 : Int32).toInt := ii_add (by omega) (by omega); rw [ex_19]; omega) Hh_16 Lh_16 Bh_16 1 (Or.inr rfl) x_19 (by omega) ls (lv_sub hl [2, 3, 1, 0] rfl) rfl
    refine lv_istore_n (lv' := [(3, .int 0), (2, .int 1), (0, .ref a0), (1, .ref a1)]) hx hb dX9_isLike_18 rfl hl (by decide) rfl (fun ls hl => hp_n (n := 19) rfl ?_)
    exact J19 _ s.heap [] B 1 (Or.inr rfl) 0 (by omega) ls (lv_sub hl [2, 3, 1, 0] rfl) rfl
abbrev w_X7_trust : cw_W := ([400, 401], [], [], [])
abbrev w_X7_renew : cw_W := ([400, 401, 402, 403], [], [], [])
abbrev w_X7_hearWhy : cw_W := ([403], [], [], [])
abbrev w_X11_mixed : cw_W := ([], [], [], [])
set_option maxRecDepth 100000 in
set_option maxHeartbeats 4000000 in
theorem t_X11_mixed (Γ : hp_G) (l : Launch) (α : hp_T) (g : GC α) (a0 : Int32) (a1 : Int32) (a2 : Int32) : Met l yX11_mixed (hp_ws yX11_mixed cX11_mixed 3 (some .int)) (hp_rm 0 0 0) (hp_Pc Γ α [.int a0, .int a1, .int a2]) (hp_Qi Γ (fun r β => β = α)) 0 0 (hp_A Γ) := by
  refine hp_start (by decide) ?_
  intro p e s m below meth c C hr hlk B0 hnm
  have C : hp_C Γ p m c cX11_mixed 3 s ([.int a0, .int a1, .int a2] : List Value).toArray RX11 := C
  have hx := C.1.1
  have hb := C.1.2.1
  have hown := C.1.2.2.2.1
  have hts := C.1.2.2.2.2
  have B : hp_B Γ (cw w_X11_mixed) s α α s.heap [] := ⟨B0.1, B0.2.1, cw_rf g⟩
  have lit0 : (0 : Int32).toInt = 0 := by decide
  have hl := lv_entry ([.int a0, .int a1, .int a2]) (n := 3) (Nat.le_of_ble_eq_true rfl)
  show W p l e (hp_rm 0 0 0) s m ([.int a0, .int a1, .int a2] : List Value).toArray below meth c s.heap [] 0 0 (MQ below (hp_Qi Γ (fun r β => β = α)) ([.int a0, .int a1, .int a2] : List Value).toArray s 0 0 (hp_A Γ)) (entryFrame m ([.int a0, .int a1, .int a2] : List Value).toArray 3)
  rw [lg_entry_eq]
  generalize (lg_sl ([.int a0, .int a1, .int a2]) ++ List.replicate (3 - (lg_sl ([.int a0, .int a1, .int a2])).length) Slot.unset).toArray = ls at hl ⊢
  have hl : lv_has ls 3 [(0, .int a0), (1, .int a1), (2, .int a2)] := hl
  refine lv_iload_n hx hb dX11_mixed_0 rfl (lv_at hl 0 rfl) (hp_n (n := 1) rfl ?_)
  refine lv_if_gt (tgt := 6) hx hb dX11_mixed_1 (by decide) (fun c_1 => ?_) (fun c_1 => hp_n (n := 4) rfl ?_)
  ·
    have jc_1 := il_lt c_1
    refine lv_iload_n hx hb dX11_mixed_6 rfl (lv_at hl 1 rfl) (hp_n (n := 7) rfl ?_)
    refine lv_i2l hx hb dX11_mixed_7 rfl (hp_n (n := 8) rfl (lv_topl (fun x_2 ex_2 => ?_)))
    refine lv_iload_n hx hb dX11_mixed_8 rfl (lv_at hl 1 rfl) (hp_n (n := 9) rfl ?_)
    refine lv_i2l hx hb dX11_mixed_9 rfl (hp_n (n := 10) rfl (lv_topl (fun x_3 ex_3 => ?_)))
    refine lv_lmul hx hb dX11_mixed_10 (hp_n (n := 11) rfl (lv_topl (fun x_4 ex_4 => ?_)))
    refine lv_ldc2 hx hb hown (hts _ kc_X11_502) dX11_mixed_11 (hp_n (n := 14) rfl ?_)
    refine lv_iload_n hx hb dX11_mixed_14 rfl (lv_at hl 1 rfl) (hp_n (n := 15) rfl ?_)
    refine lv_i2l hx hb dX11_mixed_15 rfl (hp_n (n := 16) rfl (lv_topl (fun x_5 ex_5 => ?_)))
    refine lv_lmul hx hb dX11_mixed_16 (hp_n (n := 17) rfl (lv_topl (fun x_6 ex_6 => ?_)))
    refine lv_ladd hx hb dX11_mixed_17 (hp_n (n := 18) rfl (lv_topl (fun x_7 ex_7 => ?_)))
    refine lv_iload_n hx hb dX11_mixed_18 rfl (lv_at hl 2 rfl) (hp_n (n := 19) rfl ?_)
    refine lv_i2l hx hb dX11_mixed_19 rfl (hp_n (n := 20) rfl (lv_topl (fun x_8 ex_8 => ?_)))
    refine lv_ladd hx hb dX11_mixed_20 (hp_n (n := 21) rfl (lv_topl (fun x_9 ex_9 => ?_)))
    refine lv_ldc2 hx hb hown (hts _ kc_X11_504) dX11_mixed_21 (hp_n (n := 24) rfl ?_)
    refine lv_ladd hx hb dX11_mixed_24 (hp_n (n := 25) rfl (lv_topl (fun x_10 ex_10 => ?_)))
    refine lv_iload_n hx hb dX11_mixed_25 rfl (lv_at hl 0 rfl) (hp_n (n := 26) rfl ?_)
    refine lv_i2l hx hb dX11_mixed_26 rfl (hp_n (n := 27) rfl (lv_topl (fun x_11 ex_11 => ?_)))
    refine lv_lrem hx hb dX11_mixed_27 (li_nz ex_11 (by omega)) (hp_n (n := 28) rfl (lv_topl (fun x_12 ex_12 => ?_)))
    refine lv_l2i hx hb dX11_mixed_28 rfl (hp_n (n := 29) rfl (lv_topi (fun x_13 ex_13 => ?_)))
    exact q_iret C B hr hlk rfl dX11_mixed_29
  ·
    have jc_1 := il_nlt c_1
    refine lv_iconst (v := 0) hx hb dX11_mixed_4 (by decide) (hp_n (n := 5) rfl ?_)
    exact q_iret C B hr hlk rfl dX11_mixed_5
abbrev w_X11_markOfTwo : cw_W := ([], [], [], [])
set_option maxRecDepth 100000 in
set_option maxHeartbeats 4000000 in
theorem t_X11_markOfTwo (Γ : hp_G) (l : Launch) (α : hp_T) (g : GC α) (a0 : Int32) (a1 : Int32) (a2 : Int32) : Met l yX11_markOfTwo (hp_ws yX11_markOfTwo cX11_markOfTwo 5 (some .int)) (hp_rm 0 0 0) (hp_Pc Γ α [.int a0, .int a1, .int a2]) (hp_Qi Γ (fun r β => β = α)) 0 0 (hp_A Γ) := by
  refine hp_start (by decide) ?_
  intro p e s m below meth c C hr hlk B0 hnm
  have C : hp_C Γ p m c cX11_markOfTwo 5 s ([.int a0, .int a1, .int a2] : List Value).toArray RX11 := C
  have hx := C.1.1
  have hb := C.1.2.1
  have hown := C.1.2.2.2.1
  have hts := C.1.2.2.2.2
  have B : hp_B Γ (cw w_X11_markOfTwo) s α α s.heap [] := ⟨B0.1, B0.2.1, cw_rf g⟩
  have lit0 : (0 : Int32).toInt = 0 := by decide
  have hl := lv_entry ([.int a0, .int a1, .int a2]) (n := 5) (Nat.le_of_ble_eq_true rfl)
  show W p l e (hp_rm 0 0 0) s m ([.int a0, .int a1, .int a2] : List Value).toArray below meth c s.heap [] 0 0 (MQ below (hp_Qi Γ (fun r β => β = α)) ([.int a0, .int a1, .int a2] : List Value).toArray s 0 0 (hp_A Γ)) (entryFrame m ([.int a0, .int a1, .int a2] : List Value).toArray 5)
  rw [lg_entry_eq]
  generalize (lg_sl ([.int a0, .int a1, .int a2]) ++ List.replicate (5 - (lg_sl ([.int a0, .int a1, .int a2])).length) Slot.unset).toArray = ls at hl ⊢
  have hl : lv_has ls 5 [(0, .int a0), (1, .int a1), (2, .int a2)] := hl
  refine lv_iload_n hx hb dX11_markOfTwo_0 rfl (lv_at hl 0 rfl) (hp_n (n := 1) rfl ?_)
  refine lv_if_gt (tgt := 6) hx hb dX11_markOfTwo_1 (by decide) (fun c_1 => ?_) (fun c_1 => hp_n (n := 4) rfl ?_)
  ·
    have jc_1 := il_lt c_1
    refine lv_iload_n hx hb dX11_markOfTwo_6 rfl (lv_at hl 1 rfl) (hp_n (n := 7) rfl ?_)
    refine lv_i2l hx hb dX11_markOfTwo_7 rfl (hp_n (n := 8) rfl (lv_topl (fun x_2 ex_2 => ?_)))
    refine lv_ldc2 hx hb hown (hts _ kc_X11_506) dX11_markOfTwo_8 (hp_n (n := 11) rfl ?_)
    refine lv_ladd hx hb dX11_markOfTwo_11 (hp_n (n := 12) rfl (lv_topl (fun x_3 ex_3 => ?_)))
    refine lv_iload_n hx hb dX11_markOfTwo_12 rfl (lv_at hl 0 rfl) (hp_n (n := 13) rfl ?_)
    refine lv_i2l hx hb dX11_markOfTwo_13 rfl (hp_n (n := 14) rfl (lv_topl (fun x_4 ex_4 => ?_)))
    refine lv_lrem hx hb dX11_markOfTwo_14 (li_nz ex_4 (by omega)) (hp_n (n := 15) rfl (lv_topl (fun x_5 ex_5 => ?_)))
    refine lv_lstore_n (lv' := [(3, .long x_5), (0, .int a0), (1, .int a1), (2, .int a2)]) hx hb dX11_markOfTwo_15 rfl hl (by decide) rfl (fun ls hl => hp_n (n := 16) rfl ?_)
    refine lv_lload_n hx hb dX11_markOfTwo_16 rfl (lv_at hl 0 rfl) (hp_n (n := 17) rfl ?_)
    refine lv_lload_n hx hb dX11_markOfTwo_17 rfl (lv_at hl 0 rfl) (hp_n (n := 18) rfl ?_)
    refine lv_lmul hx hb dX11_markOfTwo_18 (hp_n (n := 19) rfl (lv_topl (fun x_6 ex_6 => ?_)))
    refine lv_ldc2 hx hb hown (hts _ kc_X11_502) dX11_markOfTwo_19 (hp_n (n := 22) rfl ?_)
    refine lv_lload_n hx hb dX11_markOfTwo_22 rfl (lv_at hl 0 rfl) (hp_n (n := 23) rfl ?_)
    refine lv_lmul hx hb dX11_markOfTwo_23 (hp_n (n := 24) rfl (lv_topl (fun x_7 ex_7 => ?_)))
    refine lv_ladd hx hb dX11_markOfTwo_24 (hp_n (n := 25) rfl (lv_topl (fun x_8 ex_8 => ?_)))
    refine lv_iload_n hx hb dX11_markOfTwo_25 rfl (lv_at hl 3 rfl) (hp_n (n := 26) rfl ?_)
    refine lv_i2l hx hb dX11_markOfTwo_26 rfl (hp_n (n := 27) rfl (lv_topl (fun x_9 ex_9 => ?_)))
    refine lv_ladd hx hb dX11_markOfTwo_27 (hp_n (n := 28) rfl (lv_topl (fun x_10 ex_10 => ?_)))
    refine lv_ldc2 hx hb hown (hts _ kc_X11_504) dX11_markOfTwo_28 (hp_n (n := 31) rfl ?_)
    refine lv_ladd hx hb dX11_markOfTwo_31 (hp_n (n := 32) rfl (lv_topl (fun x_11 ex_11 => ?_)))
    refine lv_iload_n hx hb dX11_markOfTwo_32 rfl (lv_at hl 1 rfl) (hp_n (n := 33) rfl ?_)
    refine lv_i2l hx hb dX11_markOfTwo_33 rfl (hp_n (n := 34) rfl (lv_topl (fun x_12 ex_12 => ?_)))
    refine lv_lrem hx hb dX11_markOfTwo_34 (li_nz ex_12 (by omega)) (hp_n (n := 35) rfl (lv_topl (fun x_13 ex_13 => ?_)))
    refine lv_l2i hx hb dX11_markOfTwo_35 rfl (hp_n (n := 36) rfl (lv_topi (fun x_14 ex_14 => ?_)))
    exact q_iret C B hr hlk rfl dX11_markOfTwo_36
  ·
    have jc_1 := il_nlt c_1
    refine lv_iconst (v := 0) hx hb dX11_markOfTwo_4 (by decide) (hp_n (n := 5) rfl ?_)
    exact q_iret C B hr hlk rfl dX11_markOfTwo_5
abbrev w_X9_markBy : cw_W := ([], [], [], [])
set_option maxRecDepth 100000 in
set_option maxHeartbeats 4000000 in
theorem t_X9_markBy (Γ : hp_G) (l : Launch) (α : hp_T) (g : GC α) (a0 : Nat) (k0 : hp_K α a0 = 10) (a1 : Int32) : Met l yX9_markBy (hp_ws yX9_markBy cX9_markBy 4 (some .int)) (hp_rm 1 0 0) (hp_Pc Γ α [.ref a0, .int a1]) (hp_Qi Γ (fun r β => β = α)) 0 0 (hp_A Γ) := by
  refine hp_start (by decide) ?_
  intro p e s m below meth c C hr hlk B0 hnm
  have C : hp_C Γ p m c cX9_markBy 4 s ([.ref a0, .int a1] : List Value).toArray RX9 := C
  have hx := C.1.1
  have hb := C.1.2.1
  have hown := C.1.2.2.2.1
  have hts := C.1.2.2.2.2
  have B : hp_B Γ (cw w_X9_markBy) s α α s.heap [] := ⟨B0.1, B0.2.1, cw_rf g⟩
  have lit0 : (0 : Int32).toInt = 0 := by decide
  have lit1 : (1 : Int32).toInt = 1 := by decide
  have hl := lv_entry ([.ref a0, .int a1]) (n := 4) (Nat.le_of_ble_eq_true rfl)
  show W p l e (hp_rm 1 0 0) s m ([.ref a0, .int a1] : List Value).toArray below meth c s.heap [] 0 0 (MQ below (hp_Qi Γ (fun r β => β = α)) ([.ref a0, .int a1] : List Value).toArray s 0 0 (hp_A Γ)) (entryFrame m ([.ref a0, .int a1] : List Value).toArray 4)
  rw [lg_entry_eq]
  generalize (lg_sl ([.ref a0, .int a1]) ++ List.replicate (4 - (lg_sl ([.ref a0, .int a1])).length) Slot.unset).toArray = ls at hl ⊢
  have hl : lv_has ls 4 [(0, .ref a0), (1, .int a1)] := hl
  refine lv_iconst (v := 1) hx hb dX9_markBy_0 (by decide) (hp_n (n := 1) rfl ?_)
  refine lv_istore_n (lv' := [(2, .int 1), (0, .ref a0), (1, .int a1)]) hx hb dX9_markBy_1 rfl hl (by decide) rfl (fun ls hl => hp_n (n := 2) rfl ?_)
  refine lv_iconst (v := 0) hx hb dX9_markBy_2 (by decide) (hp_n (n := 3) rfl ?_)
  have J4 : ∀ (nq : Nat) (Hh_1 : Heap) (Lh_1 : List Loc) (Bh_1 : hp_B Γ (cw w_X9_markBy) s α α Hh_1 Lh_1) (v2_h_1 : Int32) (v3_h_1 : Int32) (ih_1_0 : 0 ≤ v3_h_1.toInt) (ls : Array Slot) (hl : lv_has ls 4 [(0, .ref a0), (1, .int a1), (2, .int v2_h_1), (3, .int v3_h_1)]) (hmu4 : (2147483647 - v3_h_1.toInt).toNat = nq), W p l e (hp_rm 1 0 0) s m ([.ref a0, .int a1] : List Value).toArray below meth c Hh_1 Lh_1 0 0 (MQ below (hp_Qi Γ (fun r β => β = α)) ([.ref a0, .int a1] : List Value).toArray s 0 0 (hp_A Γ)) (F0 m 4 ls []) := by
    intro nq
    induction nq using Nat.strongRecOn with
    | ind nq ih4 =>
    intro Hh_1 Lh_1 Bh_1 v2_h_1 v3_h_1 ih_1_0 ls hl hmu4
    have inv4_0 := ih_1_0
    refine lv_iload_n hx hb dX9_markBy_4 rfl (lv_at hl 3 rfl) (hp_n (n := 5) rfl ?_)
    refine lv_aload_n hx hb dX9_markBy_5 rfl (lv_at hl 0 rfl) (hp_n (n := 6) rfl ?_)
    refine q_geti (κ := 10) (k := 1) (φ := 501) (pc' := 9) C Bh_1 (cw_k Bh_1.2.2 k0) fl_X9_15 rfl rfl rfl dX9_markBy_6 rfl (fun x_2 ex_2 => ?_)
    refine lv_icmp_ge (tgt := 29) hx hb dX9_markBy_9 (by decide) (fun c_3 => ?_) (fun c_3 => hp_n (n := 12) rfl ?_)
    ·
      have jc_3 := il_le c_3
      refine lv_iload_n hx hb dX9_markBy_29 rfl (lv_at hl 2 rfl) (hp_n (n := 30) rfl ?_)
      exact q_iret C Bh_1 hr hlk rfl dX9_markBy_30
    ·
      have jc_3 := il_nle c_3
      refine lv_iload_n hx hb dX9_markBy_12 rfl (lv_at hl 1 rfl) (hp_n (n := 13) rfl ?_)
      refine lv_iload_n hx hb dX9_markBy_13 rfl (lv_at hl 2 rfl) (hp_n (n := 14) rfl ?_)
      refine lv_aload_n hx hb dX9_markBy_14 rfl (lv_at hl 0 rfl) (hp_n (n := 15) rfl ?_)
      refine lv_iload_n hx hb dX9_markBy_15 rfl (lv_at hl 3 rfl) (hp_n (n := 16) rfl ?_)
      refine q_ci (pc' := 19) Bh_1 (hp_runV (As := [.int v3_h_1]) (rest := [.int v2_h_1, .int a1]) C Bh_1 (t_X9_letterAt Γ l α Bh_1.2.2.1 a0 (cw_k Bh_1.2.2 k0) v3_h_1) lb_X9_letterAt lv_X9_letterAt lk_X9_22 (cw_k Bh_1.2.2 k0) rfl (by decide) rfl hl.1 rfl (Nat.le_of_ble_eq_true rfl) dX9_markBy_16 ⟨Nat.le_refl _, Nat.le_refl _⟩) (fun _ _ h => by rw [h]; exact Bh_1.2.2) rfl (fun rh_4 αh_4 Hh_4 Lh_4 ph_4 Bh_4 => ?_)
      rw [ph_4] at Bh_4
      refine q_ci (pc' := 22) Bh_4 (hp_runS (As := [.int a1, .int v2_h_1, .int rh_4]) (rest := []) C Bh_4 (t_X11_mixed Γ l α Bh_4.2.2.1 a1 v2_h_1 rh_4) lb_X11_mixed ls_X11_mixed lk_X9_30 rfl (by decide) rfl hl.1 rfl (Nat.le_of_ble_eq_true rfl) dX9_markBy_19 ⟨Nat.le_refl _, Nat.le_refl _⟩) (fun _ _ h => by rw [h]; exact Bh_4.2.2) rfl (fun rh_5 αh_5 Hh_5 Lh_5 ph_5 Bh_5 => ?_)
      rw [ph_5] at Bh_5
      refine lv_istore_n (lv' := [(2, .int rh_5), (0, .ref a0), (1, .int a1), (3, .int v3_h_1)]) hx hb dX9_markBy_22 rfl hl (by decide) rfl (fun ls hl => hp_n (n := 23) rfl ?_)
      obtain ⟨x_6, ex_6⟩ : ∃ y : Int32, y = v3_h_1 + 1 := ⟨_, rfl⟩
      have qx_6 : x_6.toInt = v3_h_1.toInt + 1 := by have q0 := ib_hi x_2; have qa := ib_lo v3_h_1; rw [ex_6]; exact ii_add (by omega) (by omega)
      refine lv_iinc (v := x_6) (lv' := [(3, .int x_6), (2, .int rh_5), (0, .ref a0), (1, .int a1)]) hx hb dX9_markBy_23 hl (k := 3) rfl (by rw [ex_6]; rfl) (by decide) rfl (fun ls hl => hp_n (n := 26) rfl ?_)
      refine lv_goto (tgt := 4) hx hb dX9_markBy_26 (by decide) ?_
      exact ih4 _ (by have q0 := ib_hi x_2; have q1 := ib_lo x_2; have qa := ib_hi v3_h_1; have qb := ib_lo v3_h_1; have qc : (v3_h_1 + 1).toInt = v3_h_1.toInt + (1 : Int32).toInt := ii_add (by omega) (by omega); rw [ex_6]; omega) Hh_5 Lh_5 Bh_5 rh_5 x_6 (by omega) ls (lv_sub hl [2, 3, 1, 0] rfl) rfl
  refine lv_istore_n (lv' := [(3, .int 0), (2, .int 1), (0, .ref a0), (1, .int a1)]) hx hb dX9_markBy_3 rfl hl (by decide) rfl (fun ls hl => hp_n (n := 4) rfl ?_)
  exact J4 _ s.heap [] B 1 0 (by omega) ls (lv_sub hl [2, 3, 1, 0] rfl) rfl
