abbrev w_X2_wordAt : cw_W := ([], [], [], [])
set_option maxRecDepth 100000 in
set_option maxHeartbeats 4000000 in
theorem t_X2_wordAt (Γ : hp_G) (l : Launch) (α : hp_T) (g : GC α) (a0 : Nat) (k0 : hp_K α a0 = 3) (a1 : Int32) : Met l yX2_wordAt (hp_ws yX2_wordAt cX2_wordAt 2 (some (.object "ProvenRecord$Word"))) (hp_rm 0 0 0) (hp_Pc Γ α [.ref a0, .int a1]) (hp_Qq Γ (fun r β => β = α ∧ ∀ b, r = some b → hp_K α b = 10 ∧ 0 ≤ a1.toInt)) 0 0 (hp_A Γ) := by
  refine hp_start (by decide) ?_
  intro p e s m below meth c C hr hlk B0 hnm
  have C : hp_C Γ p m c cX2_wordAt 2 s ([.ref a0, .int a1] : List Value).toArray RX2 := C
  have hx := C.1.1
  have hb := C.1.2.1
  have hown := C.1.2.2.2.1
  have hts := C.1.2.2.2.2
  have B : hp_B Γ (cw w_X2_wordAt) s α α s.heap [] := ⟨B0.1, B0.2.1, cw_rf g⟩
  have lit0 : (0 : Int32).toInt = 0 := by decide
  have lit48 : (48 : Int32).toInt = 48 := by decide
  have hl := lv_entry ([.ref a0, .int a1]) (n := 2) (Nat.le_of_ble_eq_true rfl)
  show W p l e (hp_rm 0 0 0) s m ([.ref a0, .int a1] : List Value).toArray below meth c s.heap [] 0 0 (MQ below (hp_Qq Γ (fun r β => β = α ∧ ∀ b, r = some b → hp_K α b = 10 ∧ 0 ≤ a1.toInt)) ([.ref a0, .int a1] : List Value).toArray s 0 0 (hp_A Γ)) (entryFrame m ([.ref a0, .int a1] : List Value).toArray 2)
  rw [lg_entry_eq]
  generalize (lg_sl ([.ref a0, .int a1]) ++ List.replicate (2 - (lg_sl ([.ref a0, .int a1])).length) Slot.unset).toArray = ls at hl ⊢
  have hl : lv_has ls 2 [(0, .ref a0), (1, .int a1)] := hl
  refine lv_iload_n hx hb dX2_wordAt_0 rfl (lv_at hl 1 rfl) (hp_n (n := 1) rfl ?_)
  refine lv_if_lt (tgt := 30) hx hb dX2_wordAt_1 (by decide) (fun c_1 => ?_) (fun c_1 => hp_n (n := 4) rfl ?_)
  ·
    have jc_1 := il_lt c_1
    refine lv_null hx hb dX2_wordAt_30 (hp_n (n := 31) rfl ?_)
    exact q_aret (x := none) C B hr hlk ⟨rfl, fun b h => by cases h⟩ dX2_wordAt_31
  ·
    have jc_1 := il_nlt c_1
    refine lv_iload_n hx hb dX2_wordAt_4 rfl (lv_at hl 1 rfl) (hp_n (n := 5) rfl ?_)
    refine lv_aload_n hx hb dX2_wordAt_5 rfl (lv_at hl 0 rfl) (hp_n (n := 6) rfl ?_)
    refine q_geti (κ := 3) (k := 2) (φ := 152) (pc' := 9) C B (cw_k B.2.2 k0) fl_X2_21 rfl rfl rfl dX2_wordAt_6 rfl (fun x_2 ex_2 => ?_)
    refine lv_icmp_ge (tgt := 30) hx hb dX2_wordAt_9 (by decide) (fun c_3 => ?_) (fun c_3 => hp_n (n := 12) rfl ?_)
    ·
      have jc_3 := il_le c_3
      refine lv_null hx hb dX2_wordAt_30 (hp_n (n := 31) rfl ?_)
      exact q_aret (x := none) C B hr hlk ⟨rfl, fun b h => by cases h⟩ dX2_wordAt_31
    ·
      have jc_3 := il_nle c_3
      refine lv_iload_n hx hb dX2_wordAt_12 rfl (lv_at hl 1 rfl) (hp_n (n := 13) rfl ?_)
      refine lv_aload_n hx hb dX2_wordAt_13 rfl (lv_at hl 0 rfl) (hp_n (n := 14) rfl ?_)
      refine q_getr (κ := 3) (k := 0) (φ := 150) (pc' := 17) C B (cw_k B.2.2 k0) fl_X2_11 rfl rfl rfl (cw_r B.2.2 k0 rfl rfl (by decide) (by decide)) dX2_wordAt_14 rfl (fun b_4 eb_4 kb_4 => ?_)
      refine q_alen (κ := 28) (t := 7) (n := 48) (x := 48) (ty := .object "ProvenRecord$Word") (pc' := 18) C B (cw_k B.2.2 kb_4) (by decide) rfl rfl rfl dX2_wordAt_17 rfl ?_
      refine lv_icmp_ge (tgt := 30) hx hb dX2_wordAt_18 (by decide) (fun c_5 => ?_) (fun c_5 => hp_n (n := 21) rfl ?_)
      ·
        have jc_5 := il_le c_5
        refine lv_null hx hb dX2_wordAt_30 (hp_n (n := 31) rfl ?_)
        exact q_aret (x := none) C B hr hlk ⟨rfl, fun b h => by cases h⟩ dX2_wordAt_31
      ·
        have jc_5 := il_nle c_5
        refine lv_aload_n hx hb dX2_wordAt_21 rfl (lv_at hl 0 rfl) (hp_n (n := 22) rfl ?_)
        refine q_gets (κ := 3) (k := 0) (φ := 150) (pc' := 25) C B (cw_k B.2.2 k0) fl_X2_11 rfl rfl rfl eb_4 dX2_wordAt_22 rfl ?_
        refine lv_iload_n hx hb dX2_wordAt_25 rfl (lv_at hl 1 rfl) (hp_n (n := 26) rfl ?_)
        refine q_aal (κ := 28) (t := 7) (n := 48) (C0 := "ProvenRecord$Word") (pc' := 27) C B (cw_k B.2.2 kb_4) (by decide) rfl rfl (by decide) (vi_of (by omega) (by omega)) dX2_wordAt_26 rfl ?_
        rcases hqb_6 : hp_Q α 28 b_4 a1.toNatClampNeg with _ | b_6
        ·
          refine lv_goto (tgt := 31) hx hb dX2_wordAt_27 (by decide) ?_
          exact q_aret (x := none) C B hr hlk ⟨rfl, fun b h => by cases h⟩ dX2_wordAt_31
        ·
          have kb_6 := cw_q B.2.2 kb_4 rfl (by decide) hqb_6
          refine lv_goto (tgt := 31) hx hb dX2_wordAt_27 (by decide) ?_
          exact q_aret (x := (some b_6)) C B hr hlk ⟨rfl, fun b h => by cases h; exact ⟨kb_6, by omega⟩⟩ dX2_wordAt_31
abbrev w_X2_markAt : cw_W := ([], [], [], [])
set_option maxRecDepth 100000 in
set_option maxHeartbeats 4000000 in
theorem t_X2_markAt (Γ : hp_G) (l : Launch) (α : hp_T) (g : GC α) (a0 : Nat) (k0 : hp_K α a0 = 3) (a1 : Int32) : Met l yX2_markAt (hp_ws yX2_markAt cX2_markAt 2 (some .int)) (hp_rm 0 0 0) (hp_Pc Γ α [.ref a0, .int a1]) (hp_Qi Γ (fun r β => β = α)) 0 0 (hp_A Γ) := by
  refine hp_start (by decide) ?_
  intro p e s m below meth c C hr hlk B0 hnm
  have C : hp_C Γ p m c cX2_markAt 2 s ([.ref a0, .int a1] : List Value).toArray RX2 := C
  have hx := C.1.1
  have hb := C.1.2.1
  have hown := C.1.2.2.2.1
  have hts := C.1.2.2.2.2
  have B : hp_B Γ (cw w_X2_markAt) s α α s.heap [] := ⟨B0.1, B0.2.1, cw_rf g⟩
  have lit0 : (0 : Int32).toInt = 0 := by decide
  have lit48 : (48 : Int32).toInt = 48 := by decide
  have hl := lv_entry ([.ref a0, .int a1]) (n := 2) (Nat.le_of_ble_eq_true rfl)
  show W p l e (hp_rm 0 0 0) s m ([.ref a0, .int a1] : List Value).toArray below meth c s.heap [] 0 0 (MQ below (hp_Qi Γ (fun r β => β = α)) ([.ref a0, .int a1] : List Value).toArray s 0 0 (hp_A Γ)) (entryFrame m ([.ref a0, .int a1] : List Value).toArray 2)
  rw [lg_entry_eq]
  generalize (lg_sl ([.ref a0, .int a1]) ++ List.replicate (2 - (lg_sl ([.ref a0, .int a1])).length) Slot.unset).toArray = ls at hl ⊢
  have hl : lv_has ls 2 [(0, .ref a0), (1, .int a1)] := hl
  refine lv_iload_n hx hb dX2_markAt_0 rfl (lv_at hl 1 rfl) (hp_n (n := 1) rfl ?_)
  refine lv_if_lt (tgt := 30) hx hb dX2_markAt_1 (by decide) (fun c_1 => ?_) (fun c_1 => hp_n (n := 4) rfl ?_)
  ·
    have jc_1 := il_lt c_1
    refine lv_iconst (v := 0) hx hb dX2_markAt_30 (by decide) (hp_n (n := 31) rfl ?_)
    exact q_iret C B hr hlk rfl dX2_markAt_31
  ·
    have jc_1 := il_nlt c_1
    refine lv_iload_n hx hb dX2_markAt_4 rfl (lv_at hl 1 rfl) (hp_n (n := 5) rfl ?_)
    refine lv_aload_n hx hb dX2_markAt_5 rfl (lv_at hl 0 rfl) (hp_n (n := 6) rfl ?_)
    refine q_geti (κ := 3) (k := 2) (φ := 152) (pc' := 9) C B (cw_k B.2.2 k0) fl_X2_21 rfl rfl rfl dX2_markAt_6 rfl (fun x_2 ex_2 => ?_)
    refine lv_icmp_ge (tgt := 30) hx hb dX2_markAt_9 (by decide) (fun c_3 => ?_) (fun c_3 => hp_n (n := 12) rfl ?_)
    ·
      have jc_3 := il_le c_3
      refine lv_iconst (v := 0) hx hb dX2_markAt_30 (by decide) (hp_n (n := 31) rfl ?_)
      exact q_iret C B hr hlk rfl dX2_markAt_31
    ·
      have jc_3 := il_nle c_3
      refine lv_iload_n hx hb dX2_markAt_12 rfl (lv_at hl 1 rfl) (hp_n (n := 13) rfl ?_)
      refine lv_aload_n hx hb dX2_markAt_13 rfl (lv_at hl 0 rfl) (hp_n (n := 14) rfl ?_)
      refine q_getr (κ := 3) (k := 1) (φ := 151) (pc' := 17) C B (cw_k B.2.2 k0) fl_X2_17 rfl rfl rfl (cw_r B.2.2 k0 rfl rfl (by decide) (by decide)) dX2_markAt_14 rfl (fun b_4 eb_4 kb_4 => ?_)
      refine q_alen (κ := 29) (t := 0) (n := 48) (x := 48) (ty := .int) (pc' := 18) C B (cw_k B.2.2 kb_4) (by decide) rfl rfl rfl dX2_markAt_17 rfl ?_
      refine lv_icmp_ge (tgt := 30) hx hb dX2_markAt_18 (by decide) (fun c_5 => ?_) (fun c_5 => hp_n (n := 21) rfl ?_)
      ·
        have jc_5 := il_le c_5
        refine lv_iconst (v := 0) hx hb dX2_markAt_30 (by decide) (hp_n (n := 31) rfl ?_)
        exact q_iret C B hr hlk rfl dX2_markAt_31
      ·
        have jc_5 := il_nle c_5
        refine lv_aload_n hx hb dX2_markAt_21 rfl (lv_at hl 0 rfl) (hp_n (n := 22) rfl ?_)
        refine q_gets (κ := 3) (k := 1) (φ := 151) (pc' := 25) C B (cw_k B.2.2 k0) fl_X2_17 rfl rfl rfl eb_4 dX2_markAt_22 rfl ?_
        refine lv_iload_n hx hb dX2_markAt_25 rfl (lv_at hl 1 rfl) (hp_n (n := 26) rfl ?_)
        refine q_ial (κ := 29) (n := 48) (pc' := 27) C B (cw_k B.2.2 kb_4) (by decide) rfl (vi_of (by omega) (by omega)) dX2_markAt_26 rfl (lv_topi (fun x_6 ex_6 => ?_))
        refine lv_goto (tgt := 31) hx hb dX2_markAt_27 (by decide) ?_
        exact q_iret C B hr hlk rfl dX2_markAt_31
abbrev w_X2_putWord : cw_W := ([152, 501], [], [27, 29], [])
abbrev w_X2_changeLetter : cw_W := ([], [], [27, 29], [])
abbrev w_X2_firstLike : cw_W := ([], [], [], [])
set_option maxRecDepth 100000 in
set_option maxHeartbeats 4000000 in
theorem t_X2_firstLike (Γ : hp_G) (l : Launch) (α : hp_T) (g : GC α) (a0 : Nat) (k0 : hp_K α a0 = 3) (a1 : Nat) (k1 : hp_K α a1 = 10) : Met l yX2_firstLike (hp_ws yX2_firstLike cX2_firstLike 4 (some .int)) (hp_rm 2 0 0) (hp_Pc Γ α [.ref a0, .ref a1]) (hp_Qi Γ (fun r β => β = α)) 0 0 (hp_A Γ) := by
  refine hp_start (by decide) ?_
  intro p e s m below meth c C hr hlk B0 hnm
  have C : hp_C Γ p m c cX2_firstLike 4 s ([.ref a0, .ref a1] : List Value).toArray RX2 := C
  have hx := C.1.1
  have hb := C.1.2.1
  have hown := C.1.2.2.2.1
  have hts := C.1.2.2.2.2
  have B : hp_B Γ (cw w_X2_firstLike) s α α s.heap [] := ⟨B0.1, B0.2.1, cw_rf g⟩
  have litm1 : ((-1) : Int32).toInt = (-1) := by decide
  have lit0 : (0 : Int32).toInt = 0 := by decide
  have lit1 : (1 : Int32).toInt = 1 := by decide
  have hl := lv_entry ([.ref a0, .ref a1]) (n := 4) (Nat.le_of_ble_eq_true rfl)
  show W p l e (hp_rm 2 0 0) s m ([.ref a0, .ref a1] : List Value).toArray below meth c s.heap [] 0 0 (MQ below (hp_Qi Γ (fun r β => β = α)) ([.ref a0, .ref a1] : List Value).toArray s 0 0 (hp_A Γ)) (entryFrame m ([.ref a0, .ref a1] : List Value).toArray 4)
  rw [lg_entry_eq]
  generalize (lg_sl ([.ref a0, .ref a1]) ++ List.replicate (4 - (lg_sl ([.ref a0, .ref a1])).length) Slot.unset).toArray = ls at hl ⊢
  have hl : lv_has ls 4 [(0, .ref a0), (1, .ref a1)] := hl
  refine lv_iconst (v := 0) hx hb dX2_firstLike_0 (by decide) (hp_n (n := 1) rfl ?_)
  have J2 : ∀ (nq : Nat) (Hh_1 : Heap) (Lh_1 : List Loc) (Bh_1 : hp_B Γ (cw w_X2_firstLike) s α α Hh_1 Lh_1) (v2_h_1 : Int32) (ih_1_0 : 0 ≤ v2_h_1.toInt) (ls : Array Slot) (hl : lv_has ls 4 [(0, .ref a0), (1, .ref a1), (2, .int v2_h_1)]) (hmu2 : (2147483647 - v2_h_1.toInt).toNat = nq), W p l e (hp_rm 2 0 0) s m ([.ref a0, .ref a1] : List Value).toArray below meth c Hh_1 Lh_1 0 0 (MQ below (hp_Qi Γ (fun r β => β = α)) ([.ref a0, .ref a1] : List Value).toArray s 0 0 (hp_A Γ)) (F0 m 2 ls []) := by
    intro nq
    induction nq using Nat.strongRecOn with
    | ind nq ih2 =>
    intro Hh_1 Lh_1 Bh_1 v2_h_1 ih_1_0 ls hl hmu2
    have inv2_0 := ih_1_0
    refine lv_iload_n hx hb dX2_firstLike_2 rfl (lv_at hl 2 rfl) (hp_n (n := 3) rfl ?_)
    refine lv_aload_n hx hb dX2_firstLike_3 rfl (lv_at hl 0 rfl) (hp_n (n := 4) rfl ?_)
    refine q_geti (κ := 3) (k := 2) (φ := 152) (pc' := 7) C Bh_1 (cw_k Bh_1.2.2 k0) fl_X2_21 rfl rfl rfl dX2_firstLike_4 rfl (fun x_2 ex_2 => ?_)
    refine lv_icmp_ge (tgt := 36) hx hb dX2_firstLike_7 (by decide) (fun c_3 => ?_) (fun c_3 => hp_n (n := 10) rfl ?_)
    ·
      have jc_3 := il_le c_3
      refine lv_iconst (v := (-1)) hx hb dX2_firstLike_36 (by decide) (hp_n (n := 37) rfl ?_)
      exact q_iret C Bh_1 hr hlk rfl dX2_firstLike_37
    ·
      have jc_3 := il_nle c_3
      refine lv_aload_n hx hb dX2_firstLike_10 rfl (lv_at hl 0 rfl) (hp_n (n := 11) rfl ?_)
      refine lv_iload_n hx hb dX2_firstLike_11 rfl (lv_at hl 2 rfl) (hp_n (n := 12) rfl ?_)
      refine q_cq (pc' := 15) Bh_1 (hp_runV (As := [.int v2_h_1]) (rest := []) C Bh_1 (t_X2_wordAt Γ l α Bh_1.2.2.1 a0 (cw_k Bh_1.2.2 k0) v2_h_1) lb_X2_wordAt lv_X2_wordAt lk_X2_34 (cw_k Bh_1.2.2 k0) rfl (by decide) rfl hl.1 rfl (Nat.le_of_ble_eq_true rfl) dX2_firstLike_12 ⟨Nat.le_refl _, Nat.le_refl _⟩) (fun _ _ h => by rw [h.1]; exact Bh_1.2.2) rfl (fun rh_4 αh_4 Hh_4 Lh_4 ph_4 Bh_4 => ?_)
      rw [ph_4.1] at Bh_4
      rcases rh_4 with _ | bh_4
      ·
        refine lv_astore_nN (lv' := [(3, .null), (0, .ref a0), (1, .ref a1), (2, .int v2_h_1)]) hx hb dX2_firstLike_15 rfl hl (by decide) rfl (fun ls hl => hp_n (n := 16) rfl ?_)
        refine lv_aload_nN hx hb dX2_firstLike_16 rfl (lv_at hl 0 rfl) (hp_n (n := 17) rfl ?_)
        refine lv_ifnullN (tgt := 30) hx hb dX2_firstLike_17 (by decide) ?_
        obtain ⟨x_5, ex_5⟩ : ∃ y : Int32, y = v2_h_1 + 1 := ⟨_, rfl⟩
        have qx_5 : x_5.toInt = v2_h_1.toInt + 1 := by have q0 := ib_hi x_2; have qa := ib_lo v2_h_1; rw [ex_5]; exact ii_add (by omega) (by omega)
        refine lv_iinc (v := x_5) (lv' := [(2, .int x_5), (3, .null), (0, .ref a0), (1, .ref a1)]) hx hb dX2_firstLike_30 hl (k := 3) rfl (by rw [ex_5]; rfl) (by decide) rfl (fun ls hl => hp_n (n := 33) rfl ?_)
        refine lv_goto (tgt := 2) hx hb dX2_firstLike_33 (by decide) ?_
        exact ih2 _ (by have q0 := ib_hi x_2; have q1 := ib_lo x_2; have qa := ib_hi v2_h_1; have qb := ib_lo v2_h_1; have qc : (v2_h_1 + 1).toInt = v2_h_1.toInt + (1 : Int32).toInt := ii_add (by omega) (by omega); rw [ex_5]; omega) Hh_4 Lh_4 Bh_4 x_5 (by omega) ls (lv_sub hl [2, 3, 0] rfl) rfl
      ·
        have kbh_4 : hp_K α bh_4 = 10 := cw_k' Bh_4.2.2 (ph_4.2 bh_4 rfl).1
        have nxh_4 := (ph_4.2 bh_4 rfl).2
        refine lv_astore_n (lv' := [(3, .ref bh_4), (0, .ref a0), (1, .ref a1), (2, .int v2_h_1)]) hx hb dX2_firstLike_15 rfl hl (by decide) rfl (fun ls hl => hp_n (n := 16) rfl ?_)
        refine lv_aload_n hx hb dX2_firstLike_16 rfl (lv_at hl 0 rfl) (hp_n (n := 17) rfl ?_)
        refine lv_ifnull hx hb dX2_firstLike_17 (hp_n (n := 20) rfl ?_)
        refine lv_aload_n hx hb dX2_firstLike_20 rfl (lv_at hl 0 rfl) (hp_n (n := 21) rfl ?_)
        refine lv_aload_n hx hb dX2_firstLike_21 rfl (lv_at hl 2 rfl) (hp_n (n := 22) rfl ?_)
        refine q_ci (pc' := 25) Bh_4 (hp_runV (As := [.ref a1]) (rest := []) C Bh_4 (t_X9_isLike Γ l α Bh_4.2.2.1 bh_4 (cw_k Bh_4.2.2 kbh_4) a1 (cw_k Bh_4.2.2 k1)) lb_X9_isLike lv_X9_isLike lk_X2_42 (cw_k Bh_4.2.2 kbh_4) rfl (by decide) rfl hl.1 rfl (Nat.le_of_ble_eq_true rfl) dX2_firstLike_22 ⟨Nat.le_refl _, Nat.le_refl _⟩) (fun _ _ h => by rw [h.1]; exact Bh_4.2.2) rfl (fun rh_6 αh_6 Hh_6 Lh_6 ph_6 Bh_6 => ?_)
        rw [ph_6.1] at Bh_6
        have zh_6 := ph_6.2
        refine lv_if_eq (tgt := 30) hx hb dX2_firstLike_25 (by decide) (fun c_7 => ?_) (fun c_7 => hp_n (n := 28) rfl ?_)
        ·
          have jc_7 := il_eq c_7
          obtain ⟨x_8, ex_8⟩ : ∃ y : Int32, y = v2_h_1 + 1 := ⟨_, rfl⟩
          have qx_8 : x_8.toInt = v2_h_1.toInt + 1 := by have q0 := ib_hi x_2; have qa := ib_lo v2_h_1; rw [ex_8]; exact ii_add (by omega) (by omega)
          refine lv_iinc (v := x_8) (lv' := [(2, .int x_8), (3, .ref bh_4), (0, .ref a0), (1, .ref a1)]) hx hb dX2_firstLike_30 hl (k := 3) rfl (by rw [ex_8]; rfl) (by decide) rfl (fun ls hl => hp_n (n := 33) rfl ?_)
          refine lv_goto (tgt := 2) hx hb dX2_firstLike_33 (by decide) ?_
          exact ih2 _ (by have q0 := ib_hi x_2; have q1 := ib_lo x_2; have qa := ib_hi v2_h_1; have qb := ib_lo v2_h_1; have qc : (v2_h_1 + 1).toInt = v2_h_1.toInt + (1 : Int32).toInt := ii_add (by omega) (by omega); rw [ex_8]; omega) Hh_6 Lh_6 Bh_6 x_8 (by omega) ls (lv_sub hl [2, 3, 0] rfl) rfl
        ·
          have jc_7 := il_ne c_7
          refine lv_iload_n hx hb dX2_firstLike_28 rfl (lv_at hl 3 rfl) (hp_n (n := 29) rfl ?_)
          exact q_iret C Bh_6 hr hlk rfl dX2_firstLike_29
  refine lv_istore_n (lv' := [(2, .int 0), (0, .ref a0), (1, .ref a1)]) hx hb dX2_firstLike_1 rfl hl (by decide) rfl (fun ls hl => hp_n (n := 2) rfl ?_)
  exact J2 _ s.heap [] B 0 (by omega) ls (lv_sub hl [1, 2, 0] rfl) rfl
abbrev w_X2_countLike : cw_W := ([], [], [], [])
set_option maxRecDepth 100000 in
set_option maxHeartbeats 4000000 in
theorem t_X2_countLike (Γ : hp_G) (l : Launch) (α : hp_T) (g : GC α) (a0 : Nat) (k0 : hp_K α a0 = 3) (a1 : Nat) (k1 : hp_K α a1 = 10) : Met l yX2_countLike (hp_ws yX2_countLike cX2_countLike 5 (some .int)) (hp_rm 2 0 0) (hp_Pc Γ α [.ref a0, .ref a1]) (hp_Qi Γ (fun r β => β = α)) 0 0 (hp_A Γ) := by
  refine hp_start (by decide) ?_
  intro p e s m below meth c C hr hlk B0 hnm
  have C : hp_C Γ p m c cX2_countLike 5 s ([.ref a0, .ref a1] : List Value).toArray RX2 := C
  have hx := C.1.1
  have hb := C.1.2.1
  have hown := C.1.2.2.2.1
  have hts := C.1.2.2.2.2
  have B : hp_B Γ (cw w_X2_countLike) s α α s.heap [] := ⟨B0.1, B0.2.1, cw_rf g⟩
  have lit0 : (0 : Int32).toInt = 0 := by decide
  have lit1 : (1 : Int32).toInt = 1 := by decide
  have hl := lv_entry ([.ref a0, .ref a1]) (n := 5) (Nat.le_of_ble_eq_true rfl)
  show W p l e (hp_rm 2 0 0) s m ([.ref a0, .ref a1] : List Value).toArray below meth c s.heap [] 0 0 (MQ below (hp_Qi Γ (fun r β => β = α)) ([.ref a0, .ref a1] : List Value).toArray s 0 0 (hp_A Γ)) (entryFrame m ([.ref a0, .ref a1] : List Value).toArray 5)
  rw [lg_entry_eq]
  generalize (lg_sl ([.ref a0, .ref a1]) ++ List.replicate (5 - (lg_sl ([.ref a0, .ref a1])).length) Slot.unset).toArray = ls at hl ⊢
  have hl : lv_has ls 5 [(0, .ref a0), (1, .ref a1)] := hl
  refine lv_iconst (v := 0) hx hb dX2_countLike_0 (by decide) (hp_n (n := 1) rfl ?_)
  refine lv_istore_n (lv' := [(2, .int 0), (0, .ref a0), (1, .ref a1)]) hx hb dX2_countLike_1 rfl hl (by decide) rfl (fun ls hl => hp_n (n := 2) rfl ?_)
  refine lv_iconst (v := 0) hx hb dX2_countLike_2 (by decide) (hp_n (n := 3) rfl ?_)
  have J4 : ∀ (nq : Nat) (Hh_1 : Heap) (Lh_1 : List Loc) (Bh_1 : hp_B Γ (cw w_X2_countLike) s α α Hh_1 Lh_1) (v2_h_1 : Int32) (v3_h_1 : Int32) (ih_1_0 : 0 ≤ v3_h_1.toInt) (ls : Array Slot) (hl : lv_has ls 5 [(0, .ref a0), (1, .ref a1), (2, .int v2_h_1), (3, .int v3_h_1)]) (hmu4 : (2147483647 - v3_h_1.toInt).toNat = nq), W p l e (hp_rm 2 0 0) s m ([.ref a0, .ref a1] : List Value).toArray below meth c Hh_1 Lh_1 0 0 (MQ below (hp_Qi Γ (fun r β => β = α)) ([.ref a0, .ref a1] : List Value).toArray s 0 0 (hp_A Γ)) (F0 m 4 ls []) := by
    intro nq
    induction nq using Nat.strongRecOn with
    | ind nq ih4 =>
    intro Hh_1 Lh_1 Bh_1 v2_h_1 v3_h_1 ih_1_0 ls hl hmu4
    have inv4_0 := ih_1_0
    refine lv_iload_n hx hb dX2_countLike_4 rfl (lv_at hl 3 rfl) (hp_n (n := 5) rfl ?_)
    refine lv_aload_n hx hb dX2_countLike_5 rfl (lv_at hl 0 rfl) (hp_n (n := 6) rfl ?_)
    refine q_geti (κ := 3) (k := 2) (φ := 152) (pc' := 9) C Bh_1 (cw_k Bh_1.2.2 k0) fl_X2_21 rfl rfl rfl dX2_countLike_6 rfl (fun x_2 ex_2 => ?_)
    refine lv_icmp_ge (tgt := 42) hx hb dX2_countLike_9 (by decide) (fun c_3 => ?_) (fun c_3 => hp_n (n := 12) rfl ?_)
    ·
      have jc_3 := il_le c_3
      refine lv_iload_n hx hb dX2_countLike_42 rfl (lv_at hl 2 rfl) (hp_n (n := 43) rfl ?_)
      exact q_iret C Bh_1 hr hlk rfl dX2_countLike_43
    ·
      have jc_3 := il_nle c_3
      refine lv_aload_n hx hb dX2_countLike_12 rfl (lv_at hl 0 rfl) (hp_n (n := 13) rfl ?_)
      refine lv_iload_n hx hb dX2_countLike_13 rfl (lv_at hl 3 rfl) (hp_n (n := 14) rfl ?_)
      refine q_cq (pc' := 17) Bh_1 (hp_runV (As := [.int v3_h_1]) (rest := []) C Bh_1 (t_X2_wordAt Γ l α Bh_1.2.2.1 a0 (cw_k Bh_1.2.2 k0) v3_h_1) lb_X2_wordAt lv_X2_wordAt lk_X2_34 (cw_k Bh_1.2.2 k0) rfl (by decide) rfl hl.1 rfl (Nat.le_of_ble_eq_true rfl) dX2_countLike_14 ⟨Nat.le_refl _, Nat.le_refl _⟩) (fun _ _ h => by rw [h.1]; exact Bh_1.2.2) rfl (fun rh_4 αh_4 Hh_4 Lh_4 ph_4 Bh_4 => ?_)
      rw [ph_4.1] at Bh_4
      rcases rh_4 with _ | bh_4
      ·
        refine lv_astoreN (lv' := [(4, .null), (0, .ref a0), (1, .ref a1), (2, .int v2_h_1), (3, .int v3_h_1)]) hx hb dX2_countLike_17 hl (by decide) rfl (fun ls hl => hp_n (n := 19) rfl ?_)
        refine lv_aloadN hx hb dX2_countLike_19 (lv_at hl 0 rfl) (hp_n (n := 21) rfl ?_)
        refine lv_ifnullN (tgt := 36) hx hb dX2_countLike_21 (by decide) ?_
        obtain ⟨x_5, ex_5⟩ : ∃ y : Int32, y = v3_h_1 + 1 := ⟨_, rfl⟩
        have qx_5 : x_5.toInt = v3_h_1.toInt + 1 := by have q0 := ib_hi x_2; have qa := ib_lo v3_h_1; rw [ex_5]; exact ii_add (by omega) (by omega)
        refine lv_iinc (v := x_5) (lv' := [(3, .int x_5), (4, .null), (0, .ref a0), (1, .ref a1), (2, .int v2_h_1)]) hx hb dX2_countLike_36 hl (k := 4) rfl (by rw [ex_5]; rfl) (by decide) rfl (fun ls hl => hp_n (n := 39) rfl ?_)
        refine lv_goto (tgt := 4) hx hb dX2_countLike_39 (by decide) ?_
        exact ih4 _ (by have q0 := ib_hi x_2; have q1 := ib_lo x_2; have qa := ib_hi v3_h_1; have qb := ib_lo v3_h_1; have qc : (v3_h_1 + 1).toInt = v3_h_1.toInt + (1 : Int32).toInt := ii_add (by omega) (by omega); rw [ex_5]; omega) Hh_4 Lh_4 Bh_4 v2_h_1 x_5 (by omega) ls (lv_sub hl [2, 3, 4, 0] rfl) rfl
      ·
        have kbh_4 : hp_K α bh_4 = 10 := cw_k' Bh_4.2.2 (ph_4.2 bh_4 rfl).1
        have nxh_4 := (ph_4.2 bh_4 rfl).2
        refine lv_astore (lv' := [(4, .ref bh_4), (0, .ref a0), (1, .ref a1), (2, .int v2_h_1), (3, .int v3_h_1)]) hx hb dX2_countLike_17 hl (by decide) rfl (fun ls hl => hp_n (n := 19) rfl ?_)
        refine lv_aload hx hb dX2_countLike_19 (lv_at hl 0 rfl) (hp_n (n := 21) rfl ?_)
        refine lv_ifnull hx hb dX2_countLike_21 (hp_n (n := 24) rfl ?_)
        refine lv_aload hx hb dX2_countLike_24 (lv_at hl 0 rfl) (hp_n (n := 26) rfl ?_)
        refine lv_aload_n hx hb dX2_countLike_26 rfl (lv_at hl 2 rfl) (hp_n (n := 27) rfl ?_)
        refine q_ci (pc' := 30) Bh_4 (hp_runV (As := [.ref a1]) (rest := []) C Bh_4 (t_X9_isLike Γ l α Bh_4.2.2.1 bh_4 (cw_k Bh_4.2.2 kbh_4) a1 (cw_k Bh_4.2.2 k1)) lb_X9_isLike lv_X9_isLike lk_X2_42 (cw_k Bh_4.2.2 kbh_4) rfl (by decide) rfl hl.1 rfl (Nat.le_of_ble_eq_true rfl) dX2_countLike_27 ⟨Nat.le_refl _, Nat.le_refl _⟩) (fun _ _ h => by rw [h.1]; exact Bh_4.2.2) rfl (fun rh_6 αh_6 Hh_6 Lh_6 ph_6 Bh_6 => ?_)
        rw [ph_6.1] at Bh_6
        have zh_6 := ph_6.2
        refine lv_if_eq (tgt := 36) hx hb dX2_countLike_30 (by decide) (fun c_7 => ?_) (fun c_7 => hp_n (n := 33) rfl ?_)
        ·
          have jc_7 := il_eq c_7
          obtain ⟨x_8, ex_8⟩ : ∃ y : Int32, y = v3_h_1 + 1 := ⟨_, rfl⟩
          have qx_8 : x_8.toInt = v3_h_1.toInt + 1 := by have q0 := ib_hi x_2; have qa := ib_lo v3_h_1; rw [ex_8]; exact ii_add (by omega) (by omega)
          refine lv_iinc (v := x_8) (lv' := [(3, .int x_8), (4, .ref bh_4), (0, .ref a0), (1, .ref a1), (2, .int v2_h_1)]) hx hb dX2_countLike_36 hl (k := 4) rfl (by rw [ex_8]; rfl) (by decide) rfl (fun ls hl => hp_n (n := 39) rfl ?_)
          refine lv_goto (tgt := 4) hx hb dX2_countLike_39 (by decide) ?_
          exact ih4 _ (by have q0 := ib_hi x_2; have q1 := ib_lo x_2; have qa := ib_hi v3_h_1; have qb := ib_lo v3_h_1; have qc : (v3_h_1 + 1).toInt = v3_h_1.toInt + (1 : Int32).toInt := ii_add (by omega) (by omega); rw [ex_8]; omega) Hh_6 Lh_6 Bh_6 v2_h_1 x_8 (by omega) ls (lv_sub hl [2, 3, 4, 0] rfl) rfl
        ·
          have jc_7 := il_ne c_7
          obtain ⟨x_9, ex_9⟩ : ∃ y : Int32, y = v2_h_1 + 1 := ⟨_, rfl⟩
          refine lv_iinc (v := x_9) (lv' := [(2, .int x_9), (4, .ref bh_4), (0, .ref a0), (1, .ref a1), (3, .int v3_h_1)]) hx hb dX2_countLike_33 hl (k := 3) rfl (by rw [ex_9]; rfl) (by decide) rfl (fun ls hl => hp_n (n := 36) rfl ?_)
          obtain ⟨x_10, ex_10⟩ : ∃ y : Int32, y = v3_h_1 + 1 := ⟨_, rfl⟩
          have qx_10 : x_10.toInt = v3_h_1.toInt + 1 := by have q0 := ib_hi x_2; have qa := ib_lo v3_h_1; rw [ex_10]; exact ii_add (by omega) (by omega)
          refine lv_iinc (v := x_10) (lv' := [(3, .int x_10), (2, .int x_9), (4, .ref bh_4), (0, .ref a0), (1, .ref a1)]) hx hb dX2_countLike_36 hl (k := 4) rfl (by rw [ex_10]; rfl) (by decide) rfl (fun ls hl => hp_n (n := 39) rfl ?_)
          refine lv_goto (tgt := 4) hx hb dX2_countLike_39 (by decide) ?_
          exact ih4 _ (by have q0 := ib_hi x_2; have q1 := ib_lo x_2; have qa := ib_hi v3_h_1; have qb := ib_lo v3_h_1; have qc : (v3_h_1 + 1).toInt = v3_h_1.toInt + (1 : Int32).toInt := ii_add (by omega) (by omega); rw [ex_10]; omega) Hh_6 Lh_6 Bh_6 x_9 x_10 (by omega) ls (lv_sub hl [3, 4, 1, 0] rfl) rfl
  refine lv_istore_n (lv' := [(3, .int 0), (2, .int 0), (0, .ref a0), (1, .ref a1)]) hx hb dX2_countLike_3 rfl hl (by decide) rfl (fun ls hl => hp_n (n := 4) rfl ?_)
  exact J4 _ s.heap [] B 0 0 (by omega) ls (lv_sub hl [2, 3, 1, 0] rfl) rfl
