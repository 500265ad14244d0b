abbrev w_X10_logAt : cw_W := ([], [], [], [])
set_option maxRecDepth 100000 in
set_option maxHeartbeats 4000000 in
theorem t_X10_logAt (Γ : hp_G) (l : Launch) (α : hp_T) (g : GC α) (a0 : Nat) (k0 : hp_K α a0 = 11) (a1 : Int32) : Met l yX10_logAt (hp_ws yX10_logAt cX10_logAt 2 (some (.object "ProvenRecord$Log"))) (hp_rm 0 0 0) (hp_Pc Γ α [.ref a0, .int a1]) (hp_Qq Γ (fun r β => β = α ∧ ∀ b, r = some b → hp_K α b = 3)) 0 0 (hp_A Γ) := by
  refine hp_start (by decide) ?_
  intro p e s m below meth c C hr hlk B0 hnm
  have C : hp_C Γ p m c cX10_logAt 2 s ([.ref a0, .int a1] : List Value).toArray RX10 := C
  have hx := C.1.1
  have hb := C.1.2.1
  have hown := C.1.2.2.2.1
  have hts := C.1.2.2.2.2
  have B : hp_B Γ (cw w_X10_logAt) s α α s.heap [] := ⟨B0.1, B0.2.1, cw_rf g⟩
  have lit0 : (0 : Int32).toInt = 0 := by decide
  have lit4 : (4 : Int32).toInt = 4 := by decide
  have hl := lv_entry ([.ref a0, .int a1]) (n := 2) (Nat.le_of_ble_eq_true rfl)
  show W p l e (hp_rm 0 0 0) s m ([.ref a0, .int a1] : List Value).toArray below meth c s.heap [] 0 0 (MQ below (hp_Qq Γ (fun r β => β = α ∧ ∀ b, r = some b → hp_K α b = 3)) ([.ref a0, .int a1] : List Value).toArray s 0 0 (hp_A Γ)) (entryFrame m ([.ref a0, .int a1] : List Value).toArray 2)
  rw [lg_entry_eq]
  generalize (lg_sl ([.ref a0, .int a1]) ++ List.replicate (2 - (lg_sl ([.ref a0, .int a1])).length) Slot.unset).toArray = ls at hl ⊢
  have hl : lv_has ls 2 [(0, .ref a0), (1, .int a1)] := hl
  refine lv_iload_n hx hb dX10_logAt_0 rfl (lv_at hl 1 rfl) (hp_n (n := 1) rfl ?_)
  refine lv_if_lt (tgt := 30) hx hb dX10_logAt_1 (by decide) (fun c_1 => ?_) (fun c_1 => hp_n (n := 4) rfl ?_)
  ·
    have jc_1 := il_lt c_1
    refine lv_null hx hb dX10_logAt_30 (hp_n (n := 31) rfl ?_)
    exact q_aret (x := none) C B hr hlk ⟨rfl, fun b h => by cases h⟩ dX10_logAt_31
  ·
    have jc_1 := il_nlt c_1
    refine lv_iload_n hx hb dX10_logAt_4 rfl (lv_at hl 1 rfl) (hp_n (n := 5) rfl ?_)
    refine lv_aload_n hx hb dX10_logAt_5 rfl (lv_at hl 0 rfl) (hp_n (n := 6) rfl ?_)
    refine q_geti (κ := 11) (k := 2) (φ := 552) (pc' := 9) C B (cw_k B.2.2 k0) fl_X10_22 rfl rfl rfl dX10_logAt_6 rfl (fun x_2 ex_2 => ?_)
    refine lv_icmp_ge (tgt := 30) hx hb dX10_logAt_9 (by decide) (fun c_3 => ?_) (fun c_3 => hp_n (n := 12) rfl ?_)
    ·
      have jc_3 := il_le c_3
      refine lv_null hx hb dX10_logAt_30 (hp_n (n := 31) rfl ?_)
      exact q_aret (x := none) C B hr hlk ⟨rfl, fun b h => by cases h⟩ dX10_logAt_31
    ·
      have jc_3 := il_nle c_3
      refine lv_iload_n hx hb dX10_logAt_12 rfl (lv_at hl 1 rfl) (hp_n (n := 13) rfl ?_)
      refine lv_aload_n hx hb dX10_logAt_13 rfl (lv_at hl 0 rfl) (hp_n (n := 14) rfl ?_)
      refine q_getr (κ := 11) (k := 1) (φ := 551) (pc' := 17) C B (cw_k B.2.2 k0) fl_X10_18 rfl rfl rfl (cw_r B.2.2 k0 rfl rfl (by decide) (by decide)) dX10_logAt_14 rfl (fun b_4 eb_4 kb_4 => ?_)
      refine q_alen (κ := 30) (t := 4) (n := 4) (x := 4) (ty := .object "ProvenRecord$Log") (pc' := 18) C B (cw_k B.2.2 kb_4) (by decide) rfl rfl rfl dX10_logAt_17 rfl ?_
      refine lv_icmp_ge (tgt := 30) hx hb dX10_logAt_18 (by decide) (fun c_5 => ?_) (fun c_5 => hp_n (n := 21) rfl ?_)
      ·
        have jc_5 := il_le c_5
        refine lv_null hx hb dX10_logAt_30 (hp_n (n := 31) rfl ?_)
        exact q_aret (x := none) C B hr hlk ⟨rfl, fun b h => by cases h⟩ dX10_logAt_31
      ·
        have jc_5 := il_nle c_5
        refine lv_aload_n hx hb dX10_logAt_21 rfl (lv_at hl 0 rfl) (hp_n (n := 22) rfl ?_)
        refine q_gets (κ := 11) (k := 1) (φ := 551) (pc' := 25) C B (cw_k B.2.2 k0) fl_X10_18 rfl rfl rfl eb_4 dX10_logAt_22 rfl ?_
        refine lv_iload_n hx hb dX10_logAt_25 rfl (lv_at hl 1 rfl) (hp_n (n := 26) rfl ?_)
        refine q_aal (κ := 30) (t := 4) (n := 4) (C0 := "ProvenRecord$Log") (pc' := 27) C B (cw_k B.2.2 kb_4) (by decide) rfl rfl (by decide) (vi_of (by omega) (by omega)) dX10_logAt_26 rfl ?_
        rcases hqb_6 : hp_Q α 30 b_4 a1.toNatClampNeg with _ | b_6
        ·
          refine lv_goto (tgt := 31) hx hb dX10_logAt_27 (by decide) ?_
          exact q_aret (x := none) C B hr hlk ⟨rfl, fun b h => by cases h⟩ dX10_logAt_31
        ·
          have kb_6 := cw_q B.2.2 kb_4 rfl (by decide) hqb_6
          refine lv_goto (tgt := 31) hx hb dX10_logAt_27 (by decide) ?_
          exact q_aret (x := (some b_6)) C B hr hlk ⟨rfl, fun b h => by cases h; exact kb_6⟩ dX10_logAt_31
abbrev w_X10_frozenAt : cw_W := ([], [], [], [])
set_option maxRecDepth 100000 in
set_option maxHeartbeats 4000000 in
theorem t_X10_frozenAt (Γ : hp_G) (l : Launch) (α : hp_T) (g : GC α) (a0 : Nat) (k0 : hp_K α a0 = 11) (a1 : Int32) : Met l yX10_frozenAt (hp_ws yX10_frozenAt cX10_frozenAt 2 (some (.object "ProvenRecord$Frozen"))) (hp_rm 0 0 0) (hp_Pc Γ α [.ref a0, .int a1]) (hp_Qq Γ (fun r β => β = α ∧ ∀ b, r = some b → hp_K α b = 2)) 0 0 (hp_A Γ) := by
  refine hp_start (by decide) ?_
  intro p e s m below meth c C hr hlk B0 hnm
  have C : hp_C Γ p m c cX10_frozenAt 2 s ([.ref a0, .int a1] : List Value).toArray RX10 := C
  have hx := C.1.1
  have hb := C.1.2.1
  have hown := C.1.2.2.2.1
  have hts := C.1.2.2.2.2
  have B : hp_B Γ (cw w_X10_frozenAt) s α α s.heap [] := ⟨B0.1, B0.2.1, cw_rf g⟩
  have lit0 : (0 : Int32).toInt = 0 := by decide
  have lit16 : (16 : Int32).toInt = 16 := by decide
  have hl := lv_entry ([.ref a0, .int a1]) (n := 2) (Nat.le_of_ble_eq_true rfl)
  show W p l e (hp_rm 0 0 0) s m ([.ref a0, .int a1] : List Value).toArray below meth c s.heap [] 0 0 (MQ below (hp_Qq Γ (fun r β => β = α ∧ ∀ b, r = some b → hp_K α b = 2)) ([.ref a0, .int a1] : List Value).toArray s 0 0 (hp_A Γ)) (entryFrame m ([.ref a0, .int a1] : List Value).toArray 2)
  rw [lg_entry_eq]
  generalize (lg_sl ([.ref a0, .int a1]) ++ List.replicate (2 - (lg_sl ([.ref a0, .int a1])).length) Slot.unset).toArray = ls at hl ⊢
  have hl : lv_has ls 2 [(0, .ref a0), (1, .int a1)] := hl
  refine lv_iload_n hx hb dX10_frozenAt_0 rfl (lv_at hl 1 rfl) (hp_n (n := 1) rfl ?_)
  refine lv_if_lt (tgt := 30) hx hb dX10_frozenAt_1 (by decide) (fun c_1 => ?_) (fun c_1 => hp_n (n := 4) rfl ?_)
  ·
    have jc_1 := il_lt c_1
    refine lv_null hx hb dX10_frozenAt_30 (hp_n (n := 31) rfl ?_)
    exact q_aret (x := none) C B hr hlk ⟨rfl, fun b h => by cases h⟩ dX10_frozenAt_31
  ·
    have jc_1 := il_nlt c_1
    refine lv_iload_n hx hb dX10_frozenAt_4 rfl (lv_at hl 1 rfl) (hp_n (n := 5) rfl ?_)
    refine lv_aload_n hx hb dX10_frozenAt_5 rfl (lv_at hl 0 rfl) (hp_n (n := 6) rfl ?_)
    refine q_geti (κ := 11) (k := 4) (φ := 554) (pc' := 9) C B (cw_k B.2.2 k0) fl_X10_31 rfl rfl rfl dX10_frozenAt_6 rfl (fun x_2 ex_2 => ?_)
    refine lv_icmp_ge (tgt := 30) hx hb dX10_frozenAt_9 (by decide) (fun c_3 => ?_) (fun c_3 => hp_n (n := 12) rfl ?_)
    ·
      have jc_3 := il_le c_3
      refine lv_null hx hb dX10_frozenAt_30 (hp_n (n := 31) rfl ?_)
      exact q_aret (x := none) C B hr hlk ⟨rfl, fun b h => by cases h⟩ dX10_frozenAt_31
    ·
      have jc_3 := il_nle c_3
      refine lv_iload_n hx hb dX10_frozenAt_12 rfl (lv_at hl 1 rfl) (hp_n (n := 13) rfl ?_)
      refine lv_aload_n hx hb dX10_frozenAt_13 rfl (lv_at hl 0 rfl) (hp_n (n := 14) rfl ?_)
      refine q_getr (κ := 11) (k := 3) (φ := 553) (pc' := 17) C B (cw_k B.2.2 k0) fl_X10_27 rfl rfl rfl (cw_r B.2.2 k0 rfl rfl (by decide) (by decide)) dX10_frozenAt_14 rfl (fun b_4 eb_4 kb_4 => ?_)
      refine q_alen (κ := 31) (t := 5) (n := 16) (x := 16) (ty := .object "ProvenRecord$Frozen") (pc' := 18) C B (cw_k B.2.2 kb_4) (by decide) rfl rfl rfl dX10_frozenAt_17 rfl ?_
      refine lv_icmp_ge (tgt := 30) hx hb dX10_frozenAt_18 (by decide) (fun c_5 => ?_) (fun c_5 => hp_n (n := 21) rfl ?_)
      ·
        have jc_5 := il_le c_5
        refine lv_null hx hb dX10_frozenAt_30 (hp_n (n := 31) rfl ?_)
        exact q_aret (x := none) C B hr hlk ⟨rfl, fun b h => by cases h⟩ dX10_frozenAt_31
      ·
        have jc_5 := il_nle c_5
        refine lv_aload_n hx hb dX10_frozenAt_21 rfl (lv_at hl 0 rfl) (hp_n (n := 22) rfl ?_)
        refine q_gets (κ := 11) (k := 3) (φ := 553) (pc' := 25) C B (cw_k B.2.2 k0) fl_X10_27 rfl rfl rfl eb_4 dX10_frozenAt_22 rfl ?_
        refine lv_iload_n hx hb dX10_frozenAt_25 rfl (lv_at hl 1 rfl) (hp_n (n := 26) rfl ?_)
        refine q_aal (κ := 31) (t := 5) (n := 16) (C0 := "ProvenRecord$Frozen") (pc' := 27) C B (cw_k B.2.2 kb_4) (by decide) rfl rfl (by decide) (vi_of (by omega) (by omega)) dX10_frozenAt_26 rfl ?_
        rcases hqb_6 : hp_Q α 31 b_4 a1.toNatClampNeg with _ | b_6
        ·
          refine lv_goto (tgt := 31) hx hb dX10_frozenAt_27 (by decide) ?_
          exact q_aret (x := none) C B hr hlk ⟨rfl, fun b h => by cases h⟩ dX10_frozenAt_31
        ·
          have kb_6 := cw_q B.2.2 kb_4 rfl (by decide) hqb_6
          refine lv_goto (tgt := 31) hx hb dX10_frozenAt_27 (by decide) ?_
          exact q_aret (x := (some b_6)) C B hr hlk ⟨rfl, fun b h => by cases h; exact kb_6⟩ dX10_frozenAt_31
abbrev w_X10_watcherAt : cw_W := ([], [], [], [])
set_option maxRecDepth 100000 in
set_option maxHeartbeats 4000000 in
theorem t_X10_watcherAt (Γ : hp_G) (l : Launch) (α : hp_T) (g : GC α) (a0 : Nat) (k0 : hp_K α a0 = 11) (a1 : Int32) : Met l yX10_watcherAt (hp_ws yX10_watcherAt cX10_watcherAt 2 (some (.object "ProvenRecord$Watcher"))) (hp_rm 0 0 0) (hp_Pc Γ α [.ref a0, .int a1]) (hp_Qq Γ (fun r β => β = α ∧ ∀ b, r = some b → hp_K α b = 8)) 0 0 (hp_A Γ) := by
  refine hp_start (by decide) ?_
  intro p e s m below meth c C hr hlk B0 hnm
  have C : hp_C Γ p m c cX10_watcherAt 2 s ([.ref a0, .int a1] : List Value).toArray RX10 := C
  have hx := C.1.1
  have hb := C.1.2.1
  have hown := C.1.2.2.2.1
  have hts := C.1.2.2.2.2
  have B : hp_B Γ (cw w_X10_watcherAt) s α α s.heap [] := ⟨B0.1, B0.2.1, cw_rf g⟩
  have lit0 : (0 : Int32).toInt = 0 := by decide
  have lit4 : (4 : Int32).toInt = 4 := by decide
  have hl := lv_entry ([.ref a0, .int a1]) (n := 2) (Nat.le_of_ble_eq_true rfl)
  show W p l e (hp_rm 0 0 0) s m ([.ref a0, .int a1] : List Value).toArray below meth c s.heap [] 0 0 (MQ below (hp_Qq Γ (fun r β => β = α ∧ ∀ b, r = some b → hp_K α b = 8)) ([.ref a0, .int a1] : List Value).toArray s 0 0 (hp_A Γ)) (entryFrame m ([.ref a0, .int a1] : List Value).toArray 2)
  rw [lg_entry_eq]
  generalize (lg_sl ([.ref a0, .int a1]) ++ List.replicate (2 - (lg_sl ([.ref a0, .int a1])).length) Slot.unset).toArray = ls at hl ⊢
  have hl : lv_has ls 2 [(0, .ref a0), (1, .int a1)] := hl
  refine lv_iload_n hx hb dX10_watcherAt_0 rfl (lv_at hl 1 rfl) (hp_n (n := 1) rfl ?_)
  refine lv_if_lt (tgt := 22) hx hb dX10_watcherAt_1 (by decide) (fun c_1 => ?_) (fun c_1 => hp_n (n := 4) rfl ?_)
  ·
    have jc_1 := il_lt c_1
    refine lv_null hx hb dX10_watcherAt_22 (hp_n (n := 23) rfl ?_)
    exact q_aret (x := none) C B hr hlk ⟨rfl, fun b h => by cases h⟩ dX10_watcherAt_23
  ·
    have jc_1 := il_nlt c_1
    refine lv_iload_n hx hb dX10_watcherAt_4 rfl (lv_at hl 1 rfl) (hp_n (n := 5) rfl ?_)
    refine lv_aload_n hx hb dX10_watcherAt_5 rfl (lv_at hl 0 rfl) (hp_n (n := 6) rfl ?_)
    refine q_getr (κ := 11) (k := 5) (φ := 555) (pc' := 9) C B (cw_k B.2.2 k0) fl_X10_36 rfl rfl rfl (cw_r B.2.2 k0 rfl rfl (by decide) (by decide)) dX10_watcherAt_6 rfl (fun b_2 eb_2 kb_2 => ?_)
    refine q_alen (κ := 32) (t := 6) (n := 4) (x := 4) (ty := .object "ProvenRecord$Watcher") (pc' := 10) C B (cw_k B.2.2 kb_2) (by decide) rfl rfl rfl dX10_watcherAt_9 rfl ?_
    refine lv_icmp_ge (tgt := 22) hx hb dX10_watcherAt_10 (by decide) (fun c_3 => ?_) (fun c_3 => hp_n (n := 13) rfl ?_)
    ·
      have jc_3 := il_le c_3
      refine lv_null hx hb dX10_watcherAt_22 (hp_n (n := 23) rfl ?_)
      exact q_aret (x := none) C B hr hlk ⟨rfl, fun b h => by cases h⟩ dX10_watcherAt_23
    ·
      have jc_3 := il_nle c_3
      refine lv_aload_n hx hb dX10_watcherAt_13 rfl (lv_at hl 0 rfl) (hp_n (n := 14) rfl ?_)
      refine q_gets (κ := 11) (k := 5) (φ := 555) (pc' := 17) C B (cw_k B.2.2 k0) fl_X10_36 rfl rfl rfl eb_2 dX10_watcherAt_14 rfl ?_
      refine lv_iload_n hx hb dX10_watcherAt_17 rfl (lv_at hl 1 rfl) (hp_n (n := 18) rfl ?_)
      refine q_aal (κ := 32) (t := 6) (n := 4) (C0 := "ProvenRecord$Watcher") (pc' := 19) C B (cw_k B.2.2 kb_2) (by decide) rfl rfl (by decide) (vi_of (by omega) (by omega)) dX10_watcherAt_18 rfl ?_
      rcases hqb_4 : hp_Q α 32 b_2 a1.toNatClampNeg with _ | b_4
      ·
        refine lv_goto (tgt := 23) hx hb dX10_watcherAt_19 (by decide) ?_
        exact q_aret (x := none) C B hr hlk ⟨rfl, fun b h => by cases h⟩ dX10_watcherAt_23
      ·
        have kb_4 := cw_q B.2.2 kb_2 rfl (by decide) hqb_4
        refine lv_goto (tgt := 23) hx hb dX10_watcherAt_19 (by decide) ?_
        exact q_aret (x := (some b_4)) C B hr hlk ⟨rfl, fun b h => by cases h; exact kb_4⟩ dX10_watcherAt_23
abbrev w_X10_alarmedBits : cw_W := ([], [], [], [])
set_option maxRecDepth 100000 in
set_option maxHeartbeats 4000000 in
theorem t_X10_alarmedBits (Γ : hp_G) (l : Launch) (α : hp_T) (g : GC α) (a0 : Nat) (k0 : hp_K α a0 = 11) : Met l yX10_alarmedBits (hp_ws yX10_alarmedBits cX10_alarmedBits 4 (some .int)) (hp_rm 1 0 0) (hp_Pc Γ α [.ref a0]) (hp_Qi Γ (fun r β => β = α)) 0 0 (hp_A Γ) := by
  refine hp_start (by decide) ?_
  intro p e s m below meth c C hr hlk B0 hnm
  have C : hp_C Γ p m c cX10_alarmedBits 4 s ([.ref a0] : List Value).toArray RX10 := C
  have hx := C.1.1
  have hb := C.1.2.1
  have hown := C.1.2.2.2.1
  have hts := C.1.2.2.2.2
  have B : hp_B Γ (cw w_X10_alarmedBits) s α α s.heap [] := ⟨B0.1, B0.2.1, cw_rf g⟩
  have lit0 : (0 : Int32).toInt = 0 := by decide
  have lit1 : (1 : Int32).toInt = 1 := by decide
  have lit4 : (4 : Int32).toInt = 4 := by decide
  have hl := lv_entry ([.ref a0]) (n := 4) (Nat.le_of_ble_eq_true rfl)
  show W p l e (hp_rm 1 0 0) s m ([.ref a0] : List Value).toArray below meth c s.heap [] 0 0 (MQ below (hp_Qi Γ (fun r β => β = α)) ([.ref a0] : List Value).toArray s 0 0 (hp_A Γ)) (entryFrame m ([.ref a0] : List Value).toArray 4)
  rw [lg_entry_eq]
  generalize (lg_sl ([.ref a0]) ++ List.replicate (4 - (lg_sl ([.ref a0])).length) Slot.unset).toArray = ls at hl ⊢
  have hl : lv_has ls 4 [(0, .ref a0)] := hl
  refine lv_iconst (v := 0) hx hb dX10_alarmedBits_0 (by decide) (hp_n (n := 1) rfl ?_)
  refine lv_istore_n (lv' := [(1, .int 0), (0, .ref a0)]) hx hb dX10_alarmedBits_1 rfl hl (by decide) rfl (fun ls hl => hp_n (n := 2) rfl ?_)
  refine lv_iconst (v := 0) hx hb dX10_alarmedBits_2 (by decide) (hp_n (n := 3) rfl ?_)
  have J4 : ∀ (nq : Nat) (Hh_1 : Heap) (Lh_1 : List Loc) (Bh_1 : hp_B Γ (cw w_X10_alarmedBits) s α α Hh_1 Lh_1) (v1_h_1 : Int32) (v2_h_1 : Int32) (ih_1_0 : 0 ≤ v2_h_1.toInt) (ls : Array Slot) (hl : lv_has ls 4 [(0, .ref a0), (1, .int v1_h_1), (2, .int v2_h_1)]) (hmu4 : (2147483647 - v2_h_1.toInt).toNat = nq), W p l e (hp_rm 1 0 0) s m ([.ref a0] : List Value).toArray below meth c Hh_1 Lh_1 0 0 (MQ below (hp_Qi Γ (fun r β => β = α)) ([.ref a0] : List Value).toArray s 0 0 (hp_A Γ)) (F0 m 4 ls []) := by
    intro nq
    induction nq using Nat.strongRecOn with
    | ind nq ih4 =>
    intro Hh_1 Lh_1 Bh_1 v1_h_1 v2_h_1 ih_1_0 ls hl hmu4
    have inv4_0 := ih_1_0
    refine lv_iload_n hx hb dX10_alarmedBits_4 rfl (lv_at hl 2 rfl) (hp_n (n := 5) rfl ?_)
    refine lv_iconst (v := 4) hx hb dX10_alarmedBits_5 (by decide) (hp_n (n := 6) rfl ?_)
    refine lv_icmp_ge (tgt := 38) hx hb dX10_alarmedBits_6 (by decide) (fun c_2 => ?_) (fun c_2 => hp_n (n := 9) rfl ?_)
    ·
      have jc_2 := il_le c_2
      refine lv_iload_n hx hb dX10_alarmedBits_38 rfl (lv_at hl 1 rfl) (hp_n (n := 39) rfl ?_)
      exact q_iret C Bh_1 hr hlk rfl dX10_alarmedBits_39
    ·
      have jc_2 := il_nle c_2
      refine lv_aload_n hx hb dX10_alarmedBits_9 rfl (lv_at hl 0 rfl) (hp_n (n := 10) rfl ?_)
      refine lv_iload_n hx hb dX10_alarmedBits_10 rfl (lv_at hl 2 rfl) (hp_n (n := 11) rfl ?_)
      refine q_cq (pc' := 14) Bh_1 (hp_runV (As := [.int v2_h_1]) (rest := []) C Bh_1 (t_X10_watcherAt Γ l α Bh_1.2.2.1 a0 (cw_k Bh_1.2.2 k0) v2_h_1) lb_X10_watcherAt lv_X10_watcherAt lk_X10_71 (cw_k Bh_1.2.2 k0) rfl (by decide) rfl hl.1 rfl (Nat.le_of_ble_eq_true rfl) dX10_alarmedBits_11 ⟨Nat.le_refl _, Nat.le_refl _⟩) (fun _ _ h => by rw [h.1]; exact Bh_1.2.2) rfl (fun rh_3 αh_3 Hh_3 Lh_3 ph_3 Bh_3 => ?_)
      rw [ph_3.1] at Bh_3
      rcases rh_3 with _ | bh_3
      ·
        refine lv_astore_nN (lv' := [(3, .null), (0, .ref a0), (1, .int v1_h_1), (2, .int v2_h_1)]) hx hb dX10_alarmedBits_14 rfl hl (by decide) rfl (fun ls hl => hp_n (n := 15) rfl ?_)
        refine lv_aload_nN hx hb dX10_alarmedBits_15 rfl (lv_at hl 0 rfl) (hp_n (n := 16) rfl ?_)
        refine lv_ifnullN (tgt := 32) hx hb dX10_alarmedBits_16 (by decide) ?_
        obtain ⟨x_4, ex_4⟩ : ∃ y : Int32, y = v2_h_1 + 1 := ⟨_, rfl⟩
        have qx_4 : x_4.toInt = v2_h_1.toInt + 1 := by have qa := ib_lo v2_h_1; rw [ex_4]; exact ii_add (by omega) (by omega)
        refine lv_iinc (v := x_4) (lv' := [(2, .int x_4), (3, .null), (0, .ref a0), (1, .int v1_h_1)]) hx hb dX10_alarmedBits_32 hl (k := 3) rfl (by rw [ex_4]; rfl) (by decide) rfl (fun ls hl => hp_n (n := 35) rfl ?_)
        refine lv_goto (tgt := 4) hx hb dX10_alarmedBits_35 (by decide) ?_
        exact ih4 _ (by have qa := ib_hi v2_h_1; have qb := ib_lo v2_h_1; have qc : (v2_h_1 + 1).toInt = v2_h_1.toInt + (1 : Int32).toInt := ii_add (by omega) (by omega); rw [ex_4]; omega) Hh_3 Lh_3 Bh_3 v1_h_1 x_4 (by omega) ls (lv_sub hl [2, 3, 0] rfl) rfl
      ·
        have kbh_3 : hp_K α bh_3 = 8 := cw_k' Bh_3.2.2 (ph_3.2 bh_3 rfl)
        refine lv_astore_n (lv' := [(3, .ref bh_3), (0, .ref a0), (1, .int v1_h_1), (2, .int v2_h_1)]) hx hb dX10_alarmedBits_14 rfl hl (by decide) rfl (fun ls hl => hp_n (n := 15) rfl ?_)
        refine lv_aload_n hx hb dX10_alarmedBits_15 rfl (lv_at hl 0 rfl) (hp_n (n := 16) rfl ?_)
        refine lv_ifnull hx hb dX10_alarmedBits_16 (hp_n (n := 19) rfl ?_)
        refine lv_aload_n hx hb dX10_alarmedBits_19 rfl (lv_at hl 0 rfl) (hp_n (n := 20) rfl ?_)
        refine q_geti (κ := 8) (k := 3) (φ := 403) (pc' := 23) C Bh_3 (cw_k Bh_3.2.2 kbh_3) fl_X10_78 rfl rfl rfl dX10_alarmedBits_20 rfl (fun x_5 ex_5 => ?_)
        refine lv_if_eq (tgt := 32) hx hb dX10_alarmedBits_23 (by decide) (fun c_6 => ?_) (fun c_6 => hp_n (n := 26) rfl ?_)
        ·
          have jc_6 := il_eq c_6
          obtain ⟨x_7, ex_7⟩ : ∃ y : Int32, y = v2_h_1 + 1 := ⟨_, rfl⟩
          have qx_7 : x_7.toInt = v2_h_1.toInt + 1 := by have qa := ib_lo v2_h_1; rw [ex_7]; exact ii_add (by omega) (by omega)
          refine lv_iinc (v := x_7) (lv' := [(2, .int x_7), (3, .ref bh_3), (0, .ref a0), (1, .int v1_h_1)]) hx hb dX10_alarmedBits_32 hl (k := 3) rfl (by rw [ex_7]; rfl) (by decide) rfl (fun ls hl => hp_n (n := 35) rfl ?_)
          refine lv_goto (tgt := 4) hx hb dX10_alarmedBits_35 (by decide) ?_
          exact ih4 _ (by have qa := ib_hi v2_h_1; have qb := ib_lo v2_h_1; have qc : (v2_h_1 + 1).toInt = v2_h_1.toInt + (1 : Int32).toInt := ii_add (by omega) (by omega); rw [ex_7]; omega) Hh_3 Lh_3 Bh_3 v1_h_1 x_7 (by omega) ls (lv_sub hl [2, 3, 0] rfl) rfl
        ·
          have jc_6 := il_ne c_6
          refine lv_iload_n hx hb dX10_alarmedBits_26 rfl (lv_at hl 2 rfl) (hp_n (n := 27) rfl ?_)
          refine lv_iconst (v := 1) hx hb dX10_alarmedBits_27 (by decide) (hp_n (n := 28) rfl ?_)
          refine lv_iload_n hx hb dX10_alarmedBits_28 rfl (lv_at hl 3 rfl) (hp_n (n := 29) rfl ?_)
          refine lv_ishl hx hb dX10_alarmedBits_29 (hp_n (n := 30) rfl (lv_topi (fun x_8 ex_8 => ?_)))
          refine lv_ior hx hb dX10_alarmedBits_30 (hp_n (n := 31) rfl (lv_topi (fun x_9 ex_9 => ?_)))
          refine lv_istore_n (lv' := [(1, .int x_9), (3, .ref bh_3), (0, .ref a0), (2, .int v2_h_1)]) hx hb dX10_alarmedBits_31 rfl hl (by decide) rfl (fun ls hl => hp_n (n := 32) rfl ?_)
          obtain ⟨x_10, ex_10⟩ : ∃ y : Int32, y = v2_h_1 + 1 := ⟨_, rfl⟩
          have qx_10 : x_10.toInt = v2_h_1.toInt + 1 := by have qa := ib_lo v2_h_1; rw [ex_10]; exact ii_add (by omega) (by omega)
          refine lv_iinc (v := x_10) (lv' := [(2, .int x_10), (1, .int x_9), (3, .ref bh_3), (0, .ref a0)]) hx hb dX10_alarmedBits_32 hl (k := 3) rfl (by rw [ex_10]; rfl) (by decide) rfl (fun ls hl => hp_n (n := 35) rfl ?_)
          refine lv_goto (tgt := 4) hx hb dX10_alarmedBits_35 (by decide) ?_
          exact ih4 _ (by have qa := ib_hi v2_h_1; have qb := ib_lo v2_h_1; have qc : (v2_h_1 + 1).toInt = v2_h_1.toInt + (1 : Int32).toInt := ii_add (by omega) (by omega); rw [ex_10]; omega) Hh_3 Lh_3 Bh_3 x_9 x_10 (by omega) ls (lv_sub hl [3, 1, 0] rfl) rfl
  refine lv_istore_n (lv' := [(2, .int 0), (1, .int 0), (0, .ref a0)]) hx hb dX10_alarmedBits_3 rfl hl (by decide) rfl (fun ls hl => hp_n (n := 4) rfl ?_)
  exact J4 _ s.heap [] B 0 0 (by omega) ls (lv_sub hl [2, 1, 0] rfl) rfl
abbrev w_X10_treeMark : cw_W := ([], [], [33], [])
set_option maxRecDepth 100000 in
set_option maxHeartbeats 4000000 in
theorem t_X10_treeMark (Γ : hp_G) (l : Launch) (α : hp_T) (g : GC α) (a0 : Nat) (k0 : hp_K α a0 = 11) (o1 : Option Nat) (k1 : ∀ b, o1 = some b → hp_K α b = 3) (a2 : Int32) (a3 : Int32) : Met l yX10_treeMark (hp_ws yX10_treeMark cX10_treeMark 8 (some .int)) (hp_rm 1 0 0) (hp_Pc Γ α [.ref a0, va_rf o1, .int a2, .int a3]) (hp_Qi Γ (fun r β => cw w_X10_treeMark α β)) 0 0 (hp_A Γ) := by
  refine hp_start (by decide) ?_
  intro p e s m below meth c C hr hlk B0 hnm
  have C : hp_C Γ p m c cX10_treeMark 8 s ([.ref a0, va_rf o1, .int a2, .int a3] : List Value).toArray RX10 := C
  have hx := C.1.1
  have hb := C.1.2.1
  have hown := C.1.2.2.2.1
  have hts := C.1.2.2.2.2
  have B : hp_B Γ (cw w_X10_treeMark) s α α s.heap [] := ⟨B0.1, B0.2.1, cw_rf g⟩
  have lit0 : (0 : Int32).toInt = 0 := by decide
  have lit1 : (1 : Int32).toInt = 1 := by decide
  have lit2 : (2 : Int32).toInt = 2 := by decide
  have lit40 : (40 : Int32).toInt = 40 := by decide
  have lit48 : (48 : Int32).toInt = 48 := by decide
  rcases o1 with _ | a1
  ·
    have hl := lv_entry ([.ref a0, .null, .int a2, .int a3]) (n := 8) (Nat.le_of_ble_eq_true rfl)
    show W p l e (hp_rm 1 0 0) s m ([.ref a0, .null, .int a2, .int a3] : List Value).toArray below meth c s.heap [] 0 0 (MQ below (hp_Qi Γ (fun r β => cw w_X10_treeMark α β)) ([.ref a0, .null, .int a2, .int a3] : List Value).toArray s 0 0 (hp_A Γ)) (entryFrame m ([.ref a0, .null, .int a2, .int a3] : List Value).toArray 8)
    rw [lg_entry_eq]
    generalize (lg_sl ([.ref a0, .null, .int a2, .int a3]) ++ List.replicate (8 - (lg_sl ([.ref a0, .null, .int a2, .int a3])).length) Slot.unset).toArray = ls at hl ⊢
    have hl : lv_has ls 8 [(0, .ref a0), (1, .null), (2, .int a2), (3, .int a3)] := hl
    refine lv_aload_nN hx hb dX10_treeMark_0 rfl (lv_at hl 1 rfl) (hp_n (n := 1) rfl ?_)
    refine lv_ifnullN (tgt := 8) hx hb dX10_treeMark_1 (by decide) ?_
    refine lv_iconst (v := 0) hx hb dX10_treeMark_8 (by decide) (hp_n (n := 9) rfl ?_)
    exact q_iret C B hr hlk B.2.2 dX10_treeMark_9
  ·
    have ka1 := k1 a1 rfl
    have hl := lv_entry ([.ref a0, .ref a1, .int a2, .int a3]) (n := 8) (Nat.le_of_ble_eq_true rfl)
    show W p l e (hp_rm 1 0 0) s m ([.ref a0, .ref a1, .int a2, .int a3] : List Value).toArray below meth c s.heap [] 0 0 (MQ below (hp_Qi Γ (fun r β => cw w_X10_treeMark α β)) ([.ref a0, .ref a1, .int a2, .int a3] : List Value).toArray s 0 0 (hp_A Γ)) (entryFrame m ([.ref a0, .ref a1, .int a2, .int a3] : List Value).toArray 8)
    rw [lg_entry_eq]
    generalize (lg_sl ([.ref a0, .ref a1, .int a2, .int a3]) ++ List.replicate (8 - (lg_sl ([.ref a0, .ref a1, .int a2, .int a3])).length) Slot.unset).toArray = ls at hl ⊢
    have hl : lv_has ls 8 [(0, .ref a0), (1, .ref a1), (2, .int a2), (3, .int a3)] := hl
    refine lv_aload_n hx hb dX10_treeMark_0 rfl (lv_at hl 1 rfl) (hp_n (n := 1) rfl ?_)
    refine lv_ifnull hx hb dX10_treeMark_1 (hp_n (n := 4) rfl ?_)
    refine lv_iload_n hx hb dX10_treeMark_4 rfl (lv_at hl 3 rfl) (hp_n (n := 5) rfl ?_)
    refine lv_if_gt (tgt := 10) hx hb dX10_treeMark_5 (by decide) (fun c_1 => ?_) (fun c_1 => hp_n (n := 8) rfl ?_)
    ·
      have jc_1 := il_lt c_1
      refine lv_iload_n hx hb dX10_treeMark_10 rfl (lv_at hl 3 rfl) (hp_n (n := 11) rfl ?_)
      refine lv_aload_n hx hb dX10_treeMark_11 rfl (lv_at hl 0 rfl) (hp_n (n := 12) rfl ?_)
      refine q_getr (κ := 11) (k := 7) (φ := 557) (pc' := 15) C B (cw_k B.2.2 k0) fl_X10_43 rfl rfl rfl (cw_r B.2.2 k0 rfl rfl (by decide) (by decide)) dX10_treeMark_12 rfl (fun b_2 eb_2 kb_2 => ?_)
      refine q_alen (κ := 33) (t := 0) (n := 48) (x := 48) (ty := .int) (pc' := 16) C B (cw_k B.2.2 kb_2) (by decide) rfl rfl rfl dX10_treeMark_15 rfl ?_
      refine q_ci (pc' := 19) B (hp_runS (As := [.int a3, .int 48]) (rest := []) C B (t_J9_min_7cf53 Γ l α B.2.2.1 a3 48) lb_J9_min_7cf53 ls_J9_min_7cf53 lk_X10_82 rfl (by decide) rfl hl.1 rfl (Nat.le_of_ble_eq_true rfl) dX10_treeMark_16 ⟨Nat.le_refl _, Nat.le_refl _⟩) (fun _ _ h => by rw [h.1]; exact B.2.2) rfl (fun rh_3 αh_3 Hh_3 Lh_3 ph_3 Bh_3 => ?_)
      rw [ph_3.1] at Bh_3
      obtain ⟨ph_3a, ph_3b, ph_3c⟩ := ph_3.2
      refine lv_istore (lv' := [(4, .int rh_3), (0, .ref a0), (1, .ref a1), (2, .int a2), (3, .int a3)]) hx hb dX10_treeMark_19 hl (by decide) rfl (fun ls hl => hp_n (n := 21) rfl ?_)
      refine lv_iconst (v := 0) hx hb dX10_treeMark_21 (by decide) (hp_n (n := 22) rfl ?_)
      have J24 : ∀ (nq : Nat) (αh_4 : hp_T) (Hh_4 : Heap) (Lh_4 : List Loc) (Bh_4 : hp_B Γ (cw w_X10_treeMark) s α αh_4 Hh_4 Lh_4) (v5_h_4 : Int32) (ih_4_0 : 0 ≤ v5_h_4.toInt) (ih_4_1 : 1 ≤ rh_3.toInt ∧ rh_3.toInt ≤ 48) (ls : Array Slot) (hl : lv_has ls 8 [(0, .ref a0), (1, .ref a1), (2, .int a2), (4, .int rh_3), (5, .int v5_h_4)]) (hmu24 : (2147483647 - v5_h_4.toInt).toNat = nq), W p l e (hp_rm 1 0 0) s m ([.ref a0, .ref a1, .int a2, .int a3] : List Value).toArray below meth c Hh_4 Lh_4 0 0 (MQ below (hp_Qi Γ (fun r β => cw w_X10_treeMark α β)) ([.ref a0, .ref a1, .int a2, .int a3] : List Value).toArray s 0 0 (hp_A Γ)) (F0 m 24 ls []) := by
        intro nq
        induction nq using Nat.strongRecOn with
        | ind nq ih24 =>
        intro αh_4 Hh_4 Lh_4 Bh_4 v5_h_4 ih_4_0 ih_4_1 ls hl hmu24
        have inv24_0 := ih_4_0
        have inv24_1 := ih_4_1
        refine lv_iload hx hb dX10_treeMark_24 (lv_at hl 4 rfl) (hp_n (n := 26) rfl ?_)
        refine lv_iload hx hb dX10_treeMark_26 (lv_at hl 3 rfl) (hp_n (n := 28) rfl ?_)
        refine lv_icmp_ge (tgt := 52) hx hb dX10_treeMark_28 (by decide) (fun c_5 => ?_) (fun c_5 => hp_n (n := 31) rfl ?_)
        ·
          have jc_5 := il_le c_5
          refine lv_iconst (v := 0) hx hb dX10_treeMark_52 (by decide) (hp_n (n := 53) rfl ?_)
          have J55 : ∀ (nq : Nat) (αh_6 : hp_T) (Hh_6 : Heap) (Lh_6 : List Loc) (Bh_6 : hp_B Γ (cw w_X10_treeMark) s α αh_6 Hh_6 Lh_6) (v4_h_6 : Int32) (v5_h_6 : Int32) (ih_6_0 : 0 ≤ v5_h_6.toInt) (ih_6_1 : 1 ≤ v4_h_6.toInt ∧ v4_h_6.toInt ≤ 48) (ls : Array Slot) (hl : lv_has ls 8 [(0, .ref a0), (4, .int v4_h_6), (5, .int v5_h_6)]) (hmu55 : (2147483647 - v5_h_6.toInt).toNat = nq), W p l e (hp_rm 1 0 0) s m ([.ref a0, .ref a1, .int a2, .int a3] : List Value).toArray below meth c Hh_6 Lh_6 0 0 (MQ below (hp_Qi Γ (fun r β => cw w_X10_treeMark α β)) ([.ref a0, .ref a1, .int a2, .int a3] : List Value).toArray s 0 0 (hp_A Γ)) (F0 m 55 ls []) := by
            intro nq
            induction nq using Nat.strongRecOn with
            | ind nq ih55 =>
            intro αh_6 Hh_6 Lh_6 Bh_6 v4_h_6 v5_h_6 ih_6_0 ih_6_1 ls hl hmu55
            have inv55_0 := ih_6_0
            have inv55_1 := ih_6_1
            refine lv_iload hx hb dX10_treeMark_55 (lv_at hl 2 rfl) (hp_n (n := 57) rfl ?_)
            refine lv_bipush (v := 40) hx hb dX10_treeMark_57 (by decide) (hp_n (n := 59) rfl ?_)
            have J161 : ∀ (Hh_7 : Heap) (Lh_7 : List Loc) (Bh_7 : hp_B Γ (cw w_X10_treeMark) s α αh_6 Hh_7 Lh_7) (ls : Array Slot) (hl : lv_has ls 8 [(0, .ref a0)]), W p l e (hp_rm 1 0 0) s m ([.ref a0, .ref a1, .int a2, .int a3] : List Value).toArray below meth c Hh_7 Lh_7 0 0 (MQ below (hp_Qi Γ (fun r β => cw w_X10_treeMark α β)) ([.ref a0, .ref a1, .int a2, .int a3] : List Value).toArray s 0 0 (hp_A Γ)) (F0 m 161 ls []) := by
              intro Hh_7 Lh_7 Bh_7 ls hl
              refine lv_aload_n hx hb dX10_treeMark_161 rfl (lv_at hl 0 rfl) (hp_n (n := 162) rfl ?_)
              refine q_getr (κ := 11) (k := 7) (φ := 557) (pc' := 165) C Bh_7 (cw_k Bh_7.2.2 k0) fl_X10_43 rfl rfl rfl (cw_r Bh_7.2.2 k0 rfl rfl (by decide) (by decide)) dX10_treeMark_162 rfl (fun b_8 eb_8 kb_8 => ?_)
              refine lv_iconst (v := 0) hx hb dX10_treeMark_165 (by decide) (hp_n (n := 166) rfl ?_)
              refine q_ial (κ := 33) (n := 48) (pc' := 167) C Bh_7 (cw_k Bh_7.2.2 kb_8) (by decide) rfl (vi_of (by omega) (by omega)) dX10_treeMark_166 rfl (lv_topi (fun x_9 ex_9 => ?_))
              exact q_iret C Bh_7 hr hlk Bh_7.2.2 dX10_treeMark_167
            refine lv_icmp_ge (tgt := 161) hx hb dX10_treeMark_59 (by decide) (fun c_10 => ?_) (fun c_10 => hp_n (n := 62) rfl ?_)
            ·
              have jc_10 := il_le c_10
              exact J161 Hh_6 Lh_6 Bh_6 ls (lv_sub hl [0] rfl)
            ·
              have jc_10 := il_nle c_10
              refine lv_iload hx hb dX10_treeMark_62 (lv_at hl 1 rfl) (hp_n (n := 64) rfl ?_)
              refine lv_iconst (v := 1) hx hb dX10_treeMark_64 (by decide) (hp_n (n := 65) rfl ?_)
              refine lv_icmp_le (tgt := 161) hx hb dX10_treeMark_65 (by decide) (fun c_11 => ?_) (fun c_11 => hp_n (n := 68) rfl ?_)
              ·
                have jc_11 := il_le c_11
                exact J161 Hh_6 Lh_6 Bh_6 ls (lv_sub hl [0] rfl)
              ·
                have jc_11 := il_nle c_11
                refine lv_iload hx hb dX10_treeMark_68 (lv_at hl 1 rfl) (hp_n (n := 70) rfl ?_)
                refine lv_iconst (v := 2) hx hb dX10_treeMark_70 (by decide) (hp_n (n := 71) rfl ?_)
                refine lv_idiv hx hb dX10_treeMark_71 (by decide) (hp_n (n := 72) rfl (lv_topi (fun x_12 ex_12 => ?_)))
                try have qx_12 : x_12.toInt = v4_h_6.toInt / 2 := by rw [ex_12]; exact ii_div (y := 2) (by omega) (by decide)
                refine lv_istore (lv' := [(6, .int x_12), (0, .ref a0), (4, .int v4_h_6), (5, .int v5_h_6)]) hx hb dX10_treeMark_72 hl (by decide) rfl (fun ls hl => hp_n (n := 74) rfl ?_)
                refine lv_iconst (v := 0) hx hb dX10_treeMark_74 (by decide) (hp_n (n := 75) rfl ?_)
                have J77 : ∀ (nq : Nat) (αh_13 : hp_T) (Hh_13 : Heap) (Lh_13 : List Loc) (Bh_13 : hp_B Γ (cw w_X10_treeMark) s α αh_13 Hh_13 Lh_13) (v7_h_13 : Int32) (ih_13_0 : 0 ≤ v7_h_13.toInt) (ih_13_1 : 1 ≤ v4_h_6.toInt ∧ v4_h_6.toInt ≤ 48) (ih_13_2 : x_12.toInt * 2 ≤ v4_h_6.toInt ∧ 0 ≤ x_12.toInt) (ih_13_3 : 0 ≤ v5_h_6.toInt ∧ v5_h_6.toInt < 40) (ls : Array Slot) (hl : lv_has ls 8 [(0, .ref a0), (4, .int v4_h_6), (5, .int v5_h_6), (6, .int x_12), (7, .int v7_h_13)]) (hmu77 : (2147483647 - v7_h_13.toInt).toNat = nq), W p l e (hp_rm 1 0 0) s m ([.ref a0, .ref a1, .int a2, .int a3] : List Value).toArray below meth c Hh_13 Lh_13 0 0 (MQ below (hp_Qi Γ (fun r β => cw w_X10_treeMark α β)) ([.ref a0, .ref a1, .int a2, .int a3] : List Value).toArray s 0 0 (hp_A Γ)) (F0 m 77 ls []) := by
                  intro nq
                  induction nq using Nat.strongRecOn with
                  | ind nq ih77 =>
                  intro αh_13 Hh_13 Lh_13 Bh_13 v7_h_13 ih_13_0 ih_13_1 ih_13_2 ih_13_3 ls hl hmu77
                  have inv77_0 := ih_13_0
                  have inv77_1 := ih_13_1
                  have inv77_2 := ih_13_2
                  have inv77_3 := ih_13_3
                  refine lv_iload hx hb dX10_treeMark_77 (lv_at hl 4 rfl) (hp_n (n := 79) rfl ?_)
                  refine lv_iload hx hb dX10_treeMark_79 (lv_at hl 3 rfl) (hp_n (n := 81) rfl ?_)
                  refine lv_icmp_ge (tgt := 124) hx hb dX10_treeMark_81 (by decide) (fun c_14 => ?_) (fun c_14 => hp_n (n := 84) rfl ?_)
                  ·
                    have jc_14 := il_le c_14
                    refine lv_iload hx hb dX10_treeMark_124 (lv_at hl 1 rfl) (hp_n (n := 126) rfl ?_)
                    refine lv_iconst (v := 2) hx hb dX10_treeMark_126 (by decide) (hp_n (n := 127) rfl ?_)
                    refine lv_irem hx hb dX10_treeMark_127 (by decide) (hp_n (n := 128) rfl (lv_topi (fun x_15 ex_15 => ?_)))
                    try have qx_15 : x_15.toInt = v4_h_6.toInt % 2 := by rw [ex_15]; exact ii_rem (y := 2) (by omega) (by decide)
                    refine lv_iconst (v := 1) hx hb dX10_treeMark_128 (by decide) (hp_n (n := 129) rfl ?_)
                    refine lv_icmp_ne (tgt := 148) hx hb dX10_treeMark_129 (by decide) (fun c_16 => ?_) (fun c_16 => hp_n (n := 132) rfl ?_)
                    ·
                      have jc_16 := il_ne c_16
                      refine lv_iload hx hb dX10_treeMark_148 (lv_at hl 1 rfl) (hp_n (n := 150) rfl ?_)
                      refine lv_iload hx hb dX10_treeMark_150 (lv_at hl 3 rfl) (hp_n (n := 152) rfl ?_)
                      refine lv_isub hx hb dX10_treeMark_152 (hp_n (n := 153) rfl (lv_topi (fun x_17 ex_17 => ?_)))
                      try have qx_17 : x_17.toInt = v4_h_6.toInt - x_12.toInt := by have b0 := ib_hi v4_h_6; have c0 := ib_lo v4_h_6; have b1 := ib_hi v7_h_13; have c1 := ib_lo v7_h_13; have b2 := ib_hi x_12; have c2 := ib_lo x_12; rw [ex_17]; exact ii_sub (by omega) (by omega)
                      refine lv_istore (lv' := [(4, .int x_17), (0, .ref a0), (5, .int v5_h_6), (6, .int x_12), (7, .int v7_h_13)]) hx hb dX10_treeMark_153 hl (by decide) rfl (fun ls hl => hp_n (n := 155) rfl ?_)
                      obtain ⟨x_18, ex_18⟩ : ∃ y : Int32, y = v5_h_6 + 1 := ⟨_, rfl⟩
                      try have qx_18 : x_18.toInt = v5_h_6.toInt + (1 : Int32).toInt := by have b0 := ib_hi v5_h_6; have c0 := ib_lo v5_h_6; rw [ex_18]; exact ii_add (by omega) (by omega)
                      refine lv_iinc (v := x_18) (lv' := [(5, .int x_18), (4, .int x_17), (0, .ref a0), (6, .int x_12), (7, .int v7_h_13)]) hx hb dX10_treeMark_155 hl (k := 2) rfl (by rw [ex_18]; rfl) (by decide) rfl (fun ls hl => hp_n (n := 158) rfl ?_)
                      refine lv_goto (tgt := 55) hx hb dX10_treeMark_158 (by decide) ?_
                      exact ih55 _ (by have qa := ib_hi v5_h_6; have qb := ib_lo v5_h_6; have qc : (v5_h_6 + 1).toInt = v5_h_6.toInt + (1 : Int32).toInt := ii_add (by omega) (by omega); rw [ex_18]; omega) αh_13 Hh_13 Lh_13 Bh_13 x_17 x_18 (by omega) (by omega) ls (lv_sub hl [2, 1, 0] rfl) rfl
                    ·
                      have jc_16 := il_eq c_16
                      refine lv_aload_n hx hb dX10_treeMark_132 rfl (lv_at hl 0 rfl) (hp_n (n := 133) rfl ?_)
                      refine q_getr (κ := 11) (k := 7) (φ := 557) (pc' := 136) C Bh_13 (cw_k Bh_13.2.2 k0) fl_X10_43 rfl rfl rfl (cw_r Bh_13.2.2 k0 rfl rfl (by decide) (by decide)) dX10_treeMark_133 rfl (fun b_19 eb_19 kb_19 => ?_)
                      refine lv_iload hx hb dX10_treeMark_136 (lv_at hl 3 rfl) (hp_n (n := 138) rfl ?_)
                      refine lv_aload_n hx hb dX10_treeMark_138 rfl (lv_at hl 0 rfl) (hp_n (n := 139) rfl ?_)
                      refine q_gets (κ := 11) (k := 7) (φ := 557) (pc' := 142) C Bh_13 (cw_k Bh_13.2.2 k0) fl_X10_43 rfl rfl rfl eb_19 dX10_treeMark_139 rfl ?_
                      refine lv_iload hx hb dX10_treeMark_142 (lv_at hl 1 rfl) (hp_n (n := 144) rfl ?_)
                      refine lv_iconst (v := 1) hx hb dX10_treeMark_144 (by decide) (hp_n (n := 145) rfl ?_)
                      refine lv_isub hx hb dX10_treeMark_145 (hp_n (n := 146) rfl (lv_topi (fun x_20 ex_20 => ?_)))
                      try have qx_20 : x_20.toInt = v4_h_6.toInt - (1 : Int32).toInt := by have b0 := ib_hi v4_h_6; have c0 := ib_lo v4_h_6; rw [ex_20]; exact ii_sub (by omega) (by omega)
                      refine q_ial (κ := 33) (n := 48) (pc' := 147) C Bh_13 (cw_k Bh_13.2.2 kb_19) (by decide) rfl (vi_of (by omega) (by omega)) dX10_treeMark_146 rfl (lv_topi (fun x_21 ex_21 => ?_))
                      refine q_ias (κ := 33) (n := 48) (pc' := 148) C Bh_13 (cw_k Bh_13.2.2 kb_19) (by decide) rfl (vi_of (by omega) (by omega)) rfl (cw_sE Bh_13.2.2 (by decide)) dX10_treeMark_147 rfl (fun αh_22 Hh_22 Lh_22 eh_22 Bh_22 => ?_)
                      refine lv_iload hx hb dX10_treeMark_148 (lv_at hl 1 rfl) (hp_n (n := 150) rfl ?_)
                      refine lv_iload hx hb dX10_treeMark_150 (lv_at hl 3 rfl) (hp_n (n := 152) rfl ?_)
                      refine lv_isub hx hb dX10_treeMark_152 (hp_n (n := 153) rfl (lv_topi (fun x_23 ex_23 => ?_)))
                      try have qx_23 : x_23.toInt = v4_h_6.toInt - x_12.toInt := by have b0 := ib_hi v4_h_6; have c0 := ib_lo v4_h_6; have b1 := ib_hi v7_h_13; have c1 := ib_lo v7_h_13; have b2 := ib_hi x_12; have c2 := ib_lo x_12; rw [ex_23]; exact ii_sub (by omega) (by omega)
                      refine lv_istore (lv' := [(4, .int x_23), (0, .ref a0), (5, .int v5_h_6), (6, .int x_12), (7, .int v7_h_13)]) hx hb dX10_treeMark_153 hl (by decide) rfl (fun ls hl => hp_n (n := 155) rfl ?_)
                      obtain ⟨x_24, ex_24⟩ : ∃ y : Int32, y = v5_h_6 + 1 := ⟨_, rfl⟩
                      try have qx_24 : x_24.toInt = v5_h_6.toInt + (1 : Int32).toInt := by have b0 := ib_hi v5_h_6; have c0 := ib_lo v5_h_6; rw [ex_24]; exact ii_add (by omega) (by omega)
                      refine lv_iinc (v := x_24) (lv' := [(5, .int x_24), (4, .int x_23), (0, .ref a0), (6, .int x_12), (7, .int v7_h_13)]) hx hb dX10_treeMark_155 hl (k := 2) rfl (by rw [ex_24]; rfl) (by decide) rfl (fun ls hl => hp_n (n := 158) rfl ?_)
                      refine lv_goto (tgt := 55) hx hb dX10_treeMark_158 (by decide) ?_
                      exact ih55 _ (by have qa := ib_hi v5_h_6; have qb := ib_lo v5_h_6; have qc : (v5_h_6 + 1).toInt = v5_h_6.toInt + (1 : Int32).toInt := ii_add (by omega) (by omega); rw [ex_24]; omega) αh_22 Hh_22 Lh_22 Bh_22 x_23 x_24 (by omega) (by omega) ls (lv_sub hl [2, 1, 0] rfl) rfl
                  ·
                    have jc_14 := il_nle c_14
                    refine lv_aload_n hx hb dX10_treeMark_84 rfl (lv_at hl 0 rfl) (hp_n (n := 85) rfl ?_)
                    refine q_getr (κ := 11) (k := 7) (φ := 557) (pc' := 88) C Bh_13 (cw_k Bh_13.2.2 k0) fl_X10_43 rfl rfl rfl (cw_r Bh_13.2.2 k0 rfl rfl (by decide) (by decide)) dX10_treeMark_85 rfl (fun b_25 eb_25 kb_25 => ?_)
                    refine lv_iload hx hb dX10_treeMark_88 (lv_at hl 4 rfl) (hp_n (n := 90) rfl ?_)
                    refine lv_aload_n hx hb dX10_treeMark_90 rfl (lv_at hl 0 rfl) (hp_n (n := 91) rfl ?_)
                    refine q_geti (κ := 11) (k := 0) (φ := 550) (pc' := 94) C Bh_13 (cw_k Bh_13.2.2 k0) fl_X10_10 rfl rfl rfl dX10_treeMark_91 rfl (fun x_26 ex_26 => ?_)
                    refine lv_aload_n hx hb dX10_treeMark_94 rfl (lv_at hl 0 rfl) (hp_n (n := 95) rfl ?_)
                    refine q_gets (κ := 11) (k := 7) (φ := 557) (pc' := 98) C Bh_13 (cw_k Bh_13.2.2 k0) fl_X10_43 rfl rfl rfl eb_25 dX10_treeMark_95 rfl ?_
                    refine lv_iconst (v := 2) hx hb dX10_treeMark_98 (by decide) (hp_n (n := 99) rfl ?_)
                    refine lv_iload hx hb dX10_treeMark_99 (lv_at hl 4 rfl) (hp_n (n := 101) rfl ?_)
                    refine lv_imul hx hb dX10_treeMark_101 (hp_n (n := 102) rfl (lv_topi (fun x_27 ex_27 => ?_)))
                    try have qx_27 : x_27.toInt = 2 * v7_h_13.toInt := by rw [ex_27, ii_mul (by rw [lit2]; omega) (by rw [lit2]; omega), lit2]
                    refine q_ial (κ := 33) (n := 48) (pc' := 103) C Bh_13 (cw_k Bh_13.2.2 kb_25) (by decide) rfl (vi_of (by omega) (by omega)) dX10_treeMark_102 rfl (lv_topi (fun x_28 ex_28 => ?_))
                    refine lv_aload_n hx hb dX10_treeMark_103 rfl (lv_at hl 0 rfl) (hp_n (n := 104) rfl ?_)
                    refine q_gets (κ := 11) (k := 7) (φ := 557) (pc' := 107) C Bh_13 (cw_k Bh_13.2.2 k0) fl_X10_43 rfl rfl rfl eb_25 dX10_treeMark_104 rfl ?_
                    refine lv_iconst (v := 2) hx hb dX10_treeMark_107 (by decide) (hp_n (n := 108) rfl ?_)
                    refine lv_iload hx hb dX10_treeMark_108 (lv_at hl 4 rfl) (hp_n (n := 110) rfl ?_)
                    refine lv_imul hx hb dX10_treeMark_110 (hp_n (n := 111) rfl (lv_topi (fun x_29 ex_29 => ?_)))
                    try have qx_29 : x_29.toInt = 2 * v7_h_13.toInt := by rw [ex_29, ii_mul (by rw [lit2]; omega) (by rw [lit2]; omega), lit2]
                    refine lv_iconst (v := 1) hx hb dX10_treeMark_111 (by decide) (hp_n (n := 112) rfl ?_)
                    refine lv_iadd hx hb dX10_treeMark_112 (hp_n (n := 113) rfl (lv_topi (fun x_30 ex_30 => ?_)))
                    try have qx_30 : x_30.toInt = x_29.toInt + (1 : Int32).toInt := by have b0 := ib_hi x_29; have c0 := ib_lo x_29; rw [ex_30]; exact ii_add (by omega) (by omega)
                    refine q_ial (κ := 33) (n := 48) (pc' := 114) C Bh_13 (cw_k Bh_13.2.2 kb_25) (by decide) rfl (vi_of (by omega) (by omega)) dX10_treeMark_113 rfl (lv_topi (fun x_31 ex_31 => ?_))
                    refine q_ci (pc' := 117) Bh_13 (hp_runS (As := [.int x_26, .int x_28, .int x_31]) (rest := [.int v7_h_13, .ref b_25]) C Bh_13 (t_X11_markOfTwo Γ l αh_13 Bh_13.2.2.1 x_26 x_28 x_31) lb_X11_markOfTwo ls_X11_markOfTwo lk_X10_92 rfl (by decide) rfl hl.1 rfl (Nat.le_of_ble_eq_true rfl) dX10_treeMark_114 ⟨Nat.le_refl _, Nat.le_refl _⟩) (fun _ _ h => by rw [h]; exact Bh_13.2.2) rfl (fun rh_32 αh_32 Hh_32 Lh_32 ph_32 Bh_32 => ?_)
                    rw [ph_32] at Bh_32
                    refine q_ias (κ := 33) (n := 48) (pc' := 118) C Bh_32 (cw_k Bh_32.2.2 kb_25) (by decide) rfl (vi_of (by omega) (by omega)) rfl (cw_sE Bh_32.2.2 (by decide)) dX10_treeMark_117 rfl (fun αh_33 Hh_33 Lh_33 eh_33 Bh_33 => ?_)
                    obtain ⟨x_34, ex_34⟩ : ∃ y : Int32, y = v7_h_13 + 1 := ⟨_, rfl⟩
                    try have qx_34 : x_34.toInt = v7_h_13.toInt + (1 : Int32).toInt := by have b0 := ib_hi v7_h_13; have c0 := ib_lo v7_h_13; have b1 := ib_hi x_12; have c1 := ib_lo x_12; rw [ex_34]; exact ii_add (by omega) (by omega)
                    refine lv_iinc (v := x_34) (lv' := [(7, .int x_34), (0, .ref a0), (4, .int v4_h_6), (5, .int v5_h_6), (6, .int x_12)]) hx hb dX10_treeMark_118 hl (k := 4) rfl (by rw [ex_34]; rfl) (by decide) rfl (fun ls hl => hp_n (n := 121) rfl ?_)
                    refine lv_goto (tgt := 77) hx hb dX10_treeMark_121 (by decide) ?_
                    exact ih77 _ (by have q0 := ib_hi x_12; have q1 := ib_lo x_12; have qa := ib_hi v7_h_13; have qb := ib_lo v7_h_13; have qc : (v7_h_13 + 1).toInt = v7_h_13.toInt + (1 : Int32).toInt := ii_add (by omega) (by omega); rw [ex_34]; omega) αh_33 Hh_33 Lh_33 Bh_33 x_34 (by omega) (by omega) (by omega) (by omega) ls (lv_sub hl [1, 2, 3, 4, 0] rfl) rfl
                refine lv_istore (lv' := [(7, .int 0), (6, .int x_12), (0, .ref a0), (4, .int v4_h_6), (5, .int v5_h_6)]) hx hb dX10_treeMark_75 hl (by decide) rfl (fun ls hl => hp_n (n := 77) rfl ?_)
                exact J77 _ αh_6 Hh_6 Lh_6 Bh_6 0 (by omega) (by omega) (by omega) (by omega) ls (lv_sub hl [2, 3, 4, 1, 0] rfl) rfl
          refine lv_istore (lv' := [(5, .int 0), (0, .ref a0), (1, .ref a1), (2, .int a2), (4, .int rh_3)]) hx hb dX10_treeMark_53 hl (by decide) rfl (fun ls hl => hp_n (n := 55) rfl ?_)
          exact J55 _ αh_4 Hh_4 Lh_4 Bh_4 rh_3 0 (by omega) (by omega) ls (lv_sub hl [1, 4, 0] rfl) rfl
        ·
          have jc_5 := il_nle c_5
          refine lv_aload_n hx hb dX10_treeMark_31 rfl (lv_at hl 0 rfl) (hp_n (n := 32) rfl ?_)
          refine q_getr (κ := 11) (k := 7) (φ := 557) (pc' := 35) C Bh_4 (cw_k Bh_4.2.2 k0) fl_X10_43 rfl rfl rfl (cw_r Bh_4.2.2 k0 rfl rfl (by decide) (by decide)) dX10_treeMark_32 rfl (fun b_35 eb_35 kb_35 => ?_)
          refine lv_iload hx hb dX10_treeMark_35 (lv_at hl 4 rfl) (hp_n (n := 37) rfl ?_)
          refine lv_aload_n hx hb dX10_treeMark_37 rfl (lv_at hl 1 rfl) (hp_n (n := 38) rfl ?_)
          refine lv_iload_n hx hb dX10_treeMark_38 rfl (lv_at hl 2 rfl) (hp_n (n := 39) rfl ?_)
          refine lv_iload hx hb dX10_treeMark_39 (lv_at hl 4 rfl) (hp_n (n := 41) rfl ?_)
          refine lv_iadd hx hb dX10_treeMark_41 (hp_n (n := 42) rfl (lv_topi (fun x_36 ex_36 => ?_)))
          try have qx_36 : x_36.toInt = a2.toInt + v5_h_4.toInt := by have b0 := ib_hi a2; have c0 := ib_lo a2; have b1 := ib_hi rh_3; have c1 := ib_lo rh_3; have b2 := ib_hi v5_h_4; have c2 := ib_lo v5_h_4; rw [ex_36]; exact ii_add (by omega) (by omega)
          refine q_ci (pc' := 45) Bh_4 (hp_runV (As := [.int x_36]) (rest := [.int v5_h_4, .ref b_35]) C Bh_4 (t_X2_markAt Γ l αh_4 Bh_4.2.2.1 a1 (cw_k Bh_4.2.2 ka1) x_36) lb_X2_markAt lv_X2_markAt lk_X10_88 (cw_k Bh_4.2.2 ka1) rfl (by decide) rfl hl.1 rfl (Nat.le_of_ble_eq_true rfl) dX10_treeMark_42 ⟨Nat.le_refl _, Nat.le_refl _⟩) (fun _ _ h => by rw [h]; exact Bh_4.2.2) rfl (fun rh_37 αh_37 Hh_37 Lh_37 ph_37 Bh_37 => ?_)
          rw [ph_37] at Bh_37
          refine q_ias (κ := 33) (n := 48) (pc' := 46) C Bh_37 (cw_k Bh_37.2.2 kb_35) (by decide) rfl (vi_of (by omega) (by omega)) rfl (cw_sE Bh_37.2.2 (by decide)) dX10_treeMark_45 rfl (fun αh_38 Hh_38 Lh_38 eh_38 Bh_38 => ?_)
          obtain ⟨x_39, ex_39⟩ : ∃ y : Int32, y = v5_h_4 + 1 := ⟨_, rfl⟩
          try have qx_39 : x_39.toInt = v5_h_4.toInt + (1 : Int32).toInt := by have b0 := ib_hi rh_3; have c0 := ib_lo rh_3; have b1 := ib_hi v5_h_4; have c1 := ib_lo v5_h_4; rw [ex_39]; exact ii_add (by omega) (by omega)
          refine lv_iinc (v := x_39) (lv' := [(5, .int x_39), (0, .ref a0), (1, .ref a1), (2, .int a2), (4, .int rh_3)]) hx hb dX10_treeMark_46 hl (k := 4) rfl (by rw [ex_39]; rfl) (by decide) rfl (fun ls hl => hp_n (n := 49) rfl ?_)
          refine lv_goto (tgt := 24) hx hb dX10_treeMark_49 (by decide) ?_
          exact ih24 _ (by have q0 := ib_hi rh_3; have q1 := ib_lo rh_3; have qa := ib_hi v5_h_4; have qb := ib_lo v5_h_4; have qc : (v5_h_4 + 1).toInt = v5_h_4.toInt + (1 : Int32).toInt := ii_add (by omega) (by omega); rw [ex_39]; omega) αh_38 Hh_38 Lh_38 Bh_38 x_39 (by omega) (by omega) ls (lv_sub hl [1, 2, 3, 4, 0] rfl) rfl
      refine lv_istore (lv' := [(5, .int 0), (4, .int rh_3), (0, .ref a0), (1, .ref a1), (2, .int a2), (3, .int a3)]) hx hb dX10_treeMark_22 hl (by decide) rfl (fun ls hl => hp_n (n := 24) rfl ?_)
      exact J24 _ α Hh_3 Lh_3 Bh_3 0 (by omega) (by omega) ls (lv_sub hl [2, 3, 4, 1, 0] rfl) rfl
    ·
      have jc_1 := il_nlt c_1
      refine lv_iconst (v := 0) hx hb dX10_treeMark_8 (by decide) (hp_n (n := 9) rfl ?_)
      exact q_iret C B hr hlk B.2.2 dX10_treeMark_9
abbrev w_X10_peaksOf : cw_W := ([301], [], [20, 33], [])
abbrev w_X10_headOf : cw_W := ([], [], [33], [])
set_option maxRecDepth 100000 in
set_option maxHeartbeats 4000000 in
theorem t_X10_headOf (Γ : hp_G) (l : Launch) (α : hp_T) (g : GC α) (a0 : Nat) (k0 : hp_K α a0 = 11) (o1 : Option Nat) (k1 : ∀ b, o1 = some b → hp_K α b = 3) (a2 : Int32) : Met l yX10_headOf (hp_ws yX10_headOf cX10_headOf 3 (some .int)) (hp_rm 2 0 0) (hp_Pc Γ α [.ref a0, va_rf o1, .int a2]) (hp_Qi Γ (fun r β => cw w_X10_headOf α β)) 0 0 (hp_A Γ) := by
  refine hp_start (by decide) ?_
  intro p e s m below meth c C hr hlk B0 hnm
  have C : hp_C Γ p m c cX10_headOf 3 s ([.ref a0, va_rf o1, .int a2] : List Value).toArray RX10 := C
  have hx := C.1.1
  have hb := C.1.2.1
  have hown := C.1.2.2.2.1
  have hts := C.1.2.2.2.2
  have B : hp_B Γ (cw w_X10_headOf) s α α s.heap [] := ⟨B0.1, B0.2.1, cw_rf g⟩
  have lit0 : (0 : Int32).toInt = 0 := by decide
  rcases o1 with _ | a1
  ·
    have hl := lv_entry ([.ref a0, .null, .int a2]) (n := 3) (Nat.le_of_ble_eq_true rfl)
    show W p l e (hp_rm 2 0 0) s m ([.ref a0, .null, .int a2] : List Value).toArray below meth c s.heap [] 0 0 (MQ below (hp_Qi Γ (fun r β => cw w_X10_headOf α β)) ([.ref a0, .null, .int a2] : List Value).toArray s 0 0 (hp_A Γ)) (entryFrame m ([.ref a0, .null, .int a2] : List Value).toArray 3)
    rw [lg_entry_eq]
    generalize (lg_sl ([.ref a0, .null, .int a2]) ++ List.replicate (3 - (lg_sl ([.ref a0, .null, .int a2])).length) Slot.unset).toArray = ls at hl ⊢
    have hl : lv_has ls 3 [(0, .ref a0), (1, .null), (2, .int a2)] := hl
    refine lv_aload_n hx hb dX10_headOf_0 rfl (lv_at hl 0 rfl) (hp_n (n := 1) rfl ?_)
    refine lv_aload_nN hx hb dX10_headOf_1 rfl (lv_at hl 1 rfl) (hp_n (n := 2) rfl ?_)
    refine lv_iconst (v := 0) hx hb dX10_headOf_2 (by decide) (hp_n (n := 3) rfl ?_)
    refine lv_iload_n hx hb dX10_headOf_3 rfl (lv_at hl 2 rfl) (hp_n (n := 4) rfl ?_)
    refine q_ci (pc' := 7) B (hp_runV (As := [va_rf none, .int 0, .int a2]) (rest := []) C B (t_X10_treeMark Γ l α B.2.2.1 a0 (cw_k B.2.2 k0) none (fun b h => by cases h) 0 a2) lb_X10_treeMark lv_X10_treeMark lk_X10_100 (cw_k B.2.2 k0) rfl (by decide) rfl hl.1 rfl (Nat.le_of_ble_eq_true rfl) dX10_headOf_4 ⟨Nat.le_refl _, Nat.le_refl _⟩) (fun _ _ h => cw_tr B.2.2 h (by decide)) rfl (fun rh_1 αh_1 Hh_1 Lh_1 ph_1 Bh_1 => ?_)
    exact q_iret C Bh_1 hr hlk Bh_1.2.2 dX10_headOf_7
  ·
    have ka1 := k1 a1 rfl
    have hl := lv_entry ([.ref a0, .ref a1, .int a2]) (n := 3) (Nat.le_of_ble_eq_true rfl)
    show W p l e (hp_rm 2 0 0) s m ([.ref a0, .ref a1, .int a2] : List Value).toArray below meth c s.heap [] 0 0 (MQ below (hp_Qi Γ (fun r β => cw w_X10_headOf α β)) ([.ref a0, .ref a1, .int a2] : List Value).toArray s 0 0 (hp_A Γ)) (entryFrame m ([.ref a0, .ref a1, .int a2] : List Value).toArray 3)
    rw [lg_entry_eq]
    generalize (lg_sl ([.ref a0, .ref a1, .int a2]) ++ List.replicate (3 - (lg_sl ([.ref a0, .ref a1, .int a2])).length) Slot.unset).toArray = ls at hl ⊢
    have hl : lv_has ls 3 [(0, .ref a0), (1, .ref a1), (2, .int a2)] := hl
    refine lv_aload_n hx hb dX10_headOf_0 rfl (lv_at hl 0 rfl) (hp_n (n := 1) rfl ?_)
    refine lv_aload_n hx hb dX10_headOf_1 rfl (lv_at hl 1 rfl) (hp_n (n := 2) rfl ?_)
    refine lv_iconst (v := 0) hx hb dX10_headOf_2 (by decide) (hp_n (n := 3) rfl ?_)
    refine lv_iload_n hx hb dX10_headOf_3 rfl (lv_at hl 2 rfl) (hp_n (n := 4) rfl ?_)
    refine q_ci (pc' := 7) B (hp_runV (As := [va_rf (some a1), .int 0, .int a2]) (rest := []) C B (t_X10_treeMark Γ l α B.2.2.1 a0 (cw_k B.2.2 k0) (some a1) (fun b h => by cases h; exact (cw_k B.2.2 ka1)) 0 a2) lb_X10_treeMark lv_X10_treeMark lk_X10_100 (cw_k B.2.2 k0) rfl (by decide) rfl hl.1 rfl (Nat.le_of_ble_eq_true rfl) dX10_headOf_4 ⟨Nat.le_refl _, Nat.le_refl _⟩) (fun _ _ h => cw_tr B.2.2 h (by decide)) rfl (fun rh_2 αh_2 Hh_2 Lh_2 ph_2 Bh_2 => ?_)
    exact q_iret C Bh_2 hr hlk Bh_2.2.2 dX10_headOf_7
abbrev w_X10_hasHead : cw_W := ([], [], [33], [])
set_option maxRecDepth 100000 in
set_option maxHeartbeats 4000000 in
theorem t_X10_hasHead (Γ : hp_G) (l : Launch) (α : hp_T) (g : GC α) (a0 : Nat) (k0 : hp_K α a0 = 11) (o1 : Option Nat) (k1 : ∀ b, o1 = some b → hp_K α b = 3) (a2 : Int32) (a3 : Int32) : Met l yX10_hasHead (hp_ws yX10_hasHead cX10_hasHead 4 (some .boolean)) (hp_rm 3 0 0) (hp_Pc Γ α [.ref a0, va_rf o1, .int a2, .int a3]) (hp_Qi Γ (fun r β => cw w_X10_hasHead α β ∧ (r = 0 ∨ r = 1))) 0 0 (hp_A Γ) := by
  refine hp_start (by decide) ?_
  intro p e s m below meth c C hr hlk B0 hnm
  have C : hp_C Γ p m c cX10_hasHead 4 s ([.ref a0, va_rf o1, .int a2, .int a3] : List Value).toArray RX10 := C
  have hx := C.1.1
  have hb := C.1.2.1
  have hown := C.1.2.2.2.1
  have hts := C.1.2.2.2.2
  have B : hp_B Γ (cw w_X10_hasHead) s α α s.heap [] := ⟨B0.1, B0.2.1, cw_rf g⟩
  have lit0 : (0 : Int32).toInt = 0 := by decide
  have lit1 : (1 : Int32).toInt = 1 := by decide
  rcases o1 with _ | a1
  ·
    have hl := lv_entry ([.ref a0, .null, .int a2, .int a3]) (n := 4) (Nat.le_of_ble_eq_true rfl)
    show W p l e (hp_rm 3 0 0) s m ([.ref a0, .null, .int a2, .int a3] : List Value).toArray below meth c s.heap [] 0 0 (MQ below (hp_Qi Γ (fun r β => cw w_X10_hasHead α β ∧ (r = 0 ∨ r = 1))) ([.ref a0, .null, .int a2, .int a3] : List Value).toArray s 0 0 (hp_A Γ)) (entryFrame m ([.ref a0, .null, .int a2, .int a3] : List Value).toArray 4)
    rw [lg_entry_eq]
    generalize (lg_sl ([.ref a0, .null, .int a2, .int a3]) ++ List.replicate (4 - (lg_sl ([.ref a0, .null, .int a2, .int a3])).length) Slot.unset).toArray = ls at hl ⊢
    have hl : lv_has ls 4 [(0, .ref a0), (1, .null), (2, .int a2), (3, .int a3)] := hl
    refine lv_aload_nN hx hb dX10_hasHead_0 rfl (lv_at hl 1 rfl) (hp_n (n := 1) rfl ?_)
    refine lv_ifnullN (tgt := 26) hx hb dX10_hasHead_1 (by decide) ?_
    refine lv_iconst (v := 0) hx hb dX10_hasHead_26 (by decide) (hp_n (n := 27) rfl ?_)
    exact q_zret C B hr hlk (by decide) ⟨B.2.2, (Or.inl rfl)⟩ dX10_hasHead_27
  ·
    have ka1 := k1 a1 rfl
    have hl := lv_entry ([.ref a0, .ref a1, .int a2, .int a3]) (n := 4) (Nat.le_of_ble_eq_true rfl)
    show W p l e (hp_rm 3 0 0) s m ([.ref a0, .ref a1, .int a2, .int a3] : List Value).toArray below meth c s.heap [] 0 0 (MQ below (hp_Qi Γ (fun r β => cw w_X10_hasHead α β ∧ (r = 0 ∨ r = 1))) ([.ref a0, .ref a1, .int a2, .int a3] : List Value).toArray s 0 0 (hp_A Γ)) (entryFrame m ([.ref a0, .ref a1, .int a2, .int a3] : List Value).toArray 4)
    rw [lg_entry_eq]
    generalize (lg_sl ([.ref a0, .ref a1, .int a2, .int a3]) ++ List.replicate (4 - (lg_sl ([.ref a0, .ref a1, .int a2, .int a3])).length) Slot.unset).toArray = ls at hl ⊢
    have hl : lv_has ls 4 [(0, .ref a0), (1, .ref a1), (2, .int a2), (3, .int a3)] := hl
    refine lv_aload_n hx hb dX10_hasHead_0 rfl (lv_at hl 1 rfl) (hp_n (n := 1) rfl ?_)
    refine lv_ifnull hx hb dX10_hasHead_1 (hp_n (n := 4) rfl ?_)
    refine lv_iload_n hx hb dX10_hasHead_4 rfl (lv_at hl 2 rfl) (hp_n (n := 5) rfl ?_)
    refine lv_aload_n hx hb dX10_hasHead_5 rfl (lv_at hl 1 rfl) (hp_n (n := 6) rfl ?_)
    refine q_geti (κ := 3) (k := 2) (φ := 152) (pc' := 9) C B (cw_k B.2.2 ka1) fl_X10_68 rfl rfl rfl dX10_hasHead_6 rfl (fun x_1 ex_1 => ?_)
    refine lv_icmp_gt (tgt := 26) hx hb dX10_hasHead_9 (by decide) (fun c_2 => ?_) (fun c_2 => hp_n (n := 12) rfl ?_)
    ·
      have jc_2 := il_lt c_2
      refine lv_iconst (v := 0) hx hb dX10_hasHead_26 (by decide) (hp_n (n := 27) rfl ?_)
      exact q_zret C B hr hlk (by decide) ⟨B.2.2, (Or.inl rfl)⟩ dX10_hasHead_27
    ·
      have jc_2 := il_nlt c_2
      refine lv_aload_n hx hb dX10_hasHead_12 rfl (lv_at hl 0 rfl) (hp_n (n := 13) rfl ?_)
      refine lv_aload_n hx hb dX10_hasHead_13 rfl (lv_at hl 1 rfl) (hp_n (n := 14) rfl ?_)
      refine lv_iload_n hx hb dX10_hasHead_14 rfl (lv_at hl 2 rfl) (hp_n (n := 15) rfl ?_)
      refine q_ci (pc' := 18) B (hp_runV (As := [va_rf (some a1), .int a2]) (rest := []) C B (t_X10_headOf Γ l α B.2.2.1 a0 (cw_k B.2.2 k0) (some a1) (fun b h => by cases h; exact (cw_k B.2.2 ka1)) a2) lb_X10_headOf lv_X10_headOf lk_X10_107 (cw_k B.2.2 k0) rfl (by decide) rfl hl.1 rfl (Nat.le_of_ble_eq_true rfl) dX10_hasHead_15 ⟨Nat.le_refl _, Nat.le_refl _⟩) (fun _ _ h => cw_tr B.2.2 h (by decide)) rfl (fun rh_3 αh_3 Hh_3 Lh_3 ph_3 Bh_3 => ?_)
      refine lv_iload_n hx hb dX10_hasHead_18 rfl (lv_at hl 3 rfl) (hp_n (n := 19) rfl ?_)
      refine lv_icmp_ne (tgt := 26) hx hb dX10_hasHead_19 (by decide) (fun c_4 => ?_) (fun c_4 => hp_n (n := 22) rfl ?_)
      ·
        have jc_4 := il_ne c_4
        refine lv_iconst (v := 0) hx hb dX10_hasHead_26 (by decide) (hp_n (n := 27) rfl ?_)
        exact q_zret C Bh_3 hr hlk (by decide) ⟨Bh_3.2.2, (Or.inl rfl)⟩ dX10_hasHead_27
      ·
        have jc_4 := il_eq c_4
        refine lv_iconst (v := 1) hx hb dX10_hasHead_22 (by decide) (hp_n (n := 23) rfl ?_)
        refine lv_goto (tgt := 27) hx hb dX10_hasHead_23 (by decide) ?_
        exact q_zret C Bh_3 hr hlk (by decide) ⟨Bh_3.2.2, (Or.inr rfl)⟩ dX10_hasHead_27
abbrev w_X10_marksAlong : cw_W := ([301], [], [20, 33], [])
abbrev w_X10_addWord : cw_W := ([152, 501, 556], [], [27, 29], [])
abbrev w_X10_forkLog : cw_W := ([152, 501, 552, 556], [], [27, 29], [])
abbrev w_X10_freezeHead : cw_W := ([100, 101, 102, 103, 301, 554, 556], [], [20, 33], [])
abbrev w_X10_spoilLetter : cw_W := ([556], [], [27, 29], [])
abbrev w_X10_whyGrown : cw_W := ([301, 453, 454], [], [20, 21, 22, 23, 33], [])
abbrev w_X10_showTo : cw_W := ([301, 400, 401, 402, 403, 453, 454, 556], [], [20, 21, 22, 23, 33], [])
abbrev w_X10_meetBy : cw_W := ([301, 400, 401, 403, 453, 454, 556], [], [20, 21, 22, 23, 33], [])
abbrev w_X10_doAgree : cw_W := ([], [], [33], [])
set_option maxRecDepth 100000 in
set_option maxHeartbeats 4000000 in
theorem t_X10_doAgree (Γ : hp_G) (l : Launch) (α : hp_T) (g : GC α) (a0 : Nat) (k0 : hp_K α a0 = 11) (o1 : Option Nat) (k1 : ∀ b, o1 = some b → hp_K α b = 8) (o2 : Option Nat) (k2 : ∀ b, o2 = some b → hp_K α b = 8) : Met l yX10_doAgree (hp_ws yX10_doAgree cX10_doAgree 5 (some .boolean)) (hp_rm 4 0 0) (hp_Pc Γ α [.ref a0, va_rf o1, va_rf o2]) (hp_Qi Γ (fun r β => cw w_X10_doAgree α β ∧ (r = 0 ∨ r = 1))) 0 0 (hp_A Γ) := by
  refine hp_start (by decide) ?_
  intro p e s m below meth c C hr hlk B0 hnm
  have C : hp_C Γ p m c cX10_doAgree 5 s ([.ref a0, va_rf o1, va_rf o2] : List Value).toArray RX10 := C
  have hx := C.1.1
  have hb := C.1.2.1
  have hown := C.1.2.2.2.1
  have hts := C.1.2.2.2.2
  have B : hp_B Γ (cw w_X10_doAgree) s α α s.heap [] := ⟨B0.1, B0.2.1, cw_rf g⟩
  have lit0 : (0 : Int32).toInt = 0 := by decide
  have lit1 : (1 : Int32).toInt = 1 := by decide
  rcases o1 with _ | a1
  ·
    rcases o2 with _ | a2
    ·
      have hl := lv_entry ([.ref a0, .null, .null]) (n := 5) (Nat.le_of_ble_eq_true rfl)
      show W p l e (hp_rm 4 0 0) s m ([.ref a0, .null, .null] : List Value).toArray below meth c s.heap [] 0 0 (MQ below (hp_Qi Γ (fun r β => cw w_X10_doAgree α β ∧ (r = 0 ∨ r = 1))) ([.ref a0, .null, .null] : List Value).toArray s 0 0 (hp_A Γ)) (entryFrame m ([.ref a0, .null, .null] : List Value).toArray 5)
      rw [lg_entry_eq]
      generalize (lg_sl ([.ref a0, .null, .null]) ++ List.replicate (5 - (lg_sl ([.ref a0, .null, .null])).length) Slot.unset).toArray = ls at hl ⊢
      have hl : lv_has ls 5 [(0, .ref a0), (1, .null), (2, .null)] := hl
      refine lv_aload_nN hx hb dX10_doAgree_0 rfl (lv_at hl 1 rfl) (hp_n (n := 1) rfl ?_)
      refine lv_ifnullN (tgt := 8) hx hb dX10_doAgree_1 (by decide) ?_
      refine lv_iconst (v := 0) hx hb dX10_doAgree_8 (by decide) (hp_n (n := 9) rfl ?_)
      exact q_zret C B hr hlk (by decide) ⟨B.2.2, (Or.inl rfl)⟩ dX10_doAgree_9
    ·
      have ka2 := k2 a2 rfl
      have hl := lv_entry ([.ref a0, .null, .ref a2]) (n := 5) (Nat.le_of_ble_eq_true rfl)
      show W p l e (hp_rm 4 0 0) s m ([.ref a0, .null, .ref a2] : List Value).toArray below meth c s.heap [] 0 0 (MQ below (hp_Qi Γ (fun r β => cw w_X10_doAgree α β ∧ (r = 0 ∨ r = 1))) ([.ref a0, .null, .ref a2] : List Value).toArray s 0 0 (hp_A Γ)) (entryFrame m ([.ref a0, .null, .ref a2] : List Value).toArray 5)
      rw [lg_entry_eq]
      generalize (lg_sl ([.ref a0, .null, .ref a2]) ++ List.replicate (5 - (lg_sl ([.ref a0, .null, .ref a2])).length) Slot.unset).toArray = ls at hl ⊢
      have hl : lv_has ls 5 [(0, .ref a0), (1, .null), (2, .ref a2)] := hl
      refine lv_aload_nN hx hb dX10_doAgree_0 rfl (lv_at hl 1 rfl) (hp_n (n := 1) rfl ?_)
      refine lv_ifnullN (tgt := 8) hx hb dX10_doAgree_1 (by decide) ?_
      refine lv_iconst (v := 0) hx hb dX10_doAgree_8 (by decide) (hp_n (n := 9) rfl ?_)
      exact q_zret C B hr hlk (by decide) ⟨B.2.2, (Or.inl rfl)⟩ dX10_doAgree_9
  ·
    have ka1 := k1 a1 rfl
    rcases o2 with _ | a2
    ·
      have hl := lv_entry ([.ref a0, .ref a1, .null]) (n := 5) (Nat.le_of_ble_eq_true rfl)
      show W p l e (hp_rm 4 0 0) s m ([.ref a0, .ref a1, .null] : List Value).toArray below meth c s.heap [] 0 0 (MQ below (hp_Qi Γ (fun r β => cw w_X10_doAgree α β ∧ (r = 0 ∨ r = 1))) ([.ref a0, .ref a1, .null] : List Value).toArray s 0 0 (hp_A Γ)) (entryFrame m ([.ref a0, .ref a1, .null] : List Value).toArray 5)
      rw [lg_entry_eq]
      generalize (lg_sl ([.ref a0, .ref a1, .null]) ++ List.replicate (5 - (lg_sl ([.ref a0, .ref a1, .null])).length) Slot.unset).toArray = ls at hl ⊢
      have hl : lv_has ls 5 [(0, .ref a0), (1, .ref a1), (2, .null)] := hl
      refine lv_aload_n hx hb dX10_doAgree_0 rfl (lv_at hl 1 rfl) (hp_n (n := 1) rfl ?_)
      refine lv_ifnull hx hb dX10_doAgree_1 (hp_n (n := 4) rfl ?_)
      refine lv_aload_nN hx hb dX10_doAgree_4 rfl (lv_at hl 2 rfl) (hp_n (n := 5) rfl ?_)
      refine lv_ifnonnullN hx hb dX10_doAgree_5 (hp_n (n := 8) rfl ?_)
      refine lv_iconst (v := 0) hx hb dX10_doAgree_8 (by decide) (hp_n (n := 9) rfl ?_)
      exact q_zret C B hr hlk (by decide) ⟨B.2.2, (Or.inl rfl)⟩ dX10_doAgree_9
    ·
      have ka2 := k2 a2 rfl
      have hl := lv_entry ([.ref a0, .ref a1, .ref a2]) (n := 5) (Nat.le_of_ble_eq_true rfl)
      show W p l e (hp_rm 4 0 0) s m ([.ref a0, .ref a1, .ref a2] : List Value).toArray below meth c s.heap [] 0 0 (MQ below (hp_Qi Γ (fun r β => cw w_X10_doAgree α β ∧ (r = 0 ∨ r = 1))) ([.ref a0, .ref a1, .ref a2] : List Value).toArray s 0 0 (hp_A Γ)) (entryFrame m ([.ref a0, .ref a1, .ref a2] : List Value).toArray 5)
      rw [lg_entry_eq]
      generalize (lg_sl ([.ref a0, .ref a1, .ref a2]) ++ List.replicate (5 - (lg_sl ([.ref a0, .ref a1, .ref a2])).length) Slot.unset).toArray = ls at hl ⊢
      have hl : lv_has ls 5 [(0, .ref a0), (1, .ref a1), (2, .ref a2)] := hl
      refine lv_aload_n hx hb dX10_doAgree_0 rfl (lv_at hl 1 rfl) (hp_n (n := 1) rfl ?_)
      refine lv_ifnull hx hb dX10_doAgree_1 (hp_n (n := 4) rfl ?_)
      refine lv_aload_n hx hb dX10_doAgree_4 rfl (lv_at hl 2 rfl) (hp_n (n := 5) rfl ?_)
      refine lv_ifnonnull (tgt := 10) hx hb dX10_doAgree_5 (by decide) ?_
      refine lv_iconst (v := 0) hx hb dX10_doAgree_10 (by decide) (hp_n (n := 11) rfl ?_)
      have J12 : ∀ (nq : Nat) (αh_1 : hp_T) (Hh_1 : Heap) (Lh_1 : List Loc) (Bh_1 : hp_B Γ (cw w_X10_doAgree) s α αh_1 Hh_1 Lh_1) (v3_h_1 : Int32) (ih_1_0 : 0 ≤ v3_h_1.toInt) (ls : Array Slot) (hl : lv_has ls 5 [(0, .ref a0), (1, .ref a1), (2, .ref a2), (3, .int v3_h_1)]) (hmu12 : (2147483647 - v3_h_1.toInt).toNat = nq), W p l e (hp_rm 4 0 0) s m ([.ref a0, .ref a1, .ref a2] : List Value).toArray below meth c Hh_1 Lh_1 0 0 (MQ below (hp_Qi Γ (fun r β => cw w_X10_doAgree α β ∧ (r = 0 ∨ r = 1))) ([.ref a0, .ref a1, .ref a2] : List Value).toArray s 0 0 (hp_A Γ)) (F0 m 12 ls []) := by
        intro nq
        induction nq using Nat.strongRecOn with
        | ind nq ih12 =>
        intro αh_1 Hh_1 Lh_1 Bh_1 v3_h_1 ih_1_0 ls hl hmu12
        have inv12_0 := ih_1_0
        refine lv_iload_n hx hb dX10_doAgree_12 rfl (lv_at hl 3 rfl) (hp_n (n := 13) rfl ?_)
        refine lv_aload_n hx hb dX10_doAgree_13 rfl (lv_at hl 0 rfl) (hp_n (n := 14) rfl ?_)
        refine q_geti (κ := 11) (k := 2) (φ := 552) (pc' := 17) C Bh_1 (cw_k Bh_1.2.2 k0) fl_X10_22 rfl rfl rfl dX10_doAgree_14 rfl (fun x_2 ex_2 => ?_)
        refine lv_icmp_ge (tgt := 69) hx hb dX10_doAgree_17 (by decide) (fun c_3 => ?_) (fun c_3 => hp_n (n := 20) rfl ?_)
        ·
          have jc_3 := il_le c_3
          refine lv_iconst (v := 0) hx hb dX10_doAgree_69 (by decide) (hp_n (n := 70) rfl ?_)
          exact q_zret C Bh_1 hr hlk (by decide) ⟨Bh_1.2.2, (Or.inl rfl)⟩ dX10_doAgree_70
        ·
          have jc_3 := il_nle c_3
          refine lv_aload_n hx hb dX10_doAgree_20 rfl (lv_at hl 0 rfl) (hp_n (n := 21) rfl ?_)
          refine lv_iload_n hx hb dX10_doAgree_21 rfl (lv_at hl 3 rfl) (hp_n (n := 22) rfl ?_)
          refine q_cq (pc' := 25) Bh_1 (hp_runV (As := [.int v3_h_1]) (rest := []) C Bh_1 (t_X10_logAt Γ l αh_1 Bh_1.2.2.1 a0 (cw_k Bh_1.2.2 k0) v3_h_1) lb_X10_logAt lv_X10_logAt lk_X10_64 (cw_k Bh_1.2.2 k0) rfl (by decide) rfl hl.1 rfl (Nat.le_of_ble_eq_true rfl) dX10_doAgree_22 ⟨Nat.le_refl _, Nat.le_refl _⟩) (fun _ _ h => by rw [h.1]; exact Bh_1.2.2) rfl (fun rh_4 αh_4 Hh_4 Lh_4 ph_4 Bh_4 => ?_)
          rw [ph_4.1] at Bh_4
          rcases rh_4 with _ | bh_4
          ·
            refine lv_astoreN (lv' := [(4, .null), (0, .ref a0), (1, .ref a1), (2, .ref a2), (3, .int v3_h_1)]) hx hb dX10_doAgree_25 hl (by decide) rfl (fun ls hl => hp_n (n := 27) rfl ?_)
            refine lv_aload_n hx hb dX10_doAgree_27 rfl (lv_at hl 1 rfl) (hp_n (n := 28) rfl ?_)
            refine lv_aloadN hx hb dX10_doAgree_28 (lv_at hl 0 rfl) (hp_n (n := 30) rfl ?_)
            refine lv_aload_n hx hb dX10_doAgree_30 rfl (lv_at hl 2 rfl) (hp_n (n := 31) rfl ?_)
            refine q_geti (κ := 8) (k := 0) (φ := 400) (pc' := 34) C Bh_4 (cw_k Bh_4.2.2 ka1) fl_X10_163 rfl rfl rfl dX10_doAgree_31 rfl (fun x_5 ex_5 => ?_)
            refine lv_aload_n hx hb dX10_doAgree_34 rfl (lv_at hl 2 rfl) (hp_n (n := 35) rfl ?_)
            refine q_geti (κ := 8) (k := 1) (φ := 401) (pc' := 38) C Bh_4 (cw_k Bh_4.2.2 ka1) fl_X10_164 rfl rfl rfl dX10_doAgree_35 rfl (fun x_6 ex_6 => ?_)
            refine q_ci (pc' := 41) Bh_4 (hp_runV (As := [va_rf none, .int x_5, .int x_6]) (rest := []) C Bh_4 (t_X10_hasHead Γ l αh_1 Bh_4.2.2.1 a0 (cw_k Bh_4.2.2 k0) none (fun b h => by cases h) x_5 x_6) lb_X10_hasHead lv_X10_hasHead lk_X10_180 (cw_k Bh_4.2.2 k0) rfl (by decide) rfl hl.1 rfl (Nat.le_of_ble_eq_true rfl) dX10_doAgree_38 ⟨Nat.le_refl _, Nat.le_refl _⟩) (fun _ _ h => cw_tr Bh_4.2.2 h.1 (by decide)) rfl (fun rh_7 αh_7 Hh_7 Lh_7 ph_7 Bh_7 => ?_)
            have zh_7 := ph_7.2
            refine lv_if_eq (tgt := 63) hx hb dX10_doAgree_41 (by decide) (fun c_8 => ?_) (fun c_8 => hp_n (n := 44) rfl ?_)
            ·
              have jc_8 := il_eq c_8
              obtain ⟨x_9, ex_9⟩ : ∃ y : Int32, y = v3_h_1 + 1 := ⟨_, rfl⟩
              have qx_9 : x_9.toInt = v3_h_1.toInt + 1 := by have q0 := ib_hi x_2; have qa := ib_lo v3_h_1; rw [ex_9]; exact ii_add (by omega) (by omega)
              refine lv_iinc (v := x_9) (lv' := [(3, .int x_9), (4, .null), (0, .ref a0), (1, .ref a1), (2, .ref a2)]) hx hb dX10_doAgree_63 hl (k := 4) rfl (by rw [ex_9]; rfl) (by decide) rfl (fun ls hl => hp_n (n := 66) rfl ?_)
              refine lv_goto (tgt := 12) hx hb dX10_doAgree_66 (by decide) ?_
              exact ih12 _ (by have q0 := ib_hi x_2; have q1 := ib_lo x_2; have qa := ib_hi v3_h_1; have qb := ib_lo v3_h_1; have qc : (v3_h_1 + 1).toInt = v3_h_1.toInt + (1 : Int32).toInt := ii_add (by omega) (by omega); rw [ex_9]; omega) αh_7 Hh_7 Lh_7 Bh_7 x_9 (by omega) ls (lv_sub hl [2, 3, 4, 0] rfl) rfl
            ·
              have jc_8 := il_ne c_8
              refine lv_aload_n hx hb dX10_doAgree_44 rfl (lv_at hl 1 rfl) (hp_n (n := 45) rfl ?_)
              refine lv_aloadN hx hb dX10_doAgree_45 (lv_at hl 0 rfl) (hp_n (n := 47) rfl ?_)
              refine lv_aload_n hx hb dX10_doAgree_47 rfl (lv_at hl 3 rfl) (hp_n (n := 48) rfl ?_)
              refine q_geti (κ := 8) (k := 0) (φ := 400) (pc' := 51) C Bh_7 (cw_k Bh_7.2.2 ka2) fl_X10_163 rfl rfl rfl dX10_doAgree_48 rfl (fun x_10 ex_10 => ?_)
              refine lv_aload_n hx hb dX10_doAgree_51 rfl (lv_at hl 3 rfl) (hp_n (n := 52) rfl ?_)
              refine q_geti (κ := 8) (k := 1) (φ := 401) (pc' := 55) C Bh_7 (cw_k Bh_7.2.2 ka2) fl_X10_164 rfl rfl rfl dX10_doAgree_52 rfl (fun x_11 ex_11 => ?_)
              refine q_ci (pc' := 58) Bh_7 (hp_runV (As := [va_rf none, .int x_10, .int x_11]) (rest := []) C Bh_7 (t_X10_hasHead Γ l αh_7 Bh_7.2.2.1 a0 (cw_k Bh_7.2.2 k0) none (fun b h => by cases h) x_10 x_11) lb_X10_hasHead lv_X10_hasHead lk_X10_180 (cw_k Bh_7.2.2 k0) rfl (by decide) rfl hl.1 rfl (Nat.le_of_ble_eq_true rfl) dX10_doAgree_55 ⟨Nat.le_refl _, Nat.le_refl _⟩) (fun _ _ h => cw_tr Bh_7.2.2 h.1 (by decide)) rfl (fun rh_12 αh_12 Hh_12 Lh_12 ph_12 Bh_12 => ?_)
              have zh_12 := ph_12.2
              refine lv_if_eq (tgt := 63) hx hb dX10_doAgree_58 (by decide) (fun c_13 => ?_) (fun c_13 => hp_n (n := 61) rfl ?_)
              ·
                have jc_13 := il_eq c_13
                obtain ⟨x_14, ex_14⟩ : ∃ y : Int32, y = v3_h_1 + 1 := ⟨_, rfl⟩
                have qx_14 : x_14.toInt = v3_h_1.toInt + 1 := by have q0 := ib_hi x_2; have qa := ib_lo v3_h_1; rw [ex_14]; exact ii_add (by omega) (by omega)
                refine lv_iinc (v := x_14) (lv' := [(3, .int x_14), (4, .null), (0, .ref a0), (1, .ref a1), (2, .ref a2)]) hx hb dX10_doAgree_63 hl (k := 4) rfl (by rw [ex_14]; rfl) (by decide) rfl (fun ls hl => hp_n (n := 66) rfl ?_)
                refine lv_goto (tgt := 12) hx hb dX10_doAgree_66 (by decide) ?_
                exact ih12 _ (by have q0 := ib_hi x_2; have q1 := ib_lo x_2; have qa := ib_hi v3_h_1; have qb := ib_lo v3_h_1; have qc : (v3_h_1 + 1).toInt = v3_h_1.toInt + (1 : Int32).toInt := ii_add (by omega) (by omega); rw [ex_14]; omega) αh_12 Hh_12 Lh_12 Bh_12 x_14 (by omega) ls (lv_sub hl [2, 3, 4, 0] rfl) rfl
              ·
                have jc_13 := il_ne c_13
                refine lv_iconst (v := 1) hx hb dX10_doAgree_61 (by decide) (hp_n (n := 62) rfl ?_)
                exact q_zret C Bh_12 hr hlk (by decide) ⟨Bh_12.2.2, (Or.inr rfl)⟩ dX10_doAgree_62
          ·
            have kbh_4 : hp_K α bh_4 = 3 := cw_k' Bh_4.2.2 (ph_4.2 bh_4 rfl)
            refine lv_astore (lv' := [(4, .ref bh_4), (0, .ref a0), (1, .ref a1), (2, .ref a2), (3, .int v3_h_1)]) hx hb dX10_doAgree_25 hl (by decide) rfl (fun ls hl => hp_n (n := 27) rfl ?_)
            refine lv_aload_n hx hb dX10_doAgree_27 rfl (lv_at hl 1 rfl) (hp_n (n := 28) rfl ?_)
            refine lv_aload hx hb dX10_doAgree_28 (lv_at hl 0 rfl) (hp_n (n := 30) rfl ?_)
            refine lv_aload_n hx hb dX10_doAgree_30 rfl (lv_at hl 2 rfl) (hp_n (n := 31) rfl ?_)
            refine q_geti (κ := 8) (k := 0) (φ := 400) (pc' := 34) C Bh_4 (cw_k Bh_4.2.2 ka1) fl_X10_163 rfl rfl rfl dX10_doAgree_31 rfl (fun x_15 ex_15 => ?_)
            refine lv_aload_n hx hb dX10_doAgree_34 rfl (lv_at hl 2 rfl) (hp_n (n := 35) rfl ?_)
            refine q_geti (κ := 8) (k := 1) (φ := 401) (pc' := 38) C Bh_4 (cw_k Bh_4.2.2 ka1) fl_X10_164 rfl rfl rfl dX10_doAgree_35 rfl (fun x_16 ex_16 => ?_)
            refine q_ci (pc' := 41) Bh_4 (hp_runV (As := [va_rf (some bh_4), .int x_15, .int x_16]) (rest := []) C Bh_4 (t_X10_hasHead Γ l αh_1 Bh_4.2.2.1 a0 (cw_k Bh_4.2.2 k0) (some bh_4) (fun b h => by cases h; exact (cw_k Bh_4.2.2 kbh_4)) x_15 x_16) lb_X10_hasHead lv_X10_hasHead lk_X10_180 (cw_k Bh_4.2.2 k0) rfl (by decide) rfl hl.1 rfl (Nat.le_of_ble_eq_true rfl) dX10_doAgree_38 ⟨Nat.le_refl _, Nat.le_refl _⟩) (fun _ _ h => cw_tr Bh_4.2.2 h.1 (by decide)) rfl (fun rh_17 αh_17 Hh_17 Lh_17 ph_17 Bh_17 => ?_)
            have zh_17 := ph_17.2
            refine lv_if_eq (tgt := 63) hx hb dX10_doAgree_41 (by decide) (fun c_18 => ?_) (fun c_18 => hp_n (n := 44) rfl ?_)
            ·
              have jc_18 := il_eq c_18
              obtain ⟨x_19, ex_19⟩ : ∃ y : Int32, y = v3_h_1 + 1 := ⟨_, rfl⟩
              have qx_19 : x_19.toInt = v3_h_1.toInt + 1 := by have q0 := ib_hi x_2; have qa := ib_lo v3_h_1; rw [ex_19]; exact ii_add (by omega) (by omega)
              refine lv_iinc (v := x_19) (lv' := [(3, .int x_19), (4, .ref bh_4), (0, .ref a0), (1, .ref a1), (2, .ref a2)]) hx hb dX10_doAgree_63 hl (k := 4) rfl (by rw [ex_19]; rfl) (by decide) rfl (fun ls hl => hp_n (n := 66) rfl ?_)
              refine lv_goto (tgt := 12) hx hb dX10_doAgree_66 (by decide) ?_
              exact ih12 _ (by have q0 := ib_hi x_2; have q1 := ib_lo x_2; have qa := ib_hi v3_h_1; have qb := ib_lo v3_h_1; have qc : (v3_h_1 + 1).toInt = v3_h_1.toInt + (1 : Int32).toInt := ii_add (by omega) (by omega); rw [ex_19]; omega) αh_17 Hh_17 Lh_17 Bh_17 x_19 (by omega) ls (lv_sub hl [2, 3, 4, 0] rfl) rfl
            ·
              have jc_18 := il_ne c_18
              refine lv_aload_n hx hb dX10_doAgree_44 rfl (lv_at hl 1 rfl) (hp_n (n := 45) rfl ?_)
              refine lv_aload hx hb dX10_doAgree_45 (lv_at hl 0 rfl) (hp_n (n := 47) rfl ?_)
              refine lv_aload_n hx hb dX10_doAgree_47 rfl (lv_at hl 3 rfl) (hp_n (n := 48) rfl ?_)
              refine q_geti (κ := 8) (k := 0) (φ := 400) (pc' := 51) C Bh_17 (cw_k Bh_17.2.2 ka2) fl_X10_163 rfl rfl rfl dX10_doAgree_48 rfl (fun x_20 ex_20 => ?_)
              refine lv_aload_n hx hb dX10_doAgree_51 rfl (lv_at hl 3 rfl) (hp_n (n := 52) rfl ?_)
              refine q_geti (κ := 8) (k := 1) (φ := 401) (pc' := 55) C Bh_17 (cw_k Bh_17.2.2 ka2) fl_X10_164 rfl rfl rfl dX10_doAgree_52 rfl (fun x_21 ex_21 => ?_)
              refine q_ci (pc' := 58) Bh_17 (hp_runV (As := [va_rf (some bh_4), .int x_20, .int x_21]) (rest := []) C Bh_17 (t_X10_hasHead Γ l αh_17 Bh_17.2.2.1 a0 (cw_k Bh_17.2.2 k0) (some bh_4) (fun b h => by cases h; exact (cw_k Bh_17.2.2 kbh_4)) x_20 x_21) lb_X10_hasHead lv_X10_hasHead lk_X10_180 (cw_k Bh_17.2.2 k0) rfl (by decide) rfl hl.1 rfl (Nat.le_of_ble_eq_true rfl) dX10_doAgree_55 ⟨Nat.le_refl _, Nat.le_refl _⟩) (fun _ _ h => cw_tr Bh_17.2.2 h.1 (by decide)) rfl (fun rh_22 αh_22 Hh_22 Lh_22 ph_22 Bh_22 => ?_)
              have zh_22 := ph_22.2
              refine lv_if_eq (tgt := 63) hx hb dX10_doAgree_58 (by decide) (fun c_23 => ?_) (fun c_23 => hp_n (n := 61) rfl ?_)
              ·
                have jc_23 := il_eq c_23
                obtain ⟨x_24, ex_24⟩ : ∃ y : Int32, y = v3_h_1 + 1 := ⟨_, rfl⟩
                have qx_24 : x_24.toInt = v3_h_1.toInt + 1 := by have q0 := ib_hi x_2; have qa := ib_lo v3_h_1; rw [ex_24]; exact ii_add (by omega) (by omega)
                refine lv_iinc (v := x_24) (lv' := [(3, .int x_24), (4, .ref bh_4), (0, .ref a0), (1, .ref a1), (2, .ref a2)]) hx hb dX10_doAgree_63 hl (k := 4) rfl (by rw [ex_24]; rfl) (by decide) rfl (fun ls hl => hp_n (n := 66) rfl ?_)
                refine lv_goto (tgt := 12) hx hb dX10_doAgree_66 (by decide) ?_
                exact ih12 _ (by have q0 := ib_hi x_2; have q1 := ib_lo x_2; have qa := ib_hi v3_h_1; have qb := ib_lo v3_h_1; have qc : (v3_h_1 + 1).toInt = v3_h_1.toInt + (1 : Int32).toInt := ii_add (by omega) (by omega); rw [ex_24]; omega) αh_22 Hh_22 Lh_22 Bh_22 x_24 (by omega) ls (lv_sub hl [2, 3, 4, 0] rfl) rfl
              ·
                have jc_23 := il_ne c_23
                refine lv_iconst (v := 1) hx hb dX10_doAgree_61 (by decide) (hp_n (n := 62) rfl ?_)
                exact q_zret C Bh_22 hr hlk (by decide) ⟨Bh_22.2.2, (Or.inr rfl)⟩ dX10_doAgree_62
      refine lv_istore_n (lv' := [(3, .int 0), (0, .ref a0), (1, .ref a1), (2, .ref a2)]) hx hb dX10_doAgree_11 rfl hl (by decide) rfl (fun ls hl => hp_n (n := 12) rfl ?_)
      exact J12 _ α s.heap [] B 0 (by omega) ls (lv_sub hl [1, 2, 3, 0] rfl) rfl
abbrev w_X10_isSound : cw_W := ([], [], [33], [])
set_option maxRecDepth 100000 in
set_option maxHeartbeats 4000000 in
theorem t_X10_isSound (Γ : hp_G) (l : Launch) (α : hp_T) (g : GC α) (a0 : Nat) (k0 : hp_K α a0 = 11) (a1 : Nat) (k1 : hp_K α a1 = 2) : Met l yX10_isSound (hp_ws yX10_isSound cX10_isSound 2 (some .boolean)) (hp_rm 4 0 0) (hp_Pc Γ α [.ref a0, .ref a1]) (hp_Qi Γ (fun r β => cw w_X10_isSound α β ∧ (r = 0 ∨ r = 1))) 0 0 (hp_A Γ) := by
  refine hp_start (by decide) ?_
  intro p e s m below meth c C hr hlk B0 hnm
  have C : hp_C Γ p m c cX10_isSound 2 s ([.ref a0, .ref a1] : List Value).toArray RX10 := C
  have hx := C.1.1
  have hb := C.1.2.1
  have hown := C.1.2.2.2.1
  have hts := C.1.2.2.2.2
  have B : hp_B Γ (cw w_X10_isSound) s α α s.heap [] := ⟨B0.1, B0.2.1, cw_rf g⟩
  have hl := lv_entry ([.ref a0, .ref a1]) (n := 2) (Nat.le_of_ble_eq_true rfl)
  show W p l e (hp_rm 4 0 0) s m ([.ref a0, .ref a1] : List Value).toArray below meth c s.heap [] 0 0 (MQ below (hp_Qi Γ (fun r β => cw w_X10_isSound α β ∧ (r = 0 ∨ r = 1))) ([.ref a0, .ref a1] : List Value).toArray s 0 0 (hp_A Γ)) (entryFrame m ([.ref a0, .ref a1] : List Value).toArray 2)
  rw [lg_entry_eq]
  generalize (lg_sl ([.ref a0, .ref a1]) ++ List.replicate (2 - (lg_sl ([.ref a0, .ref a1])).length) Slot.unset).toArray = ls at hl ⊢
  have hl : lv_has ls 2 [(0, .ref a0), (1, .ref a1)] := hl
  refine lv_aload_n hx hb dX10_isSound_0 rfl (lv_at hl 0 rfl) (hp_n (n := 1) rfl ?_)
  refine lv_aload_n hx hb dX10_isSound_1 rfl (lv_at hl 0 rfl) (hp_n (n := 2) rfl ?_)
  refine lv_aload_n hx hb dX10_isSound_2 rfl (lv_at hl 1 rfl) (hp_n (n := 3) rfl ?_)
  refine q_geti (κ := 2) (k := 0) (φ := 100) (pc' := 6) C B (cw_k B.2.2 k1) fl_X10_128 rfl rfl rfl dX10_isSound_3 rfl (fun x_1 ex_1 => ?_)
  refine q_cq (pc' := 9) B (hp_runV (As := [.int x_1]) (rest := [.ref a0]) C B (t_X10_logAt Γ l α B.2.2.1 a0 (cw_k B.2.2 k0) x_1) lb_X10_logAt lv_X10_logAt lk_X10_64 (cw_k B.2.2 k0) rfl (by decide) rfl hl.1 rfl (Nat.le_of_ble_eq_true rfl) dX10_isSound_6 ⟨Nat.le_refl _, Nat.le_refl _⟩) (fun _ _ h => by rw [h.1]; exact B.2.2) rfl (fun rh_2 αh_2 Hh_2 Lh_2 ph_2 Bh_2 => ?_)
  rw [ph_2.1] at Bh_2
  rcases rh_2 with _ | bh_2
  ·
    refine lv_aload_n hx hb dX10_isSound_9 rfl (lv_at hl 1 rfl) (hp_n (n := 10) rfl ?_)
    refine q_geti (κ := 2) (k := 1) (φ := 101) (pc' := 13) C Bh_2 (cw_k Bh_2.2.2 k1) fl_X10_131 rfl rfl rfl dX10_isSound_10 rfl (fun x_3 ex_3 => ?_)
    refine lv_aload_n hx hb dX10_isSound_13 rfl (lv_at hl 1 rfl) (hp_n (n := 14) rfl ?_)
    refine q_geti (κ := 2) (k := 2) (φ := 102) (pc' := 17) C Bh_2 (cw_k Bh_2.2.2 k1) fl_X10_134 rfl rfl rfl dX10_isSound_14 rfl (fun x_4 ex_4 => ?_)
    refine q_ci (pc' := 20) Bh_2 (hp_runV (As := [va_rf none, .int x_3, .int x_4]) (rest := []) C Bh_2 (t_X10_hasHead Γ l α Bh_2.2.2.1 a0 (cw_k Bh_2.2.2 k0) none (fun b h => by cases h) x_3 x_4) lb_X10_hasHead lv_X10_hasHead lk_X10_180 (cw_k Bh_2.2.2 k0) rfl (by decide) rfl hl.1 rfl (Nat.le_of_ble_eq_true rfl) dX10_isSound_17 ⟨Nat.le_refl _, Nat.le_refl _⟩) (fun _ _ h => cw_tr Bh_2.2.2 h.1 (by decide)) rfl (fun rh_5 αh_5 Hh_5 Lh_5 ph_5 Bh_5 => ?_)
    have zh_5 := ph_5.2
    exact q_zret C Bh_5 hr hlk (nz_z zh_5) ⟨Bh_5.2.2, zh_5⟩ dX10_isSound_20
  ·
    have kbh_2 : hp_K α bh_2 = 3 := cw_k' Bh_2.2.2 (ph_2.2 bh_2 rfl)
    refine lv_aload_n hx hb dX10_isSound_9 rfl (lv_at hl 1 rfl) (hp_n (n := 10) rfl ?_)
    refine q_geti (κ := 2) (k := 1) (φ := 101) (pc' := 13) C Bh_2 (cw_k Bh_2.2.2 k1) fl_X10_131 rfl rfl rfl dX10_isSound_10 rfl (fun x_6 ex_6 => ?_)
    refine lv_aload_n hx hb dX10_isSound_13 rfl (lv_at hl 1 rfl) (hp_n (n := 14) rfl ?_)
    refine q_geti (κ := 2) (k := 2) (φ := 102) (pc' := 17) C Bh_2 (cw_k Bh_2.2.2 k1) fl_X10_134 rfl rfl rfl dX10_isSound_14 rfl (fun x_7 ex_7 => ?_)
    refine q_ci (pc' := 20) Bh_2 (hp_runV (As := [va_rf (some bh_2), .int x_6, .int x_7]) (rest := []) C Bh_2 (t_X10_hasHead Γ l α Bh_2.2.2.1 a0 (cw_k Bh_2.2.2 k0) (some bh_2) (fun b h => by cases h; exact (cw_k Bh_2.2.2 kbh_2)) x_6 x_7) lb_X10_hasHead lv_X10_hasHead lk_X10_180 (cw_k Bh_2.2.2 k0) rfl (by decide) rfl hl.1 rfl (Nat.le_of_ble_eq_true rfl) dX10_isSound_17 ⟨Nat.le_refl _, Nat.le_refl _⟩) (fun _ _ h => cw_tr Bh_2.2.2 h.1 (by decide)) rfl (fun rh_8 αh_8 Hh_8 Lh_8 ph_8 Bh_8 => ?_)
    have zh_8 := ph_8.2
    exact q_zret C Bh_8 hr hlk (nz_z zh_8) ⟨Bh_8.2.2, zh_8⟩ dX10_isSound_20
abbrev w_X10_sickBits : cw_W := ([301], [], [20, 33], [])
abbrev w_X10_countUnsound : cw_W := ([], [], [33], [])
set_option maxRecDepth 100000 in
set_option maxHeartbeats 4000000 in
theorem t_X10_countUnsound (Γ : hp_G) (l : Launch) (α : hp_T) (g : GC α) (a0 : Nat) (k0 : hp_K α a0 = 11) (a1 : Int32) : Met l yX10_countUnsound (hp_ws yX10_countUnsound cX10_countUnsound 5 (some .int)) (hp_rm 5 0 0) (hp_Pc Γ α [.ref a0, .int a1]) (hp_Qi Γ (fun r β => cw w_X10_countUnsound α β)) 0 0 (hp_A Γ) := by
  refine hp_start (by decide) ?_
  intro p e s m below meth c C hr hlk B0 hnm
  have C : hp_C Γ p m c cX10_countUnsound 5 s ([.ref a0, .int a1] : List Value).toArray RX10 := C
  have hx := C.1.1
  have hb := C.1.2.1
  have hown := C.1.2.2.2.1
  have hts := C.1.2.2.2.2
  have B : hp_B Γ (cw w_X10_countUnsound) s α α s.heap [] := ⟨B0.1, B0.2.1, cw_rf g⟩
  have lit0 : (0 : Int32).toInt = 0 := by decide
  have lit1 : (1 : Int32).toInt = 1 := by decide
  have hl := lv_entry ([.ref a0, .int a1]) (n := 5) (Nat.le_of_ble_eq_true rfl)
  show W p l e (hp_rm 5 0 0) s m ([.ref a0, .int a1] : List Value).toArray below meth c s.heap [] 0 0 (MQ below (hp_Qi Γ (fun r β => cw w_X10_countUnsound α β)) ([.ref a0, .int a1] : List Value).toArray s 0 0 (hp_A Γ)) (entryFrame m ([.ref a0, .int a1] : List Value).toArray 5)
  rw [lg_entry_eq]
  generalize (lg_sl ([.ref a0, .int a1]) ++ List.replicate (5 - (lg_sl ([.ref a0, .int a1])).length) Slot.unset).toArray = ls at hl ⊢
  have hl : lv_has ls 5 [(0, .ref a0), (1, .int a1)] := hl
  refine lv_iconst (v := 0) hx hb dX10_countUnsound_0 (by decide) (hp_n (n := 1) rfl ?_)
  refine lv_istore_n (lv' := [(2, .int 0), (0, .ref a0), (1, .int a1)]) hx hb dX10_countUnsound_1 rfl hl (by decide) rfl (fun ls hl => hp_n (n := 2) rfl ?_)
  refine lv_iconst (v := 0) hx hb dX10_countUnsound_2 (by decide) (hp_n (n := 3) rfl ?_)
  have J4 : ∀ (nq : Nat) (αh_1 : hp_T) (Hh_1 : Heap) (Lh_1 : List Loc) (Bh_1 : hp_B Γ (cw w_X10_countUnsound) s α αh_1 Hh_1 Lh_1) (v2_h_1 : Int32) (v3_h_1 : Int32) (ih_1_0 : 0 ≤ v3_h_1.toInt) (ls : Array Slot) (hl : lv_has ls 5 [(0, .ref a0), (1, .int a1), (2, .int v2_h_1), (3, .int v3_h_1)]) (hmu4 : (2147483647 - v3_h_1.toInt).toNat = nq), W p l e (hp_rm 5 0 0) s m ([.ref a0, .int a1] : List Value).toArray below meth c Hh_1 Lh_1 0 0 (MQ below (hp_Qi Γ (fun r β => cw w_X10_countUnsound α β)) ([.ref a0, .int a1] : List Value).toArray s 0 0 (hp_A Γ)) (F0 m 4 ls []) := by
    intro nq
    induction nq using Nat.strongRecOn with
    | ind nq ih4 =>
    intro αh_1 Hh_1 Lh_1 Bh_1 v2_h_1 v3_h_1 ih_1_0 ls hl hmu4
    have inv4_0 := ih_1_0
    refine lv_iload_n hx hb dX10_countUnsound_4 rfl (lv_at hl 3 rfl) (hp_n (n := 5) rfl ?_)
    refine lv_aload_n hx hb dX10_countUnsound_5 rfl (lv_at hl 0 rfl) (hp_n (n := 6) rfl ?_)
    refine q_geti (κ := 11) (k := 4) (φ := 554) (pc' := 9) C Bh_1 (cw_k Bh_1.2.2 k0) fl_X10_31 rfl rfl rfl dX10_countUnsound_6 rfl (fun x_2 ex_2 => ?_)
    refine lv_icmp_ge (tgt := 51) hx hb dX10_countUnsound_9 (by decide) (fun c_3 => ?_) (fun c_3 => hp_n (n := 12) rfl ?_)
    ·
      have jc_3 := il_le c_3
      refine lv_iload_n hx hb dX10_countUnsound_51 rfl (lv_at hl 2 rfl) (hp_n (n := 52) rfl ?_)
      exact q_iret C Bh_1 hr hlk Bh_1.2.2 dX10_countUnsound_52
    ·
      have jc_3 := il_nle c_3
      refine lv_aload_n hx hb dX10_countUnsound_12 rfl (lv_at hl 0 rfl) (hp_n (n := 13) rfl ?_)
      refine lv_iload_n hx hb dX10_countUnsound_13 rfl (lv_at hl 3 rfl) (hp_n (n := 14) rfl ?_)
      refine q_cq (pc' := 17) Bh_1 (hp_runV (As := [.int v3_h_1]) (rest := []) C Bh_1 (t_X10_frozenAt Γ l αh_1 Bh_1.2.2.1 a0 (cw_k Bh_1.2.2 k0) v3_h_1) lb_X10_frozenAt lv_X10_frozenAt lk_X10_188 (cw_k Bh_1.2.2 k0) rfl (by decide) rfl hl.1 rfl (Nat.le_of_ble_eq_true rfl) dX10_countUnsound_14 ⟨Nat.le_refl _, Nat.le_refl _⟩) (fun _ _ h => by rw [h.1]; exact Bh_1.2.2) rfl (fun rh_4 αh_4 Hh_4 Lh_4 ph_4 Bh_4 => ?_)
      rw [ph_4.1] at Bh_4
      rcases rh_4 with _ | bh_4
      ·
        refine lv_astoreN (lv' := [(4, .null), (0, .ref a0), (1, .int a1), (2, .int v2_h_1), (3, .int v3_h_1)]) hx hb dX10_countUnsound_17 hl (by decide) rfl (fun ls hl => hp_n (n := 19) rfl ?_)
        refine lv_aloadN hx hb dX10_countUnsound_19 (lv_at hl 0 rfl) (hp_n (n := 21) rfl ?_)
        refine lv_ifnullN (tgt := 45) hx hb dX10_countUnsound_21 (by decide) ?_
        obtain ⟨x_5, ex_5⟩ : ∃ y : Int32, y = v3_h_1 + 1 := ⟨_, rfl⟩
        have qx_5 : x_5.toInt = v3_h_1.toInt + 1 := by have q0 := ib_hi x_2; have qa := ib_lo v3_h_1; rw [ex_5]; exact ii_add (by omega) (by omega)
        refine lv_iinc (v := x_5) (lv' := [(3, .int x_5), (4, .null), (0, .ref a0), (1, .int a1), (2, .int v2_h_1)]) hx hb dX10_countUnsound_45 hl (k := 4) rfl (by rw [ex_5]; rfl) (by decide) rfl (fun ls hl => hp_n (n := 48) rfl ?_)
        refine lv_goto (tgt := 4) hx hb dX10_countUnsound_48 (by decide) ?_
        exact ih4 _ (by have q0 := ib_hi x_2; have q1 := ib_lo x_2; have qa := ib_hi v3_h_1; have qb := ib_lo v3_h_1; have qc : (v3_h_1 + 1).toInt = v3_h_1.toInt + (1 : Int32).toInt := ii_add (by omega) (by omega); rw [ex_5]; omega) αh_1 Hh_4 Lh_4 Bh_4 v2_h_1 x_5 (by omega) ls (lv_sub hl [2, 3, 4, 0] rfl) rfl
      ·
        have kbh_4 : hp_K α bh_4 = 2 := cw_k' Bh_4.2.2 (ph_4.2 bh_4 rfl)
        refine lv_astore (lv' := [(4, .ref bh_4), (0, .ref a0), (1, .int a1), (2, .int v2_h_1), (3, .int v3_h_1)]) hx hb dX10_countUnsound_17 hl (by decide) rfl (fun ls hl => hp_n (n := 19) rfl ?_)
        refine lv_aload hx hb dX10_countUnsound_19 (lv_at hl 0 rfl) (hp_n (n := 21) rfl ?_)
        refine lv_ifnull hx hb dX10_countUnsound_21 (hp_n (n := 24) rfl ?_)
        refine lv_aload hx hb dX10_countUnsound_24 (lv_at hl 0 rfl) (hp_n (n := 26) rfl ?_)
        refine q_geti (κ := 2) (k := 0) (φ := 100) (pc' := 29) C Bh_4 (cw_k Bh_4.2.2 kbh_4) fl_X10_128 rfl rfl rfl dX10_countUnsound_26 rfl (fun x_6 ex_6 => ?_)
        refine lv_iload_n hx hb dX10_countUnsound_29 rfl (lv_at hl 2 rfl) (hp_n (n := 30) rfl ?_)
        refine lv_icmp_ne (tgt := 45) hx hb dX10_countUnsound_30 (by decide) (fun c_7 => ?_) (fun c_7 => hp_n (n := 33) rfl ?_)
        ·
          have jc_7 := il_ne c_7
          obtain ⟨x_8, ex_8⟩ : ∃ y : Int32, y = v3_h_1 + 1 := ⟨_, rfl⟩
          have qx_8 : x_8.toInt = v3_h_1.toInt + 1 := by have q0 := ib_hi x_2; have qa := ib_lo v3_h_1; rw [ex_8]; exact ii_add (by omega) (by omega)
          refine lv_iinc (v := x_8) (lv' := [(3, .int x_8), (4, .ref bh_4), (0, .ref a0), (1, .int a1), (2, .int v2_h_1)]) hx hb dX10_countUnsound_45 hl (k := 4) rfl (by rw [ex_8]; rfl) (by decide) rfl (fun ls hl => hp_n (n := 48) rfl ?_)
          refine lv_goto (tgt := 4) hx hb dX10_countUnsound_48 (by decide) ?_
          exact ih4 _ (by have q0 := ib_hi x_2; have q1 := ib_lo x_2; have qa := ib_hi v3_h_1; have qb := ib_lo v3_h_1; have qc : (v3_h_1 + 1).toInt = v3_h_1.toInt + (1 : Int32).toInt := ii_add (by omega) (by omega); rw [ex_8]; omega) αh_1 Hh_4 Lh_4 Bh_4 v2_h_1 x_8 (by omega) ls (lv_sub hl [2, 3, 4, 0] rfl) rfl
        ·
          have jc_7 := il_eq c_7
          refine lv_aload_n hx hb dX10_countUnsound_33 rfl (lv_at hl 1 rfl) (hp_n (n := 34) rfl ?_)
          refine lv_aload hx hb dX10_countUnsound_34 (lv_at hl 0 rfl) (hp_n (n := 36) rfl ?_)
          refine q_ci (pc' := 39) Bh_4 (hp_runV (As := [.ref bh_4]) (rest := []) C Bh_4 (t_X10_isSound Γ l αh_1 Bh_4.2.2.1 a0 (cw_k Bh_4.2.2 k0) bh_4 (cw_k Bh_4.2.2 kbh_4)) lb_X10_isSound lv_X10_isSound lk_X10_192 (cw_k Bh_4.2.2 k0) rfl (by decide) rfl hl.1 rfl (Nat.le_of_ble_eq_true rfl) dX10_countUnsound_36 ⟨Nat.le_refl _, Nat.le_refl _⟩) (fun _ _ h => cw_tr Bh_4.2.2 h.1 (by decide)) rfl (fun rh_9 αh_9 Hh_9 Lh_9 ph_9 Bh_9 => ?_)
          have zh_9 := ph_9.2
          refine lv_if_ne (tgt := 45) hx hb dX10_countUnsound_39 (by decide) (fun c_10 => ?_) (fun c_10 => hp_n (n := 42) rfl ?_)
          ·
            have jc_10 := il_ne c_10
            obtain ⟨x_11, ex_11⟩ : ∃ y : Int32, y = v3_h_1 + 1 := ⟨_, rfl⟩
            have qx_11 : x_11.toInt = v3_h_1.toInt + 1 := by have q0 := ib_hi x_2; have qa := ib_lo v3_h_1; rw [ex_11]; exact ii_add (by omega) (by omega)
            refine lv_iinc (v := x_11) (lv' := [(3, .int x_11), (4, .ref bh_4), (0, .ref a0), (1, .int a1), (2, .int v2_h_1)]) hx hb dX10_countUnsound_45 hl (k := 4) rfl (by rw [ex_11]; rfl) (by decide) rfl (fun ls hl => hp_n (n := 48) rfl ?_)
            refine lv_goto (tgt := 4) hx hb dX10_countUnsound_48 (by decide) ?_
            exact ih4 _ (by have q0 := ib_hi x_2; have q1 := ib_lo x_2; have qa := ib_hi v3_h_1; have qb := ib_lo v3_h_1; have qc : (v3_h_1 + 1).toInt = v3_h_1.toInt + (1 : Int32).toInt := ii_add (by omega) (by omega); rw [ex_11]; omega) αh_9 Hh_9 Lh_9 Bh_9 v2_h_1 x_11 (by omega) ls (lv_sub hl [2, 3, 4, 0] rfl) rfl
          ·
            have jc_10 := il_eq c_10
            obtain ⟨x_12, ex_12⟩ : ∃ y : Int32, y = v2_h_1 + 1 := ⟨_, rfl⟩
            refine lv_iinc (v := x_12) (lv' := [(2, .int x_12), (4, .ref bh_4), (0, .ref a0), (1, .int a1), (3, .int v3_h_1)]) hx hb dX10_countUnsound_42 hl (k := 3) rfl (by rw [ex_12]; rfl) (by decide) rfl (fun ls hl => hp_n (n := 45) rfl ?_)
            obtain ⟨x_13, ex_13⟩ : ∃ y : Int32, y = v3_h_1 + 1 := ⟨_, rfl⟩
            have qx_13 : x_13.toInt = v3_h_1.toInt + 1 := by have q0 := ib_hi x_2; have qa := ib_lo v3_h_1; rw [ex_13]; exact ii_add (by omega) (by omega)
            refine lv_iinc (v := x_13) (lv' := [(3, .int x_13), (2, .int x_12), (4, .ref bh_4), (0, .ref a0), (1, .int a1)]) hx hb dX10_countUnsound_45 hl (k := 4) rfl (by rw [ex_13]; rfl) (by decide) rfl (fun ls hl => hp_n (n := 48) rfl ?_)
            refine lv_goto (tgt := 4) hx hb dX10_countUnsound_48 (by decide) ?_
            exact ih4 _ (by have q0 := ib_hi x_2; have q1 := ib_lo x_2; have qa := ib_hi v3_h_1; have qb := ib_lo v3_h_1; have qc : (v3_h_1 + 1).toInt = v3_h_1.toInt + (1 : Int32).toInt := ii_add (by omega) (by omega); rw [ex_13]; omega) αh_9 Hh_9 Lh_9 Bh_9 x_12 x_13 (by omega) ls (lv_sub hl [3, 4, 1, 0] rfl) rfl
  refine lv_istore_n (lv' := [(3, .int 0), (2, .int 0), (0, .ref a0), (1, .int a1)]) hx hb dX10_countUnsound_3 rfl hl (by decide) rfl (fun ls hl => hp_n (n := 4) rfl ?_)
  exact J4 _ α s.heap [] B 0 0 (by omega) ls (lv_sub hl [2, 3, 1, 0] rfl) rfl
abbrev w_X10_leastUnsound : cw_W := ([], [], [33], [])
set_option maxRecDepth 100000 in
set_option maxHeartbeats 4000000 in
theorem t_X10_leastUnsound (Γ : hp_G) (l : Launch) (α : hp_T) (g : GC α) (a0 : Nat) (k0 : hp_K α a0 = 11) (a1 : Int32) : Met l yX10_leastUnsound (hp_ws yX10_leastUnsound cX10_leastUnsound 5 (some .int)) (hp_rm 5 0 0) (hp_Pc Γ α [.ref a0, .int a1]) (hp_Qi Γ (fun r β => cw w_X10_leastUnsound α β)) 0 0 (hp_A Γ) := by
  refine hp_start (by decide) ?_
  intro p e s m below meth c C hr hlk B0 hnm
  have C : hp_C Γ p m c cX10_leastUnsound 5 s ([.ref a0, .int a1] : List Value).toArray RX10 := C
  have hx := C.1.1
  have hb := C.1.2.1
  have hown := C.1.2.2.2.1
  have hts := C.1.2.2.2.2
  have B : hp_B Γ (cw w_X10_leastUnsound) s α α s.heap [] := ⟨B0.1, B0.2.1, cw_rf g⟩
  have litm1 : ((-1) : Int32).toInt = (-1) := by decide
  have lit0 : (0 : Int32).toInt = 0 := by decide
  have lit1 : (1 : Int32).toInt = 1 := by decide
  have hl := lv_entry ([.ref a0, .int a1]) (n := 5) (Nat.le_of_ble_eq_true rfl)
  show W p l e (hp_rm 5 0 0) s m ([.ref a0, .int a1] : List Value).toArray below meth c s.heap [] 0 0 (MQ below (hp_Qi Γ (fun r β => cw w_X10_leastUnsound α β)) ([.ref a0, .int a1] : List Value).toArray s 0 0 (hp_A Γ)) (entryFrame m ([.ref a0, .int a1] : List Value).toArray 5)
  rw [lg_entry_eq]
  generalize (lg_sl ([.ref a0, .int a1]) ++ List.replicate (5 - (lg_sl ([.ref a0, .int a1])).length) Slot.unset).toArray = ls at hl ⊢
  have hl : lv_has ls 5 [(0, .ref a0), (1, .int a1)] := hl
  refine lv_iconst (v := (-1)) hx hb dX10_leastUnsound_0 (by decide) (hp_n (n := 1) rfl ?_)
  refine lv_istore_n (lv' := [(2, .int (-1)), (0, .ref a0), (1, .int a1)]) hx hb dX10_leastUnsound_1 rfl hl (by decide) rfl (fun ls hl => hp_n (n := 2) rfl ?_)
  refine lv_iconst (v := 0) hx hb dX10_leastUnsound_2 (by decide) (hp_n (n := 3) rfl ?_)
  have J4 : ∀ (nq : Nat) (αh_1 : hp_T) (Hh_1 : Heap) (Lh_1 : List Loc) (Bh_1 : hp_B Γ (cw w_X10_leastUnsound) s α αh_1 Hh_1 Lh_1) (v2_h_1 : Int32) (v3_h_1 : Int32) (ih_1_0 : 0 ≤ v3_h_1.toInt) (ls : Array Slot) (hl : lv_has ls 5 [(0, .ref a0), (1, .int a1), (2, .int v2_h_1), (3, .int v3_h_1)]) (hmu4 : (2147483647 - v3_h_1.toInt).toNat = nq), W p l e (hp_rm 5 0 0) s m ([.ref a0, .int a1] : List Value).toArray below meth c Hh_1 Lh_1 0 0 (MQ below (hp_Qi Γ (fun r β => cw w_X10_leastUnsound α β)) ([.ref a0, .int a1] : List Value).toArray s 0 0 (hp_A Γ)) (F0 m 4 ls []) := by
    intro nq
    induction nq using Nat.strongRecOn with
    | ind nq ih4 =>
    intro αh_1 Hh_1 Lh_1 Bh_1 v2_h_1 v3_h_1 ih_1_0 ls hl hmu4
    have inv4_0 := ih_1_0
    refine lv_iload_n hx hb dX10_leastUnsound_4 rfl (lv_at hl 3 rfl) (hp_n (n := 5) rfl ?_)
    refine lv_aload_n hx hb dX10_leastUnsound_5 rfl (lv_at hl 0 rfl) (hp_n (n := 6) rfl ?_)
    refine q_geti (κ := 11) (k := 4) (φ := 554) (pc' := 9) C Bh_1 (cw_k Bh_1.2.2 k0) fl_X10_31 rfl rfl rfl dX10_leastUnsound_6 rfl (fun x_2 ex_2 => ?_)
    refine lv_icmp_ge (tgt := 68) hx hb dX10_leastUnsound_9 (by decide) (fun c_3 => ?_) (fun c_3 => hp_n (n := 12) rfl ?_)
    ·
      have jc_3 := il_le c_3
      refine lv_iload_n hx hb dX10_leastUnsound_68 rfl (lv_at hl 2 rfl) (hp_n (n := 69) rfl ?_)
      exact q_iret C Bh_1 hr hlk Bh_1.2.2 dX10_leastUnsound_69
    ·
      have jc_3 := il_nle c_3
      refine lv_aload_n hx hb dX10_leastUnsound_12 rfl (lv_at hl 0 rfl) (hp_n (n := 13) rfl ?_)
      refine lv_iload_n hx hb dX10_leastUnsound_13 rfl (lv_at hl 3 rfl) (hp_n (n := 14) rfl ?_)
      refine q_cq (pc' := 17) Bh_1 (hp_runV (As := [.int v3_h_1]) (rest := []) C Bh_1 (t_X10_frozenAt Γ l αh_1 Bh_1.2.2.1 a0 (cw_k Bh_1.2.2 k0) v3_h_1) lb_X10_frozenAt lv_X10_frozenAt lk_X10_188 (cw_k Bh_1.2.2 k0) rfl (by decide) rfl hl.1 rfl (Nat.le_of_ble_eq_true rfl) dX10_leastUnsound_14 ⟨Nat.le_refl _, Nat.le_refl _⟩) (fun _ _ h => by rw [h.1]; exact Bh_1.2.2) rfl (fun rh_4 αh_4 Hh_4 Lh_4 ph_4 Bh_4 => ?_)
      rw [ph_4.1] at Bh_4
      rcases rh_4 with _ | bh_4
      ·
        refine lv_astoreN (lv' := [(4, .null), (0, .ref a0), (1, .int a1), (2, .int v2_h_1), (3, .int v3_h_1)]) hx hb dX10_leastUnsound_17 hl (by decide) rfl (fun ls hl => hp_n (n := 19) rfl ?_)
        refine lv_aloadN hx hb dX10_leastUnsound_19 (lv_at hl 0 rfl) (hp_n (n := 21) rfl ?_)
        refine lv_ifnullN (tgt := 62) hx hb dX10_leastUnsound_21 (by decide) ?_
        obtain ⟨x_5, ex_5⟩ : ∃ y : Int32, y = v3_h_1 + 1 := ⟨_, rfl⟩
        have qx_5 : x_5.toInt = v3_h_1.toInt + 1 := by have q0 := ib_hi x_2; have qa := ib_lo v3_h_1; rw [ex_5]; exact ii_add (by omega) (by omega)
        refine lv_iinc (v := x_5) (lv' := [(3, .int x_5), (4, .null), (0, .ref a0), (1, .int a1), (2, .int v2_h_1)]) hx hb dX10_leastUnsound_62 hl (k := 4) rfl (by rw [ex_5]; rfl) (by decide) rfl (fun ls hl => hp_n (n := 65) rfl ?_)
        refine lv_goto (tgt := 4) hx hb dX10_leastUnsound_65 (by decide) ?_
        exact ih4 _ (by have q0 := ib_hi x_2; have q1 := ib_lo x_2; have qa := ib_hi v3_h_1; have qb := ib_lo v3_h_1; have qc : (v3_h_1 + 1).toInt = v3_h_1.toInt + (1 : Int32).toInt := ii_add (by omega) (by omega); rw [ex_5]; omega) αh_1 Hh_4 Lh_4 Bh_4 v2_h_1 x_5 (by omega) ls (lv_sub hl [2, 3, 4, 0] rfl) rfl
      ·
        have kbh_4 : hp_K α bh_4 = 2 := cw_k' Bh_4.2.2 (ph_4.2 bh_4 rfl)
        refine lv_astore (lv' := [(4, .ref bh_4), (0, .ref a0), (1, .int a1), (2, .int v2_h_1), (3, .int v3_h_1)]) hx hb dX10_leastUnsound_17 hl (by decide) rfl (fun ls hl => hp_n (n := 19) rfl ?_)
        refine lv_aload hx hb dX10_leastUnsound_19 (lv_at hl 0 rfl) (hp_n (n := 21) rfl ?_)
        refine lv_ifnull hx hb dX10_leastUnsound_21 (hp_n (n := 24) rfl ?_)
        refine lv_aload hx hb dX10_leastUnsound_24 (lv_at hl 0 rfl) (hp_n (n := 26) rfl ?_)
        refine q_geti (κ := 2) (k := 0) (φ := 100) (pc' := 29) C Bh_4 (cw_k Bh_4.2.2 kbh_4) fl_X10_128 rfl rfl rfl dX10_leastUnsound_26 rfl (fun x_6 ex_6 => ?_)
        refine lv_iload_n hx hb dX10_leastUnsound_29 rfl (lv_at hl 2 rfl) (hp_n (n := 30) rfl ?_)
        refine lv_icmp_ne (tgt := 62) hx hb dX10_leastUnsound_30 (by decide) (fun c_7 => ?_) (fun c_7 => hp_n (n := 33) rfl ?_)
        ·
          have jc_7 := il_ne c_7
          obtain ⟨x_8, ex_8⟩ : ∃ y : Int32, y = v3_h_1 + 1 := ⟨_, rfl⟩
          have qx_8 : x_8.toInt = v3_h_1.toInt + 1 := by have q0 := ib_hi x_2; have qa := ib_lo v3_h_1; rw [ex_8]; exact ii_add (by omega) (by omega)
          refine lv_iinc (v := x_8) (lv' := [(3, .int x_8), (4, .ref bh_4), (0, .ref a0), (1, .int a1), (2, .int v2_h_1)]) hx hb dX10_leastUnsound_62 hl (k := 4) rfl (by rw [ex_8]; rfl) (by decide) rfl (fun ls hl => hp_n (n := 65) rfl ?_)
          refine lv_goto (tgt := 4) hx hb dX10_leastUnsound_65 (by decide) ?_
          exact ih4 _ (by have q0 := ib_hi x_2; have q1 := ib_lo x_2; have qa := ib_hi v3_h_1; have qb := ib_lo v3_h_1; have qc : (v3_h_1 + 1).toInt = v3_h_1.toInt + (1 : Int32).toInt := ii_add (by omega) (by omega); rw [ex_8]; omega) αh_1 Hh_4 Lh_4 Bh_4 v2_h_1 x_8 (by omega) ls (lv_sub hl [2, 3, 4, 0] rfl) rfl
        ·
          have jc_7 := il_eq c_7
          refine lv_aload_n hx hb dX10_leastUnsound_33 rfl (lv_at hl 1 rfl) (hp_n (n := 34) rfl ?_)
          refine lv_aload hx hb dX10_leastUnsound_34 (lv_at hl 0 rfl) (hp_n (n := 36) rfl ?_)
          refine q_ci (pc' := 39) Bh_4 (hp_runV (As := [.ref bh_4]) (rest := []) C Bh_4 (t_X10_isSound Γ l αh_1 Bh_4.2.2.1 a0 (cw_k Bh_4.2.2 k0) bh_4 (cw_k Bh_4.2.2 kbh_4)) lb_X10_isSound lv_X10_isSound lk_X10_192 (cw_k Bh_4.2.2 k0) rfl (by decide) rfl hl.1 rfl (Nat.le_of_ble_eq_true rfl) dX10_leastUnsound_36 ⟨Nat.le_refl _, Nat.le_refl _⟩) (fun _ _ h => cw_tr Bh_4.2.2 h.1 (by decide)) rfl (fun rh_9 αh_9 Hh_9 Lh_9 ph_9 Bh_9 => ?_)
          have zh_9 := ph_9.2
          refine lv_if_ne (tgt := 62) hx hb dX10_leastUnsound_39 (by decide) (fun c_10 => ?_) (fun c_10 => hp_n (n := 42) rfl ?_)
          ·
            have jc_10 := il_ne c_10
            obtain ⟨x_11, ex_11⟩ : ∃ y : Int32, y = v3_h_1 + 1 := ⟨_, rfl⟩
            have qx_11 : x_11.toInt = v3_h_1.toInt + 1 := by have q0 := ib_hi x_2; have qa := ib_lo v3_h_1; rw [ex_11]; exact ii_add (by omega) (by omega)
            refine lv_iinc (v := x_11) (lv' := [(3, .int x_11), (4, .ref bh_4), (0, .ref a0), (1, .int a1), (2, .int v2_h_1)]) hx hb dX10_leastUnsound_62 hl (k := 4) rfl (by rw [ex_11]; rfl) (by decide) rfl (fun ls hl => hp_n (n := 65) rfl ?_)
            refine lv_goto (tgt := 4) hx hb dX10_leastUnsound_65 (by decide) ?_
            exact ih4 _ (by have q0 := ib_hi x_2; have q1 := ib_lo x_2; have qa := ib_hi v3_h_1; have qb := ib_lo v3_h_1; have qc : (v3_h_1 + 1).toInt = v3_h_1.toInt + (1 : Int32).toInt := ii_add (by omega) (by omega); rw [ex_11]; omega) αh_9 Hh_9 Lh_9 Bh_9 v2_h_1 x_11 (by omega) ls (lv_sub hl [2, 3, 4, 0] rfl) rfl
          ·
            have jc_10 := il_eq c_10
            refine lv_iload_n hx hb dX10_leastUnsound_42 rfl (lv_at hl 3 rfl) (hp_n (n := 43) rfl ?_)
            refine lv_iconst (v := (-1)) hx hb dX10_leastUnsound_43 (by decide) (hp_n (n := 44) rfl ?_)
            have J56 : ∀ (Hh_12 : Heap) (Lh_12 : List Loc) (Bh_12 : hp_B Γ (cw w_X10_leastUnsound) s α αh_9 Hh_12 Lh_12) (ls : Array Slot) (hl : lv_has ls 5 [(0, .ref a0), (1, .int a1), (3, .int v3_h_1), (4, .ref bh_4)]), W p l e (hp_rm 5 0 0) s m ([.ref a0, .int a1] : List Value).toArray below meth c Hh_12 Lh_12 0 0 (MQ below (hp_Qi Γ (fun r β => cw w_X10_leastUnsound α β)) ([.ref a0, .int a1] : List Value).toArray s 0 0 (hp_A Γ)) (F0 m 56 ls []) := by
              intro Hh_12 Lh_12 Bh_12 ls hl
              refine lv_aload hx hb dX10_leastUnsound_56 (lv_at hl 3 rfl) (hp_n (n := 58) rfl ?_)
              refine q_geti (κ := 2) (k := 1) (φ := 101) (pc' := 61) C Bh_12 (cw_k Bh_12.2.2 kbh_4) fl_X10_131 rfl rfl rfl dX10_leastUnsound_58 rfl (fun x_13 ex_13 => ?_)
              refine lv_istore_n (lv' := [(2, .int x_13), (0, .ref a0), (1, .int a1), (3, .int v3_h_1), (4, .ref bh_4)]) hx hb dX10_leastUnsound_61 rfl hl (by decide) rfl (fun ls hl => hp_n (n := 62) rfl ?_)
              obtain ⟨x_14, ex_14⟩ : ∃ y : Int32, y = v3_h_1 + 1 := ⟨_, rfl⟩
              have qx_14 : x_14.toInt = v3_h_1.toInt + 1 := by have q0 := ib_hi x_2; have qa := ib_lo v3_h_1; rw [ex_14]; exact ii_add (by omega) (by omega)
              refine lv_iinc (v := x_14) (lv' := [(3, .int x_14), (2, .int x_13), (0, .ref a0), (1, .int a1), (4, .ref bh_4)]) hx hb dX10_leastUnsound_62 hl (k := 3) rfl (by rw [ex_14]; rfl) (by decide) rfl (fun ls hl => hp_n (n := 65) rfl ?_)
              refine lv_goto (tgt := 4) hx hb dX10_leastUnsound_65 (by decide) ?_
              exact ih4 _ (by have q0 := ib_hi x_2; have q1 := ib_lo x_2; have qa := ib_hi v3_h_1; have qb := ib_lo v3_h_1; have qc : (v3_h_1 + 1).toInt = v3_h_1.toInt + (1 : Int32).toInt := ii_add (by omega) (by omega); rw [ex_14]; omega) αh_9 Hh_12 Lh_12 Bh_12 x_13 x_14 (by omega) ls (lv_sub hl [2, 3, 1, 0] rfl) rfl
            refine lv_icmp_eq (tgt := 56) hx hb dX10_leastUnsound_44 (by decide) (fun c_15 => ?_) (fun c_15 => hp_n (n := 47) rfl ?_)
            ·
              have jc_15 := il_eq c_15
              exact J56 Hh_9 Lh_9 Bh_9 ls (lv_sub hl [1, 2, 4, 0] rfl)
            ·
              have jc_15 := il_ne c_15
              refine lv_aload hx hb dX10_leastUnsound_47 (lv_at hl 0 rfl) (hp_n (n := 49) rfl ?_)
              refine q_geti (κ := 2) (k := 1) (φ := 101) (pc' := 52) C Bh_9 (cw_k Bh_9.2.2 kbh_4) fl_X10_131 rfl rfl rfl dX10_leastUnsound_49 rfl (fun x_16 ex_16 => ?_)
              refine lv_iload_n hx hb dX10_leastUnsound_52 rfl (lv_at hl 3 rfl) (hp_n (n := 53) rfl ?_)
              refine lv_icmp_ge (tgt := 62) hx hb dX10_leastUnsound_53 (by decide) (fun c_17 => ?_) (fun c_17 => hp_n (n := 56) rfl ?_)
              ·
                have jc_17 := il_le c_17
                obtain ⟨x_18, ex_18⟩ : ∃ y : Int32, y = v3_h_1 + 1 := ⟨_, rfl⟩
                have qx_18 : x_18.toInt = v3_h_1.toInt + 1 := by have q0 := ib_hi x_2; have qa := ib_lo v3_h_1; rw [ex_18]; exact ii_add (by omega) (by omega)
                refine lv_iinc (v := x_18) (lv' := [(3, .int x_18), (4, .ref bh_4), (0, .ref a0), (1, .int a1), (2, .int v2_h_1)]) hx hb dX10_leastUnsound_62 hl (k := 4) rfl (by rw [ex_18]; rfl) (by decide) rfl (fun ls hl => hp_n (n := 65) rfl ?_)
                refine lv_goto (tgt := 4) hx hb dX10_leastUnsound_65 (by decide) ?_
                exact ih4 _ (by have q0 := ib_hi x_2; have q1 := ib_lo x_2; have qa := ib_hi v3_h_1; have qb := ib_lo v3_h_1; have qc : (v3_h_1 + 1).toInt = v3_h_1.toInt + (1 : Int32).toInt := ii_add (by omega) (by omega); rw [ex_18]; omega) αh_9 Hh_9 Lh_9 Bh_9 v2_h_1 x_18 (by omega) ls (lv_sub hl [2, 3, 4, 0] rfl) rfl
              ·
                have jc_17 := il_nle c_17
                exact J56 Hh_9 Lh_9 Bh_9 ls (lv_sub hl [1, 2, 4, 0] rfl)
  refine lv_istore_n (lv' := [(3, .int 0), (2, .int (-1)), (0, .ref a0), (1, .int a1)]) hx hb dX10_leastUnsound_3 rfl hl (by decide) rfl (fun ls hl => hp_n (n := 4) rfl ?_)
  exact J4 _ α s.heap [] B (-1) 0 (by omega) ls (lv_sub hl [2, 3, 1, 0] rfl) rfl
abbrev w_X10_greatestSoundBelow : cw_W := ([], [], [33], [])
set_option maxRecDepth 100000 in
set_option maxHeartbeats 4000000 in
theorem t_X10_greatestSoundBelow (Γ : hp_G) (l : Launch) (α : hp_T) (g : GC α) (a0 : Nat) (k0 : hp_K α a0 = 11) (a1 : Int32) (a2 : Int32) : Met l yX10_greatestSoundBelow (hp_ws yX10_greatestSoundBelow cX10_greatestSoundBelow 6 (some .int)) (hp_rm 5 0 0) (hp_Pc Γ α [.ref a0, .int a1, .int a2]) (hp_Qi Γ (fun r β => cw w_X10_greatestSoundBelow α β)) 0 0 (hp_A Γ) := by
  refine hp_start (by decide) ?_
  intro p e s m below meth c C hr hlk B0 hnm
  have C : hp_C Γ p m c cX10_greatestSoundBelow 6 s ([.ref a0, .int a1, .int a2] : List Value).toArray RX10 := C
  have hx := C.1.1
  have hb := C.1.2.1
  have hown := C.1.2.2.2.1
  have hts := C.1.2.2.2.2
  have B : hp_B Γ (cw w_X10_greatestSoundBelow) s α α s.heap [] := ⟨B0.1, B0.2.1, cw_rf g⟩
  have lit0 : (0 : Int32).toInt = 0 := by decide
  have lit1 : (1 : Int32).toInt = 1 := by decide
  have hl := lv_entry ([.ref a0, .int a1, .int a2]) (n := 6) (Nat.le_of_ble_eq_true rfl)
  show W p l e (hp_rm 5 0 0) s m ([.ref a0, .int a1, .int a2] : List Value).toArray below meth c s.heap [] 0 0 (MQ below (hp_Qi Γ (fun r β => cw w_X10_greatestSoundBelow α β)) ([.ref a0, .int a1, .int a2] : List Value).toArray s 0 0 (hp_A Γ)) (entryFrame m ([.ref a0, .int a1, .int a2] : List Value).toArray 6)
  rw [lg_entry_eq]
  generalize (lg_sl ([.ref a0, .int a1, .int a2]) ++ List.replicate (6 - (lg_sl ([.ref a0, .int a1, .int a2])).length) Slot.unset).toArray = ls at hl ⊢
  have hl : lv_has ls 6 [(0, .ref a0), (1, .int a1), (2, .int a2)] := hl
  refine lv_iconst (v := 0) hx hb dX10_greatestSoundBelow_0 (by decide) (hp_n (n := 1) rfl ?_)
  refine lv_istore_n (lv' := [(3, .int 0), (0, .ref a0), (1, .int a1), (2, .int a2)]) hx hb dX10_greatestSoundBelow_1 rfl hl (by decide) rfl (fun ls hl => hp_n (n := 2) rfl ?_)
  refine lv_iconst (v := 0) hx hb dX10_greatestSoundBelow_2 (by decide) (hp_n (n := 3) rfl ?_)
  have J5 : ∀ (nq : Nat) (αh_1 : hp_T) (Hh_1 : Heap) (Lh_1 : List Loc) (Bh_1 : hp_B Γ (cw w_X10_greatestSoundBelow) s α αh_1 Hh_1 Lh_1) (v3_h_1 : Int32) (v4_h_1 : Int32) (ih_1_0 : 0 ≤ v4_h_1.toInt) (ls : Array Slot) (hl : lv_has ls 6 [(0, .ref a0), (1, .int a1), (2, .int a2), (3, .int v3_h_1), (4, .int v4_h_1)]) (hmu5 : (2147483647 - v4_h_1.toInt).toNat = nq), W p l e (hp_rm 5 0 0) s m ([.ref a0, .int a1, .int a2] : List Value).toArray below meth c Hh_1 Lh_1 0 0 (MQ below (hp_Qi Γ (fun r β => cw w_X10_greatestSoundBelow α β)) ([.ref a0, .int a1, .int a2] : List Value).toArray s 0 0 (hp_A Γ)) (F0 m 5 ls []) := by
    intro nq
    induction nq using Nat.strongRecOn with
    | ind nq ih5 =>
    intro αh_1 Hh_1 Lh_1 Bh_1 v3_h_1 v4_h_1 ih_1_0 ls hl hmu5
    have inv5_0 := ih_1_0
    refine lv_iload hx hb dX10_greatestSoundBelow_5 (lv_at hl 4 rfl) (hp_n (n := 7) rfl ?_)
    refine lv_aload_n hx hb dX10_greatestSoundBelow_7 rfl (lv_at hl 0 rfl) (hp_n (n := 8) rfl ?_)
    refine q_geti (κ := 11) (k := 4) (φ := 554) (pc' := 11) C Bh_1 (cw_k Bh_1.2.2 k0) fl_X10_31 rfl rfl rfl dX10_greatestSoundBelow_8 rfl (fun x_2 ex_2 => ?_)
    refine lv_icmp_ge (tgt := 70) hx hb dX10_greatestSoundBelow_11 (by decide) (fun c_3 => ?_) (fun c_3 => hp_n (n := 14) rfl ?_)
    ·
      have jc_3 := il_le c_3
      refine lv_iload_n hx hb dX10_greatestSoundBelow_70 rfl (lv_at hl 3 rfl) (hp_n (n := 71) rfl ?_)
      exact q_iret C Bh_1 hr hlk Bh_1.2.2 dX10_greatestSoundBelow_71
    ·
      have jc_3 := il_nle c_3
      refine lv_aload_n hx hb dX10_greatestSoundBelow_14 rfl (lv_at hl 0 rfl) (hp_n (n := 15) rfl ?_)
      refine lv_iload hx hb dX10_greatestSoundBelow_15 (lv_at hl 4 rfl) (hp_n (n := 17) rfl ?_)
      refine q_cq (pc' := 20) Bh_1 (hp_runV (As := [.int v4_h_1]) (rest := []) C Bh_1 (t_X10_frozenAt Γ l αh_1 Bh_1.2.2.1 a0 (cw_k Bh_1.2.2 k0) v4_h_1) lb_X10_frozenAt lv_X10_frozenAt lk_X10_188 (cw_k Bh_1.2.2 k0) rfl (by decide) rfl hl.1 rfl (Nat.le_of_ble_eq_true rfl) dX10_greatestSoundBelow_17 ⟨Nat.le_refl _, Nat.le_refl _⟩) (fun _ _ h => by rw [h.1]; exact Bh_1.2.2) rfl (fun rh_4 αh_4 Hh_4 Lh_4 ph_4 Bh_4 => ?_)
      rw [ph_4.1] at Bh_4
      rcases rh_4 with _ | bh_4
      ·
        refine lv_astoreN (lv' := [(5, .null), (0, .ref a0), (1, .int a1), (2, .int a2), (3, .int v3_h_1), (4, .int v4_h_1)]) hx hb dX10_greatestSoundBelow_20 hl (by decide) rfl (fun ls hl => hp_n (n := 22) rfl ?_)
        refine lv_aloadN hx hb dX10_greatestSoundBelow_22 (lv_at hl 0 rfl) (hp_n (n := 24) rfl ?_)
        refine lv_ifnullN (tgt := 64) hx hb dX10_greatestSoundBelow_24 (by decide) ?_
        obtain ⟨x_5, ex_5⟩ : ∃ y : Int32, y = v4_h_1 + 1 := ⟨_, rfl⟩
        have qx_5 : x_5.toInt = v4_h_1.toInt + 1 := by have q0 := ib_hi x_2; have qa := ib_lo v4_h_1; rw [ex_5]; exact ii_add (by omega) (by omega)
        refine lv_iinc (v := x_5) (lv' := [(4, .int x_5), (5, .null), (0, .ref a0), (1, .int a1), (2, .int a2), (3, .int v3_h_1)]) hx hb dX10_greatestSoundBelow_64 hl (k := 5) rfl (by rw [ex_5]; rfl) (by decide) rfl (fun ls hl => hp_n (n := 67) rfl ?_)
        refine lv_goto (tgt := 5) hx hb dX10_greatestSoundBelow_67 (by decide) ?_
        exact ih5 _ (by have q0 := ib_hi x_2; have q1 := ib_lo x_2; have qa := ib_hi v4_h_1; have qb := ib_lo v4_h_1; have qc : (v4_h_1 + 1).toInt = v4_h_1.toInt + (1 : Int32).toInt := ii_add (by omega) (by omega); rw [ex_5]; omega) αh_1 Hh_4 Lh_4 Bh_4 v3_h_1 x_5 (by omega) ls (lv_sub hl [2, 3, 4, 5, 0] rfl) rfl
      ·
        have kbh_4 : hp_K α bh_4 = 2 := cw_k' Bh_4.2.2 (ph_4.2 bh_4 rfl)
        refine lv_astore (lv' := [(5, .ref bh_4), (0, .ref a0), (1, .int a1), (2, .int a2), (3, .int v3_h_1), (4, .int v4_h_1)]) hx hb dX10_greatestSoundBelow_20 hl (by decide) rfl (fun ls hl => hp_n (n := 22) rfl ?_)
        refine lv_aload hx hb dX10_greatestSoundBelow_22 (lv_at hl 0 rfl) (hp_n (n := 24) rfl ?_)
        refine lv_ifnull hx hb dX10_greatestSoundBelow_24 (hp_n (n := 27) rfl ?_)
        refine lv_aload hx hb dX10_greatestSoundBelow_27 (lv_at hl 0 rfl) (hp_n (n := 29) rfl ?_)
        refine q_geti (κ := 2) (k := 0) (φ := 100) (pc' := 32) C Bh_4 (cw_k Bh_4.2.2 kbh_4) fl_X10_128 rfl rfl rfl dX10_greatestSoundBelow_29 rfl (fun x_6 ex_6 => ?_)
        refine lv_iload_n hx hb dX10_greatestSoundBelow_32 rfl (lv_at hl 2 rfl) (hp_n (n := 33) rfl ?_)
        refine lv_icmp_ne (tgt := 64) hx hb dX10_greatestSoundBelow_33 (by decide) (fun c_7 => ?_) (fun c_7 => hp_n (n := 36) rfl ?_)
        ·
          have jc_7 := il_ne c_7
          obtain ⟨x_8, ex_8⟩ : ∃ y : Int32, y = v4_h_1 + 1 := ⟨_, rfl⟩
          have qx_8 : x_8.toInt = v4_h_1.toInt + 1 := by have q0 := ib_hi x_2; have qa := ib_lo v4_h_1; rw [ex_8]; exact ii_add (by omega) (by omega)
          refine lv_iinc (v := x_8) (lv' := [(4, .int x_8), (5, .ref bh_4), (0, .ref a0), (1, .int a1), (2, .int a2), (3, .int v3_h_1)]) hx hb dX10_greatestSoundBelow_64 hl (k := 5) rfl (by rw [ex_8]; rfl) (by decide) rfl (fun ls hl => hp_n (n := 67) rfl ?_)
          refine lv_goto (tgt := 5) hx hb dX10_greatestSoundBelow_67 (by decide) ?_
          exact ih5 _ (by have q0 := ib_hi x_2; have q1 := ib_lo x_2; have qa := ib_hi v4_h_1; have qb := ib_lo v4_h_1; have qc : (v4_h_1 + 1).toInt = v4_h_1.toInt + (1 : Int32).toInt := ii_add (by omega) (by omega); rw [ex_8]; omega) αh_1 Hh_4 Lh_4 Bh_4 v3_h_1 x_8 (by omega) ls (lv_sub hl [2, 3, 4, 5, 0] rfl) rfl
        ·
          have jc_7 := il_eq c_7
          refine lv_aload hx hb dX10_greatestSoundBelow_36 (lv_at hl 0 rfl) (hp_n (n := 38) rfl ?_)
          refine q_geti (κ := 2) (k := 1) (φ := 101) (pc' := 41) C Bh_4 (cw_k Bh_4.2.2 kbh_4) fl_X10_131 rfl rfl rfl dX10_greatestSoundBelow_38 rfl (fun x_9 ex_9 => ?_)
          refine lv_iload_n hx hb dX10_greatestSoundBelow_41 rfl (lv_at hl 3 rfl) (hp_n (n := 42) rfl ?_)
          refine lv_icmp_ge (tgt := 64) hx hb dX10_greatestSoundBelow_42 (by decide) (fun c_10 => ?_) (fun c_10 => hp_n (n := 45) rfl ?_)
          ·
            have jc_10 := il_le c_10
            obtain ⟨x_11, ex_11⟩ : ∃ y : Int32, y = v4_h_1 + 1 := ⟨_, rfl⟩
            have qx_11 : x_11.toInt = v4_h_1.toInt + 1 := by have q0 := ib_hi x_2; have qa := ib_lo v4_h_1; rw [ex_11]; exact ii_add (by omega) (by omega)
            refine lv_iinc (v := x_11) (lv' := [(4, .int x_11), (5, .ref bh_4), (0, .ref a0), (1, .int a1), (2, .int a2), (3, .int v3_h_1)]) hx hb dX10_greatestSoundBelow_64 hl (k := 5) rfl (by rw [ex_11]; rfl) (by decide) rfl (fun ls hl => hp_n (n := 67) rfl ?_)
            refine lv_goto (tgt := 5) hx hb dX10_greatestSoundBelow_67 (by decide) ?_
            exact ih5 _ (by have q0 := ib_hi x_2; have q1 := ib_lo x_2; have qa := ib_hi v4_h_1; have qb := ib_lo v4_h_1; have qc : (v4_h_1 + 1).toInt = v4_h_1.toInt + (1 : Int32).toInt := ii_add (by omega) (by omega); rw [ex_11]; omega) αh_1 Hh_4 Lh_4 Bh_4 v3_h_1 x_11 (by omega) ls (lv_sub hl [2, 3, 4, 5, 0] rfl) rfl
          ·
            have jc_10 := il_nle c_10
            refine lv_aload_n hx hb dX10_greatestSoundBelow_45 rfl (lv_at hl 1 rfl) (hp_n (n := 46) rfl ?_)
            refine lv_aload hx hb dX10_greatestSoundBelow_46 (lv_at hl 0 rfl) (hp_n (n := 48) rfl ?_)
            refine q_ci (pc' := 51) Bh_4 (hp_runV (As := [.ref bh_4]) (rest := []) C Bh_4 (t_X10_isSound Γ l αh_1 Bh_4.2.2.1 a0 (cw_k Bh_4.2.2 k0) bh_4 (cw_k Bh_4.2.2 kbh_4)) lb_X10_isSound lv_X10_isSound lk_X10_192 (cw_k Bh_4.2.2 k0) rfl (by decide) rfl hl.1 rfl (Nat.le_of_ble_eq_true rfl) dX10_greatestSoundBelow_48 ⟨Nat.le_refl _, Nat.le_refl _⟩) (fun _ _ h => cw_tr Bh_4.2.2 h.1 (by decide)) rfl (fun rh_12 αh_12 Hh_12 Lh_12 ph_12 Bh_12 => ?_)
            have zh_12 := ph_12.2
            refine lv_if_eq (tgt := 64) hx hb dX10_greatestSoundBelow_51 (by decide) (fun c_13 => ?_) (fun c_13 => hp_n (n := 54) rfl ?_)
            ·
              have jc_13 := il_eq c_13
              obtain ⟨x_14, ex_14⟩ : ∃ y : Int32, y = v4_h_1 + 1 := ⟨_, rfl⟩
              have qx_14 : x_14.toInt = v4_h_1.toInt + 1 := by have q0 := ib_hi x_2; have qa := ib_lo v4_h_1; rw [ex_14]; exact ii_add (by omega) (by omega)
              refine lv_iinc (v := x_14) (lv' := [(4, .int x_14), (5, .ref bh_4), (0, .ref a0), (1, .int a1), (2, .int a2), (3, .int v3_h_1)]) hx hb dX10_greatestSoundBelow_64 hl (k := 5) rfl (by rw [ex_14]; rfl) (by decide) rfl (fun ls hl => hp_n (n := 67) rfl ?_)
              refine lv_goto (tgt := 5) hx hb dX10_greatestSoundBelow_67 (by decide) ?_
              exact ih5 _ (by have q0 := ib_hi x_2; have q1 := ib_lo x_2; have qa := ib_hi v4_h_1; have qb := ib_lo v4_h_1; have qc : (v4_h_1 + 1).toInt = v4_h_1.toInt + (1 : Int32).toInt := ii_add (by omega) (by omega); rw [ex_14]; omega) αh_12 Hh_12 Lh_12 Bh_12 v3_h_1 x_14 (by omega) ls (lv_sub hl [2, 3, 4, 5, 0] rfl) rfl
            ·
              have jc_13 := il_ne c_13
              refine lv_iload_n hx hb dX10_greatestSoundBelow_54 rfl (lv_at hl 4 rfl) (hp_n (n := 55) rfl ?_)
              refine lv_aload hx hb dX10_greatestSoundBelow_55 (lv_at hl 0 rfl) (hp_n (n := 57) rfl ?_)
              have t_15 : x_9 = hp_I αh_12 101 bh_4 := by rw [cw_I ph_12.1 bh_4 (by decide)]; exact ex_9
              refine q_getj (κ := 2) (k := 1) (φ := 101) (pc' := 60) C Bh_12 (cw_k Bh_12.2.2 kbh_4) fl_X10_131 rfl rfl rfl t_15 dX10_greatestSoundBelow_57 rfl ?_
              refine q_ci (pc' := 63) Bh_12 (hp_runS (As := [.int v3_h_1, .int x_9]) (rest := []) C Bh_12 (t_J9_max_7cf53 Γ l αh_12 Bh_12.2.2.1 v3_h_1 x_9) lb_J9_max_7cf53 ls_J9_max_7cf53 lk_X10_196 rfl (by decide) rfl hl.1 rfl (Nat.le_of_ble_eq_true rfl) dX10_greatestSoundBelow_60 ⟨Nat.le_refl _, Nat.le_refl _⟩) (fun _ _ h => by rw [h.1]; exact Bh_12.2.2) rfl (fun rh_16 αh_16 Hh_16 Lh_16 ph_16 Bh_16 => ?_)
              rw [ph_16.1] at Bh_16
              obtain ⟨ph_16a, ph_16b, ph_16c⟩ := ph_16.2
              refine lv_istore_n (lv' := [(3, .int rh_16), (5, .ref bh_4), (0, .ref a0), (1, .int a1), (2, .int a2), (4, .int v4_h_1)]) hx hb dX10_greatestSoundBelow_63 rfl hl (by decide) rfl (fun ls hl => hp_n (n := 64) rfl ?_)
              obtain ⟨x_17, ex_17⟩ : ∃ y : Int32, y = v4_h_1 + 1 := ⟨_, rfl⟩
              have qx_17 : x_17.toInt = v4_h_1.toInt + 1 := by have q0 := ib_hi x_2; have qa := ib_lo v4_h_1; rw [ex_17]; exact ii_add (by omega) (by omega)
              refine lv_iinc (v := x_17) (lv' := [(4, .int x_17), (3, .int rh_16), (5, .ref bh_4), (0, .ref a0), (1, .int a1), (2, .int a2)]) hx hb dX10_greatestSoundBelow_64 hl (k := 5) rfl (by rw [ex_17]; rfl) (by decide) rfl (fun ls hl => hp_n (n := 67) rfl ?_)
              refine lv_goto (tgt := 5) hx hb dX10_greatestSoundBelow_67 (by decide) ?_
              exact ih5 _ (by have q0 := ib_hi x_2; have q1 := ib_lo x_2; have qa := ib_hi v4_h_1; have qb := ib_lo v4_h_1; have qc : (v4_h_1 + 1).toInt = v4_h_1.toInt + (1 : Int32).toInt := ii_add (by omega) (by omega); rw [ex_17]; omega) αh_12 Hh_16 Lh_16 Bh_16 rh_16 x_17 (by omega) ls (lv_sub hl [3, 4, 5, 1, 0] rfl) rfl
  refine lv_istore (lv' := [(4, .int 0), (3, .int 0), (0, .ref a0), (1, .int a1), (2, .int a2)]) hx hb dX10_greatestSoundBelow_3 hl (by decide) rfl (fun ls hl => hp_n (n := 5) rfl ?_)
  exact J5 _ α s.heap [] B 0 0 (by omega) ls (lv_sub hl [2, 3, 4, 1, 0] rfl) rfl
abbrev w_X10_leastFrozenAbove : cw_W := ([], [], [], [])
set_option maxRecDepth 100000 in
set_option maxHeartbeats 4000000 in
theorem t_X10_leastFrozenAbove (Γ : hp_G) (l : Launch) (α : hp_T) (g : GC α) (a0 : Nat) (k0 : hp_K α a0 = 11) (a1 : Int32) (a2 : Int32) : Met l yX10_leastFrozenAbove (hp_ws yX10_leastFrozenAbove cX10_leastFrozenAbove 6 (some .int)) (hp_rm 1 0 0) (hp_Pc Γ α [.ref a0, .int a1, .int a2]) (hp_Qi Γ (fun r β => β = α)) 0 0 (hp_A Γ) := by
  refine hp_start (by decide) ?_
  intro p e s m below meth c C hr hlk B0 hnm
  have C : hp_C Γ p m c cX10_leastFrozenAbove 6 s ([.ref a0, .int a1, .int a2] : List Value).toArray RX10 := C
  have hx := C.1.1
  have hb := C.1.2.1
  have hown := C.1.2.2.2.1
  have hts := C.1.2.2.2.2
  have B : hp_B Γ (cw w_X10_leastFrozenAbove) s α α s.heap [] := ⟨B0.1, B0.2.1, cw_rf g⟩
  have litm1 : ((-1) : Int32).toInt = (-1) := by decide
  have lit0 : (0 : Int32).toInt = 0 := by decide
  have lit1 : (1 : Int32).toInt = 1 := by decide
  have hl := lv_entry ([.ref a0, .int a1, .int a2]) (n := 6) (Nat.le_of_ble_eq_true rfl)
  show W p l e (hp_rm 1 0 0) s m ([.ref a0, .int a1, .int a2] : List Value).toArray below meth c s.heap [] 0 0 (MQ below (hp_Qi Γ (fun r β => β = α)) ([.ref a0, .int a1, .int a2] : List Value).toArray s 0 0 (hp_A Γ)) (entryFrame m ([.ref a0, .int a1, .int a2] : List Value).toArray 6)
  rw [lg_entry_eq]
  generalize (lg_sl ([.ref a0, .int a1, .int a2]) ++ List.replicate (6 - (lg_sl ([.ref a0, .int a1, .int a2])).length) Slot.unset).toArray = ls at hl ⊢
  have hl : lv_has ls 6 [(0, .ref a0), (1, .int a1), (2, .int a2)] := hl
  refine lv_iconst (v := (-1)) hx hb dX10_leastFrozenAbove_0 (by decide) (hp_n (n := 1) rfl ?_)
  refine lv_istore_n (lv' := [(3, .int (-1)), (0, .ref a0), (1, .int a1), (2, .int a2)]) hx hb dX10_leastFrozenAbove_1 rfl hl (by decide) rfl (fun ls hl => hp_n (n := 2) rfl ?_)
  refine lv_iconst (v := 0) hx hb dX10_leastFrozenAbove_2 (by decide) (hp_n (n := 3) rfl ?_)
  have J5 : ∀ (nq : Nat) (Hh_1 : Heap) (Lh_1 : List Loc) (Bh_1 : hp_B Γ (cw w_X10_leastFrozenAbove) s α α Hh_1 Lh_1) (v3_h_1 : Int32) (v4_h_1 : Int32) (ih_1_0 : 0 ≤ v4_h_1.toInt) (ls : Array Slot) (hl : lv_has ls 6 [(0, .ref a0), (1, .int a1), (2, .int a2), (3, .int v3_h_1), (4, .int v4_h_1)]) (hmu5 : (2147483647 - v4_h_1.toInt).toNat = nq), W p l e (hp_rm 1 0 0) s m ([.ref a0, .int a1, .int a2] : List Value).toArray below meth c Hh_1 Lh_1 0 0 (MQ below (hp_Qi Γ (fun r β => β = α)) ([.ref a0, .int a1, .int a2] : List Value).toArray s 0 0 (hp_A Γ)) (F0 m 5 ls []) := by
    intro nq
    induction nq using Nat.strongRecOn with
    | ind nq ih5 =>
    intro Hh_1 Lh_1 Bh_1 v3_h_1 v4_h_1 ih_1_0 ls hl hmu5
    have inv5_0 := ih_1_0
    refine lv_iload hx hb dX10_leastFrozenAbove_5 (lv_at hl 4 rfl) (hp_n (n := 7) rfl ?_)
    refine lv_aload_n hx hb dX10_leastFrozenAbove_7 rfl (lv_at hl 0 rfl) (hp_n (n := 8) rfl ?_)
    refine q_geti (κ := 11) (k := 4) (φ := 554) (pc' := 11) C Bh_1 (cw_k Bh_1.2.2 k0) fl_X10_31 rfl rfl rfl dX10_leastFrozenAbove_8 rfl (fun x_2 ex_2 => ?_)
    refine lv_icmp_ge (tgt := 71) hx hb dX10_leastFrozenAbove_11 (by decide) (fun c_3 => ?_) (fun c_3 => hp_n (n := 14) rfl ?_)
    ·
      have jc_3 := il_le c_3
      refine lv_iload_n hx hb dX10_leastFrozenAbove_71 rfl (lv_at hl 3 rfl) (hp_n (n := 72) rfl ?_)
      exact q_iret C Bh_1 hr hlk rfl dX10_leastFrozenAbove_72
    ·
      have jc_3 := il_nle c_3
      refine lv_aload_n hx hb dX10_leastFrozenAbove_14 rfl (lv_at hl 0 rfl) (hp_n (n := 15) rfl ?_)
      refine lv_iload hx hb dX10_leastFrozenAbove_15 (lv_at hl 4 rfl) (hp_n (n := 17) rfl ?_)
      refine q_cq (pc' := 20) Bh_1 (hp_runV (As := [.int v4_h_1]) (rest := []) C Bh_1 (t_X10_frozenAt Γ l α Bh_1.2.2.1 a0 (cw_k Bh_1.2.2 k0) v4_h_1) lb_X10_frozenAt lv_X10_frozenAt lk_X10_188 (cw_k Bh_1.2.2 k0) rfl (by decide) rfl hl.1 rfl (Nat.le_of_ble_eq_true rfl) dX10_leastFrozenAbove_17 ⟨Nat.le_refl _, Nat.le_refl _⟩) (fun _ _ h => by rw [h.1]; exact Bh_1.2.2) rfl (fun rh_4 αh_4 Hh_4 Lh_4 ph_4 Bh_4 => ?_)
      rw [ph_4.1] at Bh_4
      rcases rh_4 with _ | bh_4
      ·
        refine lv_astoreN (lv' := [(5, .null), (0, .ref a0), (1, .int a1), (2, .int a2), (3, .int v3_h_1), (4, .int v4_h_1)]) hx hb dX10_leastFrozenAbove_20 hl (by decide) rfl (fun ls hl => hp_n (n := 22) rfl ?_)
        refine lv_aloadN hx hb dX10_leastFrozenAbove_22 (lv_at hl 0 rfl) (hp_n (n := 24) rfl ?_)
        refine lv_ifnullN (tgt := 65) hx hb dX10_leastFrozenAbove_24 (by decide) ?_
        obtain ⟨x_5, ex_5⟩ : ∃ y : Int32, y = v4_h_1 + 1 := ⟨_, rfl⟩
        have qx_5 : x_5.toInt = v4_h_1.toInt + 1 := by have q0 := ib_hi x_2; have qa := ib_lo v4_h_1; rw [ex_5]; exact ii_add (by omega) (by omega)
        refine lv_iinc (v := x_5) (lv' := [(4, .int x_5), (5, .null), (0, .ref a0), (1, .int a1), (2, .int a2), (3, .int v3_h_1)]) hx hb dX10_leastFrozenAbove_65 hl (k := 5) rfl (by rw [ex_5]; rfl) (by decide) rfl (fun ls hl => hp_n (n := 68) rfl ?_)
        refine lv_goto (tgt := 5) hx hb dX10_leastFrozenAbove_68 (by decide) ?_
        exact ih5 _ (by have q0 := ib_hi x_2; have q1 := ib_lo x_2; have qa := ib_hi v4_h_1; have qb := ib_lo v4_h_1; have qc : (v4_h_1 + 1).toInt = v4_h_1.toInt + (1 : Int32).toInt := ii_add (by omega) (by omega); rw [ex_5]; omega) Hh_4 Lh_4 Bh_4 v3_h_1 x_5 (by omega) ls (lv_sub hl [2, 3, 4, 5, 0] rfl) rfl
      ·
        have kbh_4 : hp_K α bh_4 = 2 := cw_k' Bh_4.2.2 (ph_4.2 bh_4 rfl)
        refine lv_astore (lv' := [(5, .ref bh_4), (0, .ref a0), (1, .int a1), (2, .int a2), (3, .int v3_h_1), (4, .int v4_h_1)]) hx hb dX10_leastFrozenAbove_20 hl (by decide) rfl (fun ls hl => hp_n (n := 22) rfl ?_)
        refine lv_aload hx hb dX10_leastFrozenAbove_22 (lv_at hl 0 rfl) (hp_n (n := 24) rfl ?_)
        refine lv_ifnull hx hb dX10_leastFrozenAbove_24 (hp_n (n := 27) rfl ?_)
        refine lv_aload hx hb dX10_leastFrozenAbove_27 (lv_at hl 0 rfl) (hp_n (n := 29) rfl ?_)
        refine q_geti (κ := 2) (k := 0) (φ := 100) (pc' := 32) C Bh_4 (cw_k Bh_4.2.2 kbh_4) fl_X10_128 rfl rfl rfl dX10_leastFrozenAbove_29 rfl (fun x_6 ex_6 => ?_)
        refine lv_iload_n hx hb dX10_leastFrozenAbove_32 rfl (lv_at hl 2 rfl) (hp_n (n := 33) rfl ?_)
        refine lv_icmp_ne (tgt := 65) hx hb dX10_leastFrozenAbove_33 (by decide) (fun c_7 => ?_) (fun c_7 => hp_n (n := 36) rfl ?_)
        ·
          have jc_7 := il_ne c_7
          obtain ⟨x_8, ex_8⟩ : ∃ y : Int32, y = v4_h_1 + 1 := ⟨_, rfl⟩
          have qx_8 : x_8.toInt = v4_h_1.toInt + 1 := by have q0 := ib_hi x_2; have qa := ib_lo v4_h_1; rw [ex_8]; exact ii_add (by omega) (by omega)
          refine lv_iinc (v := x_8) (lv' := [(4, .int x_8), (5, .ref bh_4), (0, .ref a0), (1, .int a1), (2, .int a2), (3, .int v3_h_1)]) hx hb dX10_leastFrozenAbove_65 hl (k := 5) rfl (by rw [ex_8]; rfl) (by decide) rfl (fun ls hl => hp_n (n := 68) rfl ?_)
          refine lv_goto (tgt := 5) hx hb dX10_leastFrozenAbove_68 (by decide) ?_
          exact ih5 _ (by have q0 := ib_hi x_2; have q1 := ib_lo x_2; have qa := ib_hi v4_h_1; have qb := ib_lo v4_h_1; have qc : (v4_h_1 + 1).toInt = v4_h_1.toInt + (1 : Int32).toInt := ii_add (by omega) (by omega); rw [ex_8]; omega) Hh_4 Lh_4 Bh_4 v3_h_1 x_8 (by omega) ls (lv_sub hl [2, 3, 4, 5, 0] rfl) rfl
        ·
          have jc_7 := il_eq c_7
          refine lv_aload hx hb dX10_leastFrozenAbove_36 (lv_at hl 0 rfl) (hp_n (n := 38) rfl ?_)
          refine q_geti (κ := 2) (k := 1) (φ := 101) (pc' := 41) C Bh_4 (cw_k Bh_4.2.2 kbh_4) fl_X10_131 rfl rfl rfl dX10_leastFrozenAbove_38 rfl (fun x_9 ex_9 => ?_)
          refine lv_iload_n hx hb dX10_leastFrozenAbove_41 rfl (lv_at hl 3 rfl) (hp_n (n := 42) rfl ?_)
          refine lv_icmp_le (tgt := 65) hx hb dX10_leastFrozenAbove_42 (by decide) (fun c_10 => ?_) (fun c_10 => hp_n (n := 45) rfl ?_)
          ·
            have jc_10 := il_le c_10
            obtain ⟨x_11, ex_11⟩ : ∃ y : Int32, y = v4_h_1 + 1 := ⟨_, rfl⟩
            have qx_11 : x_11.toInt = v4_h_1.toInt + 1 := by have q0 := ib_hi x_2; have qa := ib_lo v4_h_1; rw [ex_11]; exact ii_add (by omega) (by omega)
            refine lv_iinc (v := x_11) (lv' := [(4, .int x_11), (5, .ref bh_4), (0, .ref a0), (1, .int a1), (2, .int a2), (3, .int v3_h_1)]) hx hb dX10_leastFrozenAbove_65 hl (k := 5) rfl (by rw [ex_11]; rfl) (by decide) rfl (fun ls hl => hp_n (n := 68) rfl ?_)
            refine lv_goto (tgt := 5) hx hb dX10_leastFrozenAbove_68 (by decide) ?_
            exact ih5 _ (by have q0 := ib_hi x_2; have q1 := ib_lo x_2; have qa := ib_hi v4_h_1; have qb := ib_lo v4_h_1; have qc : (v4_h_1 + 1).toInt = v4_h_1.toInt + (1 : Int32).toInt := ii_add (by omega) (by omega); rw [ex_11]; omega) Hh_4 Lh_4 Bh_4 v3_h_1 x_11 (by omega) ls (lv_sub hl [2, 3, 4, 5, 0] rfl) rfl
          ·
            have jc_10 := il_nle c_10
            refine lv_iload_n hx hb dX10_leastFrozenAbove_45 rfl (lv_at hl 4 rfl) (hp_n (n := 46) rfl ?_)
            refine lv_iconst (v := (-1)) hx hb dX10_leastFrozenAbove_46 (by decide) (hp_n (n := 47) rfl ?_)
            have J59 : ∀ (Hh_12 : Heap) (Lh_12 : List Loc) (Bh_12 : hp_B Γ (cw w_X10_leastFrozenAbove) s α α Hh_12 Lh_12) (ls : Array Slot) (hl : lv_has ls 6 [(0, .ref a0), (1, .int a1), (2, .int a2), (4, .int v4_h_1), (5, .ref bh_4)]), W p l e (hp_rm 1 0 0) s m ([.ref a0, .int a1, .int a2] : List Value).toArray below meth c Hh_12 Lh_12 0 0 (MQ below (hp_Qi Γ (fun r β => β = α)) ([.ref a0, .int a1, .int a2] : List Value).toArray s 0 0 (hp_A Γ)) (F0 m 59 ls []) := by
              intro Hh_12 Lh_12 Bh_12 ls hl
              refine lv_aload hx hb dX10_leastFrozenAbove_59 (lv_at hl 4 rfl) (hp_n (n := 61) rfl ?_)
              refine q_getj (κ := 2) (k := 1) (φ := 101) (pc' := 64) C Bh_12 (cw_k Bh_12.2.2 kbh_4) fl_X10_131 rfl rfl rfl ex_9 dX10_leastFrozenAbove_61 rfl ?_
              refine lv_istore_n (lv' := [(3, .int x_9), (0, .ref a0), (1, .int a1), (2, .int a2), (4, .int v4_h_1), (5, .ref bh_4)]) hx hb dX10_leastFrozenAbove_64 rfl hl (by decide) rfl (fun ls hl => hp_n (n := 65) rfl ?_)
              obtain ⟨x_13, ex_13⟩ : ∃ y : Int32, y = v4_h_1 + 1 := ⟨_, rfl⟩
              have qx_13 : x_13.toInt = v4_h_1.toInt + 1 := by have q0 := ib_hi x_2; have qa := ib_lo v4_h_1; rw [ex_13]; exact ii_add (by omega) (by omega)
              refine lv_iinc (v := x_13) (lv' := [(4, .int x_13), (3, .int x_9), (0, .ref a0), (1, .int a1), (2, .int a2), (5, .ref bh_4)]) hx hb dX10_leastFrozenAbove_65 hl (k := 4) rfl (by rw [ex_13]; rfl) (by decide) rfl (fun ls hl => hp_n (n := 68) rfl ?_)
              refine lv_goto (tgt := 5) hx hb dX10_leastFrozenAbove_68 (by decide) ?_
              exact ih5 _ (by have q0 := ib_hi x_2; have q1 := ib_lo x_2; have qa := ib_hi v4_h_1; have qb := ib_lo v4_h_1; have qc : (v4_h_1 + 1).toInt = v4_h_1.toInt + (1 : Int32).toInt := ii_add (by omega) (by omega); rw [ex_13]; omega) Hh_12 Lh_12 Bh_12 x_9 x_13 (by omega) ls (lv_sub hl [2, 3, 4, 1, 0] rfl) rfl
            refine lv_icmp_eq (tgt := 59) hx hb dX10_leastFrozenAbove_47 (by decide) (fun c_14 => ?_) (fun c_14 => hp_n (n := 50) rfl ?_)
            ·
              have jc_14 := il_eq c_14
              exact J59 Hh_4 Lh_4 Bh_4 ls (lv_sub hl [1, 2, 3, 5, 0] rfl)
            ·
              have jc_14 := il_ne c_14
              refine lv_aload hx hb dX10_leastFrozenAbove_50 (lv_at hl 0 rfl) (hp_n (n := 52) rfl ?_)
              refine q_getj (κ := 2) (k := 1) (φ := 101) (pc' := 55) C Bh_4 (cw_k Bh_4.2.2 kbh_4) fl_X10_131 rfl rfl rfl ex_9 dX10_leastFrozenAbove_52 rfl ?_
              refine lv_iload_n hx hb dX10_leastFrozenAbove_55 rfl (lv_at hl 4 rfl) (hp_n (n := 56) rfl ?_)
              refine lv_icmp_ge (tgt := 65) hx hb dX10_leastFrozenAbove_56 (by decide) (fun c_15 => ?_) (fun c_15 => hp_n (n := 59) rfl ?_)
              ·
                have jc_15 := il_le c_15
                obtain ⟨x_16, ex_16⟩ : ∃ y : Int32, y = v4_h_1 + 1 := ⟨_, rfl⟩
                have qx_16 : x_16.toInt = v4_h_1.toInt + 1 := by have q0 := ib_hi x_2; have qa := ib_lo v4_h_1; rw [ex_16]; exact ii_add (by omega) (by omega)
                refine lv_iinc (v := x_16) (lv' := [(4, .int x_16), (5, .ref bh_4), (0, .ref a0), (1, .int a1), (2, .int a2), (3, .int v3_h_1)]) hx hb dX10_leastFrozenAbove_65 hl (k := 5) rfl (by rw [ex_16]; rfl) (by decide) rfl (fun ls hl => hp_n (n := 68) rfl ?_)
                refine lv_goto (tgt := 5) hx hb dX10_leastFrozenAbove_68 (by decide) ?_
                exact ih5 _ (by have q0 := ib_hi x_2; have q1 := ib_lo x_2; have qa := ib_hi v4_h_1; have qb := ib_lo v4_h_1; have qc : (v4_h_1 + 1).toInt = v4_h_1.toInt + (1 : Int32).toInt := ii_add (by omega) (by omega); rw [ex_16]; omega) Hh_4 Lh_4 Bh_4 v3_h_1 x_16 (by omega) ls (lv_sub hl [2, 3, 4, 5, 0] rfl) rfl
              ·
                have jc_15 := il_nle c_15
                exact J59 Hh_4 Lh_4 Bh_4 ls (lv_sub hl [1, 2, 3, 5, 0] rfl)
  refine lv_istore (lv' := [(4, .int 0), (3, .int (-1)), (0, .ref a0), (1, .int a1), (2, .int a2)]) hx hb dX10_leastFrozenAbove_3 hl (by decide) rfl (fun ls hl => hp_n (n := 5) rfl ?_)
  exact J5 _ s.heap [] B (-1) 0 (by omega) ls (lv_sub hl [2, 3, 4, 1, 0] rfl) rfl
abbrev w_X10_partingTrees : cw_W := ([], [], [33], [])
set_option maxRecDepth 100000 in
set_option maxHeartbeats 4000000 in
theorem t_X10_partingTrees (Γ : hp_G) (l : Launch) (α : hp_T) (g : GC α) (a0 : Nat) (k0 : hp_K α a0 = 11) (a1 : Nat) (k1 : hp_K α a1 = 3) (a2 : Nat) (k2 : hp_K α a2 = 3) (a3 : Int32) (a4 : Int32) (z4 : a4 = 0 ∨ a4 = 1) : Met l yX10_partingTrees (hp_ws yX10_partingTrees cX10_partingTrees 10 (some .int)) (hp_rm 3 0 0) (hp_Pc Γ α [.ref a0, .ref a1, .ref a2, .int a3, .int a4]) (hp_Qi Γ (fun r β => cw w_X10_partingTrees α β)) 0 0 (hp_A Γ) := by
  refine hp_start (by decide) ?_
  intro p e s m below meth c C hr hlk B0 hnm
  have C : hp_C Γ p m c cX10_partingTrees 10 s ([.ref a0, .ref a1, .ref a2, .int a3, .int a4] : List Value).toArray RX10 := C
  have hx := C.1.1
  have hb := C.1.2.1
  have hown := C.1.2.2.2.1
  have hts := C.1.2.2.2.2
  have B : hp_B Γ (cw w_X10_partingTrees) s α α s.heap [] := ⟨B0.1, B0.2.1, cw_rf g⟩
  have lit0 : (0 : Int32).toInt = 0 := by decide
  have lit1 : (1 : Int32).toInt = 1 := by decide
  have lit40 : (40 : Int32).toInt = 40 := by decide
  have hl := lv_entry ([.ref a0, .ref a1, .ref a2, .int a3, .int a4]) (n := 10) (Nat.le_of_ble_eq_true rfl)
  show W p l e (hp_rm 3 0 0) s m ([.ref a0, .ref a1, .ref a2, .int a3, .int a4] : List Value).toArray below meth c s.heap [] 0 0 (MQ below (hp_Qi Γ (fun r β => cw w_X10_partingTrees α β)) ([.ref a0, .ref a1, .ref a2, .int a3, .int a4] : List Value).toArray s 0 0 (hp_A Γ)) (entryFrame m ([.ref a0, .ref a1, .ref a2, .int a3, .int a4] : List Value).toArray 10)
  rw [lg_entry_eq]
  generalize (lg_sl ([.ref a0, .ref a1, .ref a2, .int a3, .int a4]) ++ List.replicate (10 - (lg_sl ([.ref a0, .ref a1, .ref a2, .int a3, .int a4])).length) Slot.unset).toArray = ls at hl ⊢
  have hl : lv_has ls 10 [(0, .ref a0), (1, .ref a1), (2, .ref a2), (3, .int a3), (4, .int a4)] := hl
  refine lv_iconst (v := 0) hx hb dX10_partingTrees_0 (by decide) (hp_n (n := 1) rfl ?_)
  refine lv_istore (lv' := [(5, .int 0), (0, .ref a0), (1, .ref a1), (2, .ref a2), (3, .int a3), (4, .int a4)]) hx hb dX10_partingTrees_1 hl (by decide) rfl (fun ls hl => hp_n (n := 3) rfl ?_)
  refine lv_iload_n hx hb dX10_partingTrees_3 rfl (lv_at hl 4 rfl) (hp_n (n := 4) rfl ?_)
  refine lv_istore (lv' := [(6, .int a3), (5, .int 0), (0, .ref a0), (1, .ref a1), (2, .ref a2), (3, .int a3), (4, .int a4)]) hx hb dX10_partingTrees_4 hl (by decide) rfl (fun ls hl => hp_n (n := 6) rfl ?_)
  refine lv_iconst (v := 0) hx hb dX10_partingTrees_6 (by decide) (hp_n (n := 7) rfl ?_)
  refine lv_istore (lv' := [(7, .int 0), (6, .int a3), (5, .int 0), (0, .ref a0), (1, .ref a1), (2, .ref a2), (3, .int a3), (4, .int a4)]) hx hb dX10_partingTrees_7 hl (by decide) rfl (fun ls hl => hp_n (n := 9) rfl ?_)
  refine lv_iconst (v := 0) hx hb dX10_partingTrees_9 (by decide) (hp_n (n := 10) rfl ?_)
  have J12 : ∀ (nq : Nat) (αh_1 : hp_T) (Hh_1 : Heap) (Lh_1 : List Loc) (Bh_1 : hp_B Γ (cw w_X10_partingTrees) s α αh_1 Hh_1 Lh_1) (v5_h_1 : Int32) (v6_h_1 : Int32) (v7_h_1 : Int32) (v8_h_1 : Int32) (ih_1_0 : 0 ≤ v8_h_1.toInt) (ls : Array Slot) (hl : lv_has ls 10 [(0, .ref a0), (1, .ref a1), (2, .ref a2), (4, .int a4), (5, .int v5_h_1), (6, .int v6_h_1), (7, .int v7_h_1), (8, .int v8_h_1)]) (hmu12 : (2147483647 - v8_h_1.toInt).toNat = nq), W p l e (hp_rm 3 0 0) s m ([.ref a0, .ref a1, .ref a2, .int a3, .int a4] : List Value).toArray below meth c Hh_1 Lh_1 0 0 (MQ below (hp_Qi Γ (fun r β => cw w_X10_partingTrees α β)) ([.ref a0, .ref a1, .ref a2, .int a3, .int a4] : List Value).toArray s 0 0 (hp_A Γ)) (F0 m 12 ls []) := by
    intro nq
    induction nq using Nat.strongRecOn with
    | ind nq ih12 =>
    intro αh_1 Hh_1 Lh_1 Bh_1 v5_h_1 v6_h_1 v7_h_1 v8_h_1 ih_1_0 ls hl hmu12
    have inv12_0 := ih_1_0
    refine lv_iload hx hb dX10_partingTrees_12 (lv_at hl 7 rfl) (hp_n (n := 14) rfl ?_)
    refine lv_bipush (v := 40) hx hb dX10_partingTrees_14 (by decide) (hp_n (n := 16) rfl ?_)
    have J83 : ∀ (Hh_2 : Heap) (Lh_2 : List Loc) (Bh_2 : hp_B Γ (cw w_X10_partingTrees) s α αh_1 Hh_2 Lh_2) (ls : Array Slot) (hl : lv_has ls 10 [(4, .int a4), (5, .int v5_h_1), (7, .int v7_h_1)]), W p l e (hp_rm 3 0 0) s m ([.ref a0, .ref a1, .ref a2, .int a3, .int a4] : List Value).toArray below meth c Hh_2 Lh_2 0 0 (MQ below (hp_Qi Γ (fun r β => cw w_X10_partingTrees α β)) ([.ref a0, .ref a1, .ref a2, .int a3, .int a4] : List Value).toArray s 0 0 (hp_A Γ)) (F0 m 83 ls []) := by
      intro Hh_2 Lh_2 Bh_2 ls hl
      refine lv_iload hx hb dX10_partingTrees_83 (lv_at hl 0 rfl) (hp_n (n := 85) rfl ?_)
      refine lv_if_eq (tgt := 93) hx hb dX10_partingTrees_85 (by decide) (fun c_3 => ?_) (fun c_3 => hp_n (n := 88) rfl ?_)
      ·
        have jc_3 := il_eq c_3
        refine lv_iload hx hb dX10_partingTrees_93 (lv_at hl 1 rfl) (hp_n (n := 95) rfl ?_)
        exact q_iret C Bh_2 hr hlk Bh_2.2.2 dX10_partingTrees_95
      ·
        have jc_3 := il_ne c_3
        refine lv_iload hx hb dX10_partingTrees_88 (lv_at hl 2 rfl) (hp_n (n := 90) rfl ?_)
        refine lv_goto (tgt := 95) hx hb dX10_partingTrees_90 (by decide) ?_
        exact q_iret C Bh_2 hr hlk Bh_2.2.2 dX10_partingTrees_95
    refine lv_icmp_ge (tgt := 83) hx hb dX10_partingTrees_16 (by decide) (fun c_4 => ?_) (fun c_4 => hp_n (n := 19) rfl ?_)
    ·
      have jc_4 := il_le c_4
      exact J83 Hh_1 Lh_1 Bh_1 ls (lv_sub hl [3, 4, 6] rfl)
    ·
      have jc_4 := il_nle c_4
      refine lv_iload hx hb dX10_partingTrees_19 (lv_at hl 5 rfl) (hp_n (n := 21) rfl ?_)
      refine lv_iconst (v := 1) hx hb dX10_partingTrees_21 (by decide) (hp_n (n := 22) rfl ?_)
      refine lv_icmp_le (tgt := 83) hx hb dX10_partingTrees_22 (by decide) (fun c_5 => ?_) (fun c_5 => hp_n (n := 25) rfl ?_)
      ·
        have jc_5 := il_le c_5
        exact J83 Hh_1 Lh_1 Bh_1 ls (lv_sub hl [3, 4, 6] rfl)
      ·
        have jc_5 := il_nle c_5
        refine lv_iload hx hb dX10_partingTrees_25 (lv_at hl 5 rfl) (hp_n (n := 27) rfl ?_)
        refine q_ci (pc' := 30) Bh_1 (hp_runS (As := [.int v6_h_1]) (rest := []) C Bh_1 (t_X11_firstPartOf Γ l αh_1 Bh_1.2.2.1 v6_h_1) lb_X11_firstPartOf ls_X11_firstPartOf lk_X10_203 rfl (by decide) rfl hl.1 rfl (Nat.le_of_ble_eq_true rfl) dX10_partingTrees_27 ⟨Nat.le_refl _, Nat.le_refl _⟩) (fun _ _ h => by rw [h]; exact Bh_1.2.2) rfl (fun rh_6 αh_6 Hh_6 Lh_6 ph_6 Bh_6 => ?_)
        rw [ph_6] at Bh_6
        refine lv_istore (lv' := [(9, .int rh_6), (0, .ref a0), (1, .ref a1), (2, .ref a2), (4, .int a4), (5, .int v5_h_1), (6, .int v6_h_1), (7, .int v7_h_1), (8, .int v8_h_1)]) hx hb dX10_partingTrees_30 hl (by decide) rfl (fun ls hl => hp_n (n := 32) rfl ?_)
        obtain ⟨x_7, ex_7⟩ : ∃ y : Int32, y = v7_h_1 + 1 := ⟨_, rfl⟩
        refine lv_iinc (v := x_7) (lv' := [(7, .int x_7), (9, .int rh_6), (0, .ref a0), (1, .ref a1), (2, .ref a2), (4, .int a4), (5, .int v5_h_1), (6, .int v6_h_1), (8, .int v8_h_1)]) hx hb dX10_partingTrees_32 hl (k := 7) rfl (by rw [ex_7]; rfl) (by decide) rfl (fun ls hl => hp_n (n := 35) rfl ?_)
        refine lv_aload_n hx hb dX10_partingTrees_35 rfl (lv_at hl 2 rfl) (hp_n (n := 36) rfl ?_)
        refine lv_aload_n hx hb dX10_partingTrees_36 rfl (lv_at hl 3 rfl) (hp_n (n := 37) rfl ?_)
        refine lv_iload hx hb dX10_partingTrees_37 (lv_at hl 6 rfl) (hp_n (n := 39) rfl ?_)
        refine lv_iload hx hb dX10_partingTrees_39 (lv_at hl 1 rfl) (hp_n (n := 41) rfl ?_)
        refine q_ci (pc' := 44) Bh_6 (hp_runV (As := [va_rf (some a1), .int v5_h_1, .int rh_6]) (rest := []) C Bh_6 (t_X10_treeMark Γ l αh_1 Bh_6.2.2.1 a0 (cw_k Bh_6.2.2 k0) (some a1) (fun b h => by cases h; exact (cw_k Bh_6.2.2 k1)) v5_h_1 rh_6) lb_X10_treeMark lv_X10_treeMark lk_X10_100 (cw_k Bh_6.2.2 k0) rfl (by decide) rfl hl.1 rfl (Nat.le_of_ble_eq_true rfl) dX10_partingTrees_41 ⟨Nat.le_refl _, Nat.le_refl _⟩) (fun _ _ h => cw_tr Bh_6.2.2 h (by decide)) rfl (fun rh_8 αh_8 Hh_8 Lh_8 ph_8 Bh_8 => ?_)
        refine lv_aload_n hx hb dX10_partingTrees_44 rfl (lv_at hl 2 rfl) (hp_n (n := 45) rfl ?_)
        refine lv_aload_n hx hb dX10_partingTrees_45 rfl (lv_at hl 4 rfl) (hp_n (n := 46) rfl ?_)
        refine lv_iload hx hb dX10_partingTrees_46 (lv_at hl 6 rfl) (hp_n (n := 48) rfl ?_)
        refine lv_iload hx hb dX10_partingTrees_48 (lv_at hl 1 rfl) (hp_n (n := 50) rfl ?_)
        refine q_ci (pc' := 53) Bh_8 (hp_runV (As := [va_rf (some a2), .int v5_h_1, .int rh_6]) (rest := [.int rh_8]) C Bh_8 (t_X10_treeMark Γ l αh_8 Bh_8.2.2.1 a0 (cw_k Bh_8.2.2 k0) (some a2) (fun b h => by cases h; exact (cw_k Bh_8.2.2 k2)) v5_h_1 rh_6) lb_X10_treeMark lv_X10_treeMark lk_X10_100 (cw_k Bh_8.2.2 k0) rfl (by decide) rfl hl.1 rfl (Nat.le_of_ble_eq_true rfl) dX10_partingTrees_50 ⟨Nat.le_refl _, Nat.le_refl _⟩) (fun _ _ h => cw_tr Bh_8.2.2 h (by decide)) rfl (fun rh_9 αh_9 Hh_9 Lh_9 ph_9 Bh_9 => ?_)
        refine lv_icmp_eq (tgt := 63) hx hb dX10_partingTrees_53 (by decide) (fun c_10 => ?_) (fun c_10 => hp_n (n := 56) rfl ?_)
        ·
          have jc_10 := il_eq c_10
          refine lv_iload hx hb dX10_partingTrees_63 (lv_at hl 6 rfl) (hp_n (n := 65) rfl ?_)
          refine lv_iload hx hb dX10_partingTrees_65 (lv_at hl 1 rfl) (hp_n (n := 67) rfl ?_)
          refine lv_iadd hx hb dX10_partingTrees_67 (hp_n (n := 68) rfl (lv_topi (fun x_11 ex_11 => ?_)))
          refine lv_istore (lv' := [(5, .int x_11), (7, .int x_7), (9, .int rh_6), (0, .ref a0), (1, .ref a1), (2, .ref a2), (4, .int a4), (6, .int v6_h_1), (8, .int v8_h_1)]) hx hb dX10_partingTrees_68 hl (by decide) rfl (fun ls hl => hp_n (n := 70) rfl ?_)
          refine lv_iload hx hb dX10_partingTrees_70 (lv_at hl 7 rfl) (hp_n (n := 72) rfl ?_)
          refine lv_iload hx hb dX10_partingTrees_72 (lv_at hl 2 rfl) (hp_n (n := 74) rfl ?_)
          refine lv_isub hx hb dX10_partingTrees_74 (hp_n (n := 75) rfl (lv_topi (fun x_12 ex_12 => ?_)))
          refine lv_istore (lv' := [(6, .int x_12), (5, .int x_11), (7, .int x_7), (9, .int rh_6), (0, .ref a0), (1, .ref a1), (2, .ref a2), (4, .int a4), (8, .int v8_h_1)]) hx hb dX10_partingTrees_75 hl (by decide) rfl (fun ls hl => hp_n (n := 77) rfl ?_)
          obtain ⟨x_13, ex_13⟩ : ∃ y : Int32, y = v8_h_1 + 1 := ⟨_, rfl⟩
          have qx_13 : x_13.toInt = v8_h_1.toInt + 1 := by have qa := ib_lo v8_h_1; rw [ex_13]; exact ii_add (by omega) (by omega)
          refine lv_iinc (v := x_13) (lv' := [(8, .int x_13), (6, .int x_12), (5, .int x_11), (7, .int x_7), (9, .int rh_6), (0, .ref a0), (1, .ref a1), (2, .ref a2), (4, .int a4)]) hx hb dX10_partingTrees_77 hl (k := 8) rfl (by rw [ex_13]; rfl) (by decide) rfl (fun ls hl => hp_n (n := 80) rfl ?_)
          refine lv_goto (tgt := 12) hx hb dX10_partingTrees_80 (by decide) ?_
          exact ih12 _ (by have qa := ib_hi v8_h_1; have qb := ib_lo v8_h_1; have qc : (v8_h_1 + 1).toInt = v8_h_1.toInt + (1 : Int32).toInt := ii_add (by omega) (by omega); rw [ex_13]; omega) αh_9 Hh_9 Lh_9 Bh_9 x_11 x_12 x_7 x_13 (by omega) ls (lv_sub hl [5, 6, 7, 8, 2, 1, 3, 0] rfl) rfl
        ·
          have jc_10 := il_ne c_10
          refine lv_iload hx hb dX10_partingTrees_56 (lv_at hl 1 rfl) (hp_n (n := 58) rfl ?_)
          refine lv_istore (lv' := [(6, .int rh_6), (7, .int x_7), (9, .int rh_6), (0, .ref a0), (1, .ref a1), (2, .ref a2), (4, .int a4), (5, .int v5_h_1), (8, .int v8_h_1)]) hx hb dX10_partingTrees_58 hl (by decide) rfl (fun ls hl => hp_n (n := 60) rfl ?_)
          refine lv_goto (tgt := 77) hx hb dX10_partingTrees_60 (by decide) ?_
          obtain ⟨x_14, ex_14⟩ : ∃ y : Int32, y = v8_h_1 + 1 := ⟨_, rfl⟩
          have qx_14 : x_14.toInt = v8_h_1.toInt + 1 := by have qa := ib_lo v8_h_1; rw [ex_14]; exact ii_add (by omega) (by omega)
          refine lv_iinc (v := x_14) (lv' := [(8, .int x_14), (6, .int rh_6), (7, .int x_7), (9, .int rh_6), (0, .ref a0), (1, .ref a1), (2, .ref a2), (4, .int a4), (5, .int v5_h_1)]) hx hb dX10_partingTrees_77 hl (k := 8) rfl (by rw [ex_14]; rfl) (by decide) rfl (fun ls hl => hp_n (n := 80) rfl ?_)
          refine lv_goto (tgt := 12) hx hb dX10_partingTrees_80 (by decide) ?_
          exact ih12 _ (by have qa := ib_hi v8_h_1; have qb := ib_lo v8_h_1; have qc : (v8_h_1 + 1).toInt = v8_h_1.toInt + (1 : Int32).toInt := ii_add (by omega) (by omega); rw [ex_14]; omega) αh_9 Hh_9 Lh_9 Bh_9 v5_h_1 rh_6 x_7 x_14 (by omega) ls (lv_sub hl [4, 5, 6, 7, 8, 1, 2, 0] rfl) rfl
  refine lv_istore (lv' := [(8, .int 0), (7, .int 0), (6, .int a3), (5, .int 0), (0, .ref a0), (1, .ref a1), (2, .ref a2), (3, .int a3), (4, .int a4)]) hx hb dX10_partingTrees_10 hl (by decide) rfl (fun ls hl => hp_n (n := 12) rfl ?_)
  exact J12 _ α s.heap [] B 0 a3 0 0 (by omega) ls (lv_sub hl [4, 5, 6, 8, 3, 2, 1, 0] rfl) rfl
abbrev w_X10_partingEntry : cw_W := ([], [], [33], [])
set_option maxRecDepth 100000 in
set_option maxHeartbeats 4000000 in
theorem t_X10_partingEntry (Γ : hp_G) (l : Launch) (α : hp_T) (g : GC α) (a0 : Nat) (k0 : hp_K α a0 = 11) (a1 : Nat) (k1 : hp_K α a1 = 3) (a2 : Nat) (k2 : hp_K α a2 = 3) : Met l yX10_partingEntry (hp_ws yX10_partingEntry cX10_partingEntry 4 (some .int)) (hp_rm 4 0 0) (hp_Pc Γ α [.ref a0, .ref a1, .ref a2]) (hp_Qi Γ (fun r β => cw w_X10_partingEntry α β)) 0 0 (hp_A Γ) := by
  refine hp_start (by decide) ?_
  intro p e s m below meth c C hr hlk B0 hnm
  have C : hp_C Γ p m c cX10_partingEntry 4 s ([.ref a0, .ref a1, .ref a2] : List Value).toArray RX10 := C
  have hx := C.1.1
  have hb := C.1.2.1
  have hown := C.1.2.2.2.1
  have hts := C.1.2.2.2.2
  have B : hp_B Γ (cw w_X10_partingEntry) s α α s.heap [] := ⟨B0.1, B0.2.1, cw_rf g⟩
  have litm1 : ((-1) : Int32).toInt = (-1) := by decide
  have lit0 : (0 : Int32).toInt = 0 := by decide
  have hl := lv_entry ([.ref a0, .ref a1, .ref a2]) (n := 4) (Nat.le_of_ble_eq_true rfl)
  show W p l e (hp_rm 4 0 0) s m ([.ref a0, .ref a1, .ref a2] : List Value).toArray below meth c s.heap [] 0 0 (MQ below (hp_Qi Γ (fun r β => cw w_X10_partingEntry α β)) ([.ref a0, .ref a1, .ref a2] : List Value).toArray s 0 0 (hp_A Γ)) (entryFrame m ([.ref a0, .ref a1, .ref a2] : List Value).toArray 4)
  rw [lg_entry_eq]
  generalize (lg_sl ([.ref a0, .ref a1, .ref a2]) ++ List.replicate (4 - (lg_sl ([.ref a0, .ref a1, .ref a2])).length) Slot.unset).toArray = ls at hl ⊢
  have hl : lv_has ls 4 [(0, .ref a0), (1, .ref a1), (2, .ref a2)] := hl
  refine lv_aload_n hx hb dX10_partingEntry_0 rfl (lv_at hl 1 rfl) (hp_n (n := 1) rfl ?_)
  refine q_geti (κ := 3) (k := 2) (φ := 152) (pc' := 4) C B (cw_k B.2.2 k1) fl_X10_68 rfl rfl rfl dX10_partingEntry_1 rfl (fun x_1 ex_1 => ?_)
  refine lv_aload_n hx hb dX10_partingEntry_4 rfl (lv_at hl 2 rfl) (hp_n (n := 5) rfl ?_)
  refine q_geti (κ := 3) (k := 2) (φ := 152) (pc' := 8) C B (cw_k B.2.2 k2) fl_X10_68 rfl rfl rfl dX10_partingEntry_5 rfl (fun x_2 ex_2 => ?_)
  refine q_ci (pc' := 11) B (hp_runS (As := [.int x_1, .int x_2]) (rest := []) C B (t_J9_min_7cf53 Γ l α B.2.2.1 x_1 x_2) lb_J9_min_7cf53 ls_J9_min_7cf53 lk_X10_82 rfl (by decide) rfl hl.1 rfl (Nat.le_of_ble_eq_true rfl) dX10_partingEntry_8 ⟨Nat.le_refl _, Nat.le_refl _⟩) (fun _ _ h => by rw [h.1]; exact B.2.2) rfl (fun rh_3 αh_3 Hh_3 Lh_3 ph_3 Bh_3 => ?_)
  rw [ph_3.1] at Bh_3
  obtain ⟨ph_3a, ph_3b, ph_3c⟩ := ph_3.2
  refine lv_istore_n (lv' := [(3, .int rh_3), (0, .ref a0), (1, .ref a1), (2, .ref a2)]) hx hb dX10_partingEntry_11 rfl hl (by decide) rfl (fun ls hl => hp_n (n := 12) rfl ?_)
  refine lv_aload_n hx hb dX10_partingEntry_12 rfl (lv_at hl 1 rfl) (hp_n (n := 13) rfl ?_)
  refine lv_aload_n hx hb dX10_partingEntry_13 rfl (lv_at hl 2 rfl) (hp_n (n := 14) rfl ?_)
  refine lv_iload_n hx hb dX10_partingEntry_14 rfl (lv_at hl 0 rfl) (hp_n (n := 15) rfl ?_)
  refine q_ci (pc' := 18) Bh_3 (hp_runV (As := [va_rf (some a1), .int rh_3]) (rest := []) C Bh_3 (t_X10_headOf Γ l α Bh_3.2.2.1 a0 (cw_k Bh_3.2.2 k0) (some a1) (fun b h => by cases h; exact (cw_k Bh_3.2.2 k1)) rh_3) lb_X10_headOf lv_X10_headOf lk_X10_107 (cw_k Bh_3.2.2 k0) rfl (by decide) rfl hl.1 rfl (Nat.le_of_ble_eq_true rfl) dX10_partingEntry_15 ⟨Nat.le_refl _, Nat.le_refl _⟩) (fun _ _ h => cw_tr Bh_3.2.2 h (by decide)) rfl (fun rh_4 αh_4 Hh_4 Lh_4 ph_4 Bh_4 => ?_)
  refine lv_aload_n hx hb dX10_partingEntry_18 rfl (lv_at hl 1 rfl) (hp_n (n := 19) rfl ?_)
  refine lv_aload_n hx hb dX10_partingEntry_19 rfl (lv_at hl 3 rfl) (hp_n (n := 20) rfl ?_)
  refine lv_iload_n hx hb dX10_partingEntry_20 rfl (lv_at hl 0 rfl) (hp_n (n := 21) rfl ?_)
  refine q_ci (pc' := 24) Bh_4 (hp_runV (As := [va_rf (some a2), .int rh_3]) (rest := [.int rh_4]) C Bh_4 (t_X10_headOf Γ l αh_4 Bh_4.2.2.1 a0 (cw_k Bh_4.2.2 k0) (some a2) (fun b h => by cases h; exact (cw_k Bh_4.2.2 k2)) rh_3) lb_X10_headOf lv_X10_headOf lk_X10_107 (cw_k Bh_4.2.2 k0) rfl (by decide) rfl hl.1 rfl (Nat.le_of_ble_eq_true rfl) dX10_partingEntry_21 ⟨Nat.le_refl _, Nat.le_refl _⟩) (fun _ _ h => cw_tr Bh_4.2.2 h (by decide)) rfl (fun rh_5 αh_5 Hh_5 Lh_5 ph_5 Bh_5 => ?_)
  refine lv_icmp_ne (tgt := 44) hx hb dX10_partingEntry_24 (by decide) (fun c_6 => ?_) (fun c_6 => hp_n (n := 27) rfl ?_)
  ·
    have jc_6 := il_ne c_6
    refine lv_aload_n hx hb dX10_partingEntry_44 rfl (lv_at hl 1 rfl) (hp_n (n := 45) rfl ?_)
    refine lv_aload_n hx hb dX10_partingEntry_45 rfl (lv_at hl 2 rfl) (hp_n (n := 46) rfl ?_)
    refine lv_aload_n hx hb dX10_partingEntry_46 rfl (lv_at hl 3 rfl) (hp_n (n := 47) rfl ?_)
    refine lv_iload_n hx hb dX10_partingEntry_47 rfl (lv_at hl 0 rfl) (hp_n (n := 48) rfl ?_)
    refine lv_iconst (v := 0) hx hb dX10_partingEntry_48 (by decide) (hp_n (n := 49) rfl ?_)
    refine q_ci (pc' := 52) Bh_5 (hp_runV (As := [.ref a1, .ref a2, .int rh_3, .int 0]) (rest := []) C Bh_5 (t_X10_partingTrees Γ l αh_5 Bh_5.2.2.1 a0 (cw_k Bh_5.2.2 k0) a1 (cw_k Bh_5.2.2 k1) a2 (cw_k Bh_5.2.2 k2) rh_3 0 (Or.inl rfl)) lb_X10_partingTrees lv_X10_partingTrees lk_X10_199 (cw_k Bh_5.2.2 k0) rfl (by decide) rfl hl.1 rfl (Nat.le_of_ble_eq_true rfl) dX10_partingEntry_49 ⟨Nat.le_refl _, Nat.le_refl _⟩) (fun _ _ h => cw_tr Bh_5.2.2 h (by decide)) rfl (fun rh_7 αh_7 Hh_7 Lh_7 ph_7 Bh_7 => ?_)
    exact q_iret C Bh_7 hr hlk Bh_7.2.2 dX10_partingEntry_52
  ·
    have jc_6 := il_eq c_6
    refine lv_aload_n hx hb dX10_partingEntry_27 rfl (lv_at hl 2 rfl) (hp_n (n := 28) rfl ?_)
    have t_8 : x_1 = hp_I αh_4 152 a1 := by rw [cw_I ph_4 a1 (by decide)]; exact ex_1
    have t_9 : x_1 = hp_I αh_5 152 a1 := by rw [cw_I ph_5 a1 (by decide)]; exact t_8
    refine q_getj (κ := 3) (k := 2) (φ := 152) (pc' := 31) C Bh_5 (cw_k Bh_5.2.2 k1) fl_X10_68 rfl rfl rfl t_9 dX10_partingEntry_28 rfl ?_
    refine lv_aload_n hx hb dX10_partingEntry_31 rfl (lv_at hl 3 rfl) (hp_n (n := 32) rfl ?_)
    have t_10 : x_2 = hp_I αh_4 152 a2 := by rw [cw_I ph_4 a2 (by decide)]; exact ex_2
    have t_11 : x_2 = hp_I αh_5 152 a2 := by rw [cw_I ph_5 a2 (by decide)]; exact t_10
    refine q_getj (κ := 3) (k := 2) (φ := 152) (pc' := 35) C Bh_5 (cw_k Bh_5.2.2 k2) fl_X10_68 rfl rfl rfl t_11 dX10_partingEntry_32 rfl ?_
    refine lv_icmp_ne (tgt := 42) hx hb dX10_partingEntry_35 (by decide) (fun c_12 => ?_) (fun c_12 => hp_n (n := 38) rfl ?_)
    ·
      have jc_12 := il_ne c_12
      refine lv_iload_n hx hb dX10_partingEntry_42 rfl (lv_at hl 0 rfl) (hp_n (n := 43) rfl ?_)
      exact q_iret C Bh_5 hr hlk Bh_5.2.2 dX10_partingEntry_43
    ·
      have jc_12 := il_eq c_12
      refine lv_iconst (v := (-1)) hx hb dX10_partingEntry_38 (by decide) (hp_n (n := 39) rfl ?_)
      refine lv_goto (tgt := 43) hx hb dX10_partingEntry_39 (by decide) ?_
      exact q_iret C Bh_5 hr hlk Bh_5.2.2 dX10_partingEntry_43
abbrev w_X10_partingCompared : cw_W := ([], [], [33], [])
set_option maxRecDepth 100000 in
set_option maxHeartbeats 4000000 in
theorem t_X10_partingCompared (Γ : hp_G) (l : Launch) (α : hp_T) (g : GC α) (a0 : Nat) (k0 : hp_K α a0 = 11) (a1 : Nat) (k1 : hp_K α a1 = 3) (a2 : Nat) (k2 : hp_K α a2 = 3) : Met l yX10_partingCompared (hp_ws yX10_partingCompared cX10_partingCompared 4 (some .int)) (hp_rm 4 0 0) (hp_Pc Γ α [.ref a0, .ref a1, .ref a2]) (hp_Qi Γ (fun r β => cw w_X10_partingCompared α β)) 0 0 (hp_A Γ) := by
  refine hp_start (by decide) ?_
  intro p e s m below meth c C hr hlk B0 hnm
  have C : hp_C Γ p m c cX10_partingCompared 4 s ([.ref a0, .ref a1, .ref a2] : List Value).toArray RX10 := C
  have hx := C.1.1
  have hb := C.1.2.1
  have hown := C.1.2.2.2.1
  have hts := C.1.2.2.2.2
  have B : hp_B Γ (cw w_X10_partingCompared) s α α s.heap [] := ⟨B0.1, B0.2.1, cw_rf g⟩
  have lit0 : (0 : Int32).toInt = 0 := by decide
  have lit1 : (1 : Int32).toInt = 1 := by decide
  have hl := lv_entry ([.ref a0, .ref a1, .ref a2]) (n := 4) (Nat.le_of_ble_eq_true rfl)
  show W p l e (hp_rm 4 0 0) s m ([.ref a0, .ref a1, .ref a2] : List Value).toArray below meth c s.heap [] 0 0 (MQ below (hp_Qi Γ (fun r β => cw w_X10_partingCompared α β)) ([.ref a0, .ref a1, .ref a2] : List Value).toArray s 0 0 (hp_A Γ)) (entryFrame m ([.ref a0, .ref a1, .ref a2] : List Value).toArray 4)
  rw [lg_entry_eq]
  generalize (lg_sl ([.ref a0, .ref a1, .ref a2]) ++ List.replicate (4 - (lg_sl ([.ref a0, .ref a1, .ref a2])).length) Slot.unset).toArray = ls at hl ⊢
  have hl : lv_has ls 4 [(0, .ref a0), (1, .ref a1), (2, .ref a2)] := hl
  refine lv_aload_n hx hb dX10_partingCompared_0 rfl (lv_at hl 1 rfl) (hp_n (n := 1) rfl ?_)
  refine q_geti (κ := 3) (k := 2) (φ := 152) (pc' := 4) C B (cw_k B.2.2 k1) fl_X10_68 rfl rfl rfl dX10_partingCompared_1 rfl (fun x_1 ex_1 => ?_)
  refine lv_aload_n hx hb dX10_partingCompared_4 rfl (lv_at hl 2 rfl) (hp_n (n := 5) rfl ?_)
  refine q_geti (κ := 3) (k := 2) (φ := 152) (pc' := 8) C B (cw_k B.2.2 k2) fl_X10_68 rfl rfl rfl dX10_partingCompared_5 rfl (fun x_2 ex_2 => ?_)
  refine q_ci (pc' := 11) B (hp_runS (As := [.int x_1, .int x_2]) (rest := []) C B (t_J9_min_7cf53 Γ l α B.2.2.1 x_1 x_2) lb_J9_min_7cf53 ls_J9_min_7cf53 lk_X10_82 rfl (by decide) rfl hl.1 rfl (Nat.le_of_ble_eq_true rfl) dX10_partingCompared_8 ⟨Nat.le_refl _, Nat.le_refl _⟩) (fun _ _ h => by rw [h.1]; exact B.2.2) rfl (fun rh_3 αh_3 Hh_3 Lh_3 ph_3 Bh_3 => ?_)
  rw [ph_3.1] at Bh_3
  obtain ⟨ph_3a, ph_3b, ph_3c⟩ := ph_3.2
  refine lv_istore_n (lv' := [(3, .int rh_3), (0, .ref a0), (1, .ref a1), (2, .ref a2)]) hx hb dX10_partingCompared_11 rfl hl (by decide) rfl (fun ls hl => hp_n (n := 12) rfl ?_)
  refine lv_aload_n hx hb dX10_partingCompared_12 rfl (lv_at hl 1 rfl) (hp_n (n := 13) rfl ?_)
  refine lv_aload_n hx hb dX10_partingCompared_13 rfl (lv_at hl 2 rfl) (hp_n (n := 14) rfl ?_)
  refine lv_iload_n hx hb dX10_partingCompared_14 rfl (lv_at hl 0 rfl) (hp_n (n := 15) rfl ?_)
  refine q_ci (pc' := 18) Bh_3 (hp_runV (As := [va_rf (some a1), .int rh_3]) (rest := []) C Bh_3 (t_X10_headOf Γ l α Bh_3.2.2.1 a0 (cw_k Bh_3.2.2 k0) (some a1) (fun b h => by cases h; exact (cw_k Bh_3.2.2 k1)) rh_3) lb_X10_headOf lv_X10_headOf lk_X10_107 (cw_k Bh_3.2.2 k0) rfl (by decide) rfl hl.1 rfl (Nat.le_of_ble_eq_true rfl) dX10_partingCompared_15 ⟨Nat.le_refl _, Nat.le_refl _⟩) (fun _ _ h => cw_tr Bh_3.2.2 h (by decide)) rfl (fun rh_4 αh_4 Hh_4 Lh_4 ph_4 Bh_4 => ?_)
  refine lv_aload_n hx hb dX10_partingCompared_18 rfl (lv_at hl 1 rfl) (hp_n (n := 19) rfl ?_)
  refine lv_aload_n hx hb dX10_partingCompared_19 rfl (lv_at hl 3 rfl) (hp_n (n := 20) rfl ?_)
  refine lv_iload_n hx hb dX10_partingCompared_20 rfl (lv_at hl 0 rfl) (hp_n (n := 21) rfl ?_)
  refine q_ci (pc' := 24) Bh_4 (hp_runV (As := [va_rf (some a2), .int rh_3]) (rest := [.int rh_4]) C Bh_4 (t_X10_headOf Γ l αh_4 Bh_4.2.2.1 a0 (cw_k Bh_4.2.2 k0) (some a2) (fun b h => by cases h; exact (cw_k Bh_4.2.2 k2)) rh_3) lb_X10_headOf lv_X10_headOf lk_X10_107 (cw_k Bh_4.2.2 k0) rfl (by decide) rfl hl.1 rfl (Nat.le_of_ble_eq_true rfl) dX10_partingCompared_21 ⟨Nat.le_refl _, Nat.le_refl _⟩) (fun _ _ h => cw_tr Bh_4.2.2 h (by decide)) rfl (fun rh_5 αh_5 Hh_5 Lh_5 ph_5 Bh_5 => ?_)
  refine lv_icmp_ne (tgt := 31) hx hb dX10_partingCompared_24 (by decide) (fun c_6 => ?_) (fun c_6 => hp_n (n := 27) rfl ?_)
  ·
    have jc_6 := il_ne c_6
    refine lv_aload_n hx hb dX10_partingCompared_31 rfl (lv_at hl 1 rfl) (hp_n (n := 32) rfl ?_)
    refine lv_aload_n hx hb dX10_partingCompared_32 rfl (lv_at hl 2 rfl) (hp_n (n := 33) rfl ?_)
    refine lv_aload_n hx hb dX10_partingCompared_33 rfl (lv_at hl 3 rfl) (hp_n (n := 34) rfl ?_)
    refine lv_iload_n hx hb dX10_partingCompared_34 rfl (lv_at hl 0 rfl) (hp_n (n := 35) rfl ?_)
    refine lv_iconst (v := 1) hx hb dX10_partingCompared_35 (by decide) (hp_n (n := 36) rfl ?_)
    refine q_ci (pc' := 39) Bh_5 (hp_runV (As := [.ref a1, .ref a2, .int rh_3, .int 1]) (rest := []) C Bh_5 (t_X10_partingTrees Γ l αh_5 Bh_5.2.2.1 a0 (cw_k Bh_5.2.2 k0) a1 (cw_k Bh_5.2.2 k1) a2 (cw_k Bh_5.2.2 k2) rh_3 1 (Or.inr rfl)) lb_X10_partingTrees lv_X10_partingTrees lk_X10_199 (cw_k Bh_5.2.2 k0) rfl (by decide) rfl hl.1 rfl (Nat.le_of_ble_eq_true rfl) dX10_partingCompared_36 ⟨Nat.le_refl _, Nat.le_refl _⟩) (fun _ _ h => cw_tr Bh_5.2.2 h (by decide)) rfl (fun rh_7 αh_7 Hh_7 Lh_7 ph_7 Bh_7 => ?_)
    exact q_iret C Bh_7 hr hlk Bh_7.2.2 dX10_partingCompared_39
  ·
    have jc_6 := il_eq c_6
    refine lv_iconst (v := 0) hx hb dX10_partingCompared_27 (by decide) (hp_n (n := 28) rfl ?_)
    refine lv_goto (tgt := 39) hx hb dX10_partingCompared_28 (by decide) ?_
    exact q_iret C Bh_5 hr hlk Bh_5.2.2 dX10_partingCompared_39
abbrev w_X10_renew : cw_W := ([152, 400, 401, 402, 403, 550, 552, 554, 556], [], [], [])
