section JN3_0
abbrev w_X10_logAt : cw_W := ([], [], [], [])
set_option maxRecDepth 100000 in
set_option maxHeartbeats 4000000 in
theorem t_X10_logAt (Γ : hp_G) (l : Launch) (α : hp_T) (g : GC α) (a0 : Nat) (k0 : hp_K α a0 = 11) (a1 : Int32) : Met l yX10_logAt (hp_ws yX10_logAt cX10_logAt 2 (some (.object "ProvenRecord$Log"))) (hp_rm 0 0 0) (hp_Pc Γ α [.ref a0, .int a1]) (hp_Qq Γ (fun r β => β = α ∧ ∀ b, r = some b → hp_K α b = 3)) 0 0 (hp_A Γ) := by
  refine hp_start (by decide) ?_
  intro p e s m below meth c C hr hlk B0 hnm
  have C : hp_C Γ p m c cX10_logAt 2 s ([.ref a0, .int a1] : List Value).toArray RX10 := C
  have hx := C.1.1
  have hb := C.1.2.1
  have hown := C.1.2.2.2.1
  have hts := C.1.2.2.2.2
  have B : hp_B Γ (cw w_X10_logAt) s α α s.heap [] := ⟨B0.1, B0.2.1, cw_rf g⟩
  have lit0 : (0 : Int32).toInt = 0 := by decide
  have lit4 : (4 : Int32).toInt = 4 := by decide
  have hl := lv_entry ([.ref a0, .int a1]) (n := 2) (Nat.le_of_ble_eq_true rfl)
  show W p l e (hp_rm 0 0 0) s m ([.ref a0, .int a1] : List Value).toArray below meth c s.heap [] 0 0 (MQ below (hp_Qq Γ (fun r β => β = α ∧ ∀ b, r = some b → hp_K α b = 3)) ([.ref a0, .int a1] : List Value).toArray s 0 0 (hp_A Γ)) (entryFrame m ([.ref a0, .int a1] : List Value).toArray 2)
  rw [lg_entry_eq]
  generalize (lg_sl ([.ref a0, .int a1]) ++ List.replicate (2 - (lg_sl ([.ref a0, .int a1])).length) Slot.unset).toArray = ls at hl ⊢
  have hl : lv_has ls 2 [(0, .ref a0), (1, .int a1)] := hl
  refine lv_iload_n hx hb dX10_logAt_0 rfl (lv_at hl 1 rfl) (hp_n (n := 1) rfl ?_)
  refine lv_if_lt (tgt := 30) hx hb dX10_logAt_1 (by decide) (fun c_1 => ?_) (fun c_1 => hp_n (n := 4) rfl ?_)
  ·
    have jc_1 := il_lt c_1
    refine lv_null hx hb dX10_logAt_30 (hp_n (n := 31) rfl ?_)
    exact q_aret (x := none) C B hr hlk ⟨rfl, fun b h => by cases h⟩ dX10_logAt_31
  ·
    have jc_1 := il_nlt c_1
    refine lv_iload_n hx hb dX10_logAt_4 rfl (lv_at hl 1 rfl) (hp_n (n := 5) rfl ?_)
    refine lv_aload_n hx hb dX10_logAt_5 rfl (lv_at hl 0 rfl) (hp_n (n := 6) rfl ?_)
    refine q_geti (κ := 11) (k := 2) (φ := 552) (pc' := 9) C B (cw_k B.2.2 k0) fl_X10_22 rfl rfl rfl dX10_logAt_6 rfl (fun x_2 ex_2 => ?_)
    refine lv_icmp_ge (tgt := 30) hx hb dX10_logAt_9 (by decide) (fun c_3 => ?_) (fun c_3 => hp_n (n := 12) rfl ?_)
    ·
      have jc_3 := il_le c_3
      refine lv_null hx hb dX10_logAt_30 (hp_n (n := 31) rfl ?_)
      exact q_aret (x := none) C B hr hlk ⟨rfl, fun b h => by cases h⟩ dX10_logAt_31
    ·
      have jc_3 := il_nle c_3
      refine lv_iload_n hx hb dX10_logAt_12 rfl (lv_at hl 1 rfl) (hp_n (n := 13) rfl ?_)
      refine lv_aload_n hx hb dX10_logAt_13 rfl (lv_at hl 0 rfl) (hp_n (n := 14) rfl ?_)
      refine q_getr (κ := 11) (k := 1) (φ := 551) (pc' := 17) C B (cw_k B.2.2 k0) fl_X10_18 rfl rfl rfl (cw_r B.2.2 k0 rfl rfl (by decide) (by decide)) dX10_logAt_14 rfl (fun b_4 eb_4 kb_4 => ?_)
      refine q_alen (κ := 30) (t := 4) (n := 4) (x := 4) (ty := .object "ProvenRecord$Log") (pc' := 18) C B (cw_k B.2.2 kb_4) (by decide) rfl rfl rfl dX10_logAt_17 rfl ?_
      refine lv_icmp_ge (tgt := 30) hx hb dX10_logAt_18 (by decide) (fun c_5 => ?_) (fun c_5 => hp_n (n := 21) rfl ?_)
      ·
        have jc_5 := il_le c_5
        refine lv_null hx hb dX10_logAt_30 (hp_n (n := 31) rfl ?_)
        exact q_aret (x := none) C B hr hlk ⟨rfl, fun b h => by cases h⟩ dX10_logAt_31
      ·
        have jc_5 := il_nle c_5
        refine lv_aload_n hx hb dX10_logAt_21 rfl (lv_at hl 0 rfl) (hp_n (n := 22) rfl ?_)
        refine q_gets (κ := 11) (k := 1) (φ := 551) (pc' := 25) C B (cw_k B.2.2 k0) fl_X10_18 rfl rfl rfl eb_4 dX10_logAt_22 rfl ?_
        refine lv_iload_n hx hb dX10_logAt_25 rfl (lv_at hl 1 rfl) (hp_n (n := 26) rfl ?_)
        refine q_aal (κ := 30) (t := 4) (n := 4) (C0 := "ProvenRecord$Log") (pc' := 27) C B (cw_k B.2.2 kb_4) (by decide) rfl rfl (by decide) (vi_of (by omega) (by omega)) dX10_logAt_26 rfl ?_
        rcases hqb_6 : hp_Q α 30 b_4 a1.toNatClampNeg with _ | b_6
        ·
          refine lv_goto (tgt := 31) hx hb dX10_logAt_27 (by decide) ?_
          exact q_aret (x := none) C B hr hlk ⟨rfl, fun b h => by cases h⟩ dX10_logAt_31
        ·
          have kb_6 := cw_q B.2.2 kb_4 rfl (by decide) hqb_6
          refine lv_goto (tgt := 31) hx hb dX10_logAt_27 (by decide) ?_
          exact q_aret (x := (some b_6)) C B hr hlk ⟨rfl, fun b h => by cases h; exact kb_6⟩ dX10_logAt_31
abbrev w_X10_frozenAt : cw_W := ([], [], [], [])
set_option maxRecDepth 100000 in
set_option maxHeartbeats 4000000 in
theorem t_X10_frozenAt (Γ : hp_G) (l : Launch) (α : hp_T) (g : GC α) (a0 : Nat) (k0 : hp_K α a0 = 11) (a1 : Int32) : Met l yX10_frozenAt (hp_ws yX10_frozenAt cX10_frozenAt 2 (some (.object "ProvenRecord$Frozen"))) (hp_rm 0 0 0) (hp_Pc Γ α [.ref a0, .int a1]) (hp_Qq Γ (fun r β => β = α ∧ ∀ b, r = some b → hp_K α b = 2)) 0 0 (hp_A Γ) := by
  refine hp_start (by decide) ?_
  intro p e s m below meth c C hr hlk B0 hnm
  have C : hp_C Γ p m c cX10_frozenAt 2 s ([.ref a0, .int a1] : List Value).toArray RX10 := C
  have hx := C.1.1
  have hb := C.1.2.1
  have hown := C.1.2.2.2.1
  have hts := C.1.2.2.2.2
  have B : hp_B Γ (cw w_X10_frozenAt) s α α s.heap [] := ⟨B0.1, B0.2.1, cw_rf g⟩
  have lit0 : (0 : Int32).toInt = 0 := by decide
  have lit16 : (16 : Int32).toInt = 16 := by decide
  have hl := lv_entry ([.ref a0, .int a1]) (n := 2) (Nat.le_of_ble_eq_true rfl)
  show W p l e (hp_rm 0 0 0) s m ([.ref a0, .int a1] : List Value).toArray below meth c s.heap [] 0 0 (MQ below (hp_Qq Γ (fun r β => β = α ∧ ∀ b, r = some b → hp_K α b = 2)) ([.ref a0, .int a1] : List Value).toArray s 0 0 (hp_A Γ)) (entryFrame m ([.ref a0, .int a1] : List Value).toArray 2)
  rw [lg_entry_eq]
  generalize (lg_sl ([.ref a0, .int a1]) ++ List.replicate (2 - (lg_sl ([.ref a0, .int a1])).length) Slot.unset).toArray = ls at hl ⊢
  have hl : lv_has ls 2 [(0, .ref a0), (1, .int a1)] := hl
  refine lv_iload_n hx hb dX10_frozenAt_0 rfl (lv_at hl 1 rfl) (hp_n (n := 1) rfl ?_)
  refine lv_if_lt (tgt := 30) hx hb dX10_frozenAt_1 (by decide) (fun c_1 => ?_) (fun c_1 => hp_n (n := 4) rfl ?_)
  ·
    have jc_1 := il_lt c_1
    refine lv_null hx hb dX10_frozenAt_30 (hp_n (n := 31) rfl ?_)
    exact q_aret (x := none) C B hr hlk ⟨rfl, fun b h => by cases h⟩ dX10_frozenAt_31
  ·
    have jc_1 := il_nlt c_1
    refine lv_iload_n hx hb dX10_frozenAt_4 rfl (lv_at hl 1 rfl) (hp_n (n := 5) rfl ?_)
    refine lv_aload_n hx hb dX10_frozenAt_5 rfl (lv_at hl 0 rfl) (hp_n (n := 6) rfl ?_)
    refine q_geti (κ := 11) (k := 4) (φ := 554) (pc' := 9) C B (cw_k B.2.2 k0) fl_X10_31 rfl rfl rfl dX10_frozenAt_6 rfl (fun x_2 ex_2 => ?_)
    refine lv_icmp_ge (tgt := 30) hx hb dX10_frozenAt_9 (by decide) (fun c_3 => ?_) (fun c_3 => hp_n (n := 12) rfl ?_)
    ·
      have jc_3 := il_le c_3
      refine lv_null hx hb dX10_frozenAt_30 (hp_n (n := 31) rfl ?_)
      exact q_aret (x := none) C B hr hlk ⟨rfl, fun b h => by cases h⟩ dX10_frozenAt_31
    ·
      have jc_3 := il_nle c_3
      refine lv_iload_n hx hb dX10_frozenAt_12 rfl (lv_at hl 1 rfl) (hp_n (n := 13) rfl ?_)
      refine lv_aload_n hx hb dX10_frozenAt_13 rfl (lv_at hl 0 rfl) (hp_n (n := 14) rfl ?_)
      refine q_getr (κ := 11) (k := 3) (φ := 553) (pc' := 17) C B (cw_k B.2.2 k0) fl_X10_27 rfl rfl rfl (cw_r B.2.2 k0 rfl rfl (by decide) (by decide)) dX10_frozenAt_14 rfl (fun b_4 eb_4 kb_4 => ?_)
      refine q_alen (κ := 31) (t := 5) (n := 16) (x := 16) (ty := .object "ProvenRecord$Frozen") (pc' := 18) C B (cw_k B.2.2 kb_4) (by decide) rfl rfl rfl dX10_frozenAt_17 rfl ?_
      refine lv_icmp_ge (tgt := 30) hx hb dX10_frozenAt_18 (by decide) (fun c_5 => ?_) (fun c_5 => hp_n (n := 21) rfl ?_)
      ·
        have jc_5 := il_le c_5
        refine lv_null hx hb dX10_frozenAt_30 (hp_n (n := 31) rfl ?_)
        exact q_aret (x := none) C B hr hlk ⟨rfl, fun b h => by cases h⟩ dX10_frozenAt_31
      ·
        have jc_5 := il_nle c_5
        refine lv_aload_n hx hb dX10_frozenAt_21 rfl (lv_at hl 0 rfl) (hp_n (n := 22) rfl ?_)
        refine q_gets (κ := 11) (k := 3) (φ := 553) (pc' := 25) C B (cw_k B.2.2 k0) fl_X10_27 rfl rfl rfl eb_4 dX10_frozenAt_22 rfl ?_
        refine lv_iload_n hx hb dX10_frozenAt_25 rfl (lv_at hl 1 rfl) (hp_n (n := 26) rfl ?_)
        refine q_aal (κ := 31) (t := 5) (n := 16) (C0 := "ProvenRecord$Frozen") (pc' := 27) C B (cw_k B.2.2 kb_4) (by decide) rfl rfl (by decide) (vi_of (by omega) (by omega)) dX10_frozenAt_26 rfl ?_
        rcases hqb_6 : hp_Q α 31 b_4 a1.toNatClampNeg with _ | b_6
        ·
          refine lv_goto (tgt := 31) hx hb dX10_frozenAt_27 (by decide) ?_
          exact q_aret (x := none) C B hr hlk ⟨rfl, fun b h => by cases h⟩ dX10_frozenAt_31
        ·
          have kb_6 := cw_q B.2.2 kb_4 rfl (by decide) hqb_6
          refine lv_goto (tgt := 31) hx hb dX10_frozenAt_27 (by decide) ?_
          exact q_aret (x := (some b_6)) C B hr hlk ⟨rfl, fun b h => by cases h; exact kb_6⟩ dX10_frozenAt_31
abbrev w_X10_watcherAt : cw_W := ([], [], [], [])
set_option maxRecDepth 100000 in
set_option maxHeartbeats 4000000 in
theorem t_X10_watcherAt (Γ : hp_G) (l : Launch) (α : hp_T) (g : GC α) (a0 : Nat) (k0 : hp_K α a0 = 11) (a1 : Int32) : Met l yX10_watcherAt (hp_ws yX10_watcherAt cX10_watcherAt 2 (some (.object "ProvenRecord$Watcher"))) (hp_rm 0 0 0) (hp_Pc Γ α [.ref a0, .int a1]) (hp_Qq Γ (fun r β => β = α ∧ ∀ b, r = some b → hp_K α b = 8)) 0 0 (hp_A Γ) := by
  refine hp_start (by decide) ?_
  intro p e s m below meth c C hr hlk B0 hnm
  have C : hp_C Γ p m c cX10_watcherAt 2 s ([.ref a0, .int a1] : List Value).toArray RX10 := C
  have hx := C.1.1
  have hb := C.1.2.1
  have hown := C.1.2.2.2.1
  have hts := C.1.2.2.2.2
  have B : hp_B Γ (cw w_X10_watcherAt) s α α s.heap [] := ⟨B0.1, B0.2.1, cw_rf g⟩
  have lit0 : (0 : Int32).toInt = 0 := by decide
  have lit4 : (4 : Int32).toInt = 4 := by decide
  have hl := lv_entry ([.ref a0, .int a1]) (n := 2) (Nat.le_of_ble_eq_true rfl)
  show W p l e (hp_rm 0 0 0) s m ([.ref a0, .int a1] : List Value).toArray below meth c s.heap [] 0 0 (MQ below (hp_Qq Γ (fun r β => β = α ∧ ∀ b, r = some b → hp_K α b = 8)) ([.ref a0, .int a1] : List Value).toArray s 0 0 (hp_A Γ)) (entryFrame m ([.ref a0, .int a1] : List Value).toArray 2)
  rw [lg_entry_eq]
  generalize (lg_sl ([.ref a0, .int a1]) ++ List.replicate (2 - (lg_sl ([.ref a0, .int a1])).length) Slot.unset).toArray = ls at hl ⊢
  have hl : lv_has ls 2 [(0, .ref a0), (1, .int a1)] := hl
  refine lv_iload_n hx hb dX10_watcherAt_0 rfl (lv_at hl 1 rfl) (hp_n (n := 1) rfl ?_)
  refine lv_if_lt (tgt := 22) hx hb dX10_watcherAt_1 (by decide) (fun c_1 => ?_) (fun c_1 => hp_n (n := 4) rfl ?_)
  ·
    have jc_1 := il_lt c_1
    refine lv_null hx hb dX10_watcherAt_22 (hp_n (n := 23) rfl ?_)
    exact q_aret (x := none) C B hr hlk ⟨rfl, fun b h => by cases h⟩ dX10_watcherAt_23
  ·
    have jc_1 := il_nlt c_1
    refine lv_iload_n hx hb dX10_watcherAt_4 rfl (lv_at hl 1 rfl) (hp_n (n := 5) rfl ?_)
    refine lv_aload_n hx hb dX10_watcherAt_5 rfl (lv_at hl 0 rfl) (hp_n (n := 6) rfl ?_)
    refine q_getr (κ := 11) (k := 5) (φ := 555) (pc' := 9) C B (cw_k B.2.2 k0) fl_X10_36 rfl rfl rfl (cw_r B.2.2 k0 rfl rfl (by decide) (by decide)) dX10_watcherAt_6 rfl (fun b_2 eb_2 kb_2 => ?_)
    refine q_alen (κ := 32) (t := 6) (n := 4) (x := 4) (ty := .object "ProvenRecord$Watcher") (pc' := 10) C B (cw_k B.2.2 kb_2) (by decide) rfl rfl rfl dX10_watcherAt_9 rfl ?_
    refine lv_icmp_ge (tgt := 22) hx hb dX10_watcherAt_10 (by decide) (fun c_3 => ?_) (fun c_3 => hp_n (n := 13) rfl ?_)
    ·
      have jc_3 := il_le c_3
      refine lv_null hx hb dX10_watcherAt_22 (hp_n (n := 23) rfl ?_)
      exact q_aret (x := none) C B hr hlk ⟨rfl, fun b h => by cases h⟩ dX10_watcherAt_23
    ·
      have jc_3 := il_nle c_3
      refine lv_aload_n hx hb dX10_watcherAt_13 rfl (lv_at hl 0 rfl) (hp_n (n := 14) rfl ?_)
      refine q_gets (κ := 11) (k := 5) (φ := 555) (pc' := 17) C B (cw_k B.2.2 k0) fl_X10_36 rfl rfl rfl eb_2 dX10_watcherAt_14 rfl ?_
      refine lv_iload_n hx hb dX10_watcherAt_17 rfl (lv_at hl 1 rfl) (hp_n (n := 18) rfl ?_)
      refine q_aal (κ := 32) (t := 6) (n := 4) (C0 := "ProvenRecord$Watcher") (pc' := 19) C B (cw_k B.2.2 kb_2) (by decide) rfl rfl (by decide) (vi_of (by omega) (by omega)) dX10_watcherAt_18 rfl ?_
      rcases hqb_4 : hp_Q α 32 b_2 a1.toNatClampNeg with _ | b_4
      ·
        refine lv_goto (tgt := 23) hx hb dX10_watcherAt_19 (by decide) ?_
        exact q_aret (x := none) C B hr hlk ⟨rfl, fun b h => by cases h⟩ dX10_watcherAt_23
      ·
        have kb_4 := cw_q B.2.2 kb_2 rfl (by decide) hqb_4
        refine lv_goto (tgt := 23) hx hb dX10_watcherAt_19 (by decide) ?_
        exact q_aret (x := (some b_4)) C B hr hlk ⟨rfl, fun b h => by cases h; exact kb_4⟩ dX10_watcherAt_23
abbrev w_X10_alarmedBits : cw_W := ([], [], [], [])
set_option maxRecDepth 100000 in
set_option maxHeartbeats 4000000 in
theorem t_X10_alarmedBits (Γ : hp_G) (l : Launch) (α : hp_T) (g : GC α) (a0 : Nat) (k0 : hp_K α a0 = 11) : Met l yX10_alarmedBits (hp_ws yX10_alarmedBits cX10_alarmedBits 4 (some .int)) (hp_rm 1 0 0) (hp_Pc Γ α [.ref a0]) (hp_Qi Γ (fun r β => β = α)) 0 0 (hp_A Γ) := by
  refine hp_start (by decide) ?_
  intro p e s m below meth c C hr hlk B0 hnm
  have C : hp_C Γ p m c cX10_alarmedBits 4 s ([.ref a0] : List Value).toArray RX10 := C
  have hx := C.1.1
  have hb := C.1.2.1
  have hown := C.1.2.2.2.1
  have hts := C.1.2.2.2.2
  have B : hp_B Γ (cw w_X10_alarmedBits) s α α s.heap [] := ⟨B0.1, B0.2.1, cw_rf g⟩
  have lit0 : (0 : Int32).toInt = 0 := by decide
  have lit1 : (1 : Int32).toInt = 1 := by decide
  have lit4 : (4 : Int32).toInt = 4 := by decide
  have hl := lv_entry ([.ref a0]) (n := 4) (Nat.le_of_ble_eq_true rfl)
  show W p l e (hp_rm 1 0 0) s m ([.ref a0] : List Value).toArray below meth c s.heap [] 0 0 (MQ below (hp_Qi Γ (fun r β => β = α)) ([.ref a0] : List Value).toArray s 0 0 (hp_A Γ)) (entryFrame m ([.ref a0] : List Value).toArray 4)
  rw [lg_entry_eq]
  generalize (lg_sl ([.ref a0]) ++ List.replicate (4 - (lg_sl ([.ref a0])).length) Slot.unset).toArray = ls at hl ⊢
  have hl : lv_has ls 4 [(0, .ref a0)] := hl
  refine lv_iconst (v := 0) hx hb dX10_alarmedBits_0 (by decide) (hp_n (n := 1) rfl ?_)
  refine lv_istore_n (lv' := [(1, .int 0), (0, .ref a0)]) hx hb dX10_alarmedBits_1 rfl hl (by decide) rfl (fun ls hl => hp_n (n := 2) rfl ?_)
  refine lv_iconst (v := 0) hx hb dX10_alarmedBits_2 (by decide) (hp_n (n := 3) rfl ?_)
  have J4 : ∀ (nq : Nat) (Hh_1 : Heap) (Lh_1 : List Loc) (Bh_1 : hp_B Γ (cw w_X10_alarmedBits) s α α Hh_1 Lh_1) (v1_h_1 : Int32) (v2_h_1 : Int32) (ih_1_0 : 0 ≤ v2_h_1.toInt) (ls : Array Slot) (hl : lv_has ls 4 [(0, .ref a0), (1, .int v1_h_1), (2, .int v2_h_1)]) (hmu4 : (2147483647 - v2_h_1.toInt).toNat = nq), W p l e (hp_rm 1 0 0) s m ([.ref a0] : List Value).toArray below meth c Hh_1 Lh_1 0 0 (MQ below (hp_Qi Γ (fun r β => β = α)) ([.ref a0] : List Value).toArray s 0 0 (hp_A Γ)) (F0 m 4 ls []) := by
    intro nq
    induction nq using Nat.strongRecOn with
    | ind nq ih4 =>
    intro Hh_1 Lh_1 Bh_1 v1_h_1 v2_h_1 ih_1_0 ls hl hmu4
    have inv4_0 := ih_1_0
    refine lv_iload_n hx hb dX10_alarmedBits_4 rfl (lv_at hl 2 rfl) (hp_n (n := 5) rfl ?_)
    refine lv_iconst (v := 4) hx hb dX10_alarmedBits_5 (by decide) (hp_n (n := 6) rfl ?_)
    refine lv_icmp_ge (tgt := 38) hx hb dX10_alarmedBits_6 (by decide) (fun c_2 => ?_) (fun c_2 => hp_n (n := 9) rfl ?_)
    ·
      have jc_2 := il_le c_2
      refine lv_iload_n hx hb dX10_alarmedBits_38 rfl (lv_at hl 1 rfl) (hp_n (n := 39) rfl ?_)
      exact q_iret C Bh_1 hr hlk rfl dX10_alarmedBits_39
    ·
      have jc_2 := il_nle c_2
      refine lv_aload_n hx hb dX10_alarmedBits_9 rfl (lv_at hl 0 rfl) (hp_n (n := 10) rfl ?_)
      refine lv_iload_n hx hb dX10_alarmedBits_10 rfl (lv_at hl 2 rfl) (hp_n (n := 11) rfl ?_)
      refine q_cq (pc' := 14) Bh_1 (hp_runV (As := [.int v2_h_1]) (rest := []) C Bh_1 (t_X10_watcherAt Γ l α Bh_1.2.2.1 a0 (cw_k Bh_1.2.2 k0) v2_h_1) lb_X10_watcherAt lv_X10_watcherAt lk_X10_71 (cw_k Bh_1.2.2 k0) rfl (by decide) rfl hl.1 rfl (Nat.le_of_ble_eq_true rfl) dX10_alarmedBits_11 ⟨Nat.le_refl _, Nat.le_refl _⟩) (fun _ _ h => by rw [h.1]; exact Bh_1.2.2) rfl (fun rh_3 αh_3 Hh_3 Lh_3 ph_3 Bh_3 => ?_)
      rw [ph_3.1] at Bh_3
      rcases rh_3 with _ | bh_3
      ·
        refine lv_astore_nN (lv' := [(3, .null), (0, .ref a0), (1, .int v1_h_1), (2, .int v2_h_1)]) hx hb dX10_alarmedBits_14 rfl hl (by decide) rfl (fun ls hl => hp_n (n := 15) rfl ?_)
        refine lv_aload_nN hx hb dX10_alarmedBits_15 rfl (lv_at hl 0 rfl) (hp_n (n := 16) rfl ?_)
        refine lv_ifnullN (tgt := 32) hx hb dX10_alarmedBits_16 (by decide) ?_
        obtain ⟨x_4, ex_4⟩ : ∃ y : Int32, y = v2_h_1 + 1 := ⟨_, rfl⟩
        have qx_4 : x_4.toInt = v2_h_1.toInt + 1 := by have qa := ib_lo v2_h_1; rw [ex_4]; exact ii_add (by omega) (by omega)
        refine lv_iinc (v := x_4) (lv' := [(2, .int x_4), (3, .null), (0, .ref a0), (1, .int v1_h_1)]) hx hb dX10_alarmedBits_32 hl (k := 3) rfl (by rw [ex_4]; rfl) (by decide) rfl (fun ls hl => hp_n (n := 35) rfl ?_)
        refine lv_goto (tgt := 4) hx hb dX10_alarmedBits_35 (by decide) ?_
        exact ih4 _ (by have qa := ib_hi v2_h_1; have qb := ib_lo v2_h_1; have qc : (v2_h_1 + 1).toInt = v2_h_1.toInt + (1 : Int32).toInt := ii_add (by omega) (by omega); rw [ex_4]; omega) Hh_3 Lh_3 Bh_3 v1_h_1 x_4 (by omega) ls (lv_sub hl [2, 3, 0] rfl) rfl
      ·
        have kbh_3 : hp_K α bh_3 = 8 := cw_k' Bh_3.2.2 (ph_3.2 bh_3 rfl)
        refine lv_astore_n (lv' := [(3, .ref bh_3), (0, .ref a0), (1, .int v1_h_1), (2, .int v2_h_1)]) hx hb dX10_alarmedBits_14 rfl hl (by decide) rfl (fun ls hl => hp_n (n := 15) rfl ?_)
        refine lv_aload_n hx hb dX10_alarmedBits_15 rfl (lv_at hl 0 rfl) (hp_n (n := 16) rfl ?_)
        refine lv_ifnull hx hb dX10_alarmedBits_16 (hp_n (n := 19) rfl ?_)
        refine lv_aload_n hx hb dX10_alarmedBits_19 rfl (lv_at hl 0 rfl) (hp_n (n := 20) rfl ?_)
        refine q_geti (κ := 8) (k := 3) (φ := 403) (pc' := 23) C Bh_3 (cw_k Bh_3.2.2 kbh_3) fl_X10_78 rfl rfl rfl dX10_alarmedBits_20 rfl (fun x_5 ex_5 => ?_)
        refine lv_if_eq (tgt := 32) hx hb dX10_alarmedBits_23 (by decide) (fun c_6 => ?_) (fun c_6 => hp_n (n := 26) rfl ?_)
        ·
          have jc_6 := il_eq c_6
          obtain ⟨x_7, ex_7⟩ : ∃ y : Int32, y = v2_h_1 + 1 := ⟨_, rfl⟩
          have qx_7 : x_7.toInt = v2_h_1.toInt + 1 := by have qa := ib_lo v2_h_1; rw [ex_7]; exact ii_add (by omega) (by omega)
          refine lv_iinc (v := x_7) (lv' := [(2, .int x_7), (3, .ref bh_3), (0, .ref a0), (1, .int v1_h_1)]) hx hb dX10_alarmedBits_32 hl (k := 3) rfl (by rw [ex_7]; rfl) (by decide) rfl (fun ls hl => hp_n (n := 35) rfl ?_)
          refine lv_goto (tgt := 4) hx hb dX10_alarmedBits_35 (by decide) ?_
          exact ih4 _ (by have qa := ib_hi v2_h_1; have qb := ib_lo v2_h_1; have qc : (v2_h_1 + 1).toInt = v2_h_1.toInt + (1 : Int32).toInt := ii_add (by omega) (by omega); rw [ex_7]; omega) Hh_3 Lh_3 Bh_3 v1_h_1 x_7 (by omega) ls (lv_sub hl [2, 3, 0] rfl) rfl
        ·
          have jc_6 := il_ne c_6
          refine lv_iload_n hx hb dX10_alarmedBits_26 rfl (lv_at hl 2 rfl) (hp_n (n := 27) rfl ?_)
          refine lv_iconst (v := 1) hx hb dX10_alarmedBits_27 (by decide) (hp_n (n := 28) rfl ?_)
          refine lv_iload_n hx hb dX10_alarmedBits_28 rfl (lv_at hl 3 rfl) (hp_n (n := 29) rfl ?_)
          refine lv_ishl hx hb dX10_alarmedBits_29 (hp_n (n := 30) rfl (lv_topi (fun x_8 ex_8 => ?_)))
          refine lv_ior hx hb dX10_alarmedBits_30 (hp_n (n := 31) rfl (lv_topi (fun x_9 ex_9 => ?_)))
          refine lv_istore_n (lv' := [(1, .int x_9), (3, .ref bh_3), (0, .ref a0), (2, .int v2_h_1)]) hx hb dX10_alarmedBits_31 rfl hl (by decide) rfl (fun ls hl => hp_n (n := 32) rfl ?_)
          obtain ⟨x_10, ex_10⟩ : ∃ y : Int32, y = v2_h_1 + 1 := ⟨_, rfl⟩
          have qx_10 : x_10.toInt = v2_h_1.toInt + 1 := by have qa := ib_lo v2_h_1; rw [ex_10]; exact ii_add (by omega) (by omega)
          refine lv_iinc (v := x_10) (lv' := [(2, .int x_10), (1, .int x_9), (3, .ref bh_3), (0, .ref a0)]) hx hb dX10_alarmedBits_32 hl (k := 3) rfl (by rw [ex_10]; rfl) (by decide) rfl (fun ls hl => hp_n (n := 35) rfl ?_)
          refine lv_goto (tgt := 4) hx hb dX10_alarmedBits_35 (by decide) ?_
          exact ih4 _ (by have qa := ib_hi v2_h_1; have qb := ib_lo v2_h_1; have qc : (v2_h_1 + 1).toInt = v2_h_1.toInt + (1 : Int32).toInt := ii_add (by omega) (by omega); rw [ex_10]; omega) Hh_3 Lh_3 Bh_3 x_9 x_10 (by omega) ls (lv_sub hl [3, 1, 0] rfl) rfl
  refine lv_istore_n (lv' := [(2, .int 0), (1, .int 0), (0, .ref a0)]) hx hb dX10_alarmedBits_3 rfl hl (by decide) rfl (fun ls hl => hp_n (n := 4) rfl ?_)
  exact J4 _ s.heap [] B 0 0 (by omega) ls (lv_sub hl [2, 1, 0] rfl) rfl
abbrev w_X10_treeMark : cw_W := ([], [], [33], [])
set_option maxRecDepth 100000 in
set_option maxHeartbeats 4000000 in
theorem t_X10_treeMark (Γ : hp_G) (l : Launch) (α : hp_T) (g : GC α) (a0 : Nat) (k0 : hp_K α a0 = 11) (o1 : Option Nat) (k1 : ∀ b, o1 = some b → hp_K α b = 3) (a2 : Int32) (a3 : Int32) : Met l yX10_treeMark (hp_ws yX10_treeMark cX10_treeMark 8 (some .int)) (hp_rm 1 0 0) (hp_Pc Γ α [.ref a0, va_rf o1, .int a2, .int a3]) (hp_Qi Γ (fun r β => cw w_X10_treeMark α β)) 0 0 (hp_A Γ) := by
  refine hp_start (by decide) ?_
  intro p e s m below meth c C hr hlk B0 hnm
  have C : hp_C Γ p m c cX10_treeMark 8 s ([.ref a0, va_rf o1, .int a2, .int a3] : List Value).toArray RX10 := C
  have hx := C.1.1
  have hb := C.1.2.1
  have hown := C.1.2.2.2.1
  have hts := C.1.2.2.2.2
  have B : hp_B Γ (cw w_X10_treeMark) s α α s.heap [] := ⟨B0.1, B0.2.1, cw_rf g⟩
  have lit0 : (0 : Int32).toInt = 0 := by decide
  have lit1 : (1 : Int32).toInt = 1 := by decide
  have lit2 : (2 : Int32).toInt = 2 := by decide
  have lit40 : (40 : Int32).toInt = 40 := by decide
  have lit48 : (48 : Int32).toInt = 48 := by decide
  rcases o1 with _ | a1
  ·
    have hl := lv_entry ([.ref a0, .null, .int a2, .int a3]) (n := 8) (Nat.le_of_ble_eq_true rfl)
    show W p l e (hp_rm 1 0 0) s m ([.ref a0, .null, .int a2, .int a3] : List Value).toArray below meth c s.heap [] 0 0 (MQ below (hp_Qi Γ (fun r β => cw w_X10_treeMark α β)) ([.ref a0, .null, .int a2, .int a3] : List Value).toArray s 0 0 (hp_A Γ)) (entryFrame m ([.ref a0, .null, .int a2, .int a3] : List Value).toArray 8)
    rw [lg_entry_eq]
    generalize (lg_sl ([.ref a0, .null, .int a2, .int a3]) ++ List.replicate (8 - (lg_sl ([.ref a0, .null, .int a2, .int a3])).length) Slot.unset).toArray = ls at hl ⊢
    have hl : lv_has ls 8 [(0, .ref a0), (1, .null), (2, .int a2), (3, .int a3)] := hl
    refine lv_aload_nN hx hb dX10_treeMark_0 rfl (lv_at hl 1 rfl) (hp_n (n := 1) rfl ?_)
    refine lv_ifnullN (tgt := 8) hx hb dX10_treeMark_1 (by decide) ?_
    refine lv_iconst (v := 0) hx hb dX10_treeMark_8 (by decide) (hp_n (n := 9) rfl ?_)
    exact q_iret C B hr hlk B.2.2 dX10_treeMark_9
  ·
    have ka1 := k1 a1 rfl
    have hl := lv_entry ([.ref a0, .ref a1, .int a2, .int a3]) (n := 8) (Nat.le_of_ble_eq_true rfl)
    show W p l e (hp_rm 1 0 0) s m ([.ref a0, .ref a1, .int a2, .int a3] : List Value).toArray below meth c s.heap [] 0 0 (MQ below (hp_Qi Γ (fun r β => cw w_X10_treeMark α β)) ([.ref a0, .ref a1, .int a2, .int a3] : List Value).toArray s 0 0 (hp_A Γ)) (entryFrame m ([.ref a0, .ref a1, .int a2, .int a3] : List Value).toArray 8)
    rw [lg_entry_eq]
    generalize (lg_sl ([.ref a0, .ref a1, .int a2, .int a3]) ++ List.replicate (8 - (lg_sl ([.ref a0, .ref a1, .int a2, .int a3])).length) Slot.unset).toArray = ls at hl ⊢
    have hl : lv_has ls 8 [(0, .ref a0), (1, .ref a1), (2, .int a2), (3, .int a3)] := hl
    refine lv_aload_n hx hb dX10_treeMark_0 rfl (lv_at hl 1 rfl) (hp_n (n := 1) rfl ?_)
    refine lv_ifnull hx hb dX10_treeMark_1 (hp_n (n := 4) rfl ?_)
    refine lv_iload_n hx hb dX10_treeMark_4 rfl (lv_at hl 3 rfl) (hp_n (n := 5) rfl ?_)
    refine lv_if_gt (tgt := 10) hx hb dX10_treeMark_5 (by decide) (fun c_1 => ?_) (fun c_1 => hp_n (n := 8) rfl ?_)
    ·
      have jc_1 := il_lt c_1
      refine lv_iload_n hx hb dX10_treeMark_10 rfl (lv_at hl 3 rfl) (hp_n (n := 11) rfl ?_)
      refine lv_aload_n hx hb dX10_treeMark_11 rfl (lv_at hl 0 rfl) (hp_n (n := 12) rfl ?_)
      refine q_getr (κ := 11) (k := 7) (φ := 557) (pc' := 15) C B (cw_k B.2.2 k0) fl_X10_43 rfl rfl rfl (cw_r B.2.2 k0 rfl rfl (by decide) (by decide)) dX10_treeMark_12 rfl (fun b_2 eb_2 kb_2 => ?_)
      refine q_alen (κ := 33) (t := 0) (n := 48) (x := 48) (ty := .int) (pc' := 16) C B (cw_k B.2.2 kb_2) (by decide) rfl rfl rfl dX10_treeMark_15 rfl ?_
      refine q_ci (pc' := 19) B (hp_runS (As := [.int a3, .int 48]) (rest := []) C B (t_J9_min_7cf53 Γ l α B.2.2.1 a3 48) lb_J9_min_7cf53 ls_J9_min_7cf53 lk_X10_82 rfl (by decide) rfl hl.1 rfl (Nat.le_of_ble_eq_true rfl) dX10_treeMark_16 ⟨Nat.le_refl _, Nat.le_refl _⟩) (fun _ _ h => by rw [h.1]; exact B.2.2) rfl (fun rh_3 αh_3 Hh_3 Lh_3 ph_3 Bh_3 => ?_)
      rw [ph_3.1] at Bh_3
      obtain ⟨ph_3a, ph_3b, ph_3c⟩ := ph_3.2
      refine lv_istore (lv' := [(4, .int rh_3), (0, .ref a0), (1, .ref a1), (2, .int a2), (3, .int a3)]) hx hb dX10_treeMark_19 hl (by decide) rfl (fun ls hl => hp_n (n := 21) rfl ?_)
      refine lv_iconst (v := 0) hx hb dX10_treeMark_21 (by decide) (hp_n (n := 22) rfl ?_)
      have J24 : ∀ (nq : Nat) (αh_4 : hp_T) (Hh_4 : Heap) (Lh_4 : List Loc) (Bh_4 : hp_B Γ (cw w_X10_treeMark) s α αh_4 Hh_4 Lh_4) (v5_h_4 : Int32) (ih_4_0 : 0 ≤ v5_h_4.toInt) (ih_4_1 : 1 ≤ rh_3.toInt ∧ rh_3.toInt ≤ 48) (ls : Array Slot) (hl : lv_has ls 8 [(0, .ref a0), (1, .ref a1), (2, .int a2), (4, .int rh_3), (5, .int v5_h_4)]) (hmu24 : (2147483647 - v5_h_4.toInt).toNat = nq), W p l e (hp_rm 1 0 0) s m ([.ref a0, .ref a1, .int a2, .int a3] : List Value).toArray below meth c Hh_4 Lh_4 0 0 (MQ below (hp_Qi Γ (fun r β => cw w_X10_treeMark α β)) ([.ref a0, .ref a1, .int a2, .int a3] : List Value).toArray s 0 0 (hp_A Γ)) (F0 m 24 ls []) := by
        intro nq
        induction nq using Nat.strongRecOn with
        | ind nq ih24 =>
        intro αh_4 Hh_4 Lh_4 Bh_4 v5_h_4 ih_4_0 ih_4_1 ls hl hmu24
        have inv24_0 := ih_4_0
        have inv24_1 := ih_4_1
        refine lv_iload hx hb dX10_treeMark_24 (lv_at hl 4 rfl) (hp_n (n := 26) rfl ?_)
        refine lv_iload hx hb dX10_treeMark_26 (lv_at hl 3 rfl) (hp_n (n := 28) rfl ?_)
        refine lv_icmp_ge (tgt := 52) hx hb dX10_treeMark_28 (by decide) (fun c_5 => ?_) (fun c_5 => hp_n (n := 31) rfl ?_)
        ·
          have jc_5 := il_le c_5
          refine lv_iconst (v := 0) hx hb dX10_treeMark_52 (by decide) (hp_n (n := 53) rfl ?_)
          have J55 : ∀ (nq : Nat) (αh_6 : hp_T) (Hh_6 : Heap) (Lh_6 : List Loc) (Bh_6 : hp_B Γ (cw w_X10_treeMark) s α αh_6 Hh_6 Lh_6) (v4_h_6 : Int32) (v5_h_6 : Int32) (ih_6_0 : 0 ≤ v5_h_6.toInt) (ih_6_1 : 1 ≤ v4_h_6.toInt ∧ v4_h_6.toInt ≤ 48) (ls : Array Slot) (hl : lv_has ls 8 [(0, .ref a0), (4, .int v4_h_6), (5, .int v5_h_6)]) (hmu55 : (2147483647 - v5_h_6.toInt).toNat = nq), W p l e (hp_rm 1 0 0) s m ([.ref a0, .ref a1, .int a2, .int a3] : List Value).toArray below meth c Hh_6 Lh_6 0 0 (MQ below (hp_Qi Γ (fun r β => cw w_X10_treeMark α β)) ([.ref a0, .ref a1, .int a2, .int a3] : List Value).toArray s 0 0 (hp_A Γ)) (F0 m 55 ls []) := by
            intro nq
            induction nq using Nat.strongRecOn with
            | ind nq ih55 =>
            intro αh_6 Hh_6 Lh_6 Bh_6 v4_h_6 v5_h_6 ih_6_0 ih_6_1 ls hl hmu55
            have inv55_0 := ih_6_0
            have inv55_1 := ih_6_1
            refine lv_iload hx hb dX10_treeMark_55 (lv_at hl 2 rfl) (hp_n (n := 57) rfl ?_)
            refine lv_bipush (v := 40) hx hb dX10_treeMark_57 (by decide) (hp_n (n := 59) rfl ?_)
            have J161 : ∀ (Hh_7 : Heap) (Lh_7 : List Loc) (Bh_7 : hp_B Γ (cw w_X10_treeMark) s α αh_6 Hh_7 Lh_7) (ls : Array Slot) (hl : lv_has ls 8 [(0, .ref a0)]), W p l e (hp_rm 1 0 0) s m ([.ref a0, .ref a1, .int a2, .int a3] : List Value).toArray below meth c Hh_7 Lh_7 0 0 (MQ below (hp_Qi Γ (fun r β => cw w_X10_treeMark α β)) ([.ref a0, .ref a1, .int a2, .int a3] : List Value).toArray s 0 0 (hp_A Γ)) (F0 m 161 ls []) := by
              intro Hh_7 Lh_7 Bh_7 ls hl
              refine lv_aload_n hx hb dX10_treeMark_161 rfl (lv_at hl 0 rfl) (hp_n (n := 162) rfl ?_)
              refine q_getr (κ := 11) (k := 7) (φ := 557) (pc' := 165) C Bh_7 (cw_k Bh_7.2.2 k0) fl_X10_43 rfl rfl rfl (cw_r Bh_7.2.2 k0 rfl rfl (by decide) (by decide)) dX10_treeMark_162 rfl (fun b_8 eb_8 kb_8 => ?_)
              refine lv_iconst (v := 0) hx hb dX10_treeMark_165 (by decide) (hp_n (n := 166) rfl ?_)
              refine q_ial (κ := 33) (n := 48) (pc' := 167) C Bh_7 (cw_k Bh_7.2.2 kb_8) (by decide) rfl (vi_of (by omega) (by omega)) dX10_treeMark_166 rfl (lv_topi (fun x_9 ex_9 => ?_))
              exact q_iret C Bh_7 hr hlk Bh_7.2.2 dX10_treeMark_167
            refine lv_icmp_ge (tgt := 161) hx hb dX10_treeMark_59 (by decide) (fun c_10 => ?_) (fun c_10 => hp_n (n := 62) rfl ?_)
            ·
              have jc_10 := il_le c_10
              exact J161 Hh_6 Lh_6 Bh_6 ls (lv_sub hl [0] rfl)
            ·
              have jc_10 := il_nle c_10
              refine lv_iload hx hb dX10_treeMark_62 (lv_at hl 1 rfl) (hp_n (n := 64) rfl ?_)
              refine lv_iconst (v := 1) hx hb dX10_treeMark_64 (by decide) (hp_n (n := 65) rfl ?_)
              refine lv_icmp_le (tgt := 161) hx hb dX10_treeMark_65 (by decide) (fun c_11 => ?_) (fun c_11 => hp_n (n := 68) rfl ?_)
              ·
                have jc_11 := il_le c_11
                exact J161 Hh_6 Lh_6 Bh_6 ls (lv_sub hl [0] rfl)
              ·
                have jc_11 := il_nle c_11
                refine lv_iload hx hb dX10_treeMark_68 (lv_at hl 1 rfl) (hp_n (n := 70) rfl ?_)
                refine lv_iconst (v := 2) hx hb dX10_treeMark_70 (by decide) (hp_n (n := 71) rfl ?_)
                refine lv_idiv hx hb dX10_treeMark_71 (by decide) (hp_n (n := 72) rfl (lv_topi (fun x_12 ex_12 => ?_)))
                try have qx_12 : x_12.toInt = v4_h_6.toInt / 2 := by rw [ex_12]; exact ii_div (y := 2) (by omega) (by decide)
                refine lv_istore (lv' := [(6, .int x_12), (0, .ref a0), (4, .int v4_h_6), (5, .int v5_h_6)]) hx hb dX10_treeMark_72 hl (by decide) rfl (fun ls hl => hp_n (n := 74) rfl ?_)
                refine lv_iconst (v := 0) hx hb dX10_treeMark_74 (by decide) (hp_n (n := 75) rfl ?_)
                have J77 : ∀ (nq : Nat) (αh_13 : hp_T) (Hh_13 : Heap) (Lh_13 : List Loc) (Bh_13 : hp_B Γ (cw w_X10_treeMark) s α αh_13 Hh_13 Lh_13) (v7_h_13 : Int32) (ih_13_0 : 0 ≤ v7_h_13.toInt) (ih_13_1 : 1 ≤ v4_h_6.toInt ∧ v4_h_6.toInt ≤ 48) (ih_13_2 : x_12.toInt * 2 ≤ v4_h_6.toInt ∧ 0 ≤ x_12.toInt) (ih_13_3 : 0 ≤ v5_h_6.toInt ∧ v5_h_6.toInt < 40) (ls : Array Slot) (hl : lv_has ls 8 [(0, .ref a0), (4, .int v4_h_6), (5, .int v5_h_6), (6, .int x_12), (7, .int v7_h_13)]) (hmu77 : (2147483647 - v7_h_13.toInt).toNat = nq), W p l e (hp_rm 1 0 0) s m ([.ref a0, .ref a1, .int a2, .int a3] : List Value).toArray below meth c Hh_13 Lh_13 0 0 (MQ below (hp_Qi Γ (fun r β => cw w_X10_treeMark α β)) ([.ref a0, .ref a1, .int a2, .int a3] : List Value).toArray s 0 0 (hp_A Γ)) (F0 m 77 ls []) := by
                  intro nq
                  induction nq using Nat.strongRecOn with
                  | ind nq ih77 =>
                  intro αh_13 Hh_13 Lh_13 Bh_13 v7_h_13 ih_13_0 ih_13_1 ih_13_2 ih_13_3 ls hl hmu77
                  have inv77_0 := ih_13_0
                  have inv77_1 := ih_13_1
                  have inv77_2 := ih_13_2
                  have inv77_3 := ih_13_3
                  refine lv_iload hx hb dX10_treeMark_77 (lv_at hl 4 rfl) (hp_n (n := 79) rfl ?_)
                  refine lv_iload hx hb dX10_treeMark_79 (lv_at hl 3 rfl) (hp_n (n := 81) rfl ?_)
                  refine lv_icmp_ge (tgt := 124) hx hb dX10_treeMark_81 (by decide) (fun c_14 => ?_) (fun c_14 => hp_n (n := 84) rfl ?_)
                  ·
                    have jc_14 := il_le c_14
                    refine lv_iload hx hb dX10_treeMark_124 (lv_at hl 1 rfl) (hp_n (n := 126) rfl ?_)
                    refine lv_iconst (v := 2) hx hb dX10_treeMark_126 (by decide) (hp_n (n := 127) rfl ?_)
                    refine lv_irem hx hb dX10_treeMark_127 (by decide) (hp_n (n := 128) rfl (lv_topi (fun x_15 ex_15 => ?_)))
                    try have qx_15 : x_15.toInt = v4_h_6.toInt % 2 := by rw [ex_15]; exact ii_rem (y := 2) (by omega) (by decide)
                    refine lv_iconst (v := 1) hx hb dX10_treeMark_128 (by decide) (hp_n (n := 129) rfl ?_)
                    refine lv_icmp_ne (tgt := 148) hx hb dX10_treeMark_129 (by decide) (fun c_16 => ?_) (fun c_16 => hp_n (n := 132) rfl ?_)
                    ·
                      have jc_16 := il_ne c_16
                      refine lv_iload hx hb dX10_treeMark_148 (lv_at hl 1 rfl) (hp_n (n := 150) rfl ?_)
                      refine lv_iload hx hb dX10_treeMark_150 (lv_at hl 3 rfl) (hp_n (n := 152) rfl ?_)
                      refine lv_isub hx hb dX10_treeMark_152 (hp_n (n := 153) rfl (lv_topi (fun x_17 ex_17 => ?_)))
                      try have qx_17 : x_17.toInt = v4_h_6.toInt - x_12.toInt := by have b0 := ib_hi v4_h_6; have c0 := ib_lo v4_h_6; have b1 := ib_hi v7_h_13; have c1 := ib_lo v7_h_13; have b2 := ib_hi x_12; have c2 := ib_lo x_12; rw [ex_17]; exact ii_sub (by omega) (by omega)
                      refine lv_istore (lv' := [(4, .int x_17), (0, .ref a0), (5, .int v5_h_6), (6, .int x_12), (7, .int v7_h_13)]) hx hb dX10_treeMark_153 hl (by decide) rfl (fun ls hl => hp_n (n := 155) rfl ?_)
                      obtain ⟨x_18, ex_18⟩ : ∃ y : Int32, y = v5_h_6 + 1 := ⟨_, rfl⟩
                      try have qx_18 : x_18.toInt = v5_h_6.toInt + (1 : Int32).toInt := by have b0 := ib_hi v5_h_6; have c0 := ib_lo v5_h_6; rw [ex_18]; exact ii_add (by omega) (by omega)
                      refine lv_iinc (v := x_18) (lv' := [(5, .int x_18), (4, .int x_17), (0, .ref a0), (6, .int x_12), (7, .int v7_h_13)]) hx hb dX10_treeMark_155 hl (k := 2) rfl (by rw [ex_18]; rfl) (by decide) rfl (fun ls hl => hp_n (n := 158) rfl ?_)
                      refine lv_goto (tgt := 55) hx hb dX10_treeMark_158 (by decide) ?_
                      exact ih55 _ (by have qa := ib_hi v5_h_6; have qb := ib_lo v5_h_6; have qc : (v5_h_6 + 1).toInt = v5_h_6.toInt + (1 : Int32).toInt := ii_add (by omega) (by omega); rw [ex_18]; omega) αh_13 Hh_13 Lh_13 Bh_13 x_17 x_18 (by omega) (by omega) ls (lv_sub hl [2, 1, 0] rfl) rfl
                    ·
                      have jc_16 := il_eq c_16
                      refine lv_aload_n hx hb dX10_treeMark_132 rfl (lv_at hl 0 rfl) (hp_n (n := 133) rfl ?_)
                      refine q_getr (κ := 11) (k := 7) (φ := 557) (pc' := 136) C Bh_13 (cw_k Bh_13.2.2 k0) fl_X10_43 rfl rfl rfl (cw_r Bh_13.2.2 k0 rfl rfl (by decide) (by decide)) dX10_treeMark_133 rfl (fun b_19 eb_19 kb_19 => ?_)
                      refine lv_iload hx hb dX10_treeMark_136 (lv_at hl 3 rfl) (hp_n (n := 138) rfl ?_)
                      refine lv_aload_n hx hb dX10_treeMark_138 rfl (lv_at hl 0 rfl) (hp_n (n := 139) rfl ?_)
                      refine q_gets (κ := 11) (k := 7) (φ := 557) (pc' := 142) C Bh_13 (cw_k Bh_13.2.2 k0) fl_X10_43 rfl rfl rfl eb_19 dX10_treeMark_139 rfl ?_
                      refine lv_iload hx hb dX10_treeMark_142 (lv_at hl 1 rfl) (hp_n (n := 144) rfl ?_)
                      refine lv_iconst (v := 1) hx hb dX10_treeMark_144 (by decide) (hp_n (n := 145) rfl ?_)
                      refine lv_isub hx hb dX10_treeMark_145 (hp_n (n := 146) rfl (lv_topi (fun x_20 ex_20 => ?_)))
                      try have qx_20 : x_20.toInt = v4_h_6.toInt - (1 : Int32).toInt := by have b0 := ib_hi v4_h_6; have c0 := ib_lo v4_h_6; rw [ex_20]; exact ii_sub (by omega) (by omega)
                      refine q_ial (κ := 33) (n := 48) (pc' := 147) C Bh_13 (cw_k Bh_13.2.2 kb_19) (by decide) rfl (vi_of (by omega) (by omega)) dX10_treeMark_146 rfl (lv_topi (fun x_21 ex_21 => ?_))
                      refine q_ias (κ := 33) (n := 48) (pc' := 148) C Bh_13 (cw_k Bh_13.2.2 kb_19) (by decide) rfl (vi_of (by omega) (by omega)) rfl (cw_sE Bh_13.2.2 (by decide)) dX10_treeMark_147 rfl (fun αh_22 Hh_22 Lh_22 eh_22 Bh_22 => ?_)
                      refine lv_iload hx hb dX10_treeMark_148 (lv_at hl 1 rfl) (hp_n (n := 150) rfl ?_)
                      refine lv_iload hx hb dX10_treeMark_150 (lv_at hl 3 rfl) (hp_n (n := 152) rfl ?_)
                      refine lv_isub hx hb dX10_treeMark_152 (hp_n (n := 153) rfl (lv_topi (fun x_23 ex_23 => ?_)))
                      try have qx_23 : x_23.toInt = v4_h_6.toInt - x_12.toInt := by have b0 := ib_hi v4_h_6; have c0 := ib_lo v4_h_6; have b1 := ib_hi v7_h_13; have c1 := ib_lo v7_h_13; have b2 := ib_hi x_12; have c2 := ib_lo x_12; rw [ex_23]; exact ii_sub (by omega) (by omega)
                      refine lv_istore (lv' := [(4, .int x_23), (0, .ref a0), (5, .int v5_h_6), (6, .int x_12), (7, .int v7_h_13)]) hx hb dX10_treeMark_153 hl (by decide) rfl (fun ls hl => hp_n (n := 155) rfl ?_)
                      obtain ⟨x_24, ex_24⟩ : ∃ y : Int32, y = v5_h_6 + 1 := ⟨_, rfl⟩
                      try have qx_24 : x_24.toInt = v5_h_6.toInt + (1 : Int32).toInt := by have b0 := ib_hi v5_h_6; have c0 := ib_lo v5_h_6; rw [ex_24]; exact ii_add (by omega) (by omega)
                      refine lv_iinc (v := x_24) (lv' := [(5, .int x_24), (4, .int x_23), (0, .ref a0), (6, .int x_12), (7, .int v7_h_13)]) hx hb dX10_treeMark_155 hl (k := 2) rfl (by rw [ex_24]; rfl) (by decide) rfl (fun ls hl => hp_n (n := 158) rfl ?_)
                      refine lv_goto (tgt := 55) hx hb dX10_treeMark_158 (by decide) ?_
                      exact ih55 _ (by have qa := ib_hi v5_h_6; have qb := ib_lo v5_h_6; have qc : (v5_h_6 + 1).toInt = v5_h_6.toInt + (1 : Int32).toInt := ii_add (by omega) (by omega); rw [ex_24]; omega) αh_22 Hh_22 Lh_22 Bh_22 x_23 x_24 (by omega) (by omega) ls (lv_sub hl [2, 1, 0] rfl) rfl
                  ·
                    have jc_14 := il_nle c_14
                    refine lv_aload_n hx hb dX10_treeMark_84 rfl (lv_at hl 0 rfl) (hp_n (n := 85) rfl ?_)
                    refine q_getr (κ := 11) (k := 7) (φ := 557) (pc' := 88) C Bh_13 (cw_k Bh_13.2.2 k0) fl_X10_43 rfl rfl rfl (cw_r Bh_13.2.2 k0 rfl rfl (by decide) (by decide)) dX10_treeMark_85 rfl (fun b_25 eb_25 kb_25 => ?_)
                    refine lv_iload hx hb dX10_treeMark_88 (lv_at hl 4 rfl) (hp_n (n := 90) rfl ?_)
                    refine lv_aload_n hx hb dX10_treeMark_90 rfl (lv_at hl 0 rfl) (hp_n (n := 91) rfl ?_)
                    refine q_geti (κ := 11) (k := 0) (φ := 550) (pc' := 94) C Bh_13 (cw_k Bh_13.2.2 k0) fl_X10_10 rfl rfl rfl dX10_treeMark_91 rfl (fun x_26 ex_26 => ?_)
                    refine lv_aload_n hx hb dX10_treeMark_94 rfl (lv_at hl 0 rfl) (hp_n (n := 95) rfl ?_)
                    refine q_gets (κ := 11) (k := 7) (φ := 557) (pc' := 98) C Bh_13 (cw_k Bh_13.2.2 k0) fl_X10_43 rfl rfl rfl eb_25 dX10_treeMark_95 rfl ?_
                    refine lv_iconst (v := 2) hx hb dX10_treeMark_98 (by decide) (hp_n (n := 99) rfl ?_)
                    refine lv_iload hx hb dX10_treeMark_99 (lv_at hl 4 rfl) (hp_n (n := 101) rfl ?_)
                    refine lv_imul hx hb dX10_treeMark_101 (hp_n (n := 102) rfl (lv_topi (fun x_27 ex_27 => ?_)))
                    try have qx_27 : x_27.toInt = 2 * v7_h_13.toInt := by rw [ex_27, ii_mul (by rw [lit2]; omega) (by rw [lit2]; omega), lit2]
                    refine q_ial (κ := 33) (n := 48) (pc' := 103) C Bh_13 (cw_k Bh_13.2.2 kb_25) (by decide) rfl (vi_of (by omega) (by omega)) dX10_treeMark_102 rfl (lv_topi (fun x_28 ex_28 => ?_))
                    refine lv_aload_n hx hb dX10_treeMark_103 rfl (lv_at hl 0 rfl) (hp_n (n := 104) rfl ?_)
                    refine q_gets (κ := 11) (k := 7) (φ := 557) (pc' := 107) C Bh_13 (cw_k Bh_13.2.2 k0) fl_X10_43 rfl rfl rfl eb_25 dX10_treeMark_104 rfl ?_
                    refine lv_iconst (v := 2) hx hb dX10_treeMark_107 (by decide) (hp_n (n := 108) rfl ?_)
                    refine lv_iload hx hb dX10_treeMark_108 (lv_at hl 4 rfl) (hp_n (n := 110) rfl ?_)
                    refine lv_imul hx hb dX10_treeMark_110 (hp_n (n := 111) rfl (lv_topi (fun x_29 ex_29 => ?_)))
                    try have qx_29 : x_29.toInt = 2 * v7_h_13.toInt := by rw [ex_29, ii_mul (by rw [lit2]; omega) (by rw [lit2]; omega), lit2]
                    refine lv_iconst (v := 1) hx hb dX10_treeMark_111 (by decide) (hp_n (n := 112) rfl ?_)
                    refine lv_iadd hx hb dX10_treeMark_112 (hp_n (n := 113) rfl (lv_topi (fun x_30 ex_30 => ?_)))
                    try have qx_30 : x_30.toInt = x_29.toInt + (1 : Int32).toInt := by have b0 := ib_hi x_29; have c0 := ib_lo x_29; rw [ex_30]; exact ii_add (by omega) (by omega)
                    refine q_ial (κ := 33) (n := 48) (pc' := 114) C Bh_13 (cw_k Bh_13.2.2 kb_25) (by decide) rfl (vi_of (by omega) (by omega)) dX10_treeMark_113 rfl (lv_topi (fun x_31 ex_31 => ?_))
                    refine q_ci (pc' := 117) Bh_13 (hp_runS (As := [.int x_26, .int x_28, .int x_31]) (rest := [.int v7_h_13, .ref b_25]) C Bh_13 (t_X11_markOfTwo Γ l αh_13 Bh_13.2.2.1 x_26 x_28 x_31) lb_X11_markOfTwo ls_X11_markOfTwo lk_X10_92 rfl (by decide) rfl hl.1 rfl (Nat.le_of_ble_eq_true rfl) dX10_treeMark_114 ⟨Nat.le_refl _, Nat.le_refl _⟩) (fun _ _ h => by rw [h]; exact Bh_13.2.2) rfl (fun rh_32 αh_32 Hh_32 Lh_32 ph_32 Bh_32 => ?_)
                    rw [ph_32] at Bh_32
                    refine q_ias (κ := 33) (n := 48) (pc' := 118) C Bh_32 (cw_k Bh_32.2.2 kb_25) (by decide) rfl (vi_of (by omega) (by omega)) rfl (cw_sE Bh_32.2.2 (by decide)) dX10_treeMark_117 rfl (fun αh_33 Hh_33 Lh_33 eh_33 Bh_33 => ?_)
                    obtain ⟨x_34, ex_34⟩ : ∃ y : Int32, y = v7_h_13 + 1 := ⟨_, rfl⟩
                    try have qx_34 : x_34.toInt = v7_h_13.toInt + (1 : Int32).toInt := by have b0 := ib_hi v7_h_13; have c0 := ib_lo v7_h_13; have b1 := ib_hi x_12; have c1 := ib_lo x_12; rw [ex_34]; exact ii_add (by omega) (by omega)
                    refine lv_iinc (v := x_34) (lv' := [(7, .int x_34), (0, .ref a0), (4, .int v4_h_6), (5, .int v5_h_6), (6, .int x_12)]) hx hb dX10_treeMark_118 hl (k := 4) rfl (by rw [ex_34]; rfl) (by decide) rfl (fun ls hl => hp_n (n := 121) rfl ?_)
                    refine lv_goto (tgt := 77) hx hb dX10_treeMark_121 (by decide) ?_
                    exact ih77 _ (by have q0 := ib_hi x_12; have q1 := ib_lo x_12; have qa := ib_hi v7_h_13; have qb := ib_lo v7_h_13; have qc : (v7_h_13 + 1).toInt = v7_h_13.toInt + (1 : Int32).toInt := ii_add (by omega) (by omega); rw [ex_34]; omega) αh_33 Hh_33 Lh_33 Bh_33 x_34 (by omega) (by omega) (by omega) (by omega) ls (lv_sub hl [1, 2, 3, 4, 0] rfl) rfl
                refine lv_istore (lv' := [(7, .int 0), (6, .int x_12), (0, .ref a0), (4, .int v4_h_6), (5, .int v5_h_6)]) hx hb dX10_treeMark_75 hl (by decide) rfl (fun ls hl => hp_n (n := 77) rfl ?_)
                exact J77 _ αh_6 Hh_6 Lh_6 Bh_6 0 (by omega) (by omega) (by omega) (by omega) ls (lv_sub hl [2, 3, 4, 1, 0] rfl) rfl
          refine lv_istore (lv' := [(5, .int 0), (0, .ref a0), (1, .ref a1), (2, .int a2), (4, .int rh_3)]) hx hb dX10_treeMark_53 hl (by decide) rfl (fun ls hl => hp_n (n := 55) rfl ?_)
          exact J55 _ αh_4 Hh_4 Lh_4 Bh_4 rh_3 0 (by omega) (by omega) ls (lv_sub hl [1, 4, 0] rfl) rfl
        ·
          have jc_5 := il_nle c_5
          refine lv_aload_n hx hb dX10_treeMark_31 rfl (lv_at hl 0 rfl) (hp_n (n := 32) rfl ?_)
          refine q_getr (κ := 11) (k := 7) (φ := 557) (pc' := 35) C Bh_4 (cw_k Bh_4.2.2 k0) fl_X10_43 rfl rfl rfl (cw_r Bh_4.2.2 k0 rfl rfl (by decide) (by decide)) dX10_treeMark_32 rfl (fun b_35 eb_35 kb_35 => ?_)
          refine lv_iload hx hb dX10_treeMark_35 (lv_at hl 4 rfl) (hp_n (n := 37) rfl ?_)
          refine lv_aload_n hx hb dX10_treeMark_37 rfl (lv_at hl 1 rfl) (hp_n (n := 38) rfl ?_)
          refine lv_iload_n hx hb dX10_treeMark_38 rfl (lv_at hl 2 rfl) (hp_n (n := 39) rfl ?_)
          refine lv_iload hx hb dX10_treeMark_39 (lv_at hl 4 rfl) (hp_n (n := 41) rfl ?_)
          refine lv_iadd hx hb dX10_treeMark_41 (hp_n (n := 42) rfl (lv_topi (fun x_36 ex_36 => ?_)))
          try have qx_36 : x_36.toInt = a2.toInt + v5_h_4.toInt := by have b0 := ib_hi a2; have c0 := ib_lo a2; have b1 := ib_hi rh_3; have c1 := ib_lo rh_3; have b2 := ib_hi v5_h_4; have c2 := ib_lo v5_h_4; rw [ex_36]; exact ii_add (by omega) (by omega)
          refine q_ci (pc' := 45) Bh_4 (hp_runV (As := [.int x_36]) (rest := [.int v5_h_4, .ref b_35]) C Bh_4 (t_X2_markAt Γ l αh_4 Bh_4.2.2.1 a1 (cw_k Bh_4.2.2 ka1) x_36) lb_X2_markAt lv_X2_markAt lk_X10_88 (cw_k Bh_4.2.2 ka1) rfl (by decide) rfl hl.1 rfl (Nat.le_of_ble_eq_true rfl) dX10_treeMark_42 ⟨Nat.le_refl _, Nat.le_refl _⟩) (fun _ _ h => by rw [h]; exact Bh_4.2.2) rfl (fun rh_37 αh_37 Hh_37 Lh_37 ph_37 Bh_37 => ?_)
          rw [ph_37] at Bh_37
          refine q_ias (κ := 33) (n := 48) (pc' := 46) C Bh_37 (cw_k Bh_37.2.2 kb_35) (by decide) rfl (vi_of (by omega) (by omega)) rfl (cw_sE Bh_37.2.2 (by decide)) dX10_treeMark_45 rfl (fun αh_38 Hh_38 Lh_38 eh_38 Bh_38 => ?_)
          obtain ⟨x_39, ex_39⟩ : ∃ y : Int32, y = v5_h_4 + 1 := ⟨_, rfl⟩
          try have qx_39 : x_39.toInt = v5_h_4.toInt + (1 : Int32).toInt := by have b0 := ib_hi rh_3; have c0 := ib_lo rh_3; have b1 := ib_hi v5_h_4; have c1 := ib_lo v5_h_4; rw [ex_39]; exact ii_add (by omega) (by omega)
          refine lv_iinc (v := x_39) (lv' := [(5, .int x_39), (0, .ref a0), (1, .ref a1), (2, .int a2), (4, .int rh_3)]) hx hb dX10_treeMark_46 hl (k := 4) rfl (by rw [ex_39]; rfl) (by decide) rfl (fun ls hl => hp_n (n := 49) rfl ?_)
          refine lv_goto (tgt := 24) hx hb dX10_treeMark_49 (by decide) ?_
          exact ih24 _ (by have q0 := ib_hi rh_3; have q1 := ib_lo rh_3; have qa := ib_hi v5_h_4; have qb := ib_lo v5_h_4; have qc : (v5_h_4 + 1).toInt = v5_h_4.toInt + (1 : Int32).toInt := ii_add (by omega) (by omega); rw [ex_39]; omega) αh_38 Hh_38 Lh_38 Bh_38 x_39 (by omega) (by omega) ls (lv_sub hl [1, 2, 3, 4, 0] rfl) rfl
      refine lv_istore (lv' := [(5, .int 0), (4, .int rh_3), (0, .ref a0), (1, .ref a1), (2, .int a2), (3, .int a3)]) hx hb dX10_treeMark_22 hl (by decide) rfl (fun ls hl => hp_n (n := 24) rfl ?_)
      exact J24 _ α Hh_3 Lh_3 Bh_3 0 (by omega) (by omega) ls (lv_sub hl [2, 3, 4, 1, 0] rfl) rfl
    ·
      have jc_1 := il_nlt c_1
      refine lv_iconst (v := 0) hx hb dX10_treeMark_8 (by decide) (hp_n (n := 9) rfl ?_)
      exact q_iret C B hr hlk B.2.2 dX10_treeMark_9
abbrev w_X10_peaksOf : cw_W := ([301], [], [20, 33], [])
set_option maxRecDepth 100000 in
set_option maxHeartbeats 4000000 in
theorem t_X10_peaksOf (Γ : hp_G) (l : Launch) (α : hp_T) (g : GC α) (a0 : Nat) (k0 : hp_K α a0 = 11) (o1 : Option Nat) (k1 : ∀ b, o1 = some b → hp_K α b = 3) (a2 : Int32) (a3 : Nat) (k3 : hp_K α a3 = 6) : Met l yX10_peaksOf (hp_ws yX10_peaksOf cX10_peaksOf 6 none) (hp_rm 2 0 0) (hp_Pc Γ α [.ref a0, va_rf o1, .int a2, .ref a3]) (hp_Qv Γ (fun β => cw w_X10_peaksOf α β)) 0 0 (hp_A Γ) := by
  refine hp_start (by decide) ?_
  intro p e s m below meth c C hr hlk B0 hnm
  have C : hp_C Γ p m c cX10_peaksOf 6 s ([.ref a0, va_rf o1, .int a2, .ref a3] : List Value).toArray RX10 := C
  have hx := C.1.1
  have hb := C.1.2.1
  have hown := C.1.2.2.2.1
  have hts := C.1.2.2.2.2
  have B : hp_B Γ (cw w_X10_peaksOf) s α α s.heap [] := ⟨B0.1, B0.2.1, cw_rf g⟩
  have lit0 : (0 : Int32).toInt = 0 := by decide
  have lit2 : (2 : Int32).toInt = 2 := by decide
  have lit32 : (32 : Int32).toInt = 32 := by decide
  rcases o1 with _ | a1
  ·
    have hl := lv_entry ([.ref a0, .null, .int a2, .ref a3]) (n := 6) (Nat.le_of_ble_eq_true rfl)
    show W p l e (hp_rm 2 0 0) s m ([.ref a0, .null, .int a2, .ref a3] : List Value).toArray below meth c s.heap [] 0 0 (MQ below (hp_Qv Γ (fun β => cw w_X10_peaksOf α β)) ([.ref a0, .null, .int a2, .ref a3] : List Value).toArray s 0 0 (hp_A Γ)) (entryFrame m ([.ref a0, .null, .int a2, .ref a3] : List Value).toArray 6)
    rw [lg_entry_eq]
    generalize (lg_sl ([.ref a0, .null, .int a2, .ref a3]) ++ List.replicate (6 - (lg_sl ([.ref a0, .null, .int a2, .ref a3])).length) Slot.unset).toArray = ls at hl ⊢
    have hl : lv_has ls 6 [(0, .ref a0), (1, .null), (2, .int a2), (3, .ref a3)] := hl
    refine lv_aload_n hx hb dX10_peaksOf_0 rfl (lv_at hl 3 rfl) (hp_n (n := 1) rfl ?_)
    refine lv_iconst (v := 0) hx hb dX10_peaksOf_1 (by decide) (hp_n (n := 2) rfl ?_)
    refine q_cv (pc' := 5) B (hp_runV (As := [.int 0]) (rest := []) C B (t_X5_shorten Γ l α B.2.2.1 a3 (cw_k B.2.2 k3) 0) lb_X5_shorten lv_X5_shorten lk_X10_96 (cw_k B.2.2 k3) rfl (by decide) rfl hl.1 rfl (Nat.le_of_ble_eq_true rfl) dX10_peaksOf_2 ⟨Nat.le_refl _, Nat.le_refl _⟩) (fun _ h => cw_tr B.2.2 h (by decide)) rfl (fun αh_1 Hh_1 Lh_1 ph_1 Bh_1 => ?_)
    refine lv_iconst (v := 0) hx hb dX10_peaksOf_5 (by decide) (hp_n (n := 6) rfl ?_)
    refine lv_istore (lv' := [(4, .int 0), (0, .ref a0), (1, .null), (2, .int a2), (3, .ref a3)]) hx hb dX10_peaksOf_6 hl (by decide) rfl (fun ls hl => hp_n (n := 8) rfl ?_)
    refine lv_bipush (v := 32) hx hb dX10_peaksOf_8 (by decide) (hp_n (n := 10) rfl ?_)
    have J12 : ∀ (nq : Nat) (αh_2 : hp_T) (Hh_2 : Heap) (Lh_2 : List Loc) (Bh_2 : hp_B Γ (cw w_X10_peaksOf) s α αh_2 Hh_2 Lh_2) (v4_h_2 : Int32) (v5_h_2 : Int32) (ls : Array Slot) (hl : lv_has ls 6 [(0, .ref a0), (1, .null), (2, .int a2), (3, .ref a3), (4, .int v4_h_2), (5, .int v5_h_2)]) (hmu12 : v5_h_2.toInt.toNat = nq), W p l e (hp_rm 2 0 0) s m ([.ref a0, .null, .int a2, .ref a3] : List Value).toArray below meth c Hh_2 Lh_2 0 0 (MQ below (hp_Qv Γ (fun β => cw w_X10_peaksOf α β)) ([.ref a0, .null, .int a2, .ref a3] : List Value).toArray s 0 0 (hp_A Γ)) (F0 m 12 ls []) := by
      intro nq
      induction nq using Nat.strongRecOn with
      | ind nq ih12 =>
      intro αh_2 Hh_2 Lh_2 Bh_2 v4_h_2 v5_h_2 ls hl hmu12
      refine lv_iload hx hb dX10_peaksOf_12 (lv_at hl 5 rfl) (hp_n (n := 14) rfl ?_)
      refine lv_if_le (tgt := 53) hx hb dX10_peaksOf_14 (by decide) (fun c_3 => ?_) (fun c_3 => hp_n (n := 17) rfl ?_)
      ·
        have jc_3 := il_le c_3
        exact q_vret C Bh_2 hr hlk Bh_2.2.2 dX10_peaksOf_53
      ·
        have jc_3 := il_nle c_3
        refine lv_iload_n hx hb dX10_peaksOf_17 rfl (lv_at hl 2 rfl) (hp_n (n := 18) rfl ?_)
        refine lv_iload hx hb dX10_peaksOf_18 (lv_at hl 5 rfl) (hp_n (n := 20) rfl ?_)
        refine lv_iand hx hb dX10_peaksOf_20 (hp_n (n := 21) rfl (lv_topi (fun x_4 ex_4 => ?_)))
        have J44 : ∀ (αh_5 : hp_T) (Hh_5 : Heap) (Lh_5 : List Loc) (Bh_5 : hp_B Γ (cw w_X10_peaksOf) s α αh_5 Hh_5 Lh_5) (v4_h_5 : Int32) (ls : Array Slot) (hl : lv_has ls 6 [(0, .ref a0), (1, .null), (2, .int a2), (3, .ref a3), (4, .int v4_h_5), (5, .int v5_h_2)]), W p l e (hp_rm 2 0 0) s m ([.ref a0, .null, .int a2, .ref a3] : List Value).toArray below meth c Hh_5 Lh_5 0 0 (MQ below (hp_Qv Γ (fun β => cw w_X10_peaksOf α β)) ([.ref a0, .null, .int a2, .ref a3] : List Value).toArray s 0 0 (hp_A Γ)) (F0 m 44 ls []) := by
          intro αh_5 Hh_5 Lh_5 Bh_5 v4_h_5 ls hl
          refine lv_iload hx hb dX10_peaksOf_44 (lv_at hl 5 rfl) (hp_n (n := 46) rfl ?_)
          refine lv_iconst (v := 2) hx hb dX10_peaksOf_46 (by decide) (hp_n (n := 47) rfl ?_)
          refine lv_idiv hx hb dX10_peaksOf_47 (by decide) (hp_n (n := 48) rfl (lv_topi (fun x_6 ex_6 => ?_)))
          refine lv_istore (lv' := [(5, .int x_6), (0, .ref a0), (1, .null), (2, .int a2), (3, .ref a3), (4, .int v4_h_5)]) hx hb dX10_peaksOf_48 hl (by decide) rfl (fun ls hl => hp_n (n := 50) rfl ?_)
          refine lv_goto (tgt := 12) hx hb dX10_peaksOf_50 (by decide) ?_
          exact ih12 _ (by rw [ex_6]; have q1 := id_lt2 (x := v5_h_2) (by omega); omega) αh_5 Hh_5 Lh_5 Bh_5 v4_h_5 x_6 ls (lv_sub hl [1, 2, 3, 4, 5, 0] rfl) rfl
        refine lv_if_eq (tgt := 44) hx hb dX10_peaksOf_21 (by decide) (fun c_7 => ?_) (fun c_7 => hp_n (n := 24) rfl ?_)
        ·
          have jc_7 := il_eq c_7
          exact J44 αh_2 Hh_2 Lh_2 Bh_2 v4_h_2 ls (lv_sub hl [0, 1, 2, 3, 4, 5] rfl)
        ·
          have jc_7 := il_ne c_7
          refine lv_aload_n hx hb dX10_peaksOf_24 rfl (lv_at hl 3 rfl) (hp_n (n := 25) rfl ?_)
          refine lv_aload_n hx hb dX10_peaksOf_25 rfl (lv_at hl 0 rfl) (hp_n (n := 26) rfl ?_)
          refine lv_aload_nN hx hb dX10_peaksOf_26 rfl (lv_at hl 1 rfl) (hp_n (n := 27) rfl ?_)
          refine lv_iload hx hb dX10_peaksOf_27 (lv_at hl 4 rfl) (hp_n (n := 29) rfl ?_)
          refine lv_iload hx hb dX10_peaksOf_29 (lv_at hl 5 rfl) (hp_n (n := 31) rfl ?_)
          refine q_ci (pc' := 34) Bh_2 (hp_runV (As := [va_rf none, .int v4_h_2, .int v5_h_2]) (rest := [.ref a3]) C Bh_2 (t_X10_treeMark Γ l αh_2 Bh_2.2.2.1 a0 (cw_k Bh_2.2.2 k0) none (fun b h => by cases h) v4_h_2 v5_h_2) lb_X10_treeMark lv_X10_treeMark lk_X10_100 (cw_k Bh_2.2.2 k0) rfl (by decide) rfl hl.1 rfl (Nat.le_of_ble_eq_true rfl) dX10_peaksOf_31 ⟨Nat.le_refl _, Nat.le_refl _⟩) (fun _ _ h => cw_tr Bh_2.2.2 h (by decide)) rfl (fun rh_8 αh_8 Hh_8 Lh_8 ph_8 Bh_8 => ?_)
          refine q_cv (pc' := 37) Bh_8 (hp_runV (As := [.int rh_8]) (rest := []) C Bh_8 (t_X5_put Γ l αh_8 Bh_8.2.2.1 a3 (cw_k Bh_8.2.2 k3) rh_8) lb_X5_put lv_X5_put lk_X10_104 (cw_k Bh_8.2.2 k3) rfl (by decide) rfl hl.1 rfl (Nat.le_of_ble_eq_true rfl) dX10_peaksOf_34 ⟨Nat.le_refl _, Nat.le_refl _⟩) (fun _ h => cw_tr Bh_8.2.2 h (by decide)) rfl (fun αh_9 Hh_9 Lh_9 ph_9 Bh_9 => ?_)
          refine lv_iload hx hb dX10_peaksOf_37 (lv_at hl 4 rfl) (hp_n (n := 39) rfl ?_)
          refine lv_iload hx hb dX10_peaksOf_39 (lv_at hl 5 rfl) (hp_n (n := 41) rfl ?_)
          refine lv_iadd hx hb dX10_peaksOf_41 (hp_n (n := 42) rfl (lv_topi (fun x_10 ex_10 => ?_)))
          refine lv_istore (lv' := [(4, .int x_10), (0, .ref a0), (1, .null), (2, .int a2), (3, .ref a3), (5, .int v5_h_2)]) hx hb dX10_peaksOf_42 hl (by decide) rfl (fun ls hl => hp_n (n := 44) rfl ?_)
          exact J44 αh_9 Hh_9 Lh_9 Bh_9 x_10 ls (lv_sub hl [1, 2, 3, 4, 0, 5] rfl)
    refine lv_istore (lv' := [(5, .int 32), (4, .int 0), (0, .ref a0), (1, .null), (2, .int a2), (3, .ref a3)]) hx hb dX10_peaksOf_10 hl (by decide) rfl (fun ls hl => hp_n (n := 12) rfl ?_)
    exact J12 _ αh_1 Hh_1 Lh_1 Bh_1 0 32 ls (lv_sub hl [2, 3, 4, 5, 1, 0] rfl) rfl
  ·
    have ka1 := k1 a1 rfl
    have hl := lv_entry ([.ref a0, .ref a1, .int a2, .ref a3]) (n := 6) (Nat.le_of_ble_eq_true rfl)
    show W p l e (hp_rm 2 0 0) s m ([.ref a0, .ref a1, .int a2, .ref a3] : List Value).toArray below meth c s.heap [] 0 0 (MQ below (hp_Qv Γ (fun β => cw w_X10_peaksOf α β)) ([.ref a0, .ref a1, .int a2, .ref a3] : List Value).toArray s 0 0 (hp_A Γ)) (entryFrame m ([.ref a0, .ref a1, .int a2, .ref a3] : List Value).toArray 6)
    rw [lg_entry_eq]
    generalize (lg_sl ([.ref a0, .ref a1, .int a2, .ref a3]) ++ List.replicate (6 - (lg_sl ([.ref a0, .ref a1, .int a2, .ref a3])).length) Slot.unset).toArray = ls at hl ⊢
    have hl : lv_has ls 6 [(0, .ref a0), (1, .ref a1), (2, .int a2), (3, .ref a3)] := hl
    refine lv_aload_n hx hb dX10_peaksOf_0 rfl (lv_at hl 3 rfl) (hp_n (n := 1) rfl ?_)
    refine lv_iconst (v := 0) hx hb dX10_peaksOf_1 (by decide) (hp_n (n := 2) rfl ?_)
    refine q_cv (pc' := 5) B (hp_runV (As := [.int 0]) (rest := []) C B (t_X5_shorten Γ l α B.2.2.1 a3 (cw_k B.2.2 k3) 0) lb_X5_shorten lv_X5_shorten lk_X10_96 (cw_k B.2.2 k3) rfl (by decide) rfl hl.1 rfl (Nat.le_of_ble_eq_true rfl) dX10_peaksOf_2 ⟨Nat.le_refl _, Nat.le_refl _⟩) (fun _ h => cw_tr B.2.2 h (by decide)) rfl (fun αh_11 Hh_11 Lh_11 ph_11 Bh_11 => ?_)
    refine lv_iconst (v := 0) hx hb dX10_peaksOf_5 (by decide) (hp_n (n := 6) rfl ?_)
    refine lv_istore (lv' := [(4, .int 0), (0, .ref a0), (1, .ref a1), (2, .int a2), (3, .ref a3)]) hx hb dX10_peaksOf_6 hl (by decide) rfl (fun ls hl => hp_n (n := 8) rfl ?_)
    refine lv_bipush (v := 32) hx hb dX10_peaksOf_8 (by decide) (hp_n (n := 10) rfl ?_)
    have J12 : ∀ (nq : Nat) (αh_12 : hp_T) (Hh_12 : Heap) (Lh_12 : List Loc) (Bh_12 : hp_B Γ (cw w_X10_peaksOf) s α αh_12 Hh_12 Lh_12) (v4_h_12 : Int32) (v5_h_12 : Int32) (ls : Array Slot) (hl : lv_has ls 6 [(0, .ref a0), (1, .ref a1), (2, .int a2), (3, .ref a3), (4, .int v4_h_12), (5, .int v5_h_12)]) (hmu12 : v5_h_12.toInt.toNat = nq), W p l e (hp_rm 2 0 0) s m ([.ref a0, .ref a1, .int a2, .ref a3] : List Value).toArray below meth c Hh_12 Lh_12 0 0 (MQ below (hp_Qv Γ (fun β => cw w_X10_peaksOf α β)) ([.ref a0, .ref a1, .int a2, .ref a3] : List Value).toArray s 0 0 (hp_A Γ)) (F0 m 12 ls []) := by
      intro nq
      induction nq using Nat.strongRecOn with
      | ind nq ih12 =>
      intro αh_12 Hh_12 Lh_12 Bh_12 v4_h_12 v5_h_12 ls hl hmu12
      refine lv_iload hx hb dX10_peaksOf_12 (lv_at hl 5 rfl) (hp_n (n := 14) rfl ?_)
      refine lv_if_le (tgt := 53) hx hb dX10_peaksOf_14 (by decide) (fun c_13 => ?_) (fun c_13 => hp_n (n := 17) rfl ?_)
      ·
        have jc_13 := il_le c_13
        exact q_vret C Bh_12 hr hlk Bh_12.2.2 dX10_peaksOf_53
      ·
        have jc_13 := il_nle c_13
        refine lv_iload_n hx hb dX10_peaksOf_17 rfl (lv_at hl 2 rfl) (hp_n (n := 18) rfl ?_)
        refine lv_iload hx hb dX10_peaksOf_18 (lv_at hl 5 rfl) (hp_n (n := 20) rfl ?_)
        refine lv_iand hx hb dX10_peaksOf_20 (hp_n (n := 21) rfl (lv_topi (fun x_14 ex_14 => ?_)))
        have J44 : ∀ (αh_15 : hp_T) (Hh_15 : Heap) (Lh_15 : List Loc) (Bh_15 : hp_B Γ (cw w_X10_peaksOf) s α αh_15 Hh_15 Lh_15) (v4_h_15 : Int32) (ls : Array Slot) (hl : lv_has ls 6 [(0, .ref a0), (1, .ref a1), (2, .int a2), (3, .ref a3), (4, .int v4_h_15), (5, .int v5_h_12)]), W p l e (hp_rm 2 0 0) s m ([.ref a0, .ref a1, .int a2, .ref a3] : List Value).toArray below meth c Hh_15 Lh_15 0 0 (MQ below (hp_Qv Γ (fun β => cw w_X10_peaksOf α β)) ([.ref a0, .ref a1, .int a2, .ref a3] : List Value).toArray s 0 0 (hp_A Γ)) (F0 m 44 ls []) := by
          intro αh_15 Hh_15 Lh_15 Bh_15 v4_h_15 ls hl
          refine lv_iload hx hb dX10_peaksOf_44 (lv_at hl 5 rfl) (hp_n (n := 46) rfl ?_)
          refine lv_iconst (v := 2) hx hb dX10_peaksOf_46 (by decide) (hp_n (n := 47) rfl ?_)
          refine lv_idiv hx hb dX10_peaksOf_47 (by decide) (hp_n (n := 48) rfl (lv_topi (fun x_16 ex_16 => ?_)))
          refine lv_istore (lv' := [(5, .int x_16), (0, .ref a0), (1, .ref a1), (2, .int a2), (3, .ref a3), (4, .int v4_h_15)]) hx hb dX10_peaksOf_48 hl (by decide) rfl (fun ls hl => hp_n (n := 50) rfl ?_)
          refine lv_goto (tgt := 12) hx hb dX10_peaksOf_50 (by decide) ?_
          exact ih12 _ (by rw [ex_16]; have q1 := id_lt2 (x := v5_h_12) (by omega); omega) αh_15 Hh_15 Lh_15 Bh_15 v4_h_15 x_16 ls (lv_sub hl [1, 2, 3, 4, 5, 0] rfl) rfl
        refine lv_if_eq (tgt := 44) hx hb dX10_peaksOf_21 (by decide) (fun c_17 => ?_) (fun c_17 => hp_n (n := 24) rfl ?_)
        ·
          have jc_17 := il_eq c_17
          exact J44 αh_12 Hh_12 Lh_12 Bh_12 v4_h_12 ls (lv_sub hl [0, 1, 2, 3, 4, 5] rfl)
        ·
          have jc_17 := il_ne c_17
          refine lv_aload_n hx hb dX10_peaksOf_24 rfl (lv_at hl 3 rfl) (hp_n (n := 25) rfl ?_)
          refine lv_aload_n hx hb dX10_peaksOf_25 rfl (lv_at hl 0 rfl) (hp_n (n := 26) rfl ?_)
          refine lv_aload_n hx hb dX10_peaksOf_26 rfl (lv_at hl 1 rfl) (hp_n (n := 27) rfl ?_)
          refine lv_iload hx hb dX10_peaksOf_27 (lv_at hl 4 rfl) (hp_n (n := 29) rfl ?_)
          refine lv_iload hx hb dX10_peaksOf_29 (lv_at hl 5 rfl) (hp_n (n := 31) rfl ?_)
          refine q_ci (pc' := 34) Bh_12 (hp_runV (As := [va_rf (some a1), .int v4_h_12, .int v5_h_12]) (rest := [.ref a3]) C Bh_12 (t_X10_treeMark Γ l αh_12 Bh_12.2.2.1 a0 (cw_k Bh_12.2.2 k0) (some a1) (fun b h => by cases h; exact (cw_k Bh_12.2.2 ka1)) v4_h_12 v5_h_12) lb_X10_treeMark lv_X10_treeMark lk_X10_100 (cw_k Bh_12.2.2 k0) rfl (by decide) rfl hl.1 rfl (Nat.le_of_ble_eq_true rfl) dX10_peaksOf_31 ⟨Nat.le_refl _, Nat.le_refl _⟩) (fun _ _ h => cw_tr Bh_12.2.2 h (by decide)) rfl (fun rh_18 αh_18 Hh_18 Lh_18 ph_18 Bh_18 => ?_)
          refine q_cv (pc' := 37) Bh_18 (hp_runV (As := [.int rh_18]) (rest := []) C Bh_18 (t_X5_put Γ l αh_18 Bh_18.2.2.1 a3 (cw_k Bh_18.2.2 k3) rh_18) lb_X5_put lv_X5_put lk_X10_104 (cw_k Bh_18.2.2 k3) rfl (by decide) rfl hl.1 rfl (Nat.le_of_ble_eq_true rfl) dX10_peaksOf_34 ⟨Nat.le_refl _, Nat.le_refl _⟩) (fun _ h => cw_tr Bh_18.2.2 h (by decide)) rfl (fun αh_19 Hh_19 Lh_19 ph_19 Bh_19 => ?_)
          refine lv_iload hx hb dX10_peaksOf_37 (lv_at hl 4 rfl) (hp_n (n := 39) rfl ?_)
          refine lv_iload hx hb dX10_peaksOf_39 (lv_at hl 5 rfl) (hp_n (n := 41) rfl ?_)
          refine lv_iadd hx hb dX10_peaksOf_41 (hp_n (n := 42) rfl (lv_topi (fun x_20 ex_20 => ?_)))
          refine lv_istore (lv' := [(4, .int x_20), (0, .ref a0), (1, .ref a1), (2, .int a2), (3, .ref a3), (5, .int v5_h_12)]) hx hb dX10_peaksOf_42 hl (by decide) rfl (fun ls hl => hp_n (n := 44) rfl ?_)
          exact J44 αh_19 Hh_19 Lh_19 Bh_19 x_20 ls (lv_sub hl [1, 2, 3, 4, 0, 5] rfl)
    refine lv_istore (lv' := [(5, .int 32), (4, .int 0), (0, .ref a0), (1, .ref a1), (2, .int a2), (3, .ref a3)]) hx hb dX10_peaksOf_10 hl (by decide) rfl (fun ls hl => hp_n (n := 12) rfl ?_)
    exact J12 _ αh_11 Hh_11 Lh_11 Bh_11 0 32 ls (lv_sub hl [2, 3, 4, 5, 1, 0] rfl) rfl
abbrev w_X10_headOf : cw_W := ([], [], [33], [])
set_option maxRecDepth 100000 in
set_option maxHeartbeats 4000000 in
theorem t_X10_headOf (Γ : hp_G) (l : Launch) (α : hp_T) (g : GC α) (a0 : Nat) (k0 : hp_K α a0 = 11) (o1 : Option Nat) (k1 : ∀ b, o1 = some b → hp_K α b = 3) (a2 : Int32) : Met l yX10_headOf (hp_ws yX10_headOf cX10_headOf 3 (some .int)) (hp_rm 2 0 0) (hp_Pc Γ α [.ref a0, va_rf o1, .int a2]) (hp_Qi Γ (fun r β => cw w_X10_headOf α β)) 0 0 (hp_A Γ) := by
  refine hp_start (by decide) ?_
  intro p e s m below meth c C hr hlk B0 hnm
  have C : hp_C Γ p m c cX10_headOf 3 s ([.ref a0, va_rf o1, .int a2] : List Value).toArray RX10 := C
  have hx := C.1.1
  have hb := C.1.2.1
  have hown := C.1.2.2.2.1
  have hts := C.1.2.2.2.2
  have B : hp_B Γ (cw w_X10_headOf) s α α s.heap [] := ⟨B0.1, B0.2.1, cw_rf g⟩
  have lit0 : (0 : Int32).toInt = 0 := by decide
  rcases o1 with _ | a1
  ·
    have hl := lv_entry ([.ref a0, .null, .int a2]) (n := 3) (Nat.le_of_ble_eq_true rfl)
    show W p l e (hp_rm 2 0 0) s m ([.ref a0, .null, .int a2] : List Value).toArray below meth c s.heap [] 0 0 (MQ below (hp_Qi Γ (fun r β => cw w_X10_headOf α β)) ([.ref a0, .null, .int a2] : List Value).toArray s 0 0 (hp_A Γ)) (entryFrame m ([.ref a0, .null, .int a2] : List Value).toArray 3)
    rw [lg_entry_eq]
    generalize (lg_sl ([.ref a0, .null, .int a2]) ++ List.replicate (3 - (lg_sl ([.ref a0, .null, .int a2])).length) Slot.unset).toArray = ls at hl ⊢
    have hl : lv_has ls 3 [(0, .ref a0), (1, .null), (2, .int a2)] := hl
    refine lv_aload_n hx hb dX10_headOf_0 rfl (lv_at hl 0 rfl) (hp_n (n := 1) rfl ?_)
    refine lv_aload_nN hx hb dX10_headOf_1 rfl (lv_at hl 1 rfl) (hp_n (n := 2) rfl ?_)
    refine lv_iconst (v := 0) hx hb dX10_headOf_2 (by decide) (hp_n (n := 3) rfl ?_)
    refine lv_iload_n hx hb dX10_headOf_3 rfl (lv_at hl 2 rfl) (hp_n (n := 4) rfl ?_)
    refine q_ci (pc' := 7) B (hp_runV (As := [va_rf none, .int 0, .int a2]) (rest := []) C B (t_X10_treeMark Γ l α B.2.2.1 a0 (cw_k B.2.2 k0) none (fun b h => by cases h) 0 a2) lb_X10_treeMark lv_X10_treeMark lk_X10_100 (cw_k B.2.2 k0) rfl (by decide) rfl hl.1 rfl (Nat.le_of_ble_eq_true rfl) dX10_headOf_4 ⟨Nat.le_refl _, Nat.le_refl _⟩) (fun _ _ h => cw_tr B.2.2 h (by decide)) rfl (fun rh_1 αh_1 Hh_1 Lh_1 ph_1 Bh_1 => ?_)
    exact q_iret C Bh_1 hr hlk Bh_1.2.2 dX10_headOf_7
  ·
    have ka1 := k1 a1 rfl
    have hl := lv_entry ([.ref a0, .ref a1, .int a2]) (n := 3) (Nat.le_of_ble_eq_true rfl)
    show W p l e (hp_rm 2 0 0) s m ([.ref a0, .ref a1, .int a2] : List Value).toArray below meth c s.heap [] 0 0 (MQ below (hp_Qi Γ (fun r β => cw w_X10_headOf α β)) ([.ref a0, .ref a1, .int a2] : List Value).toArray s 0 0 (hp_A Γ)) (entryFrame m ([.ref a0, .ref a1, .int a2] : List Value).toArray 3)
    rw [lg_entry_eq]
    generalize (lg_sl ([.ref a0, .ref a1, .int a2]) ++ List.replicate (3 - (lg_sl ([.ref a0, .ref a1, .int a2])).length) Slot.unset).toArray = ls at hl ⊢
    have hl : lv_has ls 3 [(0, .ref a0), (1, .ref a1), (2, .int a2)] := hl
    refine lv_aload_n hx hb dX10_headOf_0 rfl (lv_at hl 0 rfl) (hp_n (n := 1) rfl ?_)
    refine lv_aload_n hx hb dX10_headOf_1 rfl (lv_at hl 1 rfl) (hp_n (n := 2) rfl ?_)
    refine lv_iconst (v := 0) hx hb dX10_headOf_2 (by decide) (hp_n (n := 3) rfl ?_)
    refine lv_iload_n hx hb dX10_headOf_3 rfl (lv_at hl 2 rfl) (hp_n (n := 4) rfl ?_)
    refine q_ci (pc' := 7) B (hp_runV (As := [va_rf (some a1), .int 0, .int a2]) (rest := []) C B (t_X10_treeMark Γ l α B.2.2.1 a0 (cw_k B.2.2 k0) (some a1) (fun b h => by cases h; exact (cw_k B.2.2 ka1)) 0 a2) lb_X10_treeMark lv_X10_treeMark lk_X10_100 (cw_k B.2.2 k0) rfl (by decide) rfl hl.1 rfl (Nat.le_of_ble_eq_true rfl) dX10_headOf_4 ⟨Nat.le_refl _, Nat.le_refl _⟩) (fun _ _ h => cw_tr B.2.2 h (by decide)) rfl (fun rh_2 αh_2 Hh_2 Lh_2 ph_2 Bh_2 => ?_)
    exact q_iret C Bh_2 hr hlk Bh_2.2.2 dX10_headOf_7
abbrev w_X10_hasHead : cw_W := ([], [], [33], [])
set_option maxRecDepth 100000 in
set_option maxHeartbeats 4000000 in
theorem t_X10_hasHead (Γ : hp_G) (l : Launch) (α : hp_T) (g : GC α) (a0 : Nat) (k0 : hp_K α a0 = 11) (o1 : Option Nat) (k1 : ∀ b, o1 = some b → hp_K α b = 3) (a2 : Int32) (a3 : Int32) : Met l yX10_hasHead (hp_ws yX10_hasHead cX10_hasHead 4 (some .boolean)) (hp_rm 3 0 0) (hp_Pc Γ α [.ref a0, va_rf o1, .int a2, .int a3]) (hp_Qi Γ (fun r β => cw w_X10_hasHead α β ∧ (r = 0 ∨ r = 1))) 0 0 (hp_A Γ) := by
  refine hp_start (by decide) ?_
  intro p e s m below meth c C hr hlk B0 hnm
  have C : hp_C Γ p m c cX10_hasHead 4 s ([.ref a0, va_rf o1, .int a2, .int a3] : List Value).toArray RX10 := C
  have hx := C.1.1
  have hb := C.1.2.1
  have hown := C.1.2.2.2.1
  have hts := C.1.2.2.2.2
  have B : hp_B Γ (cw w_X10_hasHead) s α α s.heap [] := ⟨B0.1, B0.2.1, cw_rf g⟩
  have lit0 : (0 : Int32).toInt = 0 := by decide
  have lit1 : (1 : Int32).toInt = 1 := by decide
  rcases o1 with _ | a1
  ·
    have hl := lv_entry ([.ref a0, .null, .int a2, .int a3]) (n := 4) (Nat.le_of_ble_eq_true rfl)
    show W p l e (hp_rm 3 0 0) s m ([.ref a0, .null, .int a2, .int a3] : List Value).toArray below meth c s.heap [] 0 0 (MQ below (hp_Qi Γ (fun r β => cw w_X10_hasHead α β ∧ (r = 0 ∨ r = 1))) ([.ref a0, .null, .int a2, .int a3] : List Value).toArray s 0 0 (hp_A Γ)) (entryFrame m ([.ref a0, .null, .int a2, .int a3] : List Value).toArray 4)
    rw [lg_entry_eq]
    generalize (lg_sl ([.ref a0, .null, .int a2, .int a3]) ++ List.replicate (4 - (lg_sl ([.ref a0, .null, .int a2, .int a3])).length) Slot.unset).toArray = ls at hl ⊢
    have hl : lv_has ls 4 [(0, .ref a0), (1, .null), (2, .int a2), (3, .int a3)] := hl
    refine lv_aload_nN hx hb dX10_hasHead_0 rfl (lv_at hl 1 rfl) (hp_n (n := 1) rfl ?_)
    refine lv_ifnullN (tgt := 26) hx hb dX10_hasHead_1 (by decide) ?_
    refine lv_iconst (v := 0) hx hb dX10_hasHead_26 (by decide) (hp_n (n := 27) rfl ?_)
    exact q_zret C B hr hlk (by decide) ⟨B.2.2, (Or.inl rfl)⟩ dX10_hasHead_27
  ·
    have ka1 := k1 a1 rfl
    have hl := lv_entry ([.ref a0, .ref a1, .int a2, .int a3]) (n := 4) (Nat.le_of_ble_eq_true rfl)
    show W p l e (hp_rm 3 0 0) s m ([.ref a0, .ref a1, .int a2, .int a3] : List Value).toArray below meth c s.heap [] 0 0 (MQ below (hp_Qi Γ (fun r β => cw w_X10_hasHead α β ∧ (r = 0 ∨ r = 1))) ([.ref a0, .ref a1, .int a2, .int a3] : List Value).toArray s 0 0 (hp_A Γ)) (entryFrame m ([.ref a0, .ref a1, .int a2, .int a3] : List Value).toArray 4)
    rw [lg_entry_eq]
    generalize (lg_sl ([.ref a0, .ref a1, .int a2, .int a3]) ++ List.replicate (4 - (lg_sl ([.ref a0, .ref a1, .int a2, .int a3])).length) Slot.unset).toArray = ls at hl ⊢
    have hl : lv_has ls 4 [(0, .ref a0), (1, .ref a1), (2, .int a2), (3, .int a3)] := hl
    refine lv_aload_n hx hb dX10_hasHead_0 rfl (lv_at hl 1 rfl) (hp_n (n := 1) rfl ?_)
    refine lv_ifnull hx hb dX10_hasHead_1 (hp_n (n := 4) rfl ?_)
    refine lv_iload_n hx hb dX10_hasHead_4 rfl (lv_at hl 2 rfl) (hp_n (n := 5) rfl ?_)
    refine lv_aload_n hx hb dX10_hasHead_5 rfl (lv_at hl 1 rfl) (hp_n (n := 6) rfl ?_)
    refine q_geti (κ := 3) (k := 2) (φ := 152) (pc' := 9) C B (cw_k B.2.2 ka1) fl_X10_68 rfl rfl rfl dX10_hasHead_6 rfl (fun x_1 ex_1 => ?_)
    refine lv_icmp_gt (tgt := 26) hx hb dX10_hasHead_9 (by decide) (fun c_2 => ?_) (fun c_2 => hp_n (n := 12) rfl ?_)
    ·
      have jc_2 := il_lt c_2
      refine lv_iconst (v := 0) hx hb dX10_hasHead_26 (by decide) (hp_n (n := 27) rfl ?_)
      exact q_zret C B hr hlk (by decide) ⟨B.2.2, (Or.inl rfl)⟩ dX10_hasHead_27
    ·
      have jc_2 := il_nlt c_2
      refine lv_aload_n hx hb dX10_hasHead_12 rfl (lv_at hl 0 rfl) (hp_n (n := 13) rfl ?_)
      refine lv_aload_n hx hb dX10_hasHead_13 rfl (lv_at hl 1 rfl) (hp_n (n := 14) rfl ?_)
      refine lv_iload_n hx hb dX10_hasHead_14 rfl (lv_at hl 2 rfl) (hp_n (n := 15) rfl ?_)
      refine q_ci (pc' := 18) B (hp_runV (As := [va_rf (some a1), .int a2]) (rest := []) C B (t_X10_headOf Γ l α B.2.2.1 a0 (cw_k B.2.2 k0) (some a1) (fun b h => by cases h; exact (cw_k B.2.2 ka1)) a2) lb_X10_headOf lv_X10_headOf lk_X10_107 (cw_k B.2.2 k0) rfl (by decide) rfl hl.1 rfl (Nat.le_of_ble_eq_true rfl) dX10_hasHead_15 ⟨Nat.le_refl _, Nat.le_refl _⟩) (fun _ _ h => cw_tr B.2.2 h (by decide)) rfl (fun rh_3 αh_3 Hh_3 Lh_3 ph_3 Bh_3 => ?_)
      refine lv_iload_n hx hb dX10_hasHead_18 rfl (lv_at hl 3 rfl) (hp_n (n := 19) rfl ?_)
      refine lv_icmp_ne (tgt := 26) hx hb dX10_hasHead_19 (by decide) (fun c_4 => ?_) (fun c_4 => hp_n (n := 22) rfl ?_)
      ·
        have jc_4 := il_ne c_4
        refine lv_iconst (v := 0) hx hb dX10_hasHead_26 (by decide) (hp_n (n := 27) rfl ?_)
        exact q_zret C Bh_3 hr hlk (by decide) ⟨Bh_3.2.2, (Or.inl rfl)⟩ dX10_hasHead_27
      ·
        have jc_4 := il_eq c_4
        refine lv_iconst (v := 1) hx hb dX10_hasHead_22 (by decide) (hp_n (n := 23) rfl ?_)
        refine lv_goto (tgt := 27) hx hb dX10_hasHead_23 (by decide) ?_
        exact q_zret C Bh_3 hr hlk (by decide) ⟨Bh_3.2.2, (Or.inr rfl)⟩ dX10_hasHead_27
abbrev w_X10_marksAlong : cw_W := ([301], [], [20, 33], [])
set_option maxRecDepth 100000 in
set_option maxHeartbeats 4000000 in
theorem t_X10_marksAlong (Γ : hp_G) (l : Launch) (α : hp_T) (g : GC α) (a0 : Nat) (k0 : hp_K α a0 = 11) (a1 : Nat) (k1 : hp_K α a1 = 9) (o2 : Option Nat) (k2 : ∀ b, o2 = some b → hp_K α b = 3) (a3 : Nat) (k3 : hp_K α a3 = 6) : Met l yX10_marksAlong (hp_ws yX10_marksAlong cX10_marksAlong 5 none) (hp_rm 2 0 0) (hp_Pc Γ α [.ref a0, .ref a1, va_rf o2, .ref a3]) (hp_Qv Γ (fun β => cw w_X10_marksAlong α β)) 0 0 (hp_A Γ) := by
  refine hp_start (by decide) ?_
  intro p e s m below meth c C hr hlk B0 hnm
  have C : hp_C Γ p m c cX10_marksAlong 5 s ([.ref a0, .ref a1, va_rf o2, .ref a3] : List Value).toArray RX10 := C
  have hx := C.1.1
  have hb := C.1.2.1
  have hown := C.1.2.2.2.1
  have hts := C.1.2.2.2.2
  have B : hp_B Γ (cw w_X10_marksAlong) s α α s.heap [] := ⟨B0.1, B0.2.1, cw_rf g⟩
  have lit0 : (0 : Int32).toInt = 0 := by decide
  have lit1 : (1 : Int32).toInt = 1 := by decide
  rcases o2 with _ | a2
  ·
    have hl := lv_entry ([.ref a0, .ref a1, .null, .ref a3]) (n := 5) (Nat.le_of_ble_eq_true rfl)
    show W p l e (hp_rm 2 0 0) s m ([.ref a0, .ref a1, .null, .ref a3] : List Value).toArray below meth c s.heap [] 0 0 (MQ below (hp_Qv Γ (fun β => cw w_X10_marksAlong α β)) ([.ref a0, .ref a1, .null, .ref a3] : List Value).toArray s 0 0 (hp_A Γ)) (entryFrame m ([.ref a0, .ref a1, .null, .ref a3] : List Value).toArray 5)
    rw [lg_entry_eq]
    generalize (lg_sl ([.ref a0, .ref a1, .null, .ref a3]) ++ List.replicate (5 - (lg_sl ([.ref a0, .ref a1, .null, .ref a3])).length) Slot.unset).toArray = ls at hl ⊢
    have hl : lv_has ls 5 [(0, .ref a0), (1, .ref a1), (2, .null), (3, .ref a3)] := hl
    refine lv_aload_n hx hb dX10_marksAlong_0 rfl (lv_at hl 3 rfl) (hp_n (n := 1) rfl ?_)
    refine lv_iconst (v := 0) hx hb dX10_marksAlong_1 (by decide) (hp_n (n := 2) rfl ?_)
    refine q_cv (pc' := 5) B (hp_runV (As := [.int 0]) (rest := []) C B (t_X5_shorten Γ l α B.2.2.1 a3 (cw_k B.2.2 k3) 0) lb_X5_shorten lv_X5_shorten lk_X10_96 (cw_k B.2.2 k3) rfl (by decide) rfl hl.1 rfl (Nat.le_of_ble_eq_true rfl) dX10_marksAlong_2 ⟨Nat.le_refl _, Nat.le_refl _⟩) (fun _ h => cw_tr B.2.2 h (by decide)) rfl (fun αh_1 Hh_1 Lh_1 ph_1 Bh_1 => ?_)
    refine lv_iconst (v := 0) hx hb dX10_marksAlong_5 (by decide) (hp_n (n := 6) rfl ?_)
    have J8 : ∀ (nq : Nat) (αh_2 : hp_T) (Hh_2 : Heap) (Lh_2 : List Loc) (Bh_2 : hp_B Γ (cw w_X10_marksAlong) s α αh_2 Hh_2 Lh_2) (v4_h_2 : Int32) (ih_2_0 : 0 ≤ v4_h_2.toInt) (ls : Array Slot) (hl : lv_has ls 5 [(0, .ref a0), (1, .ref a1), (2, .null), (3, .ref a3), (4, .int v4_h_2)]) (hmu8 : (2147483647 - v4_h_2.toInt).toNat = nq), W p l e (hp_rm 2 0 0) s m ([.ref a0, .ref a1, .null, .ref a3] : List Value).toArray below meth c Hh_2 Lh_2 0 0 (MQ below (hp_Qv Γ (fun β => cw w_X10_marksAlong α β)) ([.ref a0, .ref a1, .null, .ref a3] : List Value).toArray s 0 0 (hp_A Γ)) (F0 m 8 ls []) := by
      intro nq
      induction nq using Nat.strongRecOn with
      | ind nq ih8 =>
      intro αh_2 Hh_2 Lh_2 Bh_2 v4_h_2 ih_2_0 ls hl hmu8
      have inv8_0 := ih_2_0
      refine lv_iload hx hb dX10_marksAlong_8 (lv_at hl 4 rfl) (hp_n (n := 10) rfl ?_)
      refine lv_aload_n hx hb dX10_marksAlong_10 rfl (lv_at hl 1 rfl) (hp_n (n := 11) rfl ?_)
      refine q_geti (κ := 9) (k := 3) (φ := 453) (pc' := 14) C Bh_2 (cw_k Bh_2.2.2 k1) fl_X10_111 rfl rfl rfl dX10_marksAlong_11 rfl (fun x_3 ex_3 => ?_)
      obtain ⟨gx_3a, gx_3b⟩ : 0 ≤ x_3.toInt ∧ x_3.toInt ≤ 64 := by rw [ex_3]; exact Bh_2.2.2.1.1 453 a1 rfl
      refine lv_icmp_ge (tgt := 44) hx hb dX10_marksAlong_14 (by decide) (fun c_4 => ?_) (fun c_4 => hp_n (n := 17) rfl ?_)
      ·
        have jc_4 := il_le c_4
        exact q_vret C Bh_2 hr hlk Bh_2.2.2 dX10_marksAlong_44
      ·
        have jc_4 := il_nle c_4
        refine lv_aload_n hx hb dX10_marksAlong_17 rfl (lv_at hl 3 rfl) (hp_n (n := 18) rfl ?_)
        refine lv_aload_n hx hb dX10_marksAlong_18 rfl (lv_at hl 0 rfl) (hp_n (n := 19) rfl ?_)
        refine lv_aload_nN hx hb dX10_marksAlong_19 rfl (lv_at hl 2 rfl) (hp_n (n := 20) rfl ?_)
        refine lv_aload_n hx hb dX10_marksAlong_20 rfl (lv_at hl 1 rfl) (hp_n (n := 21) rfl ?_)
        refine lv_iload hx hb dX10_marksAlong_21 (lv_at hl 4 rfl) (hp_n (n := 23) rfl ?_)
        refine q_ci (pc' := 26) Bh_2 (hp_runV (As := [.int v4_h_2]) (rest := [.null, .ref a0, .ref a3]) C Bh_2 (t_X8_firstAt Γ l αh_2 Bh_2.2.2.1 a1 (cw_k Bh_2.2.2 k1) v4_h_2) lb_X8_firstAt lv_X8_firstAt lk_X10_114 (cw_k Bh_2.2.2 k1) rfl (by decide) rfl hl.1 rfl (Nat.le_of_ble_eq_true rfl) dX10_marksAlong_23 ⟨Nat.le_refl _, Nat.le_refl _⟩) (fun _ _ h => by rw [h]; exact Bh_2.2.2) rfl (fun rh_5 αh_5 Hh_5 Lh_5 ph_5 Bh_5 => ?_)
        rw [ph_5] at Bh_5
        refine lv_aload_n hx hb dX10_marksAlong_26 rfl (lv_at hl 1 rfl) (hp_n (n := 27) rfl ?_)
        refine lv_iload hx hb dX10_marksAlong_27 (lv_at hl 4 rfl) (hp_n (n := 29) rfl ?_)
        refine q_ci (pc' := 32) Bh_5 (hp_runV (As := [.int v4_h_2]) (rest := [.int rh_5, .null, .ref a0, .ref a3]) C Bh_5 (t_X8_manyAt Γ l αh_2 Bh_5.2.2.1 a1 (cw_k Bh_5.2.2 k1) v4_h_2) lb_X8_manyAt lv_X8_manyAt lk_X10_117 (cw_k Bh_5.2.2 k1) rfl (by decide) rfl hl.1 rfl (Nat.le_of_ble_eq_true rfl) dX10_marksAlong_29 ⟨Nat.le_refl _, Nat.le_refl _⟩) (fun _ _ h => by rw [h]; exact Bh_5.2.2) rfl (fun rh_6 αh_6 Hh_6 Lh_6 ph_6 Bh_6 => ?_)
        rw [ph_6] at Bh_6
        refine q_ci (pc' := 35) Bh_6 (hp_runV (As := [va_rf none, .int rh_5, .int rh_6]) (rest := [.ref a3]) C Bh_6 (t_X10_treeMark Γ l αh_2 Bh_6.2.2.1 a0 (cw_k Bh_6.2.2 k0) none (fun b h => by cases h) rh_5 rh_6) lb_X10_treeMark lv_X10_treeMark lk_X10_100 (cw_k Bh_6.2.2 k0) rfl (by decide) rfl hl.1 rfl (Nat.le_of_ble_eq_true rfl) dX10_marksAlong_32 ⟨Nat.le_refl _, Nat.le_refl _⟩) (fun _ _ h => cw_tr Bh_6.2.2 h (by decide)) rfl (fun rh_7 αh_7 Hh_7 Lh_7 ph_7 Bh_7 => ?_)
        refine q_cv (pc' := 38) Bh_7 (hp_runV (As := [.int rh_7]) (rest := []) C Bh_7 (t_X5_put Γ l αh_7 Bh_7.2.2.1 a3 (cw_k Bh_7.2.2 k3) rh_7) lb_X5_put lv_X5_put lk_X10_104 (cw_k Bh_7.2.2 k3) rfl (by decide) rfl hl.1 rfl (Nat.le_of_ble_eq_true rfl) dX10_marksAlong_35 ⟨Nat.le_refl _, Nat.le_refl _⟩) (fun _ h => cw_tr Bh_7.2.2 h (by decide)) rfl (fun αh_8 Hh_8 Lh_8 ph_8 Bh_8 => ?_)
        obtain ⟨x_9, ex_9⟩ : ∃ y : Int32, y = v4_h_2 + 1 := ⟨_, rfl⟩
        have qx_9 : x_9.toInt = v4_h_2.toInt + 1 := by have q0 := ib_hi x_3; have qa := ib_lo v4_h_2; rw [ex_9]; exact ii_add (by omega) (by omega)
        refine lv_iinc (v := x_9) (lv' := [(4, .int x_9), (0, .ref a0), (1, .ref a1), (2, .null), (3, .ref a3)]) hx hb dX10_marksAlong_38 hl (k := 4) rfl (by rw [ex_9]; rfl) (by decide) rfl (fun ls hl => hp_n (n := 41) rfl ?_)
        refine lv_goto (tgt := 8) hx hb dX10_marksAlong_41 (by decide) ?_
        exact ih8 _ (by have q0 := ib_hi x_3; have q1 := ib_lo x_3; have qa := ib_hi v4_h_2; have qb := ib_lo v4_h_2; have qc : (v4_h_2 + 1).toInt = v4_h_2.toInt + (1 : Int32).toInt := ii_add (by omega) (by omega); rw [ex_9]; omega) αh_8 Hh_8 Lh_8 Bh_8 x_9 (by omega) ls (lv_sub hl [1, 2, 3, 4, 0] rfl) rfl
    refine lv_istore (lv' := [(4, .int 0), (0, .ref a0), (1, .ref a1), (2, .null), (3, .ref a3)]) hx hb dX10_marksAlong_6 hl (by decide) rfl (fun ls hl => hp_n (n := 8) rfl ?_)
    exact J8 _ αh_1 Hh_1 Lh_1 Bh_1 0 (by omega) ls (lv_sub hl [1, 2, 3, 4, 0] rfl) rfl
  ·
    have ka2 := k2 a2 rfl
    have hl := lv_entry ([.ref a0, .ref a1, .ref a2, .ref a3]) (n := 5) (Nat.le_of_ble_eq_true rfl)
    show W p l e (hp_rm 2 0 0) s m ([.ref a0, .ref a1, .ref a2, .ref a3] : List Value).toArray below meth c s.heap [] 0 0 (MQ below (hp_Qv Γ (fun β => cw w_X10_marksAlong α β)) ([.ref a0, .ref a1, .ref a2, .ref a3] : List Value).toArray s 0 0 (hp_A Γ)) (entryFrame m ([.ref a0, .ref a1, .ref a2, .ref a3] : List Value).toArray 5)
    rw [lg_entry_eq]
    generalize (lg_sl ([.ref a0, .ref a1, .ref a2, .ref a3]) ++ List.replicate (5 - (lg_sl ([.ref a0, .ref a1, .ref a2, .ref a3])).length) Slot.unset).toArray = ls at hl ⊢
    have hl : lv_has ls 5 [(0, .ref a0), (1, .ref a1), (2, .ref a2), (3, .ref a3)] := hl
    refine lv_aload_n hx hb dX10_marksAlong_0 rfl (lv_at hl 3 rfl) (hp_n (n := 1) rfl ?_)
    refine lv_iconst (v := 0) hx hb dX10_marksAlong_1 (by decide) (hp_n (n := 2) rfl ?_)
    refine q_cv (pc' := 5) B (hp_runV (As := [.int 0]) (rest := []) C B (t_X5_shorten Γ l α B.2.2.1 a3 (cw_k B.2.2 k3) 0) lb_X5_shorten lv_X5_shorten lk_X10_96 (cw_k B.2.2 k3) rfl (by decide) rfl hl.1 rfl (Nat.le_of_ble_eq_true rfl) dX10_marksAlong_2 ⟨Nat.le_refl _, Nat.le_refl _⟩) (fun _ h => cw_tr B.2.2 h (by decide)) rfl (fun αh_10 Hh_10 Lh_10 ph_10 Bh_10 => ?_)
    refine lv_iconst (v := 0) hx hb dX10_marksAlong_5 (by decide) (hp_n (n := 6) rfl ?_)
    have J8 : ∀ (nq : Nat) (αh_11 : hp_T) (Hh_11 : Heap) (Lh_11 : List Loc) (Bh_11 : hp_B Γ (cw w_X10_marksAlong) s α αh_11 Hh_11 Lh_11) (v4_h_11 : Int32) (ih_11_0 : 0 ≤ v4_h_11.toInt) (ls : Array Slot) (hl : lv_has ls 5 [(0, .ref a0), (1, .ref a1), (2, .ref a2), (3, .ref a3), (4, .int v4_h_11)]) (hmu8 : (2147483647 - v4_h_11.toInt).toNat = nq), W p l e (hp_rm 2 0 0) s m ([.ref a0, .ref a1, .ref a2, .ref a3] : List Value).toArray below meth c Hh_11 Lh_11 0 0 (MQ below (hp_Qv Γ (fun β => cw w_X10_marksAlong α β)) ([.ref a0, .ref a1, .ref a2, .ref a3] : List Value).toArray s 0 0 (hp_A Γ)) (F0 m 8 ls []) := by
      intro nq
      induction nq using Nat.strongRecOn with
      | ind nq ih8 =>
      intro αh_11 Hh_11 Lh_11 Bh_11 v4_h_11 ih_11_0 ls hl hmu8
      have inv8_0 := ih_11_0
      refine lv_iload hx hb dX10_marksAlong_8 (lv_at hl 4 rfl) (hp_n (n := 10) rfl ?_)
      refine lv_aload_n hx hb dX10_marksAlong_10 rfl (lv_at hl 1 rfl) (hp_n (n := 11) rfl ?_)
      refine q_geti (κ := 9) (k := 3) (φ := 453) (pc' := 14) C Bh_11 (cw_k Bh_11.2.2 k1) fl_X10_111 rfl rfl rfl dX10_marksAlong_11 rfl (fun x_12 ex_12 => ?_)
      obtain ⟨gx_12a, gx_12b⟩ : 0 ≤ x_12.toInt ∧ x_12.toInt ≤ 64 := by rw [ex_12]; exact Bh_11.2.2.1.1 453 a1 rfl
      refine lv_icmp_ge (tgt := 44) hx hb dX10_marksAlong_14 (by decide) (fun c_13 => ?_) (fun c_13 => hp_n (n := 17) rfl ?_)
      ·
        have jc_13 := il_le c_13
        exact q_vret C Bh_11 hr hlk Bh_11.2.2 dX10_marksAlong_44
      ·
        have jc_13 := il_nle c_13
        refine lv_aload_n hx hb dX10_marksAlong_17 rfl (lv_at hl 3 rfl) (hp_n (n := 18) rfl ?_)
        refine lv_aload_n hx hb dX10_marksAlong_18 rfl (lv_at hl 0 rfl) (hp_n (n := 19) rfl ?_)
        refine lv_aload_n hx hb dX10_marksAlong_19 rfl (lv_at hl 2 rfl) (hp_n (n := 20) rfl ?_)
        refine lv_aload_n hx hb dX10_marksAlong_20 rfl (lv_at hl 1 rfl) (hp_n (n := 21) rfl ?_)
        refine lv_iload hx hb dX10_marksAlong_21 (lv_at hl 4 rfl) (hp_n (n := 23) rfl ?_)
        refine q_ci (pc' := 26) Bh_11 (hp_runV (As := [.int v4_h_11]) (rest := [.ref a2, .ref a0, .ref a3]) C Bh_11 (t_X8_firstAt Γ l αh_11 Bh_11.2.2.1 a1 (cw_k Bh_11.2.2 k1) v4_h_11) lb_X8_firstAt lv_X8_firstAt lk_X10_114 (cw_k Bh_11.2.2 k1) rfl (by decide) rfl hl.1 rfl (Nat.le_of_ble_eq_true rfl) dX10_marksAlong_23 ⟨Nat.le_refl _, Nat.le_refl _⟩) (fun _ _ h => by rw [h]; exact Bh_11.2.2) rfl (fun rh_14 αh_14 Hh_14 Lh_14 ph_14 Bh_14 => ?_)
        rw [ph_14] at Bh_14
        refine lv_aload_n hx hb dX10_marksAlong_26 rfl (lv_at hl 1 rfl) (hp_n (n := 27) rfl ?_)
        refine lv_iload hx hb dX10_marksAlong_27 (lv_at hl 4 rfl) (hp_n (n := 29) rfl ?_)
        refine q_ci (pc' := 32) Bh_14 (hp_runV (As := [.int v4_h_11]) (rest := [.int rh_14, .ref a2, .ref a0, .ref a3]) C Bh_14 (t_X8_manyAt Γ l αh_11 Bh_14.2.2.1 a1 (cw_k Bh_14.2.2 k1) v4_h_11) lb_X8_manyAt lv_X8_manyAt lk_X10_117 (cw_k Bh_14.2.2 k1) rfl (by decide) rfl hl.1 rfl (Nat.le_of_ble_eq_true rfl) dX10_marksAlong_29 ⟨Nat.le_refl _, Nat.le_refl _⟩) (fun _ _ h => by rw [h]; exact Bh_14.2.2) rfl (fun rh_15 αh_15 Hh_15 Lh_15 ph_15 Bh_15 => ?_)
        rw [ph_15] at Bh_15
        refine q_ci (pc' := 35) Bh_15 (hp_runV (As := [va_rf (some a2), .int rh_14, .int rh_15]) (rest := [.ref a3]) C Bh_15 (t_X10_treeMark Γ l αh_11 Bh_15.2.2.1 a0 (cw_k Bh_15.2.2 k0) (some a2) (fun b h => by cases h; exact (cw_k Bh_15.2.2 ka2)) rh_14 rh_15) lb_X10_treeMark lv_X10_treeMark lk_X10_100 (cw_k Bh_15.2.2 k0) rfl (by decide) rfl hl.1 rfl (Nat.le_of_ble_eq_true rfl) dX10_marksAlong_32 ⟨Nat.le_refl _, Nat.le_refl _⟩) (fun _ _ h => cw_tr Bh_15.2.2 h (by decide)) rfl (fun rh_16 αh_16 Hh_16 Lh_16 ph_16 Bh_16 => ?_)
        refine q_cv (pc' := 38) Bh_16 (hp_runV (As := [.int rh_16]) (rest := []) C Bh_16 (t_X5_put Γ l αh_16 Bh_16.2.2.1 a3 (cw_k Bh_16.2.2 k3) rh_16) lb_X5_put lv_X5_put lk_X10_104 (cw_k Bh_16.2.2 k3) rfl (by decide) rfl hl.1 rfl (Nat.le_of_ble_eq_true rfl) dX10_marksAlong_35 ⟨Nat.le_refl _, Nat.le_refl _⟩) (fun _ h => cw_tr Bh_16.2.2 h (by decide)) rfl (fun αh_17 Hh_17 Lh_17 ph_17 Bh_17 => ?_)
        obtain ⟨x_18, ex_18⟩ : ∃ y : Int32, y = v4_h_11 + 1 := ⟨_, rfl⟩
        have qx_18 : x_18.toInt = v4_h_11.toInt + 1 := by have q0 := ib_hi x_12; have qa := ib_lo v4_h_11; rw [ex_18]; exact ii_add (by omega) (by omega)
        refine lv_iinc (v := x_18) (lv' := [(4, .int x_18), (0, .ref a0), (1, .ref a1), (2, .ref a2), (3, .ref a3)]) hx hb dX10_marksAlong_38 hl (k := 4) rfl (by rw [ex_18]; rfl) (by decide) rfl (fun ls hl => hp_n (n := 41) rfl ?_)
        refine lv_goto (tgt := 8) hx hb dX10_marksAlong_41 (by decide) ?_
        exact ih8 _ (by have q0 := ib_hi x_12; have q1 := ib_lo x_12; have qa := ib_hi v4_h_11; have qb := ib_lo v4_h_11; have qc : (v4_h_11 + 1).toInt = v4_h_11.toInt + (1 : Int32).toInt := ii_add (by omega) (by omega); rw [ex_18]; omega) αh_17 Hh_17 Lh_17 Bh_17 x_18 (by omega) ls (lv_sub hl [1, 2, 3, 4, 0] rfl) rfl
    refine lv_istore (lv' := [(4, .int 0), (0, .ref a0), (1, .ref a1), (2, .ref a2), (3, .ref a3)]) hx hb dX10_marksAlong_6 hl (by decide) rfl (fun ls hl => hp_n (n := 8) rfl ?_)
    exact J8 _ αh_10 Hh_10 Lh_10 Bh_10 0 (by omega) ls (lv_sub hl [1, 2, 3, 4, 0] rfl) rfl
abbrev w_X10_addWord : cw_W := ([152, 501, 556], [], [27, 29], [])
abbrev w_X10_forkLog : cw_W := ([152, 501, 552, 556], [], [27, 29], [])
abbrev w_X10_freezeHead : cw_W := ([100, 101, 102, 103, 301, 554, 556], [], [20, 33], [])
abbrev w_X10_spoilLetter : cw_W := ([556], [], [27, 29], [])
abbrev w_X10_whyGrown : cw_W := ([301, 453, 454], [], [20, 21, 22, 23, 33], [])
set_option maxRecDepth 100000 in
set_option maxHeartbeats 4000000 in
theorem t_X10_whyGrown (Γ : hp_G) (l : Launch) (α : hp_T) (g : GC α) (a0 : Nat) (k0 : hp_K α a0 = 11) (o1 : Option Nat) (k1 : ∀ b, o1 = some b → hp_K α b = 3) (a2 : Int32) (a3 : Int32) (a4 : Int32) (a5 : Int32) : Met l yX10_whyGrown (hp_ws yX10_whyGrown cX10_whyGrown 6 (some .int)) (hp_rm 5 0 0) (hp_Pc Γ α [.ref a0, va_rf o1, .int a2, .int a3, .int a4, .int a5]) (hp_Qi Γ (fun r β => cw w_X10_whyGrown α β)) 0 0 (hp_A Γ) := by
  refine hp_start (by decide) ?_
  intro p e s m below meth c C hr hlk B0 hnm
  have C : hp_C Γ p m c cX10_whyGrown 6 s ([.ref a0, va_rf o1, .int a2, .int a3, .int a4, .int a5] : List Value).toArray RX10 := C
  have hx := C.1.1
  have hb := C.1.2.1
  have hown := C.1.2.2.2.1
  have hts := C.1.2.2.2.2
  have B : hp_B Γ (cw w_X10_whyGrown) s α α s.heap [] := ⟨B0.1, B0.2.1, cw_rf g⟩
  have lit5 : (5 : Int32).toInt = 5 := by decide
  rcases o1 with _ | a1
  ·
    have hl := lv_entry ([.ref a0, .null, .int a2, .int a3, .int a4, .int a5]) (n := 6) (Nat.le_of_ble_eq_true rfl)
    show W p l e (hp_rm 5 0 0) s m ([.ref a0, .null, .int a2, .int a3, .int a4, .int a5] : List Value).toArray below meth c s.heap [] 0 0 (MQ below (hp_Qi Γ (fun r β => cw w_X10_whyGrown α β)) ([.ref a0, .null, .int a2, .int a3, .int a4, .int a5] : List Value).toArray s 0 0 (hp_A Γ)) (entryFrame m ([.ref a0, .null, .int a2, .int a3, .int a4, .int a5] : List Value).toArray 6)
    rw [lg_entry_eq]
    generalize (lg_sl ([.ref a0, .null, .int a2, .int a3, .int a4, .int a5]) ++ List.replicate (6 - (lg_sl ([.ref a0, .null, .int a2, .int a3, .int a4, .int a5])).length) Slot.unset).toArray = ls at hl ⊢
    have hl : lv_has ls 6 [(0, .ref a0), (1, .null), (2, .int a2), (3, .int a3), (4, .int a4), (5, .int a5)] := hl
    refine lv_aload_nN hx hb dX10_whyGrown_0 rfl (lv_at hl 1 rfl) (hp_n (n := 1) rfl ?_)
    refine lv_ifnullN (tgt := 13) hx hb dX10_whyGrown_1 (by decide) ?_
    refine lv_iconst (v := 5) hx hb dX10_whyGrown_13 (by decide) (hp_n (n := 14) rfl ?_)
    exact q_iret C B hr hlk B.2.2 dX10_whyGrown_14
  ·
    have ka1 := k1 a1 rfl
    have hl := lv_entry ([.ref a0, .ref a1, .int a2, .int a3, .int a4, .int a5]) (n := 6) (Nat.le_of_ble_eq_true rfl)
    show W p l e (hp_rm 5 0 0) s m ([.ref a0, .ref a1, .int a2, .int a3, .int a4, .int a5] : List Value).toArray below meth c s.heap [] 0 0 (MQ below (hp_Qi Γ (fun r β => cw w_X10_whyGrown α β)) ([.ref a0, .ref a1, .int a2, .int a3, .int a4, .int a5] : List Value).toArray s 0 0 (hp_A Γ)) (entryFrame m ([.ref a0, .ref a1, .int a2, .int a3, .int a4, .int a5] : List Value).toArray 6)
    rw [lg_entry_eq]
    generalize (lg_sl ([.ref a0, .ref a1, .int a2, .int a3, .int a4, .int a5]) ++ List.replicate (6 - (lg_sl ([.ref a0, .ref a1, .int a2, .int a3, .int a4, .int a5])).length) Slot.unset).toArray = ls at hl ⊢
    have hl : lv_has ls 6 [(0, .ref a0), (1, .ref a1), (2, .int a2), (3, .int a3), (4, .int a4), (5, .int a5)] := hl
    refine lv_aload_n hx hb dX10_whyGrown_0 rfl (lv_at hl 1 rfl) (hp_n (n := 1) rfl ?_)
    refine lv_ifnull hx hb dX10_whyGrown_1 (hp_n (n := 4) rfl ?_)
    refine lv_iload hx hb dX10_whyGrown_4 (lv_at hl 4 rfl) (hp_n (n := 6) rfl ?_)
    refine lv_aload_n hx hb dX10_whyGrown_6 rfl (lv_at hl 1 rfl) (hp_n (n := 7) rfl ?_)
    refine q_geti (κ := 3) (k := 2) (φ := 152) (pc' := 10) C B (cw_k B.2.2 ka1) fl_X10_68 rfl rfl rfl dX10_whyGrown_7 rfl (fun x_1 ex_1 => ?_)
    refine lv_icmp_le (tgt := 15) hx hb dX10_whyGrown_10 (by decide) (fun c_2 => ?_) (fun c_2 => hp_n (n := 13) rfl ?_)
    ·
      have jc_2 := il_le c_2
      refine lv_aload_n hx hb dX10_whyGrown_15 rfl (lv_at hl 0 rfl) (hp_n (n := 16) rfl ?_)
      refine q_getr (κ := 11) (k := 9) (φ := 559) (pc' := 19) C B (cw_k B.2.2 k0) fl_X10_57 rfl rfl rfl (cw_r B.2.2 k0 rfl rfl (by decide) (by decide)) dX10_whyGrown_16 rfl (fun b_3 eb_3 kb_3 => ?_)
      refine lv_iload_n hx hb dX10_whyGrown_19 rfl (lv_at hl 2 rfl) (hp_n (n := 20) rfl ?_)
      refine lv_iload hx hb dX10_whyGrown_20 (lv_at hl 4 rfl) (hp_n (n := 22) rfl ?_)
      refine q_cv (pc' := 25) B (hp_runV (As := [.int a2, .int a4]) (rest := []) C B (t_X8_toGrowth Γ l α B.2.2.1 b_3 (cw_k B.2.2 kb_3) a2 a4) lb_X8_toGrowth lv_X8_toGrowth lk_X10_151 (cw_k B.2.2 kb_3) rfl (by decide) rfl hl.1 rfl (Nat.le_of_ble_eq_true rfl) dX10_whyGrown_22 ⟨Nat.le_refl _, Nat.le_refl _⟩) (fun _ h => cw_tr B.2.2 h (by decide)) rfl (fun αh_4 Hh_4 Lh_4 ph_4 Bh_4 => ?_)
      refine lv_aload_n hx hb dX10_whyGrown_25 rfl (lv_at hl 0 rfl) (hp_n (n := 26) rfl ?_)
      refine lv_aload_n hx hb dX10_whyGrown_26 rfl (lv_at hl 0 rfl) (hp_n (n := 27) rfl ?_)
      have t_5 : b_3 = hp_R αh_4 559 a0 := by rw [cw_R ph_4 a0 (by decide)]; exact eb_3
      refine q_gets (κ := 11) (k := 9) (φ := 559) (pc' := 30) C Bh_4 (cw_k Bh_4.2.2 k0) fl_X10_57 rfl rfl rfl t_5 dX10_whyGrown_27 rfl ?_
      refine lv_aload_n hx hb dX10_whyGrown_30 rfl (lv_at hl 1 rfl) (hp_n (n := 31) rfl ?_)
      refine lv_aload_n hx hb dX10_whyGrown_31 rfl (lv_at hl 0 rfl) (hp_n (n := 32) rfl ?_)
      refine q_getr (κ := 11) (k := 8) (φ := 558) (pc' := 35) C Bh_4 (cw_k Bh_4.2.2 k0) fl_X10_50 rfl rfl rfl (cw_r Bh_4.2.2 k0 rfl rfl (by decide) (by decide)) dX10_whyGrown_32 rfl (fun b_6 eb_6 kb_6 => ?_)
      refine q_cv (pc' := 38) Bh_4 (hp_runV (As := [.ref b_3, va_rf (some a1), .ref b_6]) (rest := []) C Bh_4 (t_X10_marksAlong Γ l αh_4 Bh_4.2.2.1 a0 (cw_k Bh_4.2.2 k0) b_3 (cw_k Bh_4.2.2 kb_3) (some a1) (fun b h => by cases h; exact (cw_k Bh_4.2.2 ka1)) b_6 (cw_k Bh_4.2.2 kb_6)) lb_X10_marksAlong lv_X10_marksAlong lk_X10_155 (cw_k Bh_4.2.2 k0) rfl (by decide) rfl hl.1 rfl (Nat.le_of_ble_eq_true rfl) dX10_whyGrown_35 ⟨Nat.le_refl _, Nat.le_refl _⟩) (fun _ h => cw_tr Bh_4.2.2 h (by decide)) rfl (fun αh_7 Hh_7 Lh_7 ph_7 Bh_7 => ?_)
      refine lv_aload_n hx hb dX10_whyGrown_38 rfl (lv_at hl 0 rfl) (hp_n (n := 39) rfl ?_)
      have t_8 : b_3 = hp_R αh_7 559 a0 := by rw [cw_R ph_7 a0 (by decide)]; exact t_5
      refine q_gets (κ := 11) (k := 9) (φ := 559) (pc' := 42) C Bh_7 (cw_k Bh_7.2.2 k0) fl_X10_57 rfl rfl rfl t_8 dX10_whyGrown_39 rfl ?_
      refine lv_aload_n hx hb dX10_whyGrown_42 rfl (lv_at hl 0 rfl) (hp_n (n := 43) rfl ?_)
      refine q_geti (κ := 11) (k := 0) (φ := 550) (pc' := 46) C Bh_7 (cw_k Bh_7.2.2 k0) fl_X10_10 rfl rfl rfl dX10_whyGrown_43 rfl (fun x_9 ex_9 => ?_)
      refine lv_aload_n hx hb dX10_whyGrown_46 rfl (lv_at hl 0 rfl) (hp_n (n := 47) rfl ?_)
      have t_10 : b_6 = hp_R αh_7 558 a0 := by rw [cw_R ph_7 a0 (by decide)]; exact eb_6
      refine q_gets (κ := 11) (k := 8) (φ := 558) (pc' := 50) C Bh_7 (cw_k Bh_7.2.2 k0) fl_X10_50 rfl rfl rfl t_10 dX10_whyGrown_47 rfl ?_
      refine lv_iload_n hx hb dX10_whyGrown_50 rfl (lv_at hl 2 rfl) (hp_n (n := 51) rfl ?_)
      refine lv_iload_n hx hb dX10_whyGrown_51 rfl (lv_at hl 3 rfl) (hp_n (n := 52) rfl ?_)
      refine lv_iload hx hb dX10_whyGrown_52 (lv_at hl 4 rfl) (hp_n (n := 54) rfl ?_)
      refine lv_iload hx hb dX10_whyGrown_54 (lv_at hl 5 rfl) (hp_n (n := 56) rfl ?_)
      refine q_ci (pc' := 59) Bh_7 (hp_runV (As := [.int x_9, .ref b_6, .int a2, .int a3, .int a4, .int a5]) (rest := []) C Bh_7 (t_X8_whyGrowth Γ l αh_7 Bh_7.2.2.1 b_3 (cw_k Bh_7.2.2 kb_3) x_9 b_6 (cw_k Bh_7.2.2 kb_6) a2 a3 a4 a5) lb_X8_whyGrowth lv_X8_whyGrowth lk_X10_159 (cw_k Bh_7.2.2 kb_3) rfl (by decide) rfl hl.1 rfl (Nat.le_of_ble_eq_true rfl) dX10_whyGrown_56 ⟨Nat.le_refl _, Nat.le_refl _⟩) (fun _ _ h => cw_tr Bh_7.2.2 h (by decide)) rfl (fun rh_11 αh_11 Hh_11 Lh_11 ph_11 Bh_11 => ?_)
      exact q_iret C Bh_11 hr hlk Bh_11.2.2 dX10_whyGrown_59
    ·
      have jc_2 := il_nle c_2
      refine lv_iconst (v := 5) hx hb dX10_whyGrown_13 (by decide) (hp_n (n := 14) rfl ?_)
      exact q_iret C B hr hlk B.2.2 dX10_whyGrown_14
abbrev w_X10_showTo : cw_W := ([301, 400, 401, 402, 403, 453, 454, 556], [], [20, 21, 22, 23, 33], [])
abbrev w_X10_meetBy : cw_W := ([301, 400, 401, 403, 453, 454, 556], [], [20, 21, 22, 23, 33], [])
abbrev w_X10_doAgree : cw_W := ([], [], [33], [])
set_option maxRecDepth 100000 in
set_option maxHeartbeats 4000000 in
theorem t_X10_doAgree (Γ : hp_G) (l : Launch) (α : hp_T) (g : GC α) (a0 : Nat) (k0 : hp_K α a0 = 11) (o1 : Option Nat) (k1 : ∀ b, o1 = some b → hp_K α b = 8) (o2 : Option Nat) (k2 : ∀ b, o2 = some b → hp_K α b = 8) : Met l yX10_doAgree (hp_ws yX10_doAgree cX10_doAgree 5 (some .boolean)) (hp_rm 4 0 0) (hp_Pc Γ α [.ref a0, va_rf o1, va_rf o2]) (hp_Qi Γ (fun r β => cw w_X10_doAgree α β ∧ (r = 0 ∨ r = 1))) 0 0 (hp_A Γ) := by
  refine hp_start (by decide) ?_
  intro p e s m below meth c C hr hlk B0 hnm
  have C : hp_C Γ p m c cX10_doAgree 5 s ([.ref a0, va_rf o1, va_rf o2] : List Value).toArray RX10 := C
  have hx := C.1.1
  have hb := C.1.2.1
  have hown := C.1.2.2.2.1
  have hts := C.1.2.2.2.2
  have B : hp_B Γ (cw w_X10_doAgree) s α α s.heap [] := ⟨B0.1, B0.2.1, cw_rf g⟩
  have lit0 : (0 : Int32).toInt = 0 := by decide
  have lit1 : (1 : Int32).toInt = 1 := by decide
  rcases o1 with _ | a1
  ·
    rcases o2 with _ | a2
    ·
      have hl := lv_entry ([.ref a0, .null, .null]) (n := 5) (Nat.le_of_ble_eq_true rfl)
      show W p l e (hp_rm 4 0 0) s m ([.ref a0, .null, .null] : List Value).toArray below meth c s.heap [] 0 0 (MQ below (hp_Qi Γ (fun r β => cw w_X10_doAgree α β ∧ (r = 0 ∨ r = 1))) ([.ref a0, .null, .null] : List Value).toArray s 0 0 (hp_A Γ)) (entryFrame m ([.ref a0, .null, .null] : List Value).toArray 5)
      rw [lg_entry_eq]
      generalize (lg_sl ([.ref a0, .null, .null]) ++ List.replicate (5 - (lg_sl ([.ref a0, .null, .null])).length) Slot.unset).toArray = ls at hl ⊢
      have hl : lv_has ls 5 [(0, .ref a0), (1, .null), (2, .null)] := hl
      refine lv_aload_nN hx hb dX10_doAgree_0 rfl (lv_at hl 1 rfl) (hp_n (n := 1) rfl ?_)
      refine lv_ifnullN (tgt := 8) hx hb dX10_doAgree_1 (by decide) ?_
      refine lv_iconst (v := 0) hx hb dX10_doAgree_8 (by decide) (hp_n (n := 9) rfl ?_)
      exact q_zret C B hr hlk (by decide) ⟨B.2.2, (Or.inl rfl)⟩ dX10_doAgree_9
    ·
      have ka2 := k2 a2 rfl
      have hl := lv_entry ([.ref a0, .null, .ref a2]) (n := 5) (Nat.le_of_ble_eq_true rfl)
      show W p l e (hp_rm 4 0 0) s m ([.ref a0, .null, .ref a2] : List Value).toArray below meth c s.heap [] 0 0 (MQ below (hp_Qi Γ (fun r β => cw w_X10_doAgree α β ∧ (r = 0 ∨ r = 1))) ([.ref a0, .null, .ref a2] : List Value).toArray s 0 0 (hp_A Γ)) (entryFrame m ([.ref a0, .null, .ref a2] : List Value).toArray 5)
      rw [lg_entry_eq]
      generalize (lg_sl ([.ref a0, .null, .ref a2]) ++ List.replicate (5 - (lg_sl ([.ref a0, .null, .ref a2])).length) Slot.unset).toArray = ls at hl ⊢
      have hl : lv_has ls 5 [(0, .ref a0), (1, .null), (2, .ref a2)] := hl
      refine lv_aload_nN hx hb dX10_doAgree_0 rfl (lv_at hl 1 rfl) (hp_n (n := 1) rfl ?_)
      refine lv_ifnullN (tgt := 8) hx hb dX10_doAgree_1 (by decide) ?_
      refine lv_iconst (v := 0) hx hb dX10_doAgree_8 (by decide) (hp_n (n := 9) rfl ?_)
      exact q_zret C B hr hlk (by decide) ⟨B.2.2, (Or.inl rfl)⟩ dX10_doAgree_9
  ·
    have ka1 := k1 a1 rfl
    rcases o2 with _ | a2
    ·
      have hl := lv_entry ([.ref a0, .ref a1, .null]) (n := 5) (Nat.le_of_ble_eq_true rfl)
      show W p l e (hp_rm 4 0 0) s m ([.ref a0, .ref a1, .null] : List Value).toArray below meth c s.heap [] 0 0 (MQ below (hp_Qi Γ (fun r β => cw w_X10_doAgree α β ∧ (r = 0 ∨ r = 1))) ([.ref a0, .ref a1, .null] : List Value).toArray s 0 0 (hp_A Γ)) (entryFrame m ([.ref a0, .ref a1, .null] : List Value).toArray 5)
      rw [lg_entry_eq]
      generalize (lg_sl ([.ref a0, .ref a1, .null]) ++ List.replicate (5 - (lg_sl ([.ref a0, .ref a1, .null])).length) Slot.unset).toArray = ls at hl ⊢
      have hl : lv_has ls 5 [(0, .ref a0), (1, .ref a1), (2, .null)] := hl
      refine lv_aload_n hx hb dX10_doAgree_0 rfl (lv_at hl 1 rfl) (hp_n (n := 1) rfl ?_)
      refine lv_ifnull hx hb dX10_doAgree_1 (hp_n (n := 4) rfl ?_)
      refine lv_aload_nN hx hb dX10_doAgree_4 rfl (lv_at hl 2 rfl) (hp_n (n := 5) rfl ?_)
      refine lv_ifnonnullN hx hb dX10_doAgree_5 (hp_n (n := 8) rfl ?_)
      refine lv_iconst (v := 0) hx hb dX10_doAgree_8 (by decide) (hp_n (n := 9) rfl ?_)
      exact q_zret C B hr hlk (by decide) ⟨B.2.2, (Or.inl rfl)⟩ dX10_doAgree_9
    ·
      have ka2 := k2 a2 rfl
      have hl := lv_entry ([.ref a0, .ref a1, .ref a2]) (n := 5) (Nat.le_of_ble_eq_true rfl)
      show W p l e (hp_rm 4 0 0) s m ([.ref a0, .ref a1, .ref a2] : List Value).toArray below meth c s.heap [] 0 0 (MQ below (hp_Qi Γ (fun r β => cw w_X10_doAgree α β ∧ (r = 0 ∨ r = 1))) ([.ref a0, .ref a1, .ref a2] : List Value).toArray s 0 0 (hp_A Γ)) (entryFrame m ([.ref a0, .ref a1, .ref a2] : List Value).toArray 5)
      rw [lg_entry_eq]
      generalize (lg_sl ([.ref a0, .ref a1, .ref a2]) ++ List.replicate (5 - (lg_sl ([.ref a0, .ref a1, .ref a2])).length) Slot.unset).toArray = ls at hl ⊢
      have hl : lv_has ls 5 [(0, .ref a0), (1, .ref a1), (2, .ref a2)] := hl
      refine lv_aload_n hx hb dX10_doAgree_0 rfl (lv_at hl 1 rfl) (hp_n (n := 1) rfl ?_)
      refine lv_ifnull hx hb dX10_doAgree_1 (hp_n (n := 4) rfl ?_)
      refine lv_aload_n hx hb dX10_doAgree_4 rfl (lv_at hl 2 rfl) (hp_n (n := 5) rfl ?_)
      refine lv_ifnonnull (tgt := 10) hx hb dX10_doAgree_5 (by decide) ?_
      refine lv_iconst (v := 0) hx hb dX10_doAgree_10 (by decide) (hp_n (n := 11) rfl ?_)
      have J12 : ∀ (nq : Nat) (αh_1 : hp_T) (Hh_1 : Heap) (Lh_1 : List Loc) (Bh_1 : hp_B Γ (cw w_X10_doAgree) s α αh_1 Hh_1 Lh_1) (v3_h_1 : Int32) (ih_1_0 : 0 ≤ v3_h_1.toInt) (ls : Array Slot) (hl : lv_has ls 5 [(0, .ref a0), (1, .ref a1), (2, .ref a2), (3, .int v3_h_1)]) (hmu12 : (2147483647 - v3_h_1.toInt).toNat = nq), W p l e (hp_rm 4 0 0) s m ([.ref a0, .ref a1, .ref a2] : List Value).toArray below meth c Hh_1 Lh_1 0 0 (MQ below (hp_Qi Γ (fun r β => cw w_X10_doAgree α β ∧ (r = 0 ∨ r = 1))) ([.ref a0, .ref a1, .ref a2] : List Value).toArray s 0 0 (hp_A Γ)) (F0 m 12 ls []) := by
        intro nq
        induction nq using Nat.strongRecOn with
        | ind nq ih12 =>
        intro αh_1 Hh_1 Lh_1 Bh_1 v3_h_1 ih_1_0 ls hl hmu12
        have inv12_0 := ih_1_0
        refine lv_iload_n hx hb dX10_doAgree_12 rfl (lv_at hl 3 rfl) (hp_n (n := 13) rfl ?_)
        refine lv_aload_n hx hb dX10_doAgree_13 rfl (lv_at hl 0 rfl) (hp_n (n := 14) rfl ?_)
        refine q_geti (κ := 11) (k := 2) (φ := 552) (pc' := 17) C Bh_1 (cw_k Bh_1.2.2 k0) fl_X10_22 rfl rfl rfl dX10_doAgree_14 rfl (fun x_2 ex_2 => ?_)
        refine lv_icmp_ge (tgt := 69) hx hb dX10_doAgree_17 (by decide) (fun c_3 => ?_) (fun c_3 => hp_n (n := 20) rfl ?_)
        ·
          have jc_3 := il_le c_3
          refine lv_iconst (v := 0) hx hb dX10_doAgree_69 (by decide) (hp_n (n := 70) rfl ?_)
          exact q_zret C Bh_1 hr hlk (by decide) ⟨Bh_1.2.2, (Or.inl rfl)⟩ dX10_doAgree_70
        ·
          have jc_3 := il_nle c_3
          refine lv_aload_n hx hb dX10_doAgree_20 rfl (lv_at hl 0 rfl) (hp_n (n := 21) rfl ?_)
          refine lv_iload_n hx hb dX10_doAgree_21 rfl (lv_at hl 3 rfl) (hp_n (n := 22) rfl ?_)
          refine q_cq (pc' := 25) Bh_1 (hp_runV (As := [.int v3_h_1]) (rest := []) C Bh_1 (t_X10_logAt Γ l αh_1 Bh_1.2.2.1 a0 (cw_k Bh_1.2.2 k0) v3_h_1) lb_X10_logAt lv_X10_logAt lk_X10_64 (cw_k Bh_1.2.2 k0) rfl (by decide) rfl hl.1 rfl (Nat.le_of_ble_eq_true rfl) dX10_doAgree_22 ⟨Nat.le_refl _, Nat.le_refl _⟩) (fun _ _ h => by rw [h.1]; exact Bh_1.2.2) rfl (fun rh_4 αh_4 Hh_4 Lh_4 ph_4 Bh_4 => ?_)
          rw [ph_4.1] at Bh_4
          rcases rh_4 with _ | bh_4
          ·
            refine lv_astoreN (lv' := [(4, .null), (0, .ref a0), (1, .ref a1), (2, .ref a2), (3, .int v3_h_1)]) hx hb dX10_doAgree_25 hl (by decide) rfl (fun ls hl => hp_n (n := 27) rfl ?_)
            refine lv_aload_n hx hb dX10_doAgree_27 rfl (lv_at hl 1 rfl) (hp_n (n := 28) rfl ?_)
            refine lv_aloadN hx hb dX10_doAgree_28 (lv_at hl 0 rfl) (hp_n (n := 30) rfl ?_)
            refine lv_aload_n hx hb dX10_doAgree_30 rfl (lv_at hl 2 rfl) (hp_n (n := 31) rfl ?_)
            refine q_geti (κ := 8) (k := 0) (φ := 400) (pc' := 34) C Bh_4 (cw_k Bh_4.2.2 ka1) fl_X10_163 rfl rfl rfl dX10_doAgree_31 rfl (fun x_5 ex_5 => ?_)
            refine lv_aload_n hx hb dX10_doAgree_34 rfl (lv_at hl 2 rfl) (hp_n (n := 35) rfl ?_)
            refine q_geti (κ := 8) (k := 1) (φ := 401) (pc' := 38) C Bh_4 (cw_k Bh_4.2.2 ka1) fl_X10_164 rfl rfl rfl dX10_doAgree_35 rfl (fun x_6 ex_6 => ?_)
            refine q_ci (pc' := 41) Bh_4 (hp_runV (As := [va_rf none, .int x_5, .int x_6]) (rest := []) C Bh_4 (t_X10_hasHead Γ l αh_1 Bh_4.2.2.1 a0 (cw_k Bh_4.2.2 k0) none (fun b h => by cases h) x_5 x_6) lb_X10_hasHead lv_X10_hasHead lk_X10_180 (cw_k Bh_4.2.2 k0) rfl (by decide) rfl hl.1 rfl (Nat.le_of_ble_eq_true rfl) dX10_doAgree_38 ⟨Nat.le_refl _, Nat.le_refl _⟩) (fun _ _ h => cw_tr Bh_4.2.2 h.1 (by decide)) rfl (fun rh_7 αh_7 Hh_7 Lh_7 ph_7 Bh_7 => ?_)
            have zh_7 := ph_7.2
            refine lv_if_eq (tgt := 63) hx hb dX10_doAgree_41 (by decide) (fun c_8 => ?_) (fun c_8 => hp_n (n := 44) rfl ?_)
            ·
              have jc_8 := il_eq c_8
              obtain ⟨x_9, ex_9⟩ : ∃ y : Int32, y = v3_h_1 + 1 := ⟨_, rfl⟩
              have qx_9 : x_9.toInt = v3_h_1.toInt + 1 := by have q0 := ib_hi x_2; have qa := ib_lo v3_h_1; rw [ex_9]; exact ii_add (by omega) (by omega)
              refine lv_iinc (v := x_9) (lv' := [(3, .int x_9), (4, .null), (0, .ref a0), (1, .ref a1), (2, .ref a2)]) hx hb dX10_doAgree_63 hl (k := 4) rfl (by rw [ex_9]; rfl) (by decide) rfl (fun ls hl => hp_n (n := 66) rfl ?_)
              refine lv_goto (tgt := 12) hx hb dX10_doAgree_66 (by decide) ?_
              exact ih12 _ (by have q0 := ib_hi x_2; have q1 := ib_lo x_2; have qa := ib_hi v3_h_1; have qb := ib_lo v3_h_1; have qc : (v3_h_1 + 1).toInt = v3_h_1.toInt + (1 : Int32).toInt := ii_add (by omega) (by omega); rw [ex_9]; omega) αh_7 Hh_7 Lh_7 Bh_7 x_9 (by omega) ls (lv_sub hl [2, 3, 4, 0] rfl) rfl
            ·
              have jc_8 := il_ne c_8
              refine lv_aload_n hx hb dX10_doAgree_44 rfl (lv_at hl 1 rfl) (hp_n (n := 45) rfl ?_)
              refine lv_aloadN hx hb dX10_doAgree_45 (lv_at hl 0 rfl) (hp_n (n := 47) rfl ?_)
              refine lv_aload_n hx hb dX10_doAgree_47 rfl (lv_at hl 3 rfl) (hp_n (n := 48) rfl ?_)
              refine q_geti (κ := 8) (k := 0) (φ := 400) (pc' := 51) C Bh_7 (cw_k Bh_7.2.2 ka2) fl_X10_163 rfl rfl rfl dX10_doAgree_48 rfl (fun x_10 ex_10 => ?_)
              refine lv_aload_n hx hb dX10_doAgree_51 rfl (lv_at hl 3 rfl) (hp_n (n := 52) rfl ?_)
              refine q_geti (κ := 8) (k := 1) (φ := 401) (pc' := 55) C Bh_7 (cw_k Bh_7.2.2 ka2) fl_X10_164 rfl rfl rfl dX10_doAgree_52 rfl (fun x_11 ex_11 => ?_)
              refine q_ci (pc' := 58) Bh_7 (hp_runV (As := [va_rf none, .int x_10, .int x_11]) (rest := []) C Bh_7 (t_X10_hasHead Γ l αh_7 Bh_7.2.2.1 a0 (cw_k Bh_7.2.2 k0) none (fun b h => by cases h) x_10 x_11) lb_X10_hasHead lv_X10_hasHead lk_X10_180 (cw_k Bh_7.2.2 k0) rfl (by decide) rfl hl.1 rfl (Nat.le_of_ble_eq_true rfl) dX10_doAgree_55 ⟨Nat.le_refl _, Nat.le_refl _⟩) (fun _ _ h => cw_tr Bh_7.2.2 h.1 (by decide)) rfl (fun rh_12 αh_12 Hh_12 Lh_12 ph_12 Bh_12 => ?_)
              have zh_12 := ph_12.2
              refine lv_if_eq (tgt := 63) hx hb dX10_doAgree_58 (by decide) (fun c_13 => ?_) (fun c_13 => hp_n (n := 61) rfl ?_)
              ·
                have jc_13 := il_eq c_13
                obtain ⟨x_14, ex_14⟩ : ∃ y : Int32, y = v3_h_1 + 1 := ⟨_, rfl⟩
                have qx_14 : x_14.toInt = v3_h_1.toInt + 1 := by have q0 := ib_hi x_2; have qa := ib_lo v3_h_1; rw [ex_14]; exact ii_add (by omega) (by omega)
                refine lv_iinc (v := x_14) (lv' := [(3, .int x_14), (4, .null), (0, .ref a0), (1, .ref a1), (2, .ref a2)]) hx hb dX10_doAgree_63 hl (k := 4) rfl (by rw [ex_14]; rfl) (by decide) rfl (fun ls hl => hp_n (n := 66) rfl ?_)
                refine lv_goto (tgt := 12) hx hb dX10_doAgree_66 (by decide) ?_
                exact ih12 _ (by have q0 := ib_hi x_2; have q1 := ib_lo x_2; have qa := ib_hi v3_h_1; have qb := ib_lo v3_h_1; have qc : (v3_h_1 + 1).toInt = v3_h_1.toInt + (1 : Int32).toInt := ii_add (by omega) (by omega); rw [ex_14]; omega) αh_12 Hh_12 Lh_12 Bh_12 x_14 (by omega) ls (lv_sub hl [2, 3, 4, 0] rfl) rfl
              ·
                have jc_13 := il_ne c_13
                refine lv_iconst (v := 1) hx hb dX10_doAgree_61 (by decide) (hp_n (n := 62) rfl ?_)
                exact q_zret C Bh_12 hr hlk (by decide) ⟨Bh_12.2.2, (Or.inr rfl)⟩ dX10_doAgree_62
          ·
            have kbh_4 : hp_K α bh_4 = 3 := cw_k' Bh_4.2.2 (ph_4.2 bh_4 rfl)
            refine lv_astore (lv' := [(4, .ref bh_4), (0, .ref a0), (1, .ref a1), (2, .ref a2), (3, .int v3_h_1)]) hx hb dX10_doAgree_25 hl (by decide) rfl (fun ls hl => hp_n (n := 27) rfl ?_)
            refine lv_aload_n hx hb dX10_doAgree_27 rfl (lv_at hl 1 rfl) (hp_n (n := 28) rfl ?_)
            refine lv_aload hx hb dX10_doAgree_28 (lv_at hl 0 rfl) (hp_n (n := 30) rfl ?_)
            refine lv_aload_n hx hb dX10_doAgree_30 rfl (lv_at hl 2 rfl) (hp_n (n := 31) rfl ?_)
            refine q_geti (κ := 8) (k := 0) (φ := 400) (pc' := 34) C Bh_4 (cw_k Bh_4.2.2 ka1) fl_X10_163 rfl rfl rfl dX10_doAgree_31 rfl (fun x_15 ex_15 => ?_)
            refine lv_aload_n hx hb dX10_doAgree_34 rfl (lv_at hl 2 rfl) (hp_n (n := 35) rfl ?_)
            refine q_geti (κ := 8) (k := 1) (φ := 401) (pc' := 38) C Bh_4 (cw_k Bh_4.2.2 ka1) fl_X10_164 rfl rfl rfl dX10_doAgree_35 rfl (fun x_16 ex_16 => ?_)
            refine q_ci (pc' := 41) Bh_4 (hp_runV (As := [va_rf (some bh_4), .int x_15, .int x_16]) (rest := []) C Bh_4 (t_X10_hasHead Γ l αh_1 Bh_4.2.2.1 a0 (cw_k Bh_4.2.2 k0) (some bh_4) (fun b h => by cases h; exact (cw_k Bh_4.2.2 kbh_4)) x_15 x_16) lb_X10_hasHead lv_X10_hasHead lk_X10_180 (cw_k Bh_4.2.2 k0) rfl (by decide) rfl hl.1 rfl (Nat.le_of_ble_eq_true rfl) dX10_doAgree_38 ⟨Nat.le_refl _, Nat.le_refl _⟩) (fun _ _ h => cw_tr Bh_4.2.2 h.1 (by decide)) rfl (fun rh_17 αh_17 Hh_17 Lh_17 ph_17 Bh_17 => ?_)
            have zh_17 := ph_17.2
            refine lv_if_eq (tgt := 63) hx hb dX10_doAgree_41 (by decide) (fun c_18 => ?_) (fun c_18 => hp_n (n := 44) rfl ?_)
            ·
              have jc_18 := il_eq c_18
              obtain ⟨x_19, ex_19⟩ : ∃ y : Int32, y = v3_h_1 + 1 := ⟨_, rfl⟩
              have qx_19 : x_19.toInt = v3_h_1.toInt + 1 := by have q0 := ib_hi x_2; have qa := ib_lo v3_h_1; rw [ex_19]; exact ii_add (by omega) (by omega)
              refine lv_iinc (v := x_19) (lv' := [(3, .int x_19), (4, .ref bh_4), (0, .ref a0), (1, .ref a1), (2, .ref a2)]) hx hb dX10_doAgree_63 hl (k := 4) rfl (by rw [ex_19]; rfl) (by decide) rfl (fun ls hl => hp_n (n := 66) rfl ?_)
              refine lv_goto (tgt := 12) hx hb dX10_doAgree_66 (by decide) ?_
              exact ih12 _ (by have q0 := ib_hi x_2; have q1 := ib_lo x_2; have qa := ib_hi v3_h_1; have qb := ib_lo v3_h_1; have qc : (v3_h_1 + 1).toInt = v3_h_1.toInt + (1 : Int32).toInt := ii_add (by omega) (by omega); rw [ex_19]; omega) αh_17 Hh_17 Lh_17 Bh_17 x_19 (by omega) ls (lv_sub hl [2, 3, 4, 0] rfl) rfl
            ·
              have jc_18 := il_ne c_18
              refine lv_aload_n hx hb dX10_doAgree_44 rfl (lv_at hl 1 rfl) (hp_n (n := 45) rfl ?_)
              refine lv_aload hx hb dX10_doAgree_45 (lv_at hl 0 rfl) (hp_n (n := 47) rfl ?_)
              refine lv_aload_n hx hb dX10_doAgree_47 rfl (lv_at hl 3 rfl) (hp_n (n := 48) rfl ?_)
              refine q_geti (κ := 8) (k := 0) (φ := 400) (pc' := 51) C Bh_17 (cw_k Bh_17.2.2 ka2) fl_X10_163 rfl rfl rfl dX10_doAgree_48 rfl (fun x_20 ex_20 => ?_)
              refine lv_aload_n hx hb dX10_doAgree_51 rfl (lv_at hl 3 rfl) (hp_n (n := 52) rfl ?_)
              refine q_geti (κ := 8) (k := 1) (φ := 401) (pc' := 55) C Bh_17 (cw_k Bh_17.2.2 ka2) fl_X10_164 rfl rfl rfl dX10_doAgree_52 rfl (fun x_21 ex_21 => ?_)
              refine q_ci (pc' := 58) Bh_17 (hp_runV (As := [va_rf (some bh_4), .int x_20, .int x_21]) (rest := []) C Bh_17 (t_X10_hasHead Γ l αh_17 Bh_17.2.2.1 a0 (cw_k Bh_17.2.2 k0) (some bh_4) (fun b h => by cases h; exact (cw_k Bh_17.2.2 kbh_4)) x_20 x_21) lb_X10_hasHead lv_X10_hasHead lk_X10_180 (cw_k Bh_17.2.2 k0) rfl (by decide) rfl hl.1 rfl (Nat.le_of_ble_eq_true rfl) dX10_doAgree_55 ⟨Nat.le_refl _, Nat.le_refl _⟩) (fun _ _ h => cw_tr Bh_17.2.2 h.1 (by decide)) rfl (fun rh_22 αh_22 Hh_22 Lh_22 ph_22 Bh_22 => ?_)
              have zh_22 := ph_22.2
              refine lv_if_eq (tgt := 63) hx hb dX10_doAgree_58 (by decide) (fun c_23 => ?_) (fun c_23 => hp_n (n := 61) rfl ?_)
              ·
                have jc_23 := il_eq c_23
                obtain ⟨x_24, ex_24⟩ : ∃ y : Int32, y = v3_h_1 + 1 := ⟨_, rfl⟩
                have qx_24 : x_24.toInt = v3_h_1.toInt + 1 := by have q0 := ib_hi x_2; have qa := ib_lo v3_h_1; rw [ex_24]; exact ii_add (by omega) (by omega)
                refine lv_iinc (v := x_24) (lv' := [(3, .int x_24), (4, .ref bh_4), (0, .ref a0), (1, .ref a1), (2, .ref a2)]) hx hb dX10_doAgree_63 hl (k := 4) rfl (by rw [ex_24]; rfl) (by decide) rfl (fun ls hl => hp_n (n := 66) rfl ?_)
                refine lv_goto (tgt := 12) hx hb dX10_doAgree_66 (by decide) ?_
                exact ih12 _ (by have q0 := ib_hi x_2; have q1 := ib_lo x_2; have qa := ib_hi v3_h_1; have qb := ib_lo v3_h_1; have qc : (v3_h_1 + 1).toInt = v3_h_1.toInt + (1 : Int32).toInt := ii_add (by omega) (by omega); rw [ex_24]; omega) αh_22 Hh_22 Lh_22 Bh_22 x_24 (by omega) ls (lv_sub hl [2, 3, 4, 0] rfl) rfl
              ·
                have jc_23 := il_ne c_23
                refine lv_iconst (v := 1) hx hb dX10_doAgree_61 (by decide) (hp_n (n := 62) rfl ?_)
                exact q_zret C Bh_22 hr hlk (by decide) ⟨Bh_22.2.2, (Or.inr rfl)⟩ dX10_doAgree_62
      refine lv_istore_n (lv' := [(3, .int 0), (0, .ref a0), (1, .ref a1), (2, .ref a2)]) hx hb dX10_doAgree_11 rfl hl (by decide) rfl (fun ls hl => hp_n (n := 12) rfl ?_)
      exact J12 _ α s.heap [] B 0 (by omega) ls (lv_sub hl [1, 2, 3, 0] rfl) rfl
abbrev w_X10_isSound : cw_W := ([], [], [33], [])
set_option maxRecDepth 100000 in
set_option maxHeartbeats 4000000 in
theorem t_X10_isSound (Γ : hp_G) (l : Launch) (α : hp_T) (g : GC α) (a0 : Nat) (k0 : hp_K α a0 = 11) (a1 : Nat) (k1 : hp_K α a1 = 2) : Met l yX10_isSound (hp_ws yX10_isSound cX10_isSound 2 (some .boolean)) (hp_rm 4 0 0) (hp_Pc Γ α [.ref a0, .ref a1]) (hp_Qi Γ (fun r β => cw w_X10_isSound α β ∧ (r = 0 ∨ r = 1))) 0 0 (hp_A Γ) := by
  refine hp_start (by decide) ?_
  intro p e s m below meth c C hr hlk B0 hnm
  have C : hp_C Γ p m c cX10_isSound 2 s ([.ref a0, .ref a1] : List Value).toArray RX10 := C
  have hx := C.1.1
  have hb := C.1.2.1
  have hown := C.1.2.2.2.1
  have hts := C.1.2.2.2.2
  have B : hp_B Γ (cw w_X10_isSound) s α α s.heap [] := ⟨B0.1, B0.2.1, cw_rf g⟩
  have hl := lv_entry ([.ref a0, .ref a1]) (n := 2) (Nat.le_of_ble_eq_true rfl)
  show W p l e (hp_rm 4 0 0) s m ([.ref a0, .ref a1] : List Value).toArray below meth c s.heap [] 0 0 (MQ below (hp_Qi Γ (fun r β => cw w_X10_isSound α β ∧ (r = 0 ∨ r = 1))) ([.ref a0, .ref a1] : List Value).toArray s 0 0 (hp_A Γ)) (entryFrame m ([.ref a0, .ref a1] : List Value).toArray 2)
  rw [lg_entry_eq]
  generalize (lg_sl ([.ref a0, .ref a1]) ++ List.replicate (2 - (lg_sl ([.ref a0, .ref a1])).length) Slot.unset).toArray = ls at hl ⊢
  have hl : lv_has ls 2 [(0, .ref a0), (1, .ref a1)] := hl
  refine lv_aload_n hx hb dX10_isSound_0 rfl (lv_at hl 0 rfl) (hp_n (n := 1) rfl ?_)
  refine lv_aload_n hx hb dX10_isSound_1 rfl (lv_at hl 0 rfl) (hp_n (n := 2) rfl ?_)
  refine lv_aload_n hx hb dX10_isSound_2 rfl (lv_at hl 1 rfl) (hp_n (n := 3) rfl ?_)
  refine q_geti (κ := 2) (k := 0) (φ := 100) (pc' := 6) C B (cw_k B.2.2 k1) fl_X10_128 rfl rfl rfl dX10_isSound_3 rfl (fun x_1 ex_1 => ?_)
  refine q_cq (pc' := 9) B (hp_runV (As := [.int x_1]) (rest := [.ref a0]) C B (t_X10_logAt Γ l α B.2.2.1 a0 (cw_k B.2.2 k0) x_1) lb_X10_logAt lv_X10_logAt lk_X10_64 (cw_k B.2.2 k0) rfl (by decide) rfl hl.1 rfl (Nat.le_of_ble_eq_true rfl) dX10_isSound_6 ⟨Nat.le_refl _, Nat.le_refl _⟩) (fun _ _ h => by rw [h.1]; exact B.2.2) rfl (fun rh_2 αh_2 Hh_2 Lh_2 ph_2 Bh_2 => ?_)
  rw [ph_2.1] at Bh_2
  rcases rh_2 with _ | bh_2
  ·
    refine lv_aload_n hx hb dX10_isSound_9 rfl (lv_at hl 1 rfl) (hp_n (n := 10) rfl ?_)
    refine q_geti (κ := 2) (k := 1) (φ := 101) (pc' := 13) C Bh_2 (cw_k Bh_2.2.2 k1) fl_X10_131 rfl rfl rfl dX10_isSound_10 rfl (fun x_3 ex_3 => ?_)
    refine lv_aload_n hx hb dX10_isSound_13 rfl (lv_at hl 1 rfl) (hp_n (n := 14) rfl ?_)
    refine q_geti (κ := 2) (k := 2) (φ := 102) (pc' := 17) C Bh_2 (cw_k Bh_2.2.2 k1) fl_X10_134 rfl rfl rfl dX10_isSound_14 rfl (fun x_4 ex_4 => ?_)
    refine q_ci (pc' := 20) Bh_2 (hp_runV (As := [va_rf none, .int x_3, .int x_4]) (rest := []) C Bh_2 (t_X10_hasHead Γ l α Bh_2.2.2.1 a0 (cw_k Bh_2.2.2 k0) none (fun b h => by cases h) x_3 x_4) lb_X10_hasHead lv_X10_hasHead lk_X10_180 (cw_k Bh_2.2.2 k0) rfl (by decide) rfl hl.1 rfl (Nat.le_of_ble_eq_true rfl) dX10_isSound_17 ⟨Nat.le_refl _, Nat.le_refl _⟩) (fun _ _ h => cw_tr Bh_2.2.2 h.1 (by decide)) rfl (fun rh_5 αh_5 Hh_5 Lh_5 ph_5 Bh_5 => ?_)
    have zh_5 := ph_5.2
    exact q_zret C Bh_5 hr hlk (nz_z zh_5) ⟨Bh_5.2.2, zh_5⟩ dX10_isSound_20
  ·
    have kbh_2 : hp_K α bh_2 = 3 := cw_k' Bh_2.2.2 (ph_2.2 bh_2 rfl)
    refine lv_aload_n hx hb dX10_isSound_9 rfl (lv_at hl 1 rfl) (hp_n (n := 10) rfl ?_)
    refine q_geti (κ := 2) (k := 1) (φ := 101) (pc' := 13) C Bh_2 (cw_k Bh_2.2.2 k1) fl_X10_131 rfl rfl rfl dX10_isSound_10 rfl (fun x_6 ex_6 => ?_)
    refine lv_aload_n hx hb dX10_isSound_13 rfl (lv_at hl 1 rfl) (hp_n (n := 14) rfl ?_)
    refine q_geti (κ := 2) (k := 2) (φ := 102) (pc' := 17) C Bh_2 (cw_k Bh_2.2.2 k1) fl_X10_134 rfl rfl rfl dX10_isSound_14 rfl (fun x_7 ex_7 => ?_)
    refine q_ci (pc' := 20) Bh_2 (hp_runV (As := [va_rf (some bh_2), .int x_6, .int x_7]) (rest := []) C Bh_2 (t_X10_hasHead Γ l α Bh_2.2.2.1 a0 (cw_k Bh_2.2.2 k0) (some bh_2) (fun b h => by cases h; exact (cw_k Bh_2.2.2 kbh_2)) x_6 x_7) lb_X10_hasHead lv_X10_hasHead lk_X10_180 (cw_k Bh_2.2.2 k0) rfl (by decide) rfl hl.1 rfl (Nat.le_of_ble_eq_true rfl) dX10_isSound_17 ⟨Nat.le_refl _, Nat.le_refl _⟩) (fun _ _ h => cw_tr Bh_2.2.2 h.1 (by decide)) rfl (fun rh_8 αh_8 Hh_8 Lh_8 ph_8 Bh_8 => ?_)
    have zh_8 := ph_8.2
    exact q_zret C Bh_8 hr hlk (nz_z zh_8) ⟨Bh_8.2.2, zh_8⟩ dX10_isSound_20
abbrev w_X10_sickBits : cw_W := ([301], [], [20, 33], [])
set_option maxRecDepth 100000 in
set_option maxHeartbeats 4000000 in
theorem t_X10_sickBits (Γ : hp_G) (l : Launch) (α : hp_T) (g : GC α) (a0 : Nat) (k0 : hp_K α a0 = 11) (a1 : Nat) (k1 : hp_K α a1 = 2) (a2 : Nat) (k2 : hp_K α a2 = 6) : Met l yX10_sickBits (hp_ws yX10_sickBits cX10_sickBits 5 (some .int)) (hp_rm 3 0 0) (hp_Pc Γ α [.ref a0, .ref a1, .ref a2]) (hp_Qi Γ (fun r β => cw w_X10_sickBits α β)) 0 0 (hp_A Γ) := by
  refine hp_start (by decide) ?_
  intro p e s m below meth c C hr hlk B0 hnm
  have C : hp_C Γ p m c cX10_sickBits 5 s ([.ref a0, .ref a1, .ref a2] : List Value).toArray RX10 := C
  have hx := C.1.1
  have hb := C.1.2.1
  have hown := C.1.2.2.2.1
  have hts := C.1.2.2.2.2
  have B : hp_B Γ (cw w_X10_sickBits) s α α s.heap [] := ⟨B0.1, B0.2.1, cw_rf g⟩
  have lit0 : (0 : Int32).toInt = 0 := by decide
  have lit1 : (1 : Int32).toInt = 1 := by decide
  have lit31 : (31 : Int32).toInt = 31 := by decide
  have hl := lv_entry ([.ref a0, .ref a1, .ref a2]) (n := 5) (Nat.le_of_ble_eq_true rfl)
  show W p l e (hp_rm 3 0 0) s m ([.ref a0, .ref a1, .ref a2] : List Value).toArray below meth c s.heap [] 0 0 (MQ below (hp_Qi Γ (fun r β => cw w_X10_sickBits α β)) ([.ref a0, .ref a1, .ref a2] : List Value).toArray s 0 0 (hp_A Γ)) (entryFrame m ([.ref a0, .ref a1, .ref a2] : List Value).toArray 5)
  rw [lg_entry_eq]
  generalize (lg_sl ([.ref a0, .ref a1, .ref a2]) ++ List.replicate (5 - (lg_sl ([.ref a0, .ref a1, .ref a2])).length) Slot.unset).toArray = ls at hl ⊢
  have hl : lv_has ls 5 [(0, .ref a0), (1, .ref a1), (2, .ref a2)] := hl
  refine lv_aload_n hx hb dX10_sickBits_0 rfl (lv_at hl 0 rfl) (hp_n (n := 1) rfl ?_)
  refine lv_aload_n hx hb dX10_sickBits_1 rfl (lv_at hl 0 rfl) (hp_n (n := 2) rfl ?_)
  refine lv_aload_n hx hb dX10_sickBits_2 rfl (lv_at hl 1 rfl) (hp_n (n := 3) rfl ?_)
  refine q_geti (κ := 2) (k := 0) (φ := 100) (pc' := 6) C B (cw_k B.2.2 k1) fl_X10_128 rfl rfl rfl dX10_sickBits_3 rfl (fun x_1 ex_1 => ?_)
  refine q_cq (pc' := 9) B (hp_runV (As := [.int x_1]) (rest := [.ref a0]) C B (t_X10_logAt Γ l α B.2.2.1 a0 (cw_k B.2.2 k0) x_1) lb_X10_logAt lv_X10_logAt lk_X10_64 (cw_k B.2.2 k0) rfl (by decide) rfl hl.1 rfl (Nat.le_of_ble_eq_true rfl) dX10_sickBits_6 ⟨Nat.le_refl _, Nat.le_refl _⟩) (fun _ _ h => by rw [h.1]; exact B.2.2) rfl (fun rh_2 αh_2 Hh_2 Lh_2 ph_2 Bh_2 => ?_)
  rw [ph_2.1] at Bh_2
  rcases rh_2 with _ | bh_2
  ·
    refine lv_aload_n hx hb dX10_sickBits_9 rfl (lv_at hl 1 rfl) (hp_n (n := 10) rfl ?_)
    refine q_geti (κ := 2) (k := 1) (φ := 101) (pc' := 13) C Bh_2 (cw_k Bh_2.2.2 k1) fl_X10_131 rfl rfl rfl dX10_sickBits_10 rfl (fun x_3 ex_3 => ?_)
    refine lv_aload_n hx hb dX10_sickBits_13 rfl (lv_at hl 2 rfl) (hp_n (n := 14) rfl ?_)
    refine q_cv (pc' := 17) Bh_2 (hp_runV (As := [va_rf none, .int x_3, .ref a2]) (rest := []) C Bh_2 (t_X10_peaksOf Γ l α Bh_2.2.2.1 a0 (cw_k Bh_2.2.2 k0) none (fun b h => by cases h) x_3 a2 (cw_k Bh_2.2.2 k2)) lb_X10_peaksOf lv_X10_peaksOf lk_X10_143 (cw_k Bh_2.2.2 k0) rfl (by decide) rfl hl.1 rfl (Nat.le_of_ble_eq_true rfl) dX10_sickBits_14 ⟨Nat.le_refl _, Nat.le_refl _⟩) (fun _ h => cw_tr Bh_2.2.2 h (by decide)) rfl (fun αh_4 Hh_4 Lh_4 ph_4 Bh_4 => ?_)
    refine lv_iconst (v := 0) hx hb dX10_sickBits_17 (by decide) (hp_n (n := 18) rfl ?_)
    refine lv_istore_n (lv' := [(3, .int 0), (0, .ref a0), (1, .ref a1), (2, .ref a2)]) hx hb dX10_sickBits_18 rfl hl (by decide) rfl (fun ls hl => hp_n (n := 19) rfl ?_)
    refine lv_iconst (v := 0) hx hb dX10_sickBits_19 (by decide) (hp_n (n := 20) rfl ?_)
    have J22 : ∀ (nq : Nat) (Hh_5 : Heap) (Lh_5 : List Loc) (Bh_5 : hp_B Γ (cw w_X10_sickBits) s α αh_4 Hh_5 Lh_5) (v3_h_5 : Int32) (v4_h_5 : Int32) (ih_5_0 : 0 ≤ v4_h_5.toInt) (ls : Array Slot) (hl : lv_has ls 5 [(1, .ref a1), (2, .ref a2), (3, .int v3_h_5), (4, .int v4_h_5)]) (hmu22 : (2147483647 - v4_h_5.toInt).toNat = nq), W p l e (hp_rm 3 0 0) s m ([.ref a0, .ref a1, .ref a2] : List Value).toArray below meth c Hh_5 Lh_5 0 0 (MQ below (hp_Qi Γ (fun r β => cw w_X10_sickBits α β)) ([.ref a0, .ref a1, .ref a2] : List Value).toArray s 0 0 (hp_A Γ)) (F0 m 22 ls []) := by
      intro nq
      induction nq using Nat.strongRecOn with
      | ind nq ih22 =>
      intro Hh_5 Lh_5 Bh_5 v3_h_5 v4_h_5 ih_5_0 ls hl hmu22
      have inv22_0 := ih_5_0
      refine lv_iload hx hb dX10_sickBits_22 (lv_at hl 3 rfl) (hp_n (n := 24) rfl ?_)
      refine lv_aload_n hx hb dX10_sickBits_24 rfl (lv_at hl 1 rfl) (hp_n (n := 25) rfl ?_)
      refine q_geti (κ := 6) (k := 1) (φ := 301) (pc' := 28) C Bh_5 (cw_k Bh_5.2.2 k2) fl_X10_184 rfl rfl rfl dX10_sickBits_25 rfl (fun x_6 ex_6 => ?_)
      refine lv_icmp_ge (tgt := 69) hx hb dX10_sickBits_28 (by decide) (fun c_7 => ?_) (fun c_7 => hp_n (n := 31) rfl ?_)
      ·
        have jc_7 := il_le c_7
        refine lv_iload_n hx hb dX10_sickBits_69 rfl (lv_at hl 2 rfl) (hp_n (n := 70) rfl ?_)
        exact q_iret C Bh_5 hr hlk Bh_5.2.2 dX10_sickBits_70
      ·
        have jc_7 := il_nle c_7
        refine lv_iload hx hb dX10_sickBits_31 (lv_at hl 3 rfl) (hp_n (n := 33) rfl ?_)
        refine lv_bipush (v := 31) hx hb dX10_sickBits_33 (by decide) (hp_n (n := 35) rfl ?_)
        refine lv_icmp_ge (tgt := 69) hx hb dX10_sickBits_35 (by decide) (fun c_8 => ?_) (fun c_8 => hp_n (n := 38) rfl ?_)
        ·
          have jc_8 := il_le c_8
          refine lv_iload_n hx hb dX10_sickBits_69 rfl (lv_at hl 2 rfl) (hp_n (n := 70) rfl ?_)
          exact q_iret C Bh_5 hr hlk Bh_5.2.2 dX10_sickBits_70
        ·
          have jc_8 := il_nle c_8
          refine lv_aload_n hx hb dX10_sickBits_38 rfl (lv_at hl 1 rfl) (hp_n (n := 39) rfl ?_)
          refine lv_iload hx hb dX10_sickBits_39 (lv_at hl 3 rfl) (hp_n (n := 41) rfl ?_)
          refine q_ci (pc' := 44) Bh_5 (hp_runV (As := [.int v4_h_5]) (rest := []) C Bh_5 (t_X5_at Γ l αh_4 Bh_5.2.2.1 a2 (cw_k Bh_5.2.2 k2) v4_h_5) lb_X5_at lv_X5_at lk_X10_185 (cw_k Bh_5.2.2 k2) rfl (by decide) rfl hl.1 rfl (Nat.le_of_ble_eq_true rfl) dX10_sickBits_41 ⟨Nat.le_refl _, Nat.le_refl _⟩) (fun _ _ h => by rw [h]; exact Bh_5.2.2) rfl (fun rh_9 αh_9 Hh_9 Lh_9 ph_9 Bh_9 => ?_)
          rw [ph_9] at Bh_9
          refine lv_aload_n hx hb dX10_sickBits_44 rfl (lv_at hl 0 rfl) (hp_n (n := 45) rfl ?_)
          refine q_getr (κ := 2) (k := 4) (φ := 104) (pc' := 48) C Bh_9 (cw_k Bh_9.2.2 k1) fl_X10_140 rfl rfl rfl (cw_r Bh_9.2.2 k1 rfl rfl (by decide) (by decide)) dX10_sickBits_45 rfl (fun b_10 eb_10 kb_10 => ?_)
          refine lv_iload hx hb dX10_sickBits_48 (lv_at hl 3 rfl) (hp_n (n := 50) rfl ?_)
          refine q_ci (pc' := 53) Bh_9 (hp_runV (As := [.int v4_h_5]) (rest := [.int rh_9]) C Bh_9 (t_X5_at Γ l αh_4 Bh_9.2.2.1 b_10 (cw_k Bh_9.2.2 kb_10) v4_h_5) lb_X5_at lv_X5_at lk_X10_185 (cw_k Bh_9.2.2 kb_10) rfl (by decide) rfl hl.1 rfl (Nat.le_of_ble_eq_true rfl) dX10_sickBits_50 ⟨Nat.le_refl _, Nat.le_refl _⟩) (fun _ _ h => by rw [h]; exact Bh_9.2.2) rfl (fun rh_11 αh_11 Hh_11 Lh_11 ph_11 Bh_11 => ?_)
          rw [ph_11] at Bh_11
          refine lv_icmp_eq (tgt := 63) hx hb dX10_sickBits_53 (by decide) (fun c_12 => ?_) (fun c_12 => hp_n (n := 56) rfl ?_)
          ·
            have jc_12 := il_eq c_12
            obtain ⟨x_13, ex_13⟩ : ∃ y : Int32, y = v4_h_5 + 1 := ⟨_, rfl⟩
            have qx_13 : x_13.toInt = v4_h_5.toInt + 1 := by have q0 := ib_hi x_6; have qa := ib_lo v4_h_5; rw [ex_13]; exact ii_add (by omega) (by omega)
            refine lv_iinc (v := x_13) (lv' := [(4, .int x_13), (1, .ref a1), (2, .ref a2), (3, .int v3_h_5)]) hx hb dX10_sickBits_63 hl (k := 3) rfl (by rw [ex_13]; rfl) (by decide) rfl (fun ls hl => hp_n (n := 66) rfl ?_)
            refine lv_goto (tgt := 22) hx hb dX10_sickBits_66 (by decide) ?_
            exact ih22 _ (by have q0 := ib_hi x_6; have q1 := ib_lo x_6; have qa := ib_hi v4_h_5; have qb := ib_lo v4_h_5; have qc : (v4_h_5 + 1).toInt = v4_h_5.toInt + (1 : Int32).toInt := ii_add (by omega) (by omega); rw [ex_13]; omega) Hh_11 Lh_11 Bh_11 v3_h_5 x_13 (by omega) ls (lv_sub hl [1, 2, 3, 0] rfl) rfl
          ·
            have jc_12 := il_ne c_12
            refine lv_iload_n hx hb dX10_sickBits_56 rfl (lv_at hl 2 rfl) (hp_n (n := 57) rfl ?_)
            refine lv_iconst (v := 1) hx hb dX10_sickBits_57 (by decide) (hp_n (n := 58) rfl ?_)
            refine lv_iload hx hb dX10_sickBits_58 (lv_at hl 3 rfl) (hp_n (n := 60) rfl ?_)
            refine lv_ishl hx hb dX10_sickBits_60 (hp_n (n := 61) rfl (lv_topi (fun x_14 ex_14 => ?_)))
            refine lv_ior hx hb dX10_sickBits_61 (hp_n (n := 62) rfl (lv_topi (fun x_15 ex_15 => ?_)))
            refine lv_istore_n (lv' := [(3, .int x_15), (1, .ref a1), (2, .ref a2), (4, .int v4_h_5)]) hx hb dX10_sickBits_62 rfl hl (by decide) rfl (fun ls hl => hp_n (n := 63) rfl ?_)
            obtain ⟨x_16, ex_16⟩ : ∃ y : Int32, y = v4_h_5 + 1 := ⟨_, rfl⟩
            have qx_16 : x_16.toInt = v4_h_5.toInt + 1 := by have q0 := ib_hi x_6; have qa := ib_lo v4_h_5; rw [ex_16]; exact ii_add (by omega) (by omega)
            refine lv_iinc (v := x_16) (lv' := [(4, .int x_16), (3, .int x_15), (1, .ref a1), (2, .ref a2)]) hx hb dX10_sickBits_63 hl (k := 3) rfl (by rw [ex_16]; rfl) (by decide) rfl (fun ls hl => hp_n (n := 66) rfl ?_)
            refine lv_goto (tgt := 22) hx hb dX10_sickBits_66 (by decide) ?_
            exact ih22 _ (by have q0 := ib_hi x_6; have q1 := ib_lo x_6; have qa := ib_hi v4_h_5; have qb := ib_lo v4_h_5; have qc : (v4_h_5 + 1).toInt = v4_h_5.toInt + (1 : Int32).toInt := ii_add (by omega) (by omega); rw [ex_16]; omega) Hh_11 Lh_11 Bh_11 x_15 x_16 (by omega) ls (lv_sub hl [2, 3, 1, 0] rfl) rfl
    refine lv_istore (lv' := [(4, .int 0), (3, .int 0), (0, .ref a0), (1, .ref a1), (2, .ref a2)]) hx hb dX10_sickBits_20 hl (by decide) rfl (fun ls hl => hp_n (n := 22) rfl ?_)
    exact J22 _ Hh_4 Lh_4 Bh_4 0 0 (by omega) ls (lv_sub hl [3, 4, 1, 0] rfl) rfl
  ·
    have kbh_2 : hp_K α bh_2 = 3 := cw_k' Bh_2.2.2 (ph_2.2 bh_2 rfl)
    refine lv_aload_n hx hb dX10_sickBits_9 rfl (lv_at hl 1 rfl) (hp_n (n := 10) rfl ?_)
    refine q_geti (κ := 2) (k := 1) (φ := 101) (pc' := 13) C Bh_2 (cw_k Bh_2.2.2 k1) fl_X10_131 rfl rfl rfl dX10_sickBits_10 rfl (fun x_17 ex_17 => ?_)
    refine lv_aload_n hx hb dX10_sickBits_13 rfl (lv_at hl 2 rfl) (hp_n (n := 14) rfl ?_)
    refine q_cv (pc' := 17) Bh_2 (hp_runV (As := [va_rf (some bh_2), .int x_17, .ref a2]) (rest := []) C Bh_2 (t_X10_peaksOf Γ l α Bh_2.2.2.1 a0 (cw_k Bh_2.2.2 k0) (some bh_2) (fun b h => by cases h; exact (cw_k Bh_2.2.2 kbh_2)) x_17 a2 (cw_k Bh_2.2.2 k2)) lb_X10_peaksOf lv_X10_peaksOf lk_X10_143 (cw_k Bh_2.2.2 k0) rfl (by decide) rfl hl.1 rfl (Nat.le_of_ble_eq_true rfl) dX10_sickBits_14 ⟨Nat.le_refl _, Nat.le_refl _⟩) (fun _ h => cw_tr Bh_2.2.2 h (by decide)) rfl (fun αh_18 Hh_18 Lh_18 ph_18 Bh_18 => ?_)
    refine lv_iconst (v := 0) hx hb dX10_sickBits_17 (by decide) (hp_n (n := 18) rfl ?_)
    refine lv_istore_n (lv' := [(3, .int 0), (0, .ref a0), (1, .ref a1), (2, .ref a2)]) hx hb dX10_sickBits_18 rfl hl (by decide) rfl (fun ls hl => hp_n (n := 19) rfl ?_)
    refine lv_iconst (v := 0) hx hb dX10_sickBits_19 (by decide) (hp_n (n := 20) rfl ?_)
    have J22 : ∀ (nq : Nat) (Hh_19 : Heap) (Lh_19 : List Loc) (Bh_19 : hp_B Γ (cw w_X10_sickBits) s α αh_18 Hh_19 Lh_19) (v3_h_19 : Int32) (v4_h_19 : Int32) (ih_19_0 : 0 ≤ v4_h_19.toInt) (ls : Array Slot) (hl : lv_has ls 5 [(1, .ref a1), (2, .ref a2), (3, .int v3_h_19), (4, .int v4_h_19)]) (hmu22 : (2147483647 - v4_h_19.toInt).toNat = nq), W p l e (hp_rm 3 0 0) s m ([.ref a0, .ref a1, .ref a2] : List Value).toArray below meth c Hh_19 Lh_19 0 0 (MQ below (hp_Qi Γ (fun r β => cw w_X10_sickBits α β)) ([.ref a0, .ref a1, .ref a2] : List Value).toArray s 0 0 (hp_A Γ)) (F0 m 22 ls []) := by
      intro nq
      induction nq using Nat.strongRecOn with
      | ind nq ih22 =>
      intro Hh_19 Lh_19 Bh_19 v3_h_19 v4_h_19 ih_19_0 ls hl hmu22
      have inv22_0 := ih_19_0
      refine lv_iload hx hb dX10_sickBits_22 (lv_at hl 3 rfl) (hp_n (n := 24) rfl ?_)
      refine lv_aload_n hx hb dX10_sickBits_24 rfl (lv_at hl 1 rfl) (hp_n (n := 25) rfl ?_)
      refine q_geti (κ := 6) (k := 1) (φ := 301) (pc' := 28) C Bh_19 (cw_k Bh_19.2.2 k2) fl_X10_184 rfl rfl rfl dX10_sickBits_25 rfl (fun x_20 ex_20 => ?_)
      refine lv_icmp_ge (tgt := 69) hx hb dX10_sickBits_28 (by decide) (fun c_21 => ?_) (fun c_21 => hp_n (n := 31) rfl ?_)
      ·
        have jc_21 := il_le c_21
        refine lv_iload_n hx hb dX10_sickBits_69 rfl (lv_at hl 2 rfl) (hp_n (n := 70) rfl ?_)
        exact q_iret C Bh_19 hr hlk Bh_19.2.2 dX10_sickBits_70
      ·
        have jc_21 := il_nle c_21
        refine lv_iload hx hb dX10_sickBits_31 (lv_at hl 3 rfl) (hp_n (n := 33) rfl ?_)
        refine lv_bipush (v := 31) hx hb dX10_sickBits_33 (by decide) (hp_n (n := 35) rfl ?_)
        refine lv_icmp_ge (tgt := 69) hx hb dX10_sickBits_35 (by decide) (fun c_22 => ?_) (fun c_22 => hp_n (n := 38) rfl ?_)
        ·
          have jc_22 := il_le c_22
          refine lv_iload_n hx hb dX10_sickBits_69 rfl (lv_at hl 2 rfl) (hp_n (n := 70) rfl ?_)
          exact q_iret C Bh_19 hr hlk Bh_19.2.2 dX10_sickBits_70
        ·
          have jc_22 := il_nle c_22
          refine lv_aload_n hx hb dX10_sickBits_38 rfl (lv_at hl 1 rfl) (hp_n (n := 39) rfl ?_)
          refine lv_iload hx hb dX10_sickBits_39 (lv_at hl 3 rfl) (hp_n (n := 41) rfl ?_)
          refine q_ci (pc' := 44) Bh_19 (hp_runV (As := [.int v4_h_19]) (rest := []) C Bh_19 (t_X5_at Γ l αh_18 Bh_19.2.2.1 a2 (cw_k Bh_19.2.2 k2) v4_h_19) lb_X5_at lv_X5_at lk_X10_185 (cw_k Bh_19.2.2 k2) rfl (by decide) rfl hl.1 rfl (Nat.le_of_ble_eq_true rfl) dX10_sickBits_41 ⟨Nat.le_refl _, Nat.le_refl _⟩) (fun _ _ h => by rw [h]; exact Bh_19.2.2) rfl (fun rh_23 αh_23 Hh_23 Lh_23 ph_23 Bh_23 => ?_)
          rw [ph_23] at Bh_23
          refine lv_aload_n hx hb dX10_sickBits_44 rfl (lv_at hl 0 rfl) (hp_n (n := 45) rfl ?_)
          refine q_getr (κ := 2) (k := 4) (φ := 104) (pc' := 48) C Bh_23 (cw_k Bh_23.2.2 k1) fl_X10_140 rfl rfl rfl (cw_r Bh_23.2.2 k1 rfl rfl (by decide) (by decide)) dX10_sickBits_45 rfl (fun b_24 eb_24 kb_24 => ?_)
          refine lv_iload hx hb dX10_sickBits_48 (lv_at hl 3 rfl) (hp_n (n := 50) rfl ?_)
          refine q_ci (pc' := 53) Bh_23 (hp_runV (As := [.int v4_h_19]) (rest := [.int rh_23]) C Bh_23 (t_X5_at Γ l αh_18 Bh_23.2.2.1 b_24 (cw_k Bh_23.2.2 kb_24) v4_h_19) lb_X5_at lv_X5_at lk_X10_185 (cw_k Bh_23.2.2 kb_24) rfl (by decide) rfl hl.1 rfl (Nat.le_of_ble_eq_true rfl) dX10_sickBits_50 ⟨Nat.le_refl _, Nat.le_refl _⟩) (fun _ _ h => by rw [h]; exact Bh_23.2.2) rfl (fun rh_25 αh_25 Hh_25 Lh_25 ph_25 Bh_25 => ?_)
          rw [ph_25] at Bh_25
          refine lv_icmp_eq (tgt := 63) hx hb dX10_sickBits_53 (by decide) (fun c_26 => ?_) (fun c_26 => hp_n (n := 56) rfl ?_)
          ·
            have jc_26 := il_eq c_26
            obtain ⟨x_27, ex_27⟩ : ∃ y : Int32, y = v4_h_19 + 1 := ⟨_, rfl⟩
            have qx_27 : x_27.toInt = v4_h_19.toInt + 1 := by have q0 := ib_hi x_20; have qa := ib_lo v4_h_19; rw [ex_27]; exact ii_add (by omega) (by omega)
            refine lv_iinc (v := x_27) (lv' := [(4, .int x_27), (1, .ref a1), (2, .ref a2), (3, .int v3_h_19)]) hx hb dX10_sickBits_63 hl (k := 3) rfl (by rw [ex_27]; rfl) (by decide) rfl (fun ls hl => hp_n (n := 66) rfl ?_)
            refine lv_goto (tgt := 22) hx hb dX10_sickBits_66 (by decide) ?_
            exact ih22 _ (by have q0 := ib_hi x_20; have q1 := ib_lo x_20; have qa := ib_hi v4_h_19; have qb := ib_lo v4_h_19; have qc : (v4_h_19 + 1).toInt = v4_h_19.toInt + (1 : Int32).toInt := ii_add (by omega) (by omega); rw [ex_27]; omega) Hh_25 Lh_25 Bh_25 v3_h_19 x_27 (by omega) ls (lv_sub hl [1, 2, 3, 0] rfl) rfl
          ·
            have jc_26 := il_ne c_26
            refine lv_iload_n hx hb dX10_sickBits_56 rfl (lv_at hl 2 rfl) (hp_n (n := 57) rfl ?_)
            refine lv_iconst (v := 1) hx hb dX10_sickBits_57 (by decide) (hp_n (n := 58) rfl ?_)
            refine lv_iload hx hb dX10_sickBits_58 (lv_at hl 3 rfl) (hp_n (n := 60) rfl ?_)
            refine lv_ishl hx hb dX10_sickBits_60 (hp_n (n := 61) rfl (lv_topi (fun x_28 ex_28 => ?_)))
            refine lv_ior hx hb dX10_sickBits_61 (hp_n (n := 62) rfl (lv_topi (fun x_29 ex_29 => ?_)))
            refine lv_istore_n (lv' := [(3, .int x_29), (1, .ref a1), (2, .ref a2), (4, .int v4_h_19)]) hx hb dX10_sickBits_62 rfl hl (by decide) rfl (fun ls hl => hp_n (n := 63) rfl ?_)
            obtain ⟨x_30, ex_30⟩ : ∃ y : Int32, y = v4_h_19 + 1 := ⟨_, rfl⟩
            have qx_30 : x_30.toInt = v4_h_19.toInt + 1 := by have q0 := ib_hi x_20; have qa := ib_lo v4_h_19; rw [ex_30]; exact ii_add (by omega) (by omega)
            refine lv_iinc (v := x_30) (lv' := [(4, .int x_30), (3, .int x_29), (1, .ref a1), (2, .ref a2)]) hx hb dX10_sickBits_63 hl (k := 3) rfl (by rw [ex_30]; rfl) (by decide) rfl (fun ls hl => hp_n (n := 66) rfl ?_)
            refine lv_goto (tgt := 22) hx hb dX10_sickBits_66 (by decide) ?_
            exact ih22 _ (by have q0 := ib_hi x_20; have q1 := ib_lo x_20; have qa := ib_hi v4_h_19; have qb := ib_lo v4_h_19; have qc : (v4_h_19 + 1).toInt = v4_h_19.toInt + (1 : Int32).toInt := ii_add (by omega) (by omega); rw [ex_30]; omega) Hh_25 Lh_25 Bh_25 x_29 x_30 (by omega) ls (lv_sub hl [2, 3, 1, 0] rfl) rfl
    refine lv_istore (lv' := [(4, .int 0), (3, .int 0), (0, .ref a0), (1, .ref a1), (2, .ref a2)]) hx hb dX10_sickBits_20 hl (by decide) rfl (fun ls hl => hp_n (n := 22) rfl ?_)
    exact J22 _ Hh_18 Lh_18 Bh_18 0 0 (by omega) ls (lv_sub hl [3, 4, 1, 0] rfl) rfl
abbrev w_X10_countUnsound : cw_W := ([], [], [33], [])
set_option maxRecDepth 100000 in
set_option maxHeartbeats 4000000 in
theorem t_X10_countUnsound (Γ : hp_G) (l : Launch) (α : hp_T) (g : GC α) (a0 : Nat) (k0 : hp_K α a0 = 11) (a1 : Int32) : Met l yX10_countUnsound (hp_ws yX10_countUnsound cX10_countUnsound 5 (some .int)) (hp_rm 5 0 0) (hp_Pc Γ α [.ref a0, .int a1]) (hp_Qi Γ (fun r β => cw w_X10_countUnsound α β)) 0 0 (hp_A Γ) := by
  refine hp_start (by decide) ?_
  intro p e s m below meth c C hr hlk B0 hnm
  have C : hp_C Γ p m c cX10_countUnsound 5 s ([.ref a0, .int a1] : List Value).toArray RX10 := C
  have hx := C.1.1
  have hb := C.1.2.1
  have hown := C.1.2.2.2.1
  have hts := C.1.2.2.2.2
  have B : hp_B Γ (cw w_X10_countUnsound) s α α s.heap [] := ⟨B0.1, B0.2.1, cw_rf g⟩
  have lit0 : (0 : Int32).toInt = 0 := by decide
  have lit1 : (1 : Int32).toInt = 1 := by decide
  have hl := lv_entry ([.ref a0, .int a1]) (n := 5) (Nat.le_of_ble_eq_true rfl)
  show W p l e (hp_rm 5 0 0) s m ([.ref a0, .int a1] : List Value).toArray below meth c s.heap [] 0 0 (MQ below (hp_Qi Γ (fun r β => cw w_X10_countUnsound α β)) ([.ref a0, .int a1] : List Value).toArray s 0 0 (hp_A Γ)) (entryFrame m ([.ref a0, .int a1] : List Value).toArray 5)
  rw [lg_entry_eq]
  generalize (lg_sl ([.ref a0, .int a1]) ++ List.replicate (5 - (lg_sl ([.ref a0, .int a1])).length) Slot.unset).toArray = ls at hl ⊢
  have hl : lv_has ls 5 [(0, .ref a0), (1, .int a1)] := hl
  refine lv_iconst (v := 0) hx hb dX10_countUnsound_0 (by decide) (hp_n (n := 1) rfl ?_)
  refine lv_istore_n (lv' := [(2, .int 0), (0, .ref a0), (1, .int a1)]) hx hb dX10_countUnsound_1 rfl hl (by decide) rfl (fun ls hl => hp_n (n := 2) rfl ?_)
  refine lv_iconst (v := 0) hx hb dX10_countUnsound_2 (by decide) (hp_n (n := 3) rfl ?_)
  have J4 : ∀ (nq : Nat) (αh_1 : hp_T) (Hh_1 : Heap) (Lh_1 : List Loc) (Bh_1 : hp_B Γ (cw w_X10_countUnsound) s α αh_1 Hh_1 Lh_1) (v2_h_1 : Int32) (v3_h_1 : Int32) (ih_1_0 : 0 ≤ v3_h_1.toInt) (ls : Array Slot) (hl : lv_has ls 5 [(0, .ref a0), (1, .int a1), (2, .int v2_h_1), (3, .int v3_h_1)]) (hmu4 : (2147483647 - v3_h_1.toInt).toNat = nq), W p l e (hp_rm 5 0 0) s m ([.ref a0, .int a1] : List Value).toArray below meth c Hh_1 Lh_1 0 0 (MQ below (hp_Qi Γ (fun r β => cw w_X10_countUnsound α β)) ([.ref a0, .int a1] : List Value).toArray s 0 0 (hp_A Γ)) (F0 m 4 ls []) := by
    intro nq
    induction nq using Nat.strongRecOn with
    | ind nq ih4 =>
    intro αh_1 Hh_1 Lh_1 Bh_1 v2_h_1 v3_h_1 ih_1_0 ls hl hmu4
    have inv4_0 := ih_1_0
    refine lv_iload_n hx hb dX10_countUnsound_4 rfl (lv_at hl 3 rfl) (hp_n (n := 5) rfl ?_)
    refine lv_aload_n hx hb dX10_countUnsound_5 rfl (lv_at hl 0 rfl) (hp_n (n := 6) rfl ?_)
    refine q_geti (κ := 11) (k := 4) (φ := 554) (pc' := 9) C Bh_1 (cw_k Bh_1.2.2 k0) fl_X10_31 rfl rfl rfl dX10_countUnsound_6 rfl (fun x_2 ex_2 => ?_)
    refine lv_icmp_ge (tgt := 51) hx hb dX10_countUnsound_9 (by decide) (fun c_3 => ?_) (fun c_3 => hp_n (n := 12) rfl ?_)
    ·
      have jc_3 := il_le c_3
      refine lv_iload_n hx hb dX10_countUnsound_51 rfl (lv_at hl 2 rfl) (hp_n (n := 52) rfl ?_)
      exact q_iret C Bh_1 hr hlk Bh_1.2.2 dX10_countUnsound_52
    ·
      have jc_3 := il_nle c_3
      refine lv_aload_n hx hb dX10_countUnsound_12 rfl (lv_at hl 0 rfl) (hp_n (n := 13) rfl ?_)
      refine lv_iload_n hx hb dX10_countUnsound_13 rfl (lv_at hl 3 rfl) (hp_n (n := 14) rfl ?_)
      refine q_cq (pc' := 17) Bh_1 (hp_runV (As := [.int v3_h_1]) (rest := []) C Bh_1 (t_X10_frozenAt Γ l αh_1 Bh_1.2.2.1 a0 (cw_k Bh_1.2.2 k0) v3_h_1) lb_X10_frozenAt lv_X10_frozenAt lk_X10_188 (cw_k Bh_1.2.2 k0) rfl (by decide) rfl hl.1 rfl (Nat.le_of_ble_eq_true rfl) dX10_countUnsound_14 ⟨Nat.le_refl _, Nat.le_refl _⟩) (fun _ _ h => by rw [h.1]; exact Bh_1.2.2) rfl (fun rh_4 αh_4 Hh_4 Lh_4 ph_4 Bh_4 => ?_)
      rw [ph_4.1] at Bh_4
      rcases rh_4 with _ | bh_4
      ·
        refine lv_astoreN (lv' := [(4, .null), (0, .ref a0), (1, .int a1), (2, .int v2_h_1), (3, .int v3_h_1)]) hx hb dX10_countUnsound_17 hl (by decide) rfl (fun ls hl => hp_n (n := 19) rfl ?_)
        refine lv_aloadN hx hb dX10_countUnsound_19 (lv_at hl 0 rfl) (hp_n (n := 21) rfl ?_)
        refine lv_ifnullN (tgt := 45) hx hb dX10_countUnsound_21 (by decide) ?_
        obtain ⟨x_5, ex_5⟩ : ∃ y : Int32, y = v3_h_1 + 1 := ⟨_, rfl⟩
        have qx_5 : x_5.toInt = v3_h_1.toInt + 1 := by have q0 := ib_hi x_2; have qa := ib_lo v3_h_1; rw [ex_5]; exact ii_add (by omega) (by omega)
        refine lv_iinc (v := x_5) (lv' := [(3, .int x_5), (4, .null), (0, .ref a0), (1, .int a1), (2, .int v2_h_1)]) hx hb dX10_countUnsound_45 hl (k := 4) rfl (by rw [ex_5]; rfl) (by decide) rfl (fun ls hl => hp_n (n := 48) rfl ?_)
        refine lv_goto (tgt := 4) hx hb dX10_countUnsound_48 (by decide) ?_
        exact ih4 _ (by have q0 := ib_hi x_2; have q1 := ib_lo x_2; have qa := ib_hi v3_h_1; have qb := ib_lo v3_h_1; have qc : (v3_h_1 + 1).toInt = v3_h_1.toInt + (1 : Int32).toInt := ii_add (by omega) (by omega); rw [ex_5]; omega) αh_1 Hh_4 Lh_4 Bh_4 v2_h_1 x_5 (by omega) ls (lv_sub hl [2, 3, 4, 0] rfl) rfl
      ·
        have kbh_4 : hp_K α bh_4 = 2 := cw_k' Bh_4.2.2 (ph_4.2 bh_4 rfl)
        refine lv_astore (lv' := [(4, .ref bh_4), (0, .ref a0), (1, .int a1), (2, .int v2_h_1), (3, .int v3_h_1)]) hx hb dX10_countUnsound_17 hl (by decide) rfl (fun ls hl => hp_n (n := 19) rfl ?_)
        refine lv_aload hx hb dX10_countUnsound_19 (lv_at hl 0 rfl) (hp_n (n := 21) rfl ?_)
        refine lv_ifnull hx hb dX10_countUnsound_21 (hp_n (n := 24) rfl ?_)
        refine lv_aload hx hb dX10_countUnsound_24 (lv_at hl 0 rfl) (hp_n (n := 26) rfl ?_)
        refine q_geti (κ := 2) (k := 0) (φ := 100) (pc' := 29) C Bh_4 (cw_k Bh_4.2.2 kbh_4) fl_X10_128 rfl rfl rfl dX10_countUnsound_26 rfl (fun x_6 ex_6 => ?_)
        refine lv_iload_n hx hb dX10_countUnsound_29 rfl (lv_at hl 2 rfl) (hp_n (n := 30) rfl ?_)
        refine lv_icmp_ne (tgt := 45) hx hb dX10_countUnsound_30 (by decide) (fun c_7 => ?_) (fun c_7 => hp_n (n := 33) rfl ?_)
        ·
          have jc_7 := il_ne c_7
          obtain ⟨x_8, ex_8⟩ : ∃ y : Int32, y = v3_h_1 + 1 := ⟨_, rfl⟩
          have qx_8 : x_8.toInt = v3_h_1.toInt + 1 := by have q0 := ib_hi x_2; have qa := ib_lo v3_h_1; rw [ex_8]; exact ii_add (by omega) (by omega)
          refine lv_iinc (v := x_8) (lv' := [(3, .int x_8), (4, .ref bh_4), (0, .ref a0), (1, .int a1), (2, .int v2_h_1)]) hx hb dX10_countUnsound_45 hl (k := 4) rfl (by rw [ex_8]; rfl) (by decide) rfl (fun ls hl => hp_n (n := 48) rfl ?_)
          refine lv_goto (tgt := 4) hx hb dX10_countUnsound_48 (by decide) ?_
          exact ih4 _ (by have q0 := ib_hi x_2; have q1 := ib_lo x_2; have qa := ib_hi v3_h_1; have qb := ib_lo v3_h_1; have qc : (v3_h_1 + 1).toInt = v3_h_1.toInt + (1 : Int32).toInt := ii_add (by omega) (by omega); rw [ex_8]; omega) αh_1 Hh_4 Lh_4 Bh_4 v2_h_1 x_8 (by omega) ls (lv_sub hl [2, 3, 4, 0] rfl) rfl
        ·
          have jc_7 := il_eq c_7
          refine lv_aload_n hx hb dX10_countUnsound_33 rfl (lv_at hl 1 rfl) (hp_n (n := 34) rfl ?_)
          refine lv_aload hx hb dX10_countUnsound_34 (lv_at hl 0 rfl) (hp_n (n := 36) rfl ?_)
          refine q_ci (pc' := 39) Bh_4 (hp_runV (As := [.ref bh_4]) (rest := []) C Bh_4 (t_X10_isSound Γ l αh_1 Bh_4.2.2.1 a0 (cw_k Bh_4.2.2 k0) bh_4 (cw_k Bh_4.2.2 kbh_4)) lb_X10_isSound lv_X10_isSound lk_X10_192 (cw_k Bh_4.2.2 k0) rfl (by decide) rfl hl.1 rfl (Nat.le_of_ble_eq_true rfl) dX10_countUnsound_36 ⟨Nat.le_refl _, Nat.le_refl _⟩) (fun _ _ h => cw_tr Bh_4.2.2 h.1 (by decide)) rfl (fun rh_9 αh_9 Hh_9 Lh_9 ph_9 Bh_9 => ?_)
          have zh_9 := ph_9.2
          refine lv_if_ne (tgt := 45) hx hb dX10_countUnsound_39 (by decide) (fun c_10 => ?_) (fun c_10 => hp_n (n := 42) rfl ?_)
          ·
            have jc_10 := il_ne c_10
            obtain ⟨x_11, ex_11⟩ : ∃ y : Int32, y = v3_h_1 + 1 := ⟨_, rfl⟩
            have qx_11 : x_11.toInt = v3_h_1.toInt + 1 := by have q0 := ib_hi x_2; have qa := ib_lo v3_h_1; rw [ex_11]; exact ii_add (by omega) (by omega)
            refine lv_iinc (v := x_11) (lv' := [(3, .int x_11), (4, .ref bh_4), (0, .ref a0), (1, .int a1), (2, .int v2_h_1)]) hx hb dX10_countUnsound_45 hl (k := 4) rfl (by rw [ex_11]; rfl) (by decide) rfl (fun ls hl => hp_n (n := 48) rfl ?_)
            refine lv_goto (tgt := 4) hx hb dX10_countUnsound_48 (by decide) ?_
            exact ih4 _ (by have q0 := ib_hi x_2; have q1 := ib_lo x_2; have qa := ib_hi v3_h_1; have qb := ib_lo v3_h_1; have qc : (v3_h_1 + 1).toInt = v3_h_1.toInt + (1 : Int32).toInt := ii_add (by omega) (by omega); rw [ex_11]; omega) αh_9 Hh_9 Lh_9 Bh_9 v2_h_1 x_11 (by omega) ls (lv_sub hl [2, 3, 4, 0] rfl) rfl
          ·
            have jc_10 := il_eq c_10
            obtain ⟨x_12, ex_12⟩ : ∃ y : Int32, y = v2_h_1 + 1 := ⟨_, rfl⟩
            refine lv_iinc (v := x_12) (lv' := [(2, .int x_12), (4, .ref bh_4), (0, .ref a0), (1, .int a1), (3, .int v3_h_1)]) hx hb dX10_countUnsound_42 hl (k := 3) rfl (by rw [ex_12]; rfl) (by decide) rfl (fun ls hl => hp_n (n := 45) rfl ?_)
            obtain ⟨x_13, ex_13⟩ : ∃ y : Int32, y = v3_h_1 + 1 := ⟨_, rfl⟩
            have qx_13 : x_13.toInt = v3_h_1.toInt + 1 := by have q0 := ib_hi x_2; have qa := ib_lo v3_h_1; rw [ex_13]; exact ii_add (by omega) (by omega)
            refine lv_iinc (v := x_13) (lv' := [(3, .int x_13), (2, .int x_12), (4, .ref bh_4), (0, .ref a0), (1, .int a1)]) hx hb dX10_countUnsound_45 hl (k := 4) rfl (by rw [ex_13]; rfl) (by decide) rfl (fun ls hl => hp_n (n := 48) rfl ?_)
            refine lv_goto (tgt := 4) hx hb dX10_countUnsound_48 (by decide) ?_
            exact ih4 _ (by have q0 := ib_hi x_2; have q1 := ib_lo x_2; have qa := ib_hi v3_h_1; have qb := ib_lo v3_h_1; have qc : (v3_h_1 + 1).toInt = v3_h_1.toInt + (1 : Int32).toInt := ii_add (by omega) (by omega); rw [ex_13]; omega) αh_9 Hh_9 Lh_9 Bh_9 x_12 x_13 (by omega) ls (lv_sub hl [3, 4, 1, 0] rfl) rfl
  refine lv_istore_n (lv' := [(3, .int 0), (2, .int 0), (0, .ref a0), (1, .int a1)]) hx hb dX10_countUnsound_3 rfl hl (by decide) rfl (fun ls hl => hp_n (n := 4) rfl ?_)
  exact J4 _ α s.heap [] B 0 0 (by omega) ls (lv_sub hl [2, 3, 1, 0] rfl) rfl
abbrev w_X10_leastUnsound : cw_W := ([], [], [33], [])
set_option maxRecDepth 100000 in
set_option maxHeartbeats 4000000 in
theorem t_X10_leastUnsound (Γ : hp_G) (l : Launch) (α : hp_T) (g : GC α) (a0 : Nat) (k0 : hp_K α a0 = 11) (a1 : Int32) : Met l yX10_leastUnsound (hp_ws yX10_leastUnsound cX10_leastUnsound 5 (some .int)) (hp_rm 5 0 0) (hp_Pc Γ α [.ref a0, .int a1]) (hp_Qi Γ (fun r β => cw w_X10_leastUnsound α β)) 0 0 (hp_A Γ) := by
  refine hp_start (by decide) ?_
  intro p e s m below meth c C hr hlk B0 hnm
  have C : hp_C Γ p m c cX10_leastUnsound 5 s ([.ref a0, .int a1] : List Value).toArray RX10 := C
  have hx := C.1.1
  have hb := C.1.2.1
  have hown := C.1.2.2.2.1
  have hts := C.1.2.2.2.2
  have B : hp_B Γ (cw w_X10_leastUnsound) s α α s.heap [] := ⟨B0.1, B0.2.1, cw_rf g⟩
  have litm1 : ((-1) : Int32).toInt = (-1) := by decide
  have lit0 : (0 : Int32).toInt = 0 := by decide
  have lit1 : (1 : Int32).toInt = 1 := by decide
  have hl := lv_entry ([.ref a0, .int a1]) (n := 5) (Nat.le_of_ble_eq_true rfl)
  show W p l e (hp_rm 5 0 0) s m ([.ref a0, .int a1] : List Value).toArray below meth c s.heap [] 0 0 (MQ below (hp_Qi Γ (fun r β => cw w_X10_leastUnsound α β)) ([.ref a0, .int a1] : List Value).toArray s 0 0 (hp_A Γ)) (entryFrame m ([.ref a0, .int a1] : List Value).toArray 5)
  rw [lg_entry_eq]
  generalize (lg_sl ([.ref a0, .int a1]) ++ List.replicate (5 - (lg_sl ([.ref a0, .int a1])).length) Slot.unset).toArray = ls at hl ⊢
  have hl : lv_has ls 5 [(0, .ref a0), (1, .int a1)] := hl
  refine lv_iconst (v := (-1)) hx hb dX10_leastUnsound_0 (by decide) (hp_n (n := 1) rfl ?_)
  refine lv_istore_n (lv' := [(2, .int (-1)), (0, .ref a0), (1, .int a1)]) hx hb dX10_leastUnsound_1 rfl hl (by decide) rfl (fun ls hl => hp_n (n := 2) rfl ?_)
  refine lv_iconst (v := 0) hx hb dX10_leastUnsound_2 (by decide) (hp_n (n := 3) rfl ?_)
  have J4 : ∀ (nq : Nat) (αh_1 : hp_T) (Hh_1 : Heap) (Lh_1 : List Loc) (Bh_1 : hp_B Γ (cw w_X10_leastUnsound) s α αh_1 Hh_1 Lh_1) (v2_h_1 : Int32) (v3_h_1 : Int32) (ih_1_0 : 0 ≤ v3_h_1.toInt) (ls : Array Slot) (hl : lv_has ls 5 [(0, .ref a0), (1, .int a1), (2, .int v2_h_1), (3, .int v3_h_1)]) (hmu4 : (2147483647 - v3_h_1.toInt).toNat = nq), W p l e (hp_rm 5 0 0) s m ([.ref a0, .int a1] : List Value).toArray below meth c Hh_1 Lh_1 0 0 (MQ below (hp_Qi Γ (fun r β => cw w_X10_leastUnsound α β)) ([.ref a0, .int a1] : List Value).toArray s 0 0 (hp_A Γ)) (F0 m 4 ls []) := by
    intro nq
    induction nq using Nat.strongRecOn with
    | ind nq ih4 =>
    intro αh_1 Hh_1 Lh_1 Bh_1 v2_h_1 v3_h_1 ih_1_0 ls hl hmu4
    have inv4_0 := ih_1_0
    refine lv_iload_n hx hb dX10_leastUnsound_4 rfl (lv_at hl 3 rfl) (hp_n (n := 5) rfl ?_)
    refine lv_aload_n hx hb dX10_leastUnsound_5 rfl (lv_at hl 0 rfl) (hp_n (n := 6) rfl ?_)
    refine q_geti (κ := 11) (k := 4) (φ := 554) (pc' := 9) C Bh_1 (cw_k Bh_1.2.2 k0) fl_X10_31 rfl rfl rfl dX10_leastUnsound_6 rfl (fun x_2 ex_2 => ?_)
    refine lv_icmp_ge (tgt := 68) hx hb dX10_leastUnsound_9 (by decide) (fun c_3 => ?_) (fun c_3 => hp_n (n := 12) rfl ?_)
    ·
      have jc_3 := il_le c_3
      refine lv_iload_n hx hb dX10_leastUnsound_68 rfl (lv_at hl 2 rfl) (hp_n (n := 69) rfl ?_)
      exact q_iret C Bh_1 hr hlk Bh_1.2.2 dX10_leastUnsound_69
    ·
      have jc_3 := il_nle c_3
      refine lv_aload_n hx hb dX10_leastUnsound_12 rfl (lv_at hl 0 rfl) (hp_n (n := 13) rfl ?_)
      refine lv_iload_n hx hb dX10_leastUnsound_13 rfl (lv_at hl 3 rfl) (hp_n (n := 14) rfl ?_)
      refine q_cq (pc' := 17) Bh_1 (hp_runV (As := [.int v3_h_1]) (rest := []) C Bh_1 (t_X10_frozenAt Γ l αh_1 Bh_1.2.2.1 a0 (cw_k Bh_1.2.2 k0) v3_h_1) lb_X10_frozenAt lv_X10_frozenAt lk_X10_188 (cw_k Bh_1.2.2 k0) rfl (by decide) rfl hl.1 rfl (Nat.le_of_ble_eq_true rfl) dX10_leastUnsound_14 ⟨Nat.le_refl _, Nat.le_refl _⟩) (fun _ _ h => by rw [h.1]; exact Bh_1.2.2) rfl (fun rh_4 αh_4 Hh_4 Lh_4 ph_4 Bh_4 => ?_)
      rw [ph_4.1] at Bh_4
      rcases rh_4 with _ | bh_4
      ·
        refine lv_astoreN (lv' := [(4, .null), (0, .ref a0), (1, .int a1), (2, .int v2_h_1), (3, .int v3_h_1)]) hx hb dX10_leastUnsound_17 hl (by decide) rfl (fun ls hl => hp_n (n := 19) rfl ?_)
        refine lv_aloadN hx hb dX10_leastUnsound_19 (lv_at hl 0 rfl) (hp_n (n := 21) rfl ?_)
        refine lv_ifnullN (tgt := 62) hx hb dX10_leastUnsound_21 (by decide) ?_
        obtain ⟨x_5, ex_5⟩ : ∃ y : Int32, y = v3_h_1 + 1 := ⟨_, rfl⟩
        have qx_5 : x_5.toInt = v3_h_1.toInt + 1 := by have q0 := ib_hi x_2; have qa := ib_lo v3_h_1; rw [ex_5]; exact ii_add (by omega) (by omega)
        refine lv_iinc (v := x_5) (lv' := [(3, .int x_5), (4, .null), (0, .ref a0), (1, .int a1), (2, .int v2_h_1)]) hx hb dX10_leastUnsound_62 hl (k := 4) rfl (by rw [ex_5]; rfl) (by decide) rfl (fun ls hl => hp_n (n := 65) rfl ?_)
        refine lv_goto (tgt := 4) hx hb dX10_leastUnsound_65 (by decide) ?_
        exact ih4 _ (by have q0 := ib_hi x_2; have q1 := ib_lo x_2; have qa := ib_hi v3_h_1; have qb := ib_lo v3_h_1; have qc : (v3_h_1 + 1).toInt = v3_h_1.toInt + (1 : Int32).toInt := ii_add (by omega) (by omega); rw [ex_5]; omega) αh_1 Hh_4 Lh_4 Bh_4 v2_h_1 x_5 (by omega) ls (lv_sub hl [2, 3, 4, 0] rfl) rfl
      ·
        have kbh_4 : hp_K α bh_4 = 2 := cw_k' Bh_4.2.2 (ph_4.2 bh_4 rfl)
        refine lv_astore (lv' := [(4, .ref bh_4), (0, .ref a0), (1, .int a1), (2, .int v2_h_1), (3, .int v3_h_1)]) hx hb dX10_leastUnsound_17 hl (by decide) rfl (fun ls hl => hp_n (n := 19) rfl ?_)
        refine lv_aload hx hb dX10_leastUnsound_19 (lv_at hl 0 rfl) (hp_n (n := 21) rfl ?_)
        refine lv_ifnull hx hb dX10_leastUnsound_21 (hp_n (n := 24) rfl ?_)
        refine lv_aload hx hb dX10_leastUnsound_24 (lv_at hl 0 rfl) (hp_n (n := 26) rfl ?_)
        refine q_geti (κ := 2) (k := 0) (φ := 100) (pc' := 29) C Bh_4 (cw_k Bh_4.2.2 kbh_4) fl_X10_128 rfl rfl rfl dX10_leastUnsound_26 rfl (fun x_6 ex_6 => ?_)
        refine lv_iload_n hx hb dX10_leastUnsound_29 rfl (lv_at hl 2 rfl) (hp_n (n := 30) rfl ?_)
        refine lv_icmp_ne (tgt := 62) hx hb dX10_leastUnsound_30 (by decide) (fun c_7 => ?_) (fun c_7 => hp_n (n := 33) rfl ?_)
        ·
          have jc_7 := il_ne c_7
          obtain ⟨x_8, ex_8⟩ : ∃ y : Int32, y = v3_h_1 + 1 := ⟨_, rfl⟩
          have qx_8 : x_8.toInt = v3_h_1.toInt + 1 := by have q0 := ib_hi x_2; have qa := ib_lo v3_h_1; rw [ex_8]; exact ii_add (by omega) (by omega)
          refine lv_iinc (v := x_8) (lv' := [(3, .int x_8), (4, .ref bh_4), (0, .ref a0), (1, .int a1), (2, .int v2_h_1)]) hx hb dX10_leastUnsound_62 hl (k := 4) rfl (by rw [ex_8]; rfl) (by decide) rfl (fun ls hl => hp_n (n := 65) rfl ?_)
          refine lv_goto (tgt := 4) hx hb dX10_leastUnsound_65 (by decide) ?_
          exact ih4 _ (by have q0 := ib_hi x_2; have q1 := ib_lo x_2; have qa := ib_hi v3_h_1; have qb := ib_lo v3_h_1; have qc : (v3_h_1 + 1).toInt = v3_h_1.toInt + (1 : Int32).toInt := ii_add (by omega) (by omega); rw [ex_8]; omega) αh_1 Hh_4 Lh_4 Bh_4 v2_h_1 x_8 (by omega) ls (lv_sub hl [2, 3, 4, 0] rfl) rfl
        ·
          have jc_7 := il_eq c_7
          refine lv_aload_n hx hb dX10_leastUnsound_33 rfl (lv_at hl 1 rfl) (hp_n (n := 34) rfl ?_)
          refine lv_aload hx hb dX10_leastUnsound_34 (lv_at hl 0 rfl) (hp_n (n := 36) rfl ?_)
          refine q_ci (pc' := 39) Bh_4 (hp_runV (As := [.ref bh_4]) (rest := []) C Bh_4 (t_X10_isSound Γ l αh_1 Bh_4.2.2.1 a0 (cw_k Bh_4.2.2 k0) bh_4 (cw_k Bh_4.2.2 kbh_4)) lb_X10_isSound lv_X10_isSound lk_X10_192 (cw_k Bh_4.2.2 k0) rfl (by decide) rfl hl.1 rfl (Nat.le_of_ble_eq_true rfl) dX10_leastUnsound_36 ⟨Nat.le_refl _, Nat.le_refl _⟩) (fun _ _ h => cw_tr Bh_4.2.2 h.1 (by decide)) rfl (fun rh_9 αh_9 Hh_9 Lh_9 ph_9 Bh_9 => ?_)
          have zh_9 := ph_9.2
          refine lv_if_ne (tgt := 62) hx hb dX10_leastUnsound_39 (by decide) (fun c_10 => ?_) (fun c_10 => hp_n (n := 42) rfl ?_)
          ·
            have jc_10 := il_ne c_10
            obtain ⟨x_11, ex_11⟩ : ∃ y : Int32, y = v3_h_1 + 1 := ⟨_, rfl⟩
            have qx_11 : x_11.toInt = v3_h_1.toInt + 1 := by have q0 := ib_hi x_2; have qa := ib_lo v3_h_1; rw [ex_11]; exact ii_add (by omega) (by omega)
            refine lv_iinc (v := x_11) (lv' := [(3, .int x_11), (4, .ref bh_4), (0, .ref a0), (1, .int a1), (2, .int v2_h_1)]) hx hb dX10_leastUnsound_62 hl (k := 4) rfl (by rw [ex_11]; rfl) (by decide) rfl (fun ls hl => hp_n (n := 65) rfl ?_)
            refine lv_goto (tgt := 4) hx hb dX10_leastUnsound_65 (by decide) ?_
            exact ih4 _ (by have q0 := ib_hi x_2; have q1 := ib_lo x_2; have qa := ib_hi v3_h_1; have qb := ib_lo v3_h_1; have qc : (v3_h_1 + 1).toInt = v3_h_1.toInt + (1 : Int32).toInt := ii_add (by omega) (by omega); rw [ex_11]; omega) αh_9 Hh_9 Lh_9 Bh_9 v2_h_1 x_11 (by omega) ls (lv_sub hl [2, 3, 4, 0] rfl) rfl
          ·
            have jc_10 := il_eq c_10
            refine lv_iload_n hx hb dX10_leastUnsound_42 rfl (lv_at hl 3 rfl) (hp_n (n := 43) rfl ?_)
            refine lv_iconst (v := (-1)) hx hb dX10_leastUnsound_43 (by decide) (hp_n (n := 44) rfl ?_)
            have J56 : ∀ (Hh_12 : Heap) (Lh_12 : List Loc) (Bh_12 : hp_B Γ (cw w_X10_leastUnsound) s α αh_9 Hh_12 Lh_12) (ls : Array Slot) (hl : lv_has ls 5 [(0, .ref a0), (1, .int a1), (3, .int v3_h_1), (4, .ref bh_4)]), W p l e (hp_rm 5 0 0) s m ([.ref a0, .int a1] : List Value).toArray below meth c Hh_12 Lh_12 0 0 (MQ below (hp_Qi Γ (fun r β => cw w_X10_leastUnsound α β)) ([.ref a0, .int a1] : List Value).toArray s 0 0 (hp_A Γ)) (F0 m 56 ls []) := by
              intro Hh_12 Lh_12 Bh_12 ls hl
              refine lv_aload hx hb dX10_leastUnsound_56 (lv_at hl 3 rfl) (hp_n (n := 58) rfl ?_)
              refine q_geti (κ := 2) (k := 1) (φ := 101) (pc' := 61) C Bh_12 (cw_k Bh_12.2.2 kbh_4) fl_X10_131 rfl rfl rfl dX10_leastUnsound_58 rfl (fun x_13 ex_13 => ?_)
              refine lv_istore_n (lv' := [(2, .int x_13), (0, .ref a0), (1, .int a1), (3, .int v3_h_1), (4, .ref bh_4)]) hx hb dX10_leastUnsound_61 rfl hl (by decide) rfl (fun ls hl => hp_n (n := 62) rfl ?_)
              obtain ⟨x_14, ex_14⟩ : ∃ y : Int32, y = v3_h_1 + 1 := ⟨_, rfl⟩
              have qx_14 : x_14.toInt = v3_h_1.toInt + 1 := by have q0 := ib_hi x_2; have qa := ib_lo v3_h_1; rw [ex_14]; exact ii_add (by omega) (by omega)
              refine lv_iinc (v := x_14) (lv' := [(3, .int x_14), (2, .int x_13), (0, .ref a0), (1, .int a1), (4, .ref bh_4)]) hx hb dX10_leastUnsound_62 hl (k := 3) rfl (by rw [ex_14]; rfl) (by decide) rfl (fun ls hl => hp_n (n := 65) rfl ?_)
              refine lv_goto (tgt := 4) hx hb dX10_leastUnsound_65 (by decide) ?_
              exact ih4 _ (by have q0 := ib_hi x_2; have q1 := ib_lo x_2; have qa := ib_hi v3_h_1; have qb := ib_lo v3_h_1; have qc : (v3_h_1 + 1).toInt = v3_h_1.toInt + (1 : Int32).toInt := ii_add (by omega) (by omega); rw [ex_14]; omega) αh_9 Hh_12 Lh_12 Bh_12 x_13 x_14 (by omega) ls (lv_sub hl [2, 3, 1, 0] rfl) rfl
            refine lv_icmp_eq (tgt := 56) hx hb dX10_leastUnsound_44 (by decide) (fun c_15 => ?_) (fun c_15 => hp_n (n := 47) rfl ?_)
            ·
              have jc_15 := il_eq c_15
              exact J56 Hh_9 Lh_9 Bh_9 ls (lv_sub hl [1, 2, 4, 0] rfl)
            ·
              have jc_15 := il_ne c_15
              refine lv_aload hx hb dX10_leastUnsound_47 (lv_at hl 0 rfl) (hp_n (n := 49) rfl ?_)
              refine q_geti (κ := 2) (k := 1) (φ := 101) (pc' := 52) C Bh_9 (cw_k Bh_9.2.2 kbh_4) fl_X10_131 rfl rfl rfl dX10_leastUnsound_49 rfl (fun x_16 ex_16 => ?_)
              refine lv_iload_n hx hb dX10_leastUnsound_52 rfl (lv_at hl 3 rfl) (hp_n (n := 53) rfl ?_)
              refine lv_icmp_ge (tgt := 62) hx hb dX10_leastUnsound_53 (by decide) (fun c_17 => ?_) (fun c_17 => hp_n (n := 56) rfl ?_)
              ·
                have jc_17 := il_le c_17
                obtain ⟨x_18, ex_18⟩ : ∃ y : Int32, y = v3_h_1 + 1 := ⟨_, rfl⟩
                have qx_18 : x_18.toInt = v3_h_1.toInt + 1 := by have q0 := ib_hi x_2; have qa := ib_lo v3_h_1; rw [ex_18]; exact ii_add (by omega) (by omega)
                refine lv_iinc (v := x_18) (lv' := [(3, .int x_18), (4, .ref bh_4), (0, .ref a0), (1, .int a1), (2, .int v2_h_1)]) hx hb dX10_leastUnsound_62 hl (k := 4) rfl (by rw [ex_18]; rfl) (by decide) rfl (fun ls hl => hp_n (n := 65) rfl ?_)
                refine lv_goto (tgt := 4) hx hb dX10_leastUnsound_65 (by decide) ?_
                exact ih4 _ (by have q0 := ib_hi x_2; have q1 := ib_lo x_2; have qa := ib_hi v3_h_1; have qb := ib_lo v3_h_1; have qc : (v3_h_1 + 1).toInt = v3_h_1.toInt + (1 : Int32).toInt := ii_add (by omega) (by omega); rw [ex_18]; omega) αh_9 Hh_9 Lh_9 Bh_9 v2_h_1 x_18 (by omega) ls (lv_sub hl [2, 3, 4, 0] rfl) rfl
              ·
                have jc_17 := il_nle c_17
                exact J56 Hh_9 Lh_9 Bh_9 ls (lv_sub hl [1, 2, 4, 0] rfl)
  refine lv_istore_n (lv' := [(3, .int 0), (2, .int (-1)), (0, .ref a0), (1, .int a1)]) hx hb dX10_leastUnsound_3 rfl hl (by decide) rfl (fun ls hl => hp_n (n := 4) rfl ?_)
  exact J4 _ α s.heap [] B (-1) 0 (by omega) ls (lv_sub hl [2, 3, 1, 0] rfl) rfl
abbrev w_X10_greatestSoundBelow : cw_W := ([], [], [33], [])
set_option maxRecDepth 100000 in
set_option maxHeartbeats 4000000 in
theorem t_X10_greatestSoundBelow (Γ : hp_G) (l : Launch) (α : hp_T) (g : GC α) (a0 : Nat) (k0 : hp_K α a0 = 11) (a1 : Int32) (a2 : Int32) : Met l yX10_greatestSoundBelow (hp_ws yX10_greatestSoundBelow cX10_greatestSoundBelow 6 (some .int)) (hp_rm 5 0 0) (hp_Pc Γ α [.ref a0, .int a1, .int a2]) (hp_Qi Γ (fun r β => cw w_X10_greatestSoundBelow α β)) 0 0 (hp_A Γ) := by
  refine hp_start (by decide) ?_
  intro p e s m below meth c C hr hlk B0 hnm
  have C : hp_C Γ p m c cX10_greatestSoundBelow 6 s ([.ref a0, .int a1, .int a2] : List Value).toArray RX10 := C
  have hx := C.1.1
  have hb := C.1.2.1
  have hown := C.1.2.2.2.1
  have hts := C.1.2.2.2.2
  have B : hp_B Γ (cw w_X10_greatestSoundBelow) s α α s.heap [] := ⟨B0.1, B0.2.1, cw_rf g⟩
  have lit0 : (0 : Int32).toInt = 0 := by decide
  have lit1 : (1 : Int32).toInt = 1 := by decide
  have hl := lv_entry ([.ref a0, .int a1, .int a2]) (n := 6) (Nat.le_of_ble_eq_true rfl)
  show W p l e (hp_rm 5 0 0) s m ([.ref a0, .int a1, .int a2] : List Value).toArray below meth c s.heap [] 0 0 (MQ below (hp_Qi Γ (fun r β => cw w_X10_greatestSoundBelow α β)) ([.ref a0, .int a1, .int a2] : List Value).toArray s 0 0 (hp_A Γ)) (entryFrame m ([.ref a0, .int a1, .int a2] : List Value).toArray 6)
  rw [lg_entry_eq]
  generalize (lg_sl ([.ref a0, .int a1, .int a2]) ++ List.replicate (6 - (lg_sl ([.ref a0, .int a1, .int a2])).length) Slot.unset).toArray = ls at hl ⊢
  have hl : lv_has ls 6 [(0, .ref a0), (1, .int a1), (2, .int a2)] := hl
  refine lv_iconst (v := 0) hx hb dX10_greatestSoundBelow_0 (by decide) (hp_n (n := 1) rfl ?_)
  refine lv_istore_n (lv' := [(3, .int 0), (0, .ref a0), (1, .int a1), (2, .int a2)]) hx hb dX10_greatestSoundBelow_1 rfl hl (by decide) rfl (fun ls hl => hp_n (n := 2) rfl ?_)
  refine lv_iconst (v := 0) hx hb dX10_greatestSoundBelow_2 (by decide) (hp_n (n := 3) rfl ?_)
  have J5 : ∀ (nq : Nat) (αh_1 : hp_T) (Hh_1 : Heap) (Lh_1 : List Loc) (Bh_1 : hp_B Γ (cw w_X10_greatestSoundBelow) s α αh_1 Hh_1 Lh_1) (v3_h_1 : Int32) (v4_h_1 : Int32) (ih_1_0 : 0 ≤ v4_h_1.toInt) (ls : Array Slot) (hl : lv_has ls 6 [(0, .ref a0), (1, .int a1), (2, .int a2), (3, .int v3_h_1), (4, .int v4_h_1)]) (hmu5 : (2147483647 - v4_h_1.toInt).toNat = nq), W p l e (hp_rm 5 0 0) s m ([.ref a0, .int a1, .int a2] : List Value).toArray below meth c Hh_1 Lh_1 0 0 (MQ below (hp_Qi Γ (fun r β => cw w_X10_greatestSoundBelow α β)) ([.ref a0, .int a1, .int a2] : List Value).toArray s 0 0 (hp_A Γ)) (F0 m 5 ls []) := by
    intro nq
    induction nq using Nat.strongRecOn with
    | ind nq ih5 =>
    intro αh_1 Hh_1 Lh_1 Bh_1 v3_h_1 v4_h_1 ih_1_0 ls hl hmu5
    have inv5_0 := ih_1_0
    refine lv_iload hx hb dX10_greatestSoundBelow_5 (lv_at hl 4 rfl) (hp_n (n := 7) rfl ?_)
    refine lv_aload_n hx hb dX10_greatestSoundBelow_7 rfl (lv_at hl 0 rfl) (hp_n (n := 8) rfl ?_)
    refine q_geti (κ := 11) (k := 4) (φ := 554) (pc' := 11) C Bh_1 (cw_k Bh_1.2.2 k0) fl_X10_31 rfl rfl rfl dX10_greatestSoundBelow_8 rfl (fun x_2 ex_2 => ?_)
    refine lv_icmp_ge (tgt := 70) hx hb dX10_greatestSoundBelow_11 (by decide) (fun c_3 => ?_) (fun c_3 => hp_n (n := 14) rfl ?_)
    ·
      have jc_3 := il_le c_3
      refine lv_iload_n hx hb dX10_greatestSoundBelow_70 rfl (lv_at hl 3 rfl) (hp_n (n := 71) rfl ?_)
      exact q_iret C Bh_1 hr hlk Bh_1.2.2 dX10_greatestSoundBelow_71
    ·
      have jc_3 := il_nle c_3
      refine lv_aload_n hx hb dX10_greatestSoundBelow_14 rfl (lv_at hl 0 rfl) (hp_n (n := 15) rfl ?_)
      refine lv_iload hx hb dX10_greatestSoundBelow_15 (lv_at hl 4 rfl) (hp_n (n := 17) rfl ?_)
      refine q_cq (pc' := 20) Bh_1 (hp_runV (As := [.int v4_h_1]) (rest := []) C Bh_1 (t_X10_frozenAt Γ l αh_1 Bh_1.2.2.1 a0 (cw_k Bh_1.2.2 k0) v4_h_1) lb_X10_frozenAt lv_X10_frozenAt lk_X10_188 (cw_k Bh_1.2.2 k0) rfl (by decide) rfl hl.1 rfl (Nat.le_of_ble_eq_true rfl) dX10_greatestSoundBelow_17 ⟨Nat.le_refl _, Nat.le_refl _⟩) (fun _ _ h => by rw [h.1]; exact Bh_1.2.2) rfl (fun rh_4 αh_4 Hh_4 Lh_4 ph_4 Bh_4 => ?_)
      rw [ph_4.1] at Bh_4
      rcases rh_4 with _ | bh_4
      ·
        refine lv_astoreN (lv' := [(5, .null), (0, .ref a0), (1, .int a1), (2, .int a2), (3, .int v3_h_1), (4, .int v4_h_1)]) hx hb dX10_greatestSoundBelow_20 hl (by decide) rfl (fun ls hl => hp_n (n := 22) rfl ?_)
        refine lv_aloadN hx hb dX10_greatestSoundBelow_22 (lv_at hl 0 rfl) (hp_n (n := 24) rfl ?_)
        refine lv_ifnullN (tgt := 64) hx hb dX10_greatestSoundBelow_24 (by decide) ?_
        obtain ⟨x_5, ex_5⟩ : ∃ y : Int32, y = v4_h_1 + 1 := ⟨_, rfl⟩
        have qx_5 : x_5.toInt = v4_h_1.toInt + 1 := by have q0 := ib_hi x_2; have qa := ib_lo v4_h_1; rw [ex_5]; exact ii_add (by omega) (by omega)
        refine lv_iinc (v := x_5) (lv' := [(4, .int x_5), (5, .null), (0, .ref a0), (1, .int a1), (2, .int a2), (3, .int v3_h_1)]) hx hb dX10_greatestSoundBelow_64 hl (k := 5) rfl (by rw [ex_5]; rfl) (by decide) rfl (fun ls hl => hp_n (n := 67) rfl ?_)
        refine lv_goto (tgt := 5) hx hb dX10_greatestSoundBelow_67 (by decide) ?_
        exact ih5 _ (by have q0 := ib_hi x_2; have q1 := ib_lo x_2; have qa := ib_hi v4_h_1; have qb := ib_lo v4_h_1; have qc : (v4_h_1 + 1).toInt = v4_h_1.toInt + (1 : Int32).toInt := ii_add (by omega) (by omega); rw [ex_5]; omega) αh_1 Hh_4 Lh_4 Bh_4 v3_h_1 x_5 (by omega) ls (lv_sub hl [2, 3, 4, 5, 0] rfl) rfl
      ·
        have kbh_4 : hp_K α bh_4 = 2 := cw_k' Bh_4.2.2 (ph_4.2 bh_4 rfl)
        refine lv_astore (lv' := [(5, .ref bh_4), (0, .ref a0), (1, .int a1), (2, .int a2), (3, .int v3_h_1), (4, .int v4_h_1)]) hx hb dX10_greatestSoundBelow_20 hl (by decide) rfl (fun ls hl => hp_n (n := 22) rfl ?_)
        refine lv_aload hx hb dX10_greatestSoundBelow_22 (lv_at hl 0 rfl) (hp_n (n := 24) rfl ?_)
        refine lv_ifnull hx hb dX10_greatestSoundBelow_24 (hp_n (n := 27) rfl ?_)
        refine lv_aload hx hb dX10_greatestSoundBelow_27 (lv_at hl 0 rfl) (hp_n (n := 29) rfl ?_)
        refine q_geti (κ := 2) (k := 0) (φ := 100) (pc' := 32) C Bh_4 (cw_k Bh_4.2.2 kbh_4) fl_X10_128 rfl rfl rfl dX10_greatestSoundBelow_29 rfl (fun x_6 ex_6 => ?_)
        refine lv_iload_n hx hb dX10_greatestSoundBelow_32 rfl (lv_at hl 2 rfl) (hp_n (n := 33) rfl ?_)
        refine lv_icmp_ne (tgt := 64) hx hb dX10_greatestSoundBelow_33 (by decide) (fun c_7 => ?_) (fun c_7 => hp_n (n := 36) rfl ?_)
        ·
          have jc_7 := il_ne c_7
          obtain ⟨x_8, ex_8⟩ : ∃ y : Int32, y = v4_h_1 + 1 := ⟨_, rfl⟩
          have qx_8 : x_8.toInt = v4_h_1.toInt + 1 := by have q0 := ib_hi x_2; have qa := ib_lo v4_h_1; rw [ex_8]; exact ii_add (by omega) (by omega)
          refine lv_iinc (v := x_8) (lv' := [(4, .int x_8), (5, .ref bh_4), (0, .ref a0), (1, .int a1), (2, .int a2), (3, .int v3_h_1)]) hx hb dX10_greatestSoundBelow_64 hl (k := 5) rfl (by rw [ex_8]; rfl) (by decide) rfl (fun ls hl => hp_n (n := 67) rfl ?_)
          refine lv_goto (tgt := 5) hx hb dX10_greatestSoundBelow_67 (by decide) ?_
          exact ih5 _ (by have q0 := ib_hi x_2; have q1 := ib_lo x_2; have qa := ib_hi v4_h_1; have qb := ib_lo v4_h_1; have qc : (v4_h_1 + 1).toInt = v4_h_1.toInt + (1 : Int32).toInt := ii_add (by omega) (by omega); rw [ex_8]; omega) αh_1 Hh_4 Lh_4 Bh_4 v3_h_1 x_8 (by omega) ls (lv_sub hl [2, 3, 4, 5, 0] rfl) rfl
        ·
          have jc_7 := il_eq c_7
          refine lv_aload hx hb dX10_greatestSoundBelow_36 (lv_at hl 0 rfl) (hp_n (n := 38) rfl ?_)
          refine q_geti (κ := 2) (k := 1) (φ := 101) (pc' := 41) C Bh_4 (cw_k Bh_4.2.2 kbh_4) fl_X10_131 rfl rfl rfl dX10_greatestSoundBelow_38 rfl (fun x_9 ex_9 => ?_)
          refine lv_iload_n hx hb dX10_greatestSoundBelow_41 rfl (lv_at hl 3 rfl) (hp_n (n := 42) rfl ?_)
          refine lv_icmp_ge (tgt := 64) hx hb dX10_greatestSoundBelow_42 (by decide) (fun c_10 => ?_) (fun c_10 => hp_n (n := 45) rfl ?_)
          ·
            have jc_10 := il_le c_10
            obtain ⟨x_11, ex_11⟩ : ∃ y : Int32, y = v4_h_1 + 1 := ⟨_, rfl⟩
            have qx_11 : x_11.toInt = v4_h_1.toInt + 1 := by have q0 := ib_hi x_2; have qa := ib_lo v4_h_1; rw [ex_11]; exact ii_add (by omega) (by omega)
            refine lv_iinc (v := x_11) (lv' := [(4, .int x_11), (5, .ref bh_4), (0, .ref a0), (1, .int a1), (2, .int a2), (3, .int v3_h_1)]) hx hb dX10_greatestSoundBelow_64 hl (k := 5) rfl (by rw [ex_11]; rfl) (by decide) rfl (fun ls hl => hp_n (n := 67) rfl ?_)
            refine lv_goto (tgt := 5) hx hb dX10_greatestSoundBelow_67 (by decide) ?_
            exact ih5 _ (by have q0 := ib_hi x_2; have q1 := ib_lo x_2; have qa := ib_hi v4_h_1; have qb := ib_lo v4_h_1; have qc : (v4_h_1 + 1).toInt = v4_h_1.toInt + (1 : Int32).toInt := ii_add (by omega) (by omega); rw [ex_11]; omega) αh_1 Hh_4 Lh_4 Bh_4 v3_h_1 x_11 (by omega) ls (lv_sub hl [2, 3, 4, 5, 0] rfl) rfl
          ·
            have jc_10 := il_nle c_10
            refine lv_aload_n hx hb dX10_greatestSoundBelow_45 rfl (lv_at hl 1 rfl) (hp_n (n := 46) rfl ?_)
            refine lv_aload hx hb dX10_greatestSoundBelow_46 (lv_at hl 0 rfl) (hp_n (n := 48) rfl ?_)
            refine q_ci (pc' := 51) Bh_4 (hp_runV (As := [.ref bh_4]) (rest := []) C Bh_4 (t_X10_isSound Γ l αh_1 Bh_4.2.2.1 a0 (cw_k Bh_4.2.2 k0) bh_4 (cw_k Bh_4.2.2 kbh_4)) lb_X10_isSound lv_X10_isSound lk_X10_192 (cw_k Bh_4.2.2 k0) rfl (by decide) rfl hl.1 rfl (Nat.le_of_ble_eq_true rfl) dX10_greatestSoundBelow_48 ⟨Nat.le_refl _, Nat.le_refl _⟩) (fun _ _ h => cw_tr Bh_4.2.2 h.1 (by decide)) rfl (fun rh_12 αh_12 Hh_12 Lh_12 ph_12 Bh_12 => ?_)
            have zh_12 := ph_12.2
            refine lv_if_eq (tgt := 64) hx hb dX10_greatestSoundBelow_51 (by decide) (fun c_13 => ?_) (fun c_13 => hp_n (n := 54) rfl ?_)
            ·
              have jc_13 := il_eq c_13
              obtain ⟨x_14, ex_14⟩ : ∃ y : Int32, y = v4_h_1 + 1 := ⟨_, rfl⟩
              have qx_14 : x_14.toInt = v4_h_1.toInt + 1 := by have q0 := ib_hi x_2; have qa := ib_lo v4_h_1; rw [ex_14]; exact ii_add (by omega) (by omega)
              refine lv_iinc (v := x_14) (lv' := [(4, .int x_14), (5, .ref bh_4), (0, .ref a0), (1, .int a1), (2, .int a2), (3, .int v3_h_1)]) hx hb dX10_greatestSoundBelow_64 hl (k := 5) rfl (by rw [ex_14]; rfl) (by decide) rfl (fun ls hl => hp_n (n := 67) rfl ?_)
              refine lv_goto (tgt := 5) hx hb dX10_greatestSoundBelow_67 (by decide) ?_
              exact ih5 _ (by have q0 := ib_hi x_2; have q1 := ib_lo x_2; have qa := ib_hi v4_h_1; have qb := ib_lo v4_h_1; have qc : (v4_h_1 + 1).toInt = v4_h_1.toInt + (1 : Int32).toInt := ii_add (by omega) (by omega); rw [ex_14]; omega) αh_12 Hh_12 Lh_12 Bh_12 v3_h_1 x_14 (by omega) ls (lv_sub hl [2, 3, 4, 5, 0] rfl) rfl
            ·
              have jc_13 := il_ne c_13
              refine lv_iload_n hx hb dX10_greatestSoundBelow_54 rfl (lv_at hl 4 rfl) (hp_n (n := 55) rfl ?_)
              refine lv_aload hx hb dX10_greatestSoundBelow_55 (lv_at hl 0 rfl) (hp_n (n := 57) rfl ?_)
              have t_15 : x_9 = hp_I αh_12 101 bh_4 := by rw [cw_I ph_12.1 bh_4 (by decide)]; exact ex_9
              refine q_getj (κ := 2) (k := 1) (φ := 101) (pc' := 60) C Bh_12 (cw_k Bh_12.2.2 kbh_4) fl_X10_131 rfl rfl rfl t_15 dX10_greatestSoundBelow_57 rfl ?_
              refine q_ci (pc' := 63) Bh_12 (hp_runS (As := [.int v3_h_1, .int x_9]) (rest := []) C Bh_12 (t_J9_max_7cf53 Γ l αh_12 Bh_12.2.2.1 v3_h_1 x_9) lb_J9_max_7cf53 ls_J9_max_7cf53 lk_X10_196 rfl (by decide) rfl hl.1 rfl (Nat.le_of_ble_eq_true rfl) dX10_greatestSoundBelow_60 ⟨Nat.le_refl _, Nat.le_refl _⟩) (fun _ _ h => by rw [h.1]; exact Bh_12.2.2) rfl (fun rh_16 αh_16 Hh_16 Lh_16 ph_16 Bh_16 => ?_)
              rw [ph_16.1] at Bh_16
              obtain ⟨ph_16a, ph_16b, ph_16c⟩ := ph_16.2
              refine lv_istore_n (lv' := [(3, .int rh_16), (5, .ref bh_4), (0, .ref a0), (1, .int a1), (2, .int a2), (4, .int v4_h_1)]) hx hb dX10_greatestSoundBelow_63 rfl hl (by decide) rfl (fun ls hl => hp_n (n := 64) rfl ?_)
              obtain ⟨x_17, ex_17⟩ : ∃ y : Int32, y = v4_h_1 + 1 := ⟨_, rfl⟩
              have qx_17 : x_17.toInt = v4_h_1.toInt + 1 := by have q0 := ib_hi x_2; have qa := ib_lo v4_h_1; rw [ex_17]; exact ii_add (by omega) (by omega)
              refine lv_iinc (v := x_17) (lv' := [(4, .int x_17), (3, .int rh_16), (5, .ref bh_4), (0, .ref a0), (1, .int a1), (2, .int a2)]) hx hb dX10_greatestSoundBelow_64 hl (k := 5) rfl (by rw [ex_17]; rfl) (by decide) rfl (fun ls hl => hp_n (n := 67) rfl ?_)
              refine lv_goto (tgt := 5) hx hb dX10_greatestSoundBelow_67 (by decide) ?_
              exact ih5 _ (by have q0 := ib_hi x_2; have q1 := ib_lo x_2; have qa := ib_hi v4_h_1; have qb := ib_lo v4_h_1; have qc : (v4_h_1 + 1).toInt = v4_h_1.toInt + (1 : Int32).toInt := ii_add (by omega) (by omega); rw [ex_17]; omega) αh_12 Hh_16 Lh_16 Bh_16 rh_16 x_17 (by omega) ls (lv_sub hl [3, 4, 5, 1, 0] rfl) rfl
  refine lv_istore (lv' := [(4, .int 0), (3, .int 0), (0, .ref a0), (1, .int a1), (2, .int a2)]) hx hb dX10_greatestSoundBelow_3 hl (by decide) rfl (fun ls hl => hp_n (n := 5) rfl ?_)
  exact J5 _ α s.heap [] B 0 0 (by omega) ls (lv_sub hl [2, 3, 4, 1, 0] rfl) rfl
abbrev w_X10_leastFrozenAbove : cw_W := ([], [], [], [])
set_option maxRecDepth 100000 in
set_option maxHeartbeats 4000000 in
theorem t_X10_leastFrozenAbove (Γ : hp_G) (l : Launch) (α : hp_T) (g : GC α) (a0 : Nat) (k0 : hp_K α a0 = 11) (a1 : Int32) (a2 : Int32) : Met l yX10_leastFrozenAbove (hp_ws yX10_leastFrozenAbove cX10_leastFrozenAbove 6 (some .int)) (hp_rm 1 0 0) (hp_Pc Γ α [.ref a0, .int a1, .int a2]) (hp_Qi Γ (fun r β => β = α)) 0 0 (hp_A Γ) := by
  refine hp_start (by decide) ?_
  intro p e s m below meth c C hr hlk B0 hnm
  have C : hp_C Γ p m c cX10_leastFrozenAbove 6 s ([.ref a0, .int a1, .int a2] : List Value).toArray RX10 := C
  have hx := C.1.1
  have hb := C.1.2.1
  have hown := C.1.2.2.2.1
  have hts := C.1.2.2.2.2
  have B : hp_B Γ (cw w_X10_leastFrozenAbove) s α α s.heap [] := ⟨B0.1, B0.2.1, cw_rf g⟩
  have litm1 : ((-1) : Int32).toInt = (-1) := by decide
  have lit0 : (0 : Int32).toInt = 0 := by decide
  have lit1 : (1 : Int32).toInt = 1 := by decide
  have hl := lv_entry ([.ref a0, .int a1, .int a2]) (n := 6) (Nat.le_of_ble_eq_true rfl)
  show W p l e (hp_rm 1 0 0) s m ([.ref a0, .int a1, .int a2] : List Value).toArray below meth c s.heap [] 0 0 (MQ below (hp_Qi Γ (fun r β => β = α)) ([.ref a0, .int a1, .int a2] : List Value).toArray s 0 0 (hp_A Γ)) (entryFrame m ([.ref a0, .int a1, .int a2] : List Value).toArray 6)
  rw [lg_entry_eq]
  generalize (lg_sl ([.ref a0, .int a1, .int a2]) ++ List.replicate (6 - (lg_sl ([.ref a0, .int a1, .int a2])).length) Slot.unset).toArray = ls at hl ⊢
  have hl : lv_has ls 6 [(0, .ref a0), (1, .int a1), (2, .int a2)] := hl
  refine lv_iconst (v := (-1)) hx hb dX10_leastFrozenAbove_0 (by decide) (hp_n (n := 1) rfl ?_)
  refine lv_istore_n (lv' := [(3, .int (-1)), (0, .ref a0), (1, .int a1), (2, .int a2)]) hx hb dX10_leastFrozenAbove_1 rfl hl (by decide) rfl (fun ls hl => hp_n (n := 2) rfl ?_)
  refine lv_iconst (v := 0) hx hb dX10_leastFrozenAbove_2 (by decide) (hp_n (n := 3) rfl ?_)
  have J5 : ∀ (nq : Nat) (Hh_1 : Heap) (Lh_1 : List Loc) (Bh_1 : hp_B Γ (cw w_X10_leastFrozenAbove) s α α Hh_1 Lh_1) (v3_h_1 : Int32) (v4_h_1 : Int32) (ih_1_0 : 0 ≤ v4_h_1.toInt) (ls : Array Slot) (hl : lv_has ls 6 [(0, .ref a0), (1, .int a1), (2, .int a2), (3, .int v3_h_1), (4, .int v4_h_1)]) (hmu5 : (2147483647 - v4_h_1.toInt).toNat = nq), W p l e (hp_rm 1 0 0) s m ([.ref a0, .int a1, .int a2] : List Value).toArray below meth c Hh_1 Lh_1 0 0 (MQ below (hp_Qi Γ (fun r β => β = α)) ([.ref a0, .int a1, .int a2] : List Value).toArray s 0 0 (hp_A Γ)) (F0 m 5 ls []) := by
    intro nq
    induction nq using Nat.strongRecOn with
    | ind nq ih5 =>
    intro Hh_1 Lh_1 Bh_1 v3_h_1 v4_h_1 ih_1_0 ls hl hmu5
    have inv5_0 := ih_1_0
    refine lv_iload hx hb dX10_leastFrozenAbove_5 (lv_at hl 4 rfl) (hp_n (n := 7) rfl ?_)
    refine lv_aload_n hx hb dX10_leastFrozenAbove_7 rfl (lv_at hl 0 rfl) (hp_n (n := 8) rfl ?_)
    refine q_geti (κ := 11) (k := 4) (φ := 554) (pc' := 11) C Bh_1 (cw_k Bh_1.2.2 k0) fl_X10_31 rfl rfl rfl dX10_leastFrozenAbove_8 rfl (fun x_2 ex_2 => ?_)
    refine lv_icmp_ge (tgt := 71) hx hb dX10_leastFrozenAbove_11 (by decide) (fun c_3 => ?_) (fun c_3 => hp_n (n := 14) rfl ?_)
    ·
      have jc_3 := il_le c_3
      refine lv_iload_n hx hb dX10_leastFrozenAbove_71 rfl (lv_at hl 3 rfl) (hp_n (n := 72) rfl ?_)
      exact q_iret C Bh_1 hr hlk rfl dX10_leastFrozenAbove_72
    ·
      have jc_3 := il_nle c_3
      refine lv_aload_n hx hb dX10_leastFrozenAbove_14 rfl (lv_at hl 0 rfl) (hp_n (n := 15) rfl ?_)
      refine lv_iload hx hb dX10_leastFrozenAbove_15 (lv_at hl 4 rfl) (hp_n (n := 17) rfl ?_)
      refine q_cq (pc' := 20) Bh_1 (hp_runV (As := [.int v4_h_1]) (rest := []) C Bh_1 (t_X10_frozenAt Γ l α Bh_1.2.2.1 a0 (cw_k Bh_1.2.2 k0) v4_h_1) lb_X10_frozenAt lv_X10_frozenAt lk_X10_188 (cw_k Bh_1.2.2 k0) rfl (by decide) rfl hl.1 rfl (Nat.le_of_ble_eq_true rfl) dX10_leastFrozenAbove_17 ⟨Nat.le_refl _, Nat.le_refl _⟩) (fun _ _ h => by rw [h.1]; exact Bh_1.2.2) rfl (fun rh_4 αh_4 Hh_4 Lh_4 ph_4 Bh_4 => ?_)
      rw [ph_4.1] at Bh_4
      rcases rh_4 with _ | bh_4
      ·
        refine lv_astoreN (lv' := [(5, .null), (0, .ref a0), (1, .int a1), (2, .int a2), (3, .int v3_h_1), (4, .int v4_h_1)]) hx hb dX10_leastFrozenAbove_20 hl (by decide) rfl (fun ls hl => hp_n (n := 22) rfl ?_)
        refine lv_aloadN hx hb dX10_leastFrozenAbove_22 (lv_at hl 0 rfl) (hp_n (n := 24) rfl ?_)
        refine lv_ifnullN (tgt := 65) hx hb dX10_leastFrozenAbove_24 (by decide) ?_
        obtain ⟨x_5, ex_5⟩ : ∃ y : Int32, y = v4_h_1 + 1 := ⟨_, rfl⟩
        have qx_5 : x_5.toInt = v4_h_1.toInt + 1 := by have q0 := ib_hi x_2; have qa := ib_lo v4_h_1; rw [ex_5]; exact ii_add (by omega) (by omega)
        refine lv_iinc (v := x_5) (lv' := [(4, .int x_5), (5, .null), (0, .ref a0), (1, .int a1), (2, .int a2), (3, .int v3_h_1)]) hx hb dX10_leastFrozenAbove_65 hl (k := 5) rfl (by rw [ex_5]; rfl) (by decide) rfl (fun ls hl => hp_n (n := 68) rfl ?_)
        refine lv_goto (tgt := 5) hx hb dX10_leastFrozenAbove_68 (by decide) ?_
        exact ih5 _ (by have q0 := ib_hi x_2; have q1 := ib_lo x_2; have qa := ib_hi v4_h_1; have qb := ib_lo v4_h_1; have qc : (v4_h_1 + 1).toInt = v4_h_1.toInt + (1 : Int32).toInt := ii_add (by omega) (by omega); rw [ex_5]; omega) Hh_4 Lh_4 Bh_4 v3_h_1 x_5 (by omega) ls (lv_sub hl [2, 3, 4, 5, 0] rfl) rfl
      ·
        have kbh_4 : hp_K α bh_4 = 2 := cw_k' Bh_4.2.2 (ph_4.2 bh_4 rfl)
        refine lv_astore (lv' := [(5, .ref bh_4), (0, .ref a0), (1, .int a1), (2, .int a2), (3, .int v3_h_1), (4, .int v4_h_1)]) hx hb dX10_leastFrozenAbove_20 hl (by decide) rfl (fun ls hl => hp_n (n := 22) rfl ?_)
        refine lv_aload hx hb dX10_leastFrozenAbove_22 (lv_at hl 0 rfl) (hp_n (n := 24) rfl ?_)
        refine lv_ifnull hx hb dX10_leastFrozenAbove_24 (hp_n (n := 27) rfl ?_)
        refine lv_aload hx hb dX10_leastFrozenAbove_27 (lv_at hl 0 rfl) (hp_n (n := 29) rfl ?_)
        refine q_geti (κ := 2) (k := 0) (φ := 100) (pc' := 32) C Bh_4 (cw_k Bh_4.2.2 kbh_4) fl_X10_128 rfl rfl rfl dX10_leastFrozenAbove_29 rfl (fun x_6 ex_6 => ?_)
        refine lv_iload_n hx hb dX10_leastFrozenAbove_32 rfl (lv_at hl 2 rfl) (hp_n (n := 33) rfl ?_)
        refine lv_icmp_ne (tgt := 65) hx hb dX10_leastFrozenAbove_33 (by decide) (fun c_7 => ?_) (fun c_7 => hp_n (n := 36) rfl ?_)
        ·
          have jc_7 := il_ne c_7
          obtain ⟨x_8, ex_8⟩ : ∃ y : Int32, y = v4_h_1 + 1 := ⟨_, rfl⟩
          have qx_8 : x_8.toInt = v4_h_1.toInt + 1 := by have q0 := ib_hi x_2; have qa := ib_lo v4_h_1; rw [ex_8]; exact ii_add (by omega) (by omega)
          refine lv_iinc (v := x_8) (lv' := [(4, .int x_8), (5, .ref bh_4), (0, .ref a0), (1, .int a1), (2, .int a2), (3, .int v3_h_1)]) hx hb dX10_leastFrozenAbove_65 hl (k := 5) rfl (by rw [ex_8]; rfl) (by decide) rfl (fun ls hl => hp_n (n := 68) rfl ?_)
          refine lv_goto (tgt := 5) hx hb dX10_leastFrozenAbove_68 (by decide) ?_
          exact ih5 _ (by have q0 := ib_hi x_2; have q1 := ib_lo x_2; have qa := ib_hi v4_h_1; have qb := ib_lo v4_h_1; have qc : (v4_h_1 + 1).toInt = v4_h_1.toInt + (1 : Int32).toInt := ii_add (by omega) (by omega); rw [ex_8]; omega) Hh_4 Lh_4 Bh_4 v3_h_1 x_8 (by omega) ls (lv_sub hl [2, 3, 4, 5, 0] rfl) rfl
        ·
          have jc_7 := il_eq c_7
          refine lv_aload hx hb dX10_leastFrozenAbove_36 (lv_at hl 0 rfl) (hp_n (n := 38) rfl ?_)
          refine q_geti (κ := 2) (k := 1) (φ := 101) (pc' := 41) C Bh_4 (cw_k Bh_4.2.2 kbh_4) fl_X10_131 rfl rfl rfl dX10_leastFrozenAbove_38 rfl (fun x_9 ex_9 => ?_)
          refine lv_iload_n hx hb dX10_leastFrozenAbove_41 rfl (lv_at hl 3 rfl) (hp_n (n := 42) rfl ?_)
          refine lv_icmp_le (tgt := 65) hx hb dX10_leastFrozenAbove_42 (by decide) (fun c_10 => ?_) (fun c_10 => hp_n (n := 45) rfl ?_)
          ·
            have jc_10 := il_le c_10
            obtain ⟨x_11, ex_11⟩ : ∃ y : Int32, y = v4_h_1 + 1 := ⟨_, rfl⟩
            have qx_11 : x_11.toInt = v4_h_1.toInt + 1 := by have q0 := ib_hi x_2; have qa := ib_lo v4_h_1; rw [ex_11]; exact ii_add (by omega) (by omega)
            refine lv_iinc (v := x_11) (lv' := [(4, .int x_11), (5, .ref bh_4), (0, .ref a0), (1, .int a1), (2, .int a2), (3, .int v3_h_1)]) hx hb dX10_leastFrozenAbove_65 hl (k := 5) rfl (by rw [ex_11]; rfl) (by decide) rfl (fun ls hl => hp_n (n := 68) rfl ?_)
            refine lv_goto (tgt := 5) hx hb dX10_leastFrozenAbove_68 (by decide) ?_
            exact ih5 _ (by have q0 := ib_hi x_2; have q1 := ib_lo x_2; have qa := ib_hi v4_h_1; have qb := ib_lo v4_h_1; have qc : (v4_h_1 + 1).toInt = v4_h_1.toInt + (1 : Int32).toInt := ii_add (by omega) (by omega); rw [ex_11]; omega) Hh_4 Lh_4 Bh_4 v3_h_1 x_11 (by omega) ls (lv_sub hl [2, 3, 4, 5, 0] rfl) rfl
          ·
            have jc_10 := il_nle c_10
            refine lv_iload_n hx hb dX10_leastFrozenAbove_45 rfl (lv_at hl 4 rfl) (hp_n (n := 46) rfl ?_)
            refine lv_iconst (v := (-1)) hx hb dX10_leastFrozenAbove_46 (by decide) (hp_n (n := 47) rfl ?_)
            have J59 : ∀ (Hh_12 : Heap) (Lh_12 : List Loc) (Bh_12 : hp_B Γ (cw w_X10_leastFrozenAbove) s α α Hh_12 Lh_12) (ls : Array Slot) (hl : lv_has ls 6 [(0, .ref a0), (1, .int a1), (2, .int a2), (4, .int v4_h_1), (5, .ref bh_4)]), W p l e (hp_rm 1 0 0) s m ([.ref a0, .int a1, .int a2] : List Value).toArray below meth c Hh_12 Lh_12 0 0 (MQ below (hp_Qi Γ (fun r β => β = α)) ([.ref a0, .int a1, .int a2] : List Value).toArray s 0 0 (hp_A Γ)) (F0 m 59 ls []) := by
              intro Hh_12 Lh_12 Bh_12 ls hl
              refine lv_aload hx hb dX10_leastFrozenAbove_59 (lv_at hl 4 rfl) (hp_n (n := 61) rfl ?_)
              refine q_getj (κ := 2) (k := 1) (φ := 101) (pc' := 64) C Bh_12 (cw_k Bh_12.2.2 kbh_4) fl_X10_131 rfl rfl rfl ex_9 dX10_leastFrozenAbove_61 rfl ?_
              refine lv_istore_n (lv' := [(3, .int x_9), (0, .ref a0), (1, .int a1), (2, .int a2), (4, .int v4_h_1), (5, .ref bh_4)]) hx hb dX10_leastFrozenAbove_64 rfl hl (by decide) rfl (fun ls hl => hp_n (n := 65) rfl ?_)
              obtain ⟨x_13, ex_13⟩ : ∃ y : Int32, y = v4_h_1 + 1 := ⟨_, rfl⟩
              have qx_13 : x_13.toInt = v4_h_1.toInt + 1 := by have q0 := ib_hi x_2; have qa := ib_lo v4_h_1; rw [ex_13]; exact ii_add (by omega) (by omega)
              refine lv_iinc (v := x_13) (lv' := [(4, .int x_13), (3, .int x_9), (0, .ref a0), (1, .int a1), (2, .int a2), (5, .ref bh_4)]) hx hb dX10_leastFrozenAbove_65 hl (k := 4) rfl (by rw [ex_13]; rfl) (by decide) rfl (fun ls hl => hp_n (n := 68) rfl ?_)
              refine lv_goto (tgt := 5) hx hb dX10_leastFrozenAbove_68 (by decide) ?_
              exact ih5 _ (by have q0 := ib_hi x_2; have q1 := ib_lo x_2; have qa := ib_hi v4_h_1; have qb := ib_lo v4_h_1; have qc : (v4_h_1 + 1).toInt = v4_h_1.toInt + (1 : Int32).toInt := ii_add (by omega) (by omega); rw [ex_13]; omega) Hh_12 Lh_12 Bh_12 x_9 x_13 (by omega) ls (lv_sub hl [2, 3, 4, 1, 0] rfl) rfl
            refine lv_icmp_eq (tgt := 59) hx hb dX10_leastFrozenAbove_47 (by decide) (fun c_14 => ?_) (fun c_14 => hp_n (n := 50) rfl ?_)
            ·
              have jc_14 := il_eq c_14
              exact J59 Hh_4 Lh_4 Bh_4 ls (lv_sub hl [1, 2, 3, 5, 0] rfl)
            ·
              have jc_14 := il_ne c_14
              refine lv_aload hx hb dX10_leastFrozenAbove_50 (lv_at hl 0 rfl) (hp_n (n := 52) rfl ?_)
              refine q_getj (κ := 2) (k := 1) (φ := 101) (pc' := 55) C Bh_4 (cw_k Bh_4.2.2 kbh_4) fl_X10_131 rfl rfl rfl ex_9 dX10_leastFrozenAbove_52 rfl ?_
              refine lv_iload_n hx hb dX10_leastFrozenAbove_55 rfl (lv_at hl 4 rfl) (hp_n (n := 56) rfl ?_)
              refine lv_icmp_ge (tgt := 65) hx hb dX10_leastFrozenAbove_56 (by decide) (fun c_15 => ?_) (fun c_15 => hp_n (n := 59) rfl ?_)
              ·
                have jc_15 := il_le c_15
                obtain ⟨x_16, ex_16⟩ : ∃ y : Int32, y = v4_h_1 + 1 := ⟨_, rfl⟩
                have qx_16 : x_16.toInt = v4_h_1.toInt + 1 := by have q0 := ib_hi x_2; have qa := ib_lo v4_h_1; rw [ex_16]; exact ii_add (by omega) (by omega)
                refine lv_iinc (v := x_16) (lv' := [(4, .int x_16), (5, .ref bh_4), (0, .ref a0), (1, .int a1), (2, .int a2), (3, .int v3_h_1)]) hx hb dX10_leastFrozenAbove_65 hl (k := 5) rfl (by rw [ex_16]; rfl) (by decide) rfl (fun ls hl => hp_n (n := 68) rfl ?_)
                refine lv_goto (tgt := 5) hx hb dX10_leastFrozenAbove_68 (by decide) ?_
                exact ih5 _ (by have q0 := ib_hi x_2; have q1 := ib_lo x_2; have qa := ib_hi v4_h_1; have qb := ib_lo v4_h_1; have qc : (v4_h_1 + 1).toInt = v4_h_1.toInt + (1 : Int32).toInt := ii_add (by omega) (by omega); rw [ex_16]; omega) Hh_4 Lh_4 Bh_4 v3_h_1 x_16 (by omega) ls (lv_sub hl [2, 3, 4, 5, 0] rfl) rfl
              ·
                have jc_15 := il_nle c_15
                exact J59 Hh_4 Lh_4 Bh_4 ls (lv_sub hl [1, 2, 3, 5, 0] rfl)
  refine lv_istore (lv' := [(4, .int 0), (3, .int (-1)), (0, .ref a0), (1, .int a1), (2, .int a2)]) hx hb dX10_leastFrozenAbove_3 hl (by decide) rfl (fun ls hl => hp_n (n := 5) rfl ?_)
  exact J5 _ s.heap [] B (-1) 0 (by omega) ls (lv_sub hl [2, 3, 4, 1, 0] rfl) rfl
abbrev w_X10_partingTrees : cw_W := ([], [], [33], [])
set_option maxRecDepth 100000 in
set_option maxHeartbeats 4000000 in
theorem t_X10_partingTrees (Γ : hp_G) (l : Launch) (α : hp_T) (g : GC α) (a0 : Nat) (k0 : hp_K α a0 = 11) (a1 : Nat) (k1 : hp_K α a1 = 3) (a2 : Nat) (k2 : hp_K α a2 = 3) (a3 : Int32) (a4 : Int32) (z4 : a4 = 0 ∨ a4 = 1) : Met l yX10_partingTrees (hp_ws yX10_partingTrees cX10_partingTrees 10 (some .int)) (hp_rm 3 0 0) (hp_Pc Γ α [.ref a0, .ref a1, .ref a2, .int a3, .int a4]) (hp_Qi Γ (fun r β => cw w_X10_partingTrees α β)) 0 0 (hp_A Γ) := by
  refine hp_start (by decide) ?_
  intro p e s m below meth c C hr hlk B0 hnm
  have C : hp_C Γ p m c cX10_partingTrees 10 s ([.ref a0, .ref a1, .ref a2, .int a3, .int a4] : List Value).toArray RX10 := C
  have hx := C.1.1
  have hb := C.1.2.1
  have hown := C.1.2.2.2.1
  have hts := C.1.2.2.2.2
  have B : hp_B Γ (cw w_X10_partingTrees) s α α s.heap [] := ⟨B0.1, B0.2.1, cw_rf g⟩
  have lit0 : (0 : Int32).toInt = 0 := by decide
  have lit1 : (1 : Int32).toInt = 1 := by decide
  have lit40 : (40 : Int32).toInt = 40 := by decide
  have hl := lv_entry ([.ref a0, .ref a1, .ref a2, .int a3, .int a4]) (n := 10) (Nat.le_of_ble_eq_true rfl)
  show W p l e (hp_rm 3 0 0) s m ([.ref a0, .ref a1, .ref a2, .int a3, .int a4] : List Value).toArray below meth c s.heap [] 0 0 (MQ below (hp_Qi Γ (fun r β => cw w_X10_partingTrees α β)) ([.ref a0, .ref a1, .ref a2, .int a3, .int a4] : List Value).toArray s 0 0 (hp_A Γ)) (entryFrame m ([.ref a0, .ref a1, .ref a2, .int a3, .int a4] : List Value).toArray 10)
  rw [lg_entry_eq]
  generalize (lg_sl ([.ref a0, .ref a1, .ref a2, .int a3, .int a4]) ++ List.replicate (10 - (lg_sl ([.ref a0, .ref a1, .ref a2, .int a3, .int a4])).length) Slot.unset).toArray = ls at hl ⊢
  have hl : lv_has ls 10 [(0, .ref a0), (1, .ref a1), (2, .ref a2), (3, .int a3), (4, .int a4)] := hl
  refine lv_iconst (v := 0) hx hb dX10_partingTrees_0 (by decide) (hp_n (n := 1) rfl ?_)
  refine lv_istore (lv' := [(5, .int 0), (0, .ref a0), (1, .ref a1), (2, .ref a2), (3, .int a3), (4, .int a4)]) hx hb dX10_partingTrees_1 hl (by decide) rfl (fun ls hl => hp_n (n := 3) rfl ?_)
  refine lv_iload_n hx hb dX10_partingTrees_3 rfl (lv_at hl 4 rfl) (hp_n (n := 4) rfl ?_)
  refine lv_istore (lv' := [(6, .int a3), (5, .int 0), (0, .ref a0), (1, .ref a1), (2, .ref a2), (3, .int a3), (4, .int a4)]) hx hb dX10_partingTrees_4 hl (by decide) rfl (fun ls hl => hp_n (n := 6) rfl ?_)
  refine lv_iconst (v := 0) hx hb dX10_partingTrees_6 (by decide) (hp_n (n := 7) rfl ?_)
  refine lv_istore (lv' := [(7, .int 0), (6, .int a3), (5, .int 0), (0, .ref a0), (1, .ref a1), (2, .ref a2), (3, .int a3), (4, .int a4)]) hx hb dX10_partingTrees_7 hl (by decide) rfl (fun ls hl => hp_n (n := 9) rfl ?_)
  refine lv_iconst (v := 0) hx hb dX10_partingTrees_9 (by decide) (hp_n (n := 10) rfl ?_)
  have J12 : ∀ (nq : Nat) (αh_1 : hp_T) (Hh_1 : Heap) (Lh_1 : List Loc) (Bh_1 : hp_B Γ (cw w_X10_partingTrees) s α αh_1 Hh_1 Lh_1) (v5_h_1 : Int32) (v6_h_1 : Int32) (v7_h_1 : Int32) (v8_h_1 : Int32) (ih_1_0 : 0 ≤ v8_h_1.toInt) (ls : Array Slot) (hl : lv_has ls 10 [(0, .ref a0), (1, .ref a1), (2, .ref a2), (4, .int a4), (5, .int v5_h_1), (6, .int v6_h_1), (7, .int v7_h_1), (8, .int v8_h_1)]) (hmu12 : (2147483647 - v8_h_1.toInt).toNat = nq), W p l e (hp_rm 3 0 0) s m ([.ref a0, .ref a1, .ref a2, .int a3, .int a4] : List Value).toArray below meth c Hh_1 Lh_1 0 0 (MQ below (hp_Qi Γ (fun r β => cw w_X10_partingTrees α β)) ([.ref a0, .ref a1, .ref a2, .int a3, .int a4] : List Value).toArray s 0 0 (hp_A Γ)) (F0 m 12 ls []) := by
    intro nq
    induction nq using Nat.strongRecOn with
    | ind nq ih12 =>
    intro αh_1 Hh_1 Lh_1 Bh_1 v5_h_1 v6_h_1 v7_h_1 v8_h_1 ih_1_0 ls hl hmu12
    have inv12_0 := ih_1_0
    refine lv_iload hx hb dX10_partingTrees_12 (lv_at hl 7 rfl) (hp_n (n := 14) rfl ?_)
    refine lv_bipush (v := 40) hx hb dX10_partingTrees_14 (by decide) (hp_n (n := 16) rfl ?_)
    have J83 : ∀ (Hh_2 : Heap) (Lh_2 : List Loc) (Bh_2 : hp_B Γ (cw w_X10_partingTrees) s α αh_1 Hh_2 Lh_2) (ls : Array Slot) (hl : lv_has ls 10 [(4, .int a4), (5, .int v5_h_1), (7, .int v7_h_1)]), W p l e (hp_rm 3 0 0) s m ([.ref a0, .ref a1, .ref a2, .int a3, .int a4] : List Value).toArray below meth c Hh_2 Lh_2 0 0 (MQ below (hp_Qi Γ (fun r β => cw w_X10_partingTrees α β)) ([.ref a0, .ref a1, .ref a2, .int a3, .int a4] : List Value).toArray s 0 0 (hp_A Γ)) (F0 m 83 ls []) := by
      intro Hh_2 Lh_2 Bh_2 ls hl
      refine lv_iload hx hb dX10_partingTrees_83 (lv_at hl 0 rfl) (hp_n (n := 85) rfl ?_)
      refine lv_if_eq (tgt := 93) hx hb dX10_partingTrees_85 (by decide) (fun c_3 => ?_) (fun c_3 => hp_n (n := 88) rfl ?_)
      ·
        have jc_3 := il_eq c_3
        refine lv_iload hx hb dX10_partingTrees_93 (lv_at hl 1 rfl) (hp_n (n := 95) rfl ?_)
        exact q_iret C Bh_2 hr hlk Bh_2.2.2 dX10_partingTrees_95
      ·
        have jc_3 := il_ne c_3
        refine lv_iload hx hb dX10_partingTrees_88 (lv_at hl 2 rfl) (hp_n (n := 90) rfl ?_)
        refine lv_goto (tgt := 95) hx hb dX10_partingTrees_90 (by decide) ?_
        exact q_iret C Bh_2 hr hlk Bh_2.2.2 dX10_partingTrees_95
    refine lv_icmp_ge (tgt := 83) hx hb dX10_partingTrees_16 (by decide) (fun c_4 => ?_) (fun c_4 => hp_n (n := 19) rfl ?_)
    ·
      have jc_4 := il_le c_4
      exact J83 Hh_1 Lh_1 Bh_1 ls (lv_sub hl [3, 4, 6] rfl)
    ·
      have jc_4 := il_nle c_4
      refine lv_iload hx hb dX10_partingTrees_19 (lv_at hl 5 rfl) (hp_n (n := 21) rfl ?_)
      refine lv_iconst (v := 1) hx hb dX10_partingTrees_21 (by decide) (hp_n (n := 22) rfl ?_)
      refine lv_icmp_le (tgt := 83) hx hb dX10_partingTrees_22 (by decide) (fun c_5 => ?_) (fun c_5 => hp_n (n := 25) rfl ?_)
      ·
        have jc_5 := il_le c_5
        exact J83 Hh_1 Lh_1 Bh_1 ls (lv_sub hl [3, 4, 6] rfl)
      ·
        have jc_5 := il_nle c_5
        refine lv_iload hx hb dX10_partingTrees_25 (lv_at hl 5 rfl) (hp_n (n := 27) rfl ?_)
        refine q_ci (pc' := 30) Bh_1 (hp_runS (As := [.int v6_h_1]) (rest := []) C Bh_1 (t_X11_firstPartOf Γ l αh_1 Bh_1.2.2.1 v6_h_1) lb_X11_firstPartOf ls_X11_firstPartOf lk_X10_203 rfl (by decide) rfl hl.1 rfl (Nat.le_of_ble_eq_true rfl) dX10_partingTrees_27 ⟨Nat.le_refl _, Nat.le_refl _⟩) (fun _ _ h => by rw [h]; exact Bh_1.2.2) rfl (fun rh_6 αh_6 Hh_6 Lh_6 ph_6 Bh_6 => ?_)
        rw [ph_6] at Bh_6
        refine lv_istore (lv' := [(9, .int rh_6), (0, .ref a0), (1, .ref a1), (2, .ref a2), (4, .int a4), (5, .int v5_h_1), (6, .int v6_h_1), (7, .int v7_h_1), (8, .int v8_h_1)]) hx hb dX10_partingTrees_30 hl (by decide) rfl (fun ls hl => hp_n (n := 32) rfl ?_)
        obtain ⟨x_7, ex_7⟩ : ∃ y : Int32, y = v7_h_1 + 1 := ⟨_, rfl⟩
        refine lv_iinc (v := x_7) (lv' := [(7, .int x_7), (9, .int rh_6), (0, .ref a0), (1, .ref a1), (2, .ref a2), (4, .int a4), (5, .int v5_h_1), (6, .int v6_h_1), (8, .int v8_h_1)]) hx hb dX10_partingTrees_32 hl (k := 7) rfl (by rw [ex_7]; rfl) (by decide) rfl (fun ls hl => hp_n (n := 35) rfl ?_)
        refine lv_aload_n hx hb dX10_partingTrees_35 rfl (lv_at hl 2 rfl) (hp_n (n := 36) rfl ?_)
        refine lv_aload_n hx hb dX10_partingTrees_36 rfl (lv_at hl 3 rfl) (hp_n (n := 37) rfl ?_)
        refine lv_iload hx hb dX10_partingTrees_37 (lv_at hl 6 rfl) (hp_n (n := 39) rfl ?_)
        refine lv_iload hx hb dX10_partingTrees_39 (lv_at hl 1 rfl) (hp_n (n := 41) rfl ?_)
        refine q_ci (pc' := 44) Bh_6 (hp_runV (As := [va_rf (some a1), .int v5_h_1, .int rh_6]) (rest := []) C Bh_6 (t_X10_treeMark Γ l αh_1 Bh_6.2.2.1 a0 (cw_k Bh_6.2.2 k0) (some a1) (fun b h => by cases h; exact (cw_k Bh_6.2.2 k1)) v5_h_1 rh_6) lb_X10_treeMark lv_X10_treeMark lk_X10_100 (cw_k Bh_6.2.2 k0) rfl (by decide) rfl hl.1 rfl (Nat.le_of_ble_eq_true rfl) dX10_partingTrees_41 ⟨Nat.le_refl _, Nat.le_refl _⟩) (fun _ _ h => cw_tr Bh_6.2.2 h (by decide)) rfl (fun rh_8 αh_8 Hh_8 Lh_8 ph_8 Bh_8 => ?_)
        refine lv_aload_n hx hb dX10_partingTrees_44 rfl (lv_at hl 2 rfl) (hp_n (n := 45) rfl ?_)
        refine lv_aload_n hx hb dX10_partingTrees_45 rfl (lv_at hl 4 rfl) (hp_n (n := 46) rfl ?_)
        refine lv_iload hx hb dX10_partingTrees_46 (lv_at hl 6 rfl) (hp_n (n := 48) rfl ?_)
        refine lv_iload hx hb dX10_partingTrees_48 (lv_at hl 1 rfl) (hp_n (n := 50) rfl ?_)
        refine q_ci (pc' := 53) Bh_8 (hp_runV (As := [va_rf (some a2), .int v5_h_1, .int rh_6]) (rest := [.int rh_8]) C Bh_8 (t_X10_treeMark Γ l αh_8 Bh_8.2.2.1 a0 (cw_k Bh_8.2.2 k0) (some a2) (fun b h => by cases h; exact (cw_k Bh_8.2.2 k2)) v5_h_1 rh_6) lb_X10_treeMark lv_X10_treeMark lk_X10_100 (cw_k Bh_8.2.2 k0) rfl (by decide) rfl hl.1 rfl (Nat.le_of_ble_eq_true rfl) dX10_partingTrees_50 ⟨Nat.le_refl _, Nat.le_refl _⟩) (fun _ _ h => cw_tr Bh_8.2.2 h (by decide)) rfl (fun rh_9 αh_9 Hh_9 Lh_9 ph_9 Bh_9 => ?_)
        refine lv_icmp_eq (tgt := 63) hx hb dX10_partingTrees_53 (by decide) (fun c_10 => ?_) (fun c_10 => hp_n (n := 56) rfl ?_)
        ·
          have jc_10 := il_eq c_10
          refine lv_iload hx hb dX10_partingTrees_63 (lv_at hl 6 rfl) (hp_n (n := 65) rfl ?_)
          refine lv_iload hx hb dX10_partingTrees_65 (lv_at hl 1 rfl) (hp_n (n := 67) rfl ?_)
          refine lv_iadd hx hb dX10_partingTrees_67 (hp_n (n := 68) rfl (lv_topi (fun x_11 ex_11 => ?_)))
          refine lv_istore (lv' := [(5, .int x_11), (7, .int x_7), (9, .int rh_6), (0, .ref a0), (1, .ref a1), (2, .ref a2), (4, .int a4), (6, .int v6_h_1), (8, .int v8_h_1)]) hx hb dX10_partingTrees_68 hl (by decide) rfl (fun ls hl => hp_n (n := 70) rfl ?_)
          refine lv_iload hx hb dX10_partingTrees_70 (lv_at hl 7 rfl) (hp_n (n := 72) rfl ?_)
          refine lv_iload hx hb dX10_partingTrees_72 (lv_at hl 2 rfl) (hp_n (n := 74) rfl ?_)
          refine lv_isub hx hb dX10_partingTrees_74 (hp_n (n := 75) rfl (lv_topi (fun x_12 ex_12 => ?_)))
          refine lv_istore (lv' := [(6, .int x_12), (5, .int x_11), (7, .int x_7), (9, .int rh_6), (0, .ref a0), (1, .ref a1), (2, .ref a2), (4, .int a4), (8, .int v8_h_1)]) hx hb dX10_partingTrees_75 hl (by decide) rfl (fun ls hl => hp_n (n := 77) rfl ?_)
          obtain ⟨x_13, ex_13⟩ : ∃ y : Int32, y = v8_h_1 + 1 := ⟨_, rfl⟩
          have qx_13 : x_13.toInt = v8_h_1.toInt + 1 := by have qa := ib_lo v8_h_1; rw [ex_13]; exact ii_add (by omega) (by omega)
          refine lv_iinc (v := x_13) (lv' := [(8, .int x_13), (6, .int x_12), (5, .int x_11), (7, .int x_7), (9, .int rh_6), (0, .ref a0), (1, .ref a1), (2, .ref a2), (4, .int a4)]) hx hb dX10_partingTrees_77 hl (k := 8) rfl (by rw [ex_13]; rfl) (by decide) rfl (fun ls hl => hp_n (n := 80) rfl ?_)
          refine lv_goto (tgt := 12) hx hb dX10_partingTrees_80 (by decide) ?_
          exact ih12 _ (by have qa := ib_hi v8_h_1; have qb := ib_lo v8_h_1; have qc : (v8_h_1 + 1).toInt = v8_h_1.toInt + (1 : Int32).toInt := ii_add (by omega) (by omega); rw [ex_13]; omega) αh_9 Hh_9 Lh_9 Bh_9 x_11 x_12 x_7 x_13 (by omega) ls (lv_sub hl [5, 6, 7, 8, 2, 1, 3, 0] rfl) rfl
        ·
          have jc_10 := il_ne c_10
          refine lv_iload hx hb dX10_partingTrees_56 (lv_at hl 1 rfl) (hp_n (n := 58) rfl ?_)
          refine lv_istore (lv' := [(6, .int rh_6), (7, .int x_7), (9, .int rh_6), (0, .ref a0), (1, .ref a1), (2, .ref a2), (4, .int a4), (5, .int v5_h_1), (8, .int v8_h_1)]) hx hb dX10_partingTrees_58 hl (by decide) rfl (fun ls hl => hp_n (n := 60) rfl ?_)
          refine lv_goto (tgt := 77) hx hb dX10_partingTrees_60 (by decide) ?_
          obtain ⟨x_14, ex_14⟩ : ∃ y : Int32, y = v8_h_1 + 1 := ⟨_, rfl⟩
          have qx_14 : x_14.toInt = v8_h_1.toInt + 1 := by have qa := ib_lo v8_h_1; rw [ex_14]; exact ii_add (by omega) (by omega)
          refine lv_iinc (v := x_14) (lv' := [(8, .int x_14), (6, .int rh_6), (7, .int x_7), (9, .int rh_6), (0, .ref a0), (1, .ref a1), (2, .ref a2), (4, .int a4), (5, .int v5_h_1)]) hx hb dX10_partingTrees_77 hl (k := 8) rfl (by rw [ex_14]; rfl) (by decide) rfl (fun ls hl => hp_n (n := 80) rfl ?_)
          refine lv_goto (tgt := 12) hx hb dX10_partingTrees_80 (by decide) ?_
          exact ih12 _ (by have qa := ib_hi v8_h_1; have qb := ib_lo v8_h_1; have qc : (v8_h_1 + 1).toInt = v8_h_1.toInt + (1 : Int32).toInt := ii_add (by omega) (by omega); rw [ex_14]; omega) αh_9 Hh_9 Lh_9 Bh_9 v5_h_1 rh_6 x_7 x_14 (by omega) ls (lv_sub hl [4, 5, 6, 7, 8, 1, 2, 0] rfl) rfl
  refine lv_istore (lv' := [(8, .int 0), (7, .int 0), (6, .int a3), (5, .int 0), (0, .ref a0), (1, .ref a1), (2, .ref a2), (3, .int a3), (4, .int a4)]) hx hb dX10_partingTrees_10 hl (by decide) rfl (fun ls hl => hp_n (n := 12) rfl ?_)
  exact J12 _ α s.heap [] B 0 a3 0 0 (by omega) ls (lv_sub hl [4, 5, 6, 8, 3, 2, 1, 0] rfl) rfl
abbrev w_X10_partingEntry : cw_W := ([], [], [33], [])
set_option maxRecDepth 100000 in
set_option maxHeartbeats 4000000 in
theorem t_X10_partingEntry (Γ : hp_G) (l : Launch) (α : hp_T) (g : GC α) (a0 : Nat) (k0 : hp_K α a0 = 11) (a1 : Nat) (k1 : hp_K α a1 = 3) (a2 : Nat) (k2 : hp_K α a2 = 3) : Met l yX10_partingEntry (hp_ws yX10_partingEntry cX10_partingEntry 4 (some .int)) (hp_rm 4 0 0) (hp_Pc Γ α [.ref a0, .ref a1, .ref a2]) (hp_Qi Γ (fun r β => cw w_X10_partingEntry α β)) 0 0 (hp_A Γ) := by
  refine hp_start (by decide) ?_
  intro p e s m below meth c C hr hlk B0 hnm
  have C : hp_C Γ p m c cX10_partingEntry 4 s ([.ref a0, .ref a1, .ref a2] : List Value).toArray RX10 := C
  have hx := C.1.1
  have hb := C.1.2.1
  have hown := C.1.2.2.2.1
  have hts := C.1.2.2.2.2
  have B : hp_B Γ (cw w_X10_partingEntry) s α α s.heap [] := ⟨B0.1, B0.2.1, cw_rf g⟩
  have litm1 : ((-1) : Int32).toInt = (-1) := by decide
  have lit0 : (0 : Int32).toInt = 0 := by decide
  have hl := lv_entry ([.ref a0, .ref a1, .ref a2]) (n := 4) (Nat.le_of_ble_eq_true rfl)
  show W p l e (hp_rm 4 0 0) s m ([.ref a0, .ref a1, .ref a2] : List Value).toArray below meth c s.heap [] 0 0 (MQ below (hp_Qi Γ (fun r β => cw w_X10_partingEntry α β)) ([.ref a0, .ref a1, .ref a2] : List Value).toArray s 0 0 (hp_A Γ)) (entryFrame m ([.ref a0, .ref a1, .ref a2] : List Value).toArray 4)
  rw [lg_entry_eq]
  generalize (lg_sl ([.ref a0, .ref a1, .ref a2]) ++ List.replicate (4 - (lg_sl ([.ref a0, .ref a1, .ref a2])).length) Slot.unset).toArray = ls at hl ⊢
  have hl : lv_has ls 4 [(0, .ref a0), (1, .ref a1), (2, .ref a2)] := hl
  refine lv_aload_n hx hb dX10_partingEntry_0 rfl (lv_at hl 1 rfl) (hp_n (n := 1) rfl ?_)
  refine q_geti (κ := 3) (k := 2) (φ := 152) (pc' := 4) C B (cw_k B.2.2 k1) fl_X10_68 rfl rfl rfl dX10_partingEntry_1 rfl (fun x_1 ex_1 => ?_)
  refine lv_aload_n hx hb dX10_partingEntry_4 rfl (lv_at hl 2 rfl) (hp_n (n := 5) rfl ?_)
  refine q_geti (κ := 3) (k := 2) (φ := 152) (pc' := 8) C B (cw_k B.2.2 k2) fl_X10_68 rfl rfl rfl dX10_partingEntry_5 rfl (fun x_2 ex_2 => ?_)
  refine q_ci (pc' := 11) B (hp_runS (As := [.int x_1, .int x_2]) (rest := []) C B (t_J9_min_7cf53 Γ l α B.2.2.1 x_1 x_2) lb_J9_min_7cf53 ls_J9_min_7cf53 lk_X10_82 rfl (by decide) rfl hl.1 rfl (Nat.le_of_ble_eq_true rfl) dX10_partingEntry_8 ⟨Nat.le_refl _, Nat.le_refl _⟩) (fun _ _ h => by rw [h.1]; exact B.2.2) rfl (fun rh_3 αh_3 Hh_3 Lh_3 ph_3 Bh_3 => ?_)
  rw [ph_3.1] at Bh_3
  obtain ⟨ph_3a, ph_3b, ph_3c⟩ := ph_3.2
  refine lv_istore_n (lv' := [(3, .int rh_3), (0, .ref a0), (1, .ref a1), (2, .ref a2)]) hx hb dX10_partingEntry_11 rfl hl (by decide) rfl (fun ls hl => hp_n (n := 12) rfl ?_)
  refine lv_aload_n hx hb dX10_partingEntry_12 rfl (lv_at hl 1 rfl) (hp_n (n := 13) rfl ?_)
  refine lv_aload_n hx hb dX10_partingEntry_13 rfl (lv_at hl 2 rfl) (hp_n (n := 14) rfl ?_)
  refine lv_iload_n hx hb dX10_partingEntry_14 rfl (lv_at hl 0 rfl) (hp_n (n := 15) rfl ?_)
  refine q_ci (pc' := 18) Bh_3 (hp_runV (As := [va_rf (some a1), .int rh_3]) (rest := []) C Bh_3 (t_X10_headOf Γ l α Bh_3.2.2.1 a0 (cw_k Bh_3.2.2 k0) (some a1) (fun b h => by cases h; exact (cw_k Bh_3.2.2 k1)) rh_3) lb_X10_headOf lv_X10_headOf lk_X10_107 (cw_k Bh_3.2.2 k0) rfl (by decide) rfl hl.1 rfl (Nat.le_of_ble_eq_true rfl) dX10_partingEntry_15 ⟨Nat.le_refl _, Nat.le_refl _⟩) (fun _ _ h => cw_tr Bh_3.2.2 h (by decide)) rfl (fun rh_4 αh_4 Hh_4 Lh_4 ph_4 Bh_4 => ?_)
  refine lv_aload_n hx hb dX10_partingEntry_18 rfl (lv_at hl 1 rfl) (hp_n (n := 19) rfl ?_)
  refine lv_aload_n hx hb dX10_partingEntry_19 rfl (lv_at hl 3 rfl) (hp_n (n := 20) rfl ?_)
  refine lv_iload_n hx hb dX10_partingEntry_20 rfl (lv_at hl 0 rfl) (hp_n (n := 21) rfl ?_)
  refine q_ci (pc' := 24) Bh_4 (hp_runV (As := [va_rf (some a2), .int rh_3]) (rest := [.int rh_4]) C Bh_4 (t_X10_headOf Γ l αh_4 Bh_4.2.2.1 a0 (cw_k Bh_4.2.2 k0) (some a2) (fun b h => by cases h; exact (cw_k Bh_4.2.2 k2)) rh_3) lb_X10_headOf lv_X10_headOf lk_X10_107 (cw_k Bh_4.2.2 k0) rfl (by decide) rfl hl.1 rfl (Nat.le_of_ble_eq_true rfl) dX10_partingEntry_21 ⟨Nat.le_refl _, Nat.le_refl _⟩) (fun _ _ h => cw_tr Bh_4.2.2 h (by decide)) rfl (fun rh_5 αh_5 Hh_5 Lh_5 ph_5 Bh_5 => ?_)
  refine lv_icmp_ne (tgt := 44) hx hb dX10_partingEntry_24 (by decide) (fun c_6 => ?_) (fun c_6 => hp_n (n := 27) rfl ?_)
  ·
    have jc_6 := il_ne c_6
    refine lv_aload_n hx hb dX10_partingEntry_44 rfl (lv_at hl 1 rfl) (hp_n (n := 45) rfl ?_)
    refine lv_aload_n hx hb dX10_partingEntry_45 rfl (lv_at hl 2 rfl) (hp_n (n := 46) rfl ?_)
    refine lv_aload_n hx hb dX10_partingEntry_46 rfl (lv_at hl 3 rfl) (hp_n (n := 47) rfl ?_)
    refine lv_iload_n hx hb dX10_partingEntry_47 rfl (lv_at hl 0 rfl) (hp_n (n := 48) rfl ?_)
    refine lv_iconst (v := 0) hx hb dX10_partingEntry_48 (by decide) (hp_n (n := 49) rfl ?_)
    refine q_ci (pc' := 52) Bh_5 (hp_runV (As := [.ref a1, .ref a2, .int rh_3, .int 0]) (rest := []) C Bh_5 (t_X10_partingTrees Γ l αh_5 Bh_5.2.2.1 a0 (cw_k Bh_5.2.2 k0) a1 (cw_k Bh_5.2.2 k1) a2 (cw_k Bh_5.2.2 k2) rh_3 0 (Or.inl rfl)) lb_X10_partingTrees lv_X10_partingTrees lk_X10_199 (cw_k Bh_5.2.2 k0) rfl (by decide) rfl hl.1 rfl (Nat.le_of_ble_eq_true rfl) dX10_partingEntry_49 ⟨Nat.le_refl _, Nat.le_refl _⟩) (fun _ _ h => cw_tr Bh_5.2.2 h (by decide)) rfl (fun rh_7 αh_7 Hh_7 Lh_7 ph_7 Bh_7 => ?_)
    exact q_iret C Bh_7 hr hlk Bh_7.2.2 dX10_partingEntry_52
  ·
    have jc_6 := il_eq c_6
    refine lv_aload_n hx hb dX10_partingEntry_27 rfl (lv_at hl 2 rfl) (hp_n (n := 28) rfl ?_)
    have t_8 : x_1 = hp_I αh_4 152 a1 := by rw [cw_I ph_4 a1 (by decide)]; exact ex_1
    have t_9 : x_1 = hp_I αh_5 152 a1 := by rw [cw_I ph_5 a1 (by decide)]; exact t_8
    refine q_getj (κ := 3) (k := 2) (φ := 152) (pc' := 31) C Bh_5 (cw_k Bh_5.2.2 k1) fl_X10_68 rfl rfl rfl t_9 dX10_partingEntry_28 rfl ?_
    refine lv_aload_n hx hb dX10_partingEntry_31 rfl (lv_at hl 3 rfl) (hp_n (n := 32) rfl ?_)
    have t_10 : x_2 = hp_I αh_4 152 a2 := by rw [cw_I ph_4 a2 (by decide)]; exact ex_2
    have t_11 : x_2 = hp_I αh_5 152 a2 := by rw [cw_I ph_5 a2 (by decide)]; exact t_10
    refine q_getj (κ := 3) (k := 2) (φ := 152) (pc' := 35) C Bh_5 (cw_k Bh_5.2.2 k2) fl_X10_68 rfl rfl rfl t_11 dX10_partingEntry_32 rfl ?_
    refine lv_icmp_ne (tgt := 42) hx hb dX10_partingEntry_35 (by decide) (fun c_12 => ?_) (fun c_12 => hp_n (n := 38) rfl ?_)
    ·
      have jc_12 := il_ne c_12
      refine lv_iload_n hx hb dX10_partingEntry_42 rfl (lv_at hl 0 rfl) (hp_n (n := 43) rfl ?_)
      exact q_iret C Bh_5 hr hlk Bh_5.2.2 dX10_partingEntry_43
    ·
      have jc_12 := il_eq c_12
      refine lv_iconst (v := (-1)) hx hb dX10_partingEntry_38 (by decide) (hp_n (n := 39) rfl ?_)
      refine lv_goto (tgt := 43) hx hb dX10_partingEntry_39 (by decide) ?_
      exact q_iret C Bh_5 hr hlk Bh_5.2.2 dX10_partingEntry_43
abbrev w_X10_partingCompared : cw_W := ([], [], [33], [])
set_option maxRecDepth 100000 in
set_option maxHeartbeats 4000000 in
theorem t_X10_partingCompared (Γ : hp_G) (l : Launch) (α : hp_T) (g : GC α) (a0 : Nat) (k0 : hp_K α a0 = 11) (a1 : Nat) (k1 : hp_K α a1 = 3) (a2 : Nat) (k2 : hp_K α a2 = 3) : Met l yX10_partingCompared (hp_ws yX10_partingCompared cX10_partingCompared 4 (some .int)) (hp_rm 4 0 0) (hp_Pc Γ α [.ref a0, .ref a1, .ref a2]) (hp_Qi Γ (fun r β => cw w_X10_partingCompared α β)) 0 0 (hp_A Γ) := by
  refine hp_start (by decide) ?_
  intro p e s m below meth c C hr hlk B0 hnm
  have C : hp_C Γ p m c cX10_partingCompared 4 s ([.ref a0, .ref a1, .ref a2] : List Value).toArray RX10 := C
  have hx := C.1.1
  have hb := C.1.2.1
  have hown := C.1.2.2.2.1
  have hts := C.1.2.2.2.2
  have B : hp_B Γ (cw w_X10_partingCompared) s α α s.heap [] := ⟨B0.1, B0.2.1, cw_rf g⟩
  have lit0 : (0 : Int32).toInt = 0 := by decide
  have lit1 : (1 : Int32).toInt = 1 := by decide
  have hl := lv_entry ([.ref a0, .ref a1, .ref a2]) (n := 4) (Nat.le_of_ble_eq_true rfl)
  show W p l e (hp_rm 4 0 0) s m ([.ref a0, .ref a1, .ref a2] : List Value).toArray below meth c s.heap [] 0 0 (MQ below (hp_Qi Γ (fun r β => cw w_X10_partingCompared α β)) ([.ref a0, .ref a1, .ref a2] : List Value).toArray s 0 0 (hp_A Γ)) (entryFrame m ([.ref a0, .ref a1, .ref a2] : List Value).toArray 4)
  rw [lg_entry_eq]
  generalize (lg_sl ([.ref a0, .ref a1, .ref a2]) ++ List.replicate (4 - (lg_sl ([.ref a0, .ref a1, .ref a2])).length) Slot.unset).toArray = ls at hl ⊢
  have hl : lv_has ls 4 [(0, .ref a0), (1, .ref a1), (2, .ref a2)] := hl
  refine lv_aload_n hx hb dX10_partingCompared_0 rfl (lv_at hl 1 rfl) (hp_n (n := 1) rfl ?_)
  refine q_geti (κ := 3) (k := 2) (φ := 152) (pc' := 4) C B (cw_k B.2.2 k1) fl_X10_68 rfl rfl rfl dX10_partingCompared_1 rfl (fun x_1 ex_1 => ?_)
  refine lv_aload_n hx hb dX10_partingCompared_4 rfl (lv_at hl 2 rfl) (hp_n (n := 5) rfl ?_)
  refine q_geti (κ := 3) (k := 2) (φ := 152) (pc' := 8) C B (cw_k B.2.2 k2) fl_X10_68 rfl rfl rfl dX10_partingCompared_5 rfl (fun x_2 ex_2 => ?_)
  refine q_ci (pc' := 11) B (hp_runS (As := [.int x_1, .int x_2]) (rest := []) C B (t_J9_min_7cf53 Γ l α B.2.2.1 x_1 x_2) lb_J9_min_7cf53 ls_J9_min_7cf53 lk_X10_82 rfl (by decide) rfl hl.1 rfl (Nat.le_of_ble_eq_true rfl) dX10_partingCompared_8 ⟨Nat.le_refl _, Nat.le_refl _⟩) (fun _ _ h => by rw [h.1]; exact B.2.2) rfl (fun rh_3 αh_3 Hh_3 Lh_3 ph_3 Bh_3 => ?_)
  rw [ph_3.1] at Bh_3
  obtain ⟨ph_3a, ph_3b, ph_3c⟩ := ph_3.2
  refine lv_istore_n (lv' := [(3, .int rh_3), (0, .ref a0), (1, .ref a1), (2, .ref a2)]) hx hb dX10_partingCompared_11 rfl hl (by decide) rfl (fun ls hl => hp_n (n := 12) rfl ?_)
  refine lv_aload_n hx hb dX10_partingCompared_12 rfl (lv_at hl 1 rfl) (hp_n (n := 13) rfl ?_)
  refine lv_aload_n hx hb dX10_partingCompared_13 rfl (lv_at hl 2 rfl) (hp_n (n := 14) rfl ?_)
  refine lv_iload_n hx hb dX10_partingCompared_14 rfl (lv_at hl 0 rfl) (hp_n (n := 15) rfl ?_)
  refine q_ci (pc' := 18) Bh_3 (hp_runV (As := [va_rf (some a1), .int rh_3]) (rest := []) C Bh_3 (t_X10_headOf Γ l α Bh_3.2.2.1 a0 (cw_k Bh_3.2.2 k0) (some a1) (fun b h => by cases h; exact (cw_k Bh_3.2.2 k1)) rh_3) lb_X10_headOf lv_X10_headOf lk_X10_107 (cw_k Bh_3.2.2 k0) rfl (by decide) rfl hl.1 rfl (Nat.le_of_ble_eq_true rfl) dX10_partingCompared_15 ⟨Nat.le_refl _, Nat.le_refl _⟩) (fun _ _ h => cw_tr Bh_3.2.2 h (by decide)) rfl (fun rh_4 αh_4 Hh_4 Lh_4 ph_4 Bh_4 => ?_)
  refine lv_aload_n hx hb dX10_partingCompared_18 rfl (lv_at hl 1 rfl) (hp_n (n := 19) rfl ?_)
  refine lv_aload_n hx hb dX10_partingCompared_19 rfl (lv_at hl 3 rfl) (hp_n (n := 20) rfl ?_)
  refine lv_iload_n hx hb dX10_partingCompared_20 rfl (lv_at hl 0 rfl) (hp_n (n := 21) rfl ?_)
  refine q_ci (pc' := 24) Bh_4 (hp_runV (As := [va_rf (some a2), .int rh_3]) (rest := [.int rh_4]) C Bh_4 (t_X10_headOf Γ l αh_4 Bh_4.2.2.1 a0 (cw_k Bh_4.2.2 k0) (some a2) (fun b h => by cases h; exact (cw_k Bh_4.2.2 k2)) rh_3) lb_X10_headOf lv_X10_headOf lk_X10_107 (cw_k Bh_4.2.2 k0) rfl (by decide) rfl hl.1 rfl (Nat.le_of_ble_eq_true rfl) dX10_partingCompared_21 ⟨Nat.le_refl _, Nat.le_refl _⟩) (fun _ _ h => cw_tr Bh_4.2.2 h (by decide)) rfl (fun rh_5 αh_5 Hh_5 Lh_5 ph_5 Bh_5 => ?_)
  refine lv_icmp_ne (tgt := 31) hx hb dX10_partingCompared_24 (by decide) (fun c_6 => ?_) (fun c_6 => hp_n (n := 27) rfl ?_)
  ·
    have jc_6 := il_ne c_6
    refine lv_aload_n hx hb dX10_partingCompared_31 rfl (lv_at hl 1 rfl) (hp_n (n := 32) rfl ?_)
    refine lv_aload_n hx hb dX10_partingCompared_32 rfl (lv_at hl 2 rfl) (hp_n (n := 33) rfl ?_)
    refine lv_aload_n hx hb dX10_partingCompared_33 rfl (lv_at hl 3 rfl) (hp_n (n := 34) rfl ?_)
    refine lv_iload_n hx hb dX10_partingCompared_34 rfl (lv_at hl 0 rfl) (hp_n (n := 35) rfl ?_)
    refine lv_iconst (v := 1) hx hb dX10_partingCompared_35 (by decide) (hp_n (n := 36) rfl ?_)
    refine q_ci (pc' := 39) Bh_5 (hp_runV (As := [.ref a1, .ref a2, .int rh_3, .int 1]) (rest := []) C Bh_5 (t_X10_partingTrees Γ l αh_5 Bh_5.2.2.1 a0 (cw_k Bh_5.2.2 k0) a1 (cw_k Bh_5.2.2 k1) a2 (cw_k Bh_5.2.2 k2) rh_3 1 (Or.inr rfl)) lb_X10_partingTrees lv_X10_partingTrees lk_X10_199 (cw_k Bh_5.2.2 k0) rfl (by decide) rfl hl.1 rfl (Nat.le_of_ble_eq_true rfl) dX10_partingCompared_36 ⟨Nat.le_refl _, Nat.le_refl _⟩) (fun _ _ h => cw_tr Bh_5.2.2 h (by decide)) rfl (fun rh_7 αh_7 Hh_7 Lh_7 ph_7 Bh_7 => ?_)
    exact q_iret C Bh_7 hr hlk Bh_7.2.2 dX10_partingCompared_39
  ·
    have jc_6 := il_eq c_6
    refine lv_iconst (v := 0) hx hb dX10_partingCompared_27 (by decide) (hp_n (n := 28) rfl ?_)
    refine lv_goto (tgt := 39) hx hb dX10_partingCompared_28 (by decide) ?_
    exact q_iret C Bh_5 hr hlk Bh_5.2.2 dX10_partingCompared_39
abbrev w_X10_renew : cw_W := ([152, 400, 401, 402, 403, 550, 552, 554, 556], [], [], [])
end JN3_0
section JN3_1
abbrev w_X0_foldedTree : cw_W := ([53, 54], [], [], [])
set_option maxRecDepth 100000 in
set_option maxHeartbeats 4000000 in
theorem t_X0_foldedTree (n : Nat) : ∀ (Γ : hp_G) (l : Launch) (α : hp_T) (g : GC α) (a0 : Nat) (k0 : hp_K α a0 = 1) (a1 : Int32) (a2 : Int32) (a3 : Int32) (hd : 41 - a3.toInt ≤ (n : Int)), Met l yX0_foldedTree (hp_ws yX0_foldedTree cX0_foldedTree 7 (some .int)) (hp_rm (n + 3) 0 0) (hp_Pc Γ α [.ref a0, .int a1, .int a2, .int a3]) (hp_Qi Γ (fun r β => cw w_X0_foldedTree α β)) 0 0 (hp_A Γ) := by
  induction n using Nat.strongRecOn with
  | ind n ihR =>
  intro Γ l α g a0 k0 a1 a2 a3 hd
  refine hp_start (by decide) ?_
  intro p e s m below meth c C hr hlk B0 hnm
  have C : hp_C Γ p m c cX0_foldedTree 7 s ([.ref a0, .int a1, .int a2, .int a3] : List Value).toArray RX0 := C
  have hx := C.1.1
  have hb := C.1.2.1
  have hown := C.1.2.2.2.1
  have hts := C.1.2.2.2.2
  have B : hp_B Γ (cw w_X0_foldedTree) s α α s.heap [] := ⟨B0.1, B0.2.1, cw_rf g⟩
  have lit0 : (0 : Int32).toInt = 0 := by decide
  have lit1 : (1 : Int32).toInt = 1 := by decide
  have lit2 : (2 : Int32).toInt = 2 := by decide
  have lit40 : (40 : Int32).toInt = 40 := by decide
  have hl := lv_entry ([.ref a0, .int a1, .int a2, .int a3]) (n := 7) (Nat.le_of_ble_eq_true rfl)
  show W p l e (hp_rm (n + 3) 0 0) s m ([.ref a0, .int a1, .int a2, .int a3] : List Value).toArray below meth c s.heap [] 0 0 (MQ below (hp_Qi Γ (fun r β => cw w_X0_foldedTree α β)) ([.ref a0, .int a1, .int a2, .int a3] : List Value).toArray s 0 0 (hp_A Γ)) (entryFrame m ([.ref a0, .int a1, .int a2, .int a3] : List Value).toArray 7)
  rw [lg_entry_eq]
  generalize (lg_sl ([.ref a0, .int a1, .int a2, .int a3]) ++ List.replicate (7 - (lg_sl ([.ref a0, .int a1, .int a2, .int a3])).length) Slot.unset).toArray = ls at hl ⊢
  have hl : lv_has ls 7 [(0, .ref a0), (1, .int a1), (2, .int a2), (3, .int a3)] := hl
  refine lv_iload_n hx hb dX0_foldedTree_0 rfl (lv_at hl 3 rfl) (hp_n (n := 1) rfl ?_)
  refine lv_bipush (v := 40) hx hb dX0_foldedTree_1 (by decide) (hp_n (n := 3) rfl ?_)
  have J18 : ∀ (Hh_1 : Heap) (Lh_1 : List Loc) (Bh_1 : hp_B Γ (cw w_X0_foldedTree) s α α Hh_1 Lh_1) (ls : Array Slot) (hl : lv_has ls 7 [(0, .ref a0)]), W p l e (hp_rm (n + 3) 0 0) s m ([.ref a0, .int a1, .int a2, .int a3] : List Value).toArray below meth c Hh_1 Lh_1 0 0 (MQ below (hp_Qi Γ (fun r β => cw w_X0_foldedTree α β)) ([.ref a0, .int a1, .int a2, .int a3] : List Value).toArray s 0 0 (hp_A Γ)) (F0 m 18 ls []) := by
    intro Hh_1 Lh_1 Bh_1 ls hl
    refine lv_aload_n hx hb dX0_foldedTree_18 rfl (lv_at hl 0 rfl) (hp_n (n := 19) rfl ?_)
    refine lv_dup hx hb dX0_foldedTree_19 rfl (hp_n (n := 20) rfl ?_)
    refine q_geti (κ := 1) (k := 4) (φ := 54) (pc' := 23) C Bh_1 (cw_k Bh_1.2.2 k0) fl_X0_28 rfl rfl rfl dX0_foldedTree_20 rfl (fun x_2 ex_2 => ?_)
    refine lv_iconst (v := 1) hx hb dX0_foldedTree_23 (by decide) (hp_n (n := 24) rfl ?_)
    refine lv_iadd hx hb dX0_foldedTree_24 (hp_n (n := 25) rfl (lv_topi (fun x_3 ex_3 => ?_)))
    refine q_puti (κ := 1) (k := 4) (φ := 54) (pc' := 28) C Bh_1 (cw_k Bh_1.2.2 k0) fl_X0_28 rfl rfl rfl rfl rfl rfl (cw_sI Bh_1.2.2 (by decide) (fun h => absurd h (by decide))) dX0_foldedTree_25 rfl (fun αh_4 Hh_4 Lh_4 eh_4 Bh_4 => ?_)
    refine lv_aload_n hx hb dX0_foldedTree_28 rfl (lv_at hl 0 rfl) (hp_n (n := 29) rfl ?_)
    refine q_getr (κ := 1) (k := 1) (φ := 51) (pc' := 32) C Bh_4 (cw_k Bh_4.2.2 k0) fl_X0_18 rfl rfl rfl (cw_r Bh_4.2.2 k0 rfl rfl (by decide) (by decide)) dX0_foldedTree_29 rfl (fun b_5 eb_5 kb_5 => ?_)
    refine lv_aload_n hx hb dX0_foldedTree_32 rfl (lv_at hl 0 rfl) (hp_n (n := 33) rfl ?_)
    have t_6 : x_3 = hp_I αh_4 54 a0 := by rw [eh_4]; exact hp_I_at.symm
    refine q_getj (κ := 1) (k := 4) (φ := 54) (pc' := 36) C Bh_4 (cw_k Bh_4.2.2 k0) fl_X0_28 rfl rfl rfl t_6 dX0_foldedTree_33 rfl ?_
    refine lv_iconst (v := 1) hx hb dX0_foldedTree_36 (by decide) (hp_n (n := 37) rfl ?_)
    refine lv_isub hx hb dX0_foldedTree_37 (hp_n (n := 38) rfl (lv_topi (fun x_7 ex_7 => ?_)))
    refine q_ci (pc' := 41) Bh_4 (hp_runV (As := [.int x_7]) (rest := []) C Bh_4 (t_X5_at Γ l αh_4 Bh_4.2.2.1 b_5 (cw_k Bh_4.2.2 kb_5) x_7) lb_X5_at lv_X5_at lk_X0_48 (cw_k Bh_4.2.2 kb_5) rfl (by omega) rfl hl.1 rfl (Nat.le_of_ble_eq_true rfl) dX0_foldedTree_38 ⟨Nat.le_refl _, Nat.le_refl _⟩) (fun _ _ h => by rw [h]; exact Bh_4.2.2) rfl (fun rh_8 αh_8 Hh_8 Lh_8 ph_8 Bh_8 => ?_)
    rw [ph_8] at Bh_8
    exact q_iret C Bh_8 hr hlk Bh_8.2.2 dX0_foldedTree_41
  refine lv_icmp_gt (tgt := 18) hx hb dX0_foldedTree_3 (by decide) (fun c_9 => ?_) (fun c_9 => hp_n (n := 6) rfl ?_)
  ·
    have jc_9 := il_lt c_9
    exact J18 s.heap [] B ls (lv_sub hl [0] rfl)
  ·
    have jc_9 := il_nlt c_9
    refine lv_aload_n hx hb dX0_foldedTree_6 rfl (lv_at hl 0 rfl) (hp_n (n := 7) rfl ?_)
    refine q_geti (κ := 1) (k := 2) (φ := 52) (pc' := 10) C B (cw_k B.2.2 k0) fl_X0_22 rfl rfl rfl dX0_foldedTree_7 rfl (fun x_10 ex_10 => ?_)
    refine lv_iload_n hx hb dX0_foldedTree_10 rfl (lv_at hl 1 rfl) (hp_n (n := 11) rfl ?_)
    refine lv_iload_n hx hb dX0_foldedTree_11 rfl (lv_at hl 2 rfl) (hp_n (n := 12) rfl ?_)
    refine q_ci (pc' := 15) B (hp_runS (As := [.int x_10, .int a1, .int a2]) (rest := []) C B (t_X11_hasOneOf Γ l α B.2.2.1 x_10 a1 a2) lb_X11_hasOneOf ls_X11_hasOneOf lk_X0_44 rfl (by omega) rfl hl.1 rfl (Nat.le_of_ble_eq_true rfl) dX0_foldedTree_12 ⟨Nat.le_refl _, Nat.le_refl _⟩) (fun _ _ h => by rw [h.1]; exact B.2.2) rfl (fun rh_11 αh_11 Hh_11 Lh_11 ph_11 Bh_11 => ?_)
    rw [ph_11.1] at Bh_11
    have zh_11 := ph_11.2
    refine lv_if_ne (tgt := 42) hx hb dX0_foldedTree_15 (by decide) (fun c_12 => ?_) (fun c_12 => hp_n (n := 18) rfl ?_)
    ·
      have jc_12 := il_ne c_12
      refine lv_iload_n hx hb dX0_foldedTree_42 rfl (lv_at hl 2 rfl) (hp_n (n := 43) rfl ?_)
      refine lv_iconst (v := 2) hx hb dX0_foldedTree_43 (by decide) (hp_n (n := 44) rfl ?_)
      refine lv_icmp_ge (tgt := 71) hx hb dX0_foldedTree_44 (by decide) (fun c_13 => ?_) (fun c_13 => hp_n (n := 47) rfl ?_)
      ·
        have jc_13 := il_le c_13
        refine lv_iload_n hx hb dX0_foldedTree_71 rfl (lv_at hl 2 rfl) (hp_n (n := 72) rfl ?_)
        refine q_ci (pc' := 75) Bh_11 (hp_runS (As := [.int a2]) (rest := []) C Bh_11 (t_X11_firstPartOf Γ l α Bh_11.2.2.1 a2) lb_X11_firstPartOf ls_X11_firstPartOf lk_X0_51 rfl (by omega) rfl hl.1 rfl (Nat.le_of_ble_eq_true rfl) dX0_foldedTree_72 ⟨Nat.le_refl _, Nat.le_refl _⟩) (fun _ _ h => by rw [h]; exact Bh_11.2.2) rfl (fun rh_14 αh_14 Hh_14 Lh_14 ph_14 Bh_14 => ?_)
        rw [ph_14] at Bh_14
        refine lv_istore (lv' := [(4, .int rh_14), (0, .ref a0), (1, .int a1), (2, .int a2), (3, .int a3)]) hx hb dX0_foldedTree_75 hl (by decide) rfl (fun ls hl => hp_n (n := 77) rfl ?_)
        refine lv_aload_n hx hb dX0_foldedTree_77 rfl (lv_at hl 1 rfl) (hp_n (n := 78) rfl ?_)
        refine lv_iload_n hx hb dX0_foldedTree_78 rfl (lv_at hl 2 rfl) (hp_n (n := 79) rfl ?_)
        refine lv_iload hx hb dX0_foldedTree_79 (lv_at hl 0 rfl) (hp_n (n := 81) rfl ?_)
        refine lv_iload_n hx hb dX0_foldedTree_81 rfl (lv_at hl 4 rfl) (hp_n (n := 82) rfl ?_)
        refine lv_iconst (v := 1) hx hb dX0_foldedTree_82 (by decide) (hp_n (n := 83) rfl ?_)
        refine lv_iadd hx hb dX0_foldedTree_83 (hp_n (n := 84) rfl (lv_topi (fun x_15 ex_15 => ?_)))
        have qx_15 : x_15.toInt = a3.toInt + 1 := by have qa := ib_lo a3; rw [ex_15]; exact ii_add (by omega) (by omega)
        refine q_ci (pc' := 87) Bh_14 (hp_runS (As := [.ref a0, .int a1, .int rh_14, .int x_15]) (rest := []) C Bh_14 (ihR (n - 1) (by omega) Γ l α Bh_14.2.2.1 a0 (cw_k Bh_14.2.2 k0) a1 rh_14 x_15 (by omega)) lb_X0_foldedTree ls_X0_foldedTree lk_X0_40 rfl (by omega) rfl hl.1 rfl (Nat.le_of_ble_eq_true rfl) dX0_foldedTree_84 ⟨Nat.le_refl _, Nat.le_refl _⟩) (fun _ _ h => cw_tr Bh_14.2.2 h (by decide)) rfl (fun rh_16 αh_16 Hh_16 Lh_16 ph_16 Bh_16 => ?_)
        refine lv_istore (lv' := [(5, .int rh_16), (4, .int rh_14), (0, .ref a0), (1, .int a1), (2, .int a2), (3, .int a3)]) hx hb dX0_foldedTree_87 hl (by decide) rfl (fun ls hl => hp_n (n := 89) rfl ?_)
        refine lv_aload_n hx hb dX0_foldedTree_89 rfl (lv_at hl 2 rfl) (hp_n (n := 90) rfl ?_)
        refine lv_iload_n hx hb dX0_foldedTree_90 rfl (lv_at hl 3 rfl) (hp_n (n := 91) rfl ?_)
        refine lv_iload hx hb dX0_foldedTree_91 (lv_at hl 1 rfl) (hp_n (n := 93) rfl ?_)
        refine lv_iadd hx hb dX0_foldedTree_93 (hp_n (n := 94) rfl (lv_topi (fun x_17 ex_17 => ?_)))
        refine lv_iload_n hx hb dX0_foldedTree_94 rfl (lv_at hl 4 rfl) (hp_n (n := 95) rfl ?_)
        refine lv_iload hx hb dX0_foldedTree_95 (lv_at hl 1 rfl) (hp_n (n := 97) rfl ?_)
        refine lv_isub hx hb dX0_foldedTree_97 (hp_n (n := 98) rfl (lv_topi (fun x_18 ex_18 => ?_)))
        refine lv_iload_n hx hb dX0_foldedTree_98 rfl (lv_at hl 5 rfl) (hp_n (n := 99) rfl ?_)
        refine lv_iconst (v := 1) hx hb dX0_foldedTree_99 (by decide) (hp_n (n := 100) rfl ?_)
        refine lv_iadd hx hb dX0_foldedTree_100 (hp_n (n := 101) rfl (lv_topi (fun x_19 ex_19 => ?_)))
        have qx_19 : x_19.toInt = a3.toInt + 1 := by have qa := ib_lo a3; rw [ex_19]; exact ii_add (by omega) (by omega)
        refine q_ci (pc' := 104) Bh_16 (hp_runS (As := [.ref a0, .int x_17, .int x_18, .int x_19]) (rest := []) C Bh_16 (ihR (n - 1) (by omega) Γ l αh_16 Bh_16.2.2.1 a0 (cw_k Bh_16.2.2 k0) x_17 x_18 x_19 (by omega)) lb_X0_foldedTree ls_X0_foldedTree lk_X0_40 rfl (by omega) rfl hl.1 rfl (Nat.le_of_ble_eq_true rfl) dX0_foldedTree_101 ⟨Nat.le_refl _, Nat.le_refl _⟩) (fun _ _ h => cw_tr Bh_16.2.2 h (by decide)) rfl (fun rh_20 αh_20 Hh_20 Lh_20 ph_20 Bh_20 => ?_)
        refine lv_istore (lv' := [(6, .int rh_20), (5, .int rh_16), (4, .int rh_14), (0, .ref a0), (1, .int a1), (2, .int a2), (3, .int a3)]) hx hb dX0_foldedTree_104 hl (by decide) rfl (fun ls hl => hp_n (n := 106) rfl ?_)
        refine lv_aload_n hx hb dX0_foldedTree_106 rfl (lv_at hl 3 rfl) (hp_n (n := 107) rfl ?_)
        refine q_geti (κ := 1) (k := 0) (φ := 50) (pc' := 110) C Bh_20 (cw_k Bh_20.2.2 k0) fl_X0_9 rfl rfl rfl dX0_foldedTree_107 rfl (fun x_21 ex_21 => ?_)
        refine lv_iload hx hb dX0_foldedTree_110 (lv_at hl 1 rfl) (hp_n (n := 112) rfl ?_)
        refine lv_iload hx hb dX0_foldedTree_112 (lv_at hl 0 rfl) (hp_n (n := 114) rfl ?_)
        refine q_ci (pc' := 117) Bh_20 (hp_runS (As := [.int x_21, .int rh_16, .int rh_20]) (rest := []) C Bh_20 (t_X11_markOfTwo Γ l αh_20 Bh_20.2.2.1 x_21 rh_16 rh_20) lb_X11_markOfTwo ls_X11_markOfTwo lk_X0_54 rfl (by omega) rfl hl.1 rfl (Nat.le_of_ble_eq_true rfl) dX0_foldedTree_114 ⟨Nat.le_refl _, Nat.le_refl _⟩) (fun _ _ h => by rw [h]; exact Bh_20.2.2) rfl (fun rh_22 αh_22 Hh_22 Lh_22 ph_22 Bh_22 => ?_)
        rw [ph_22] at Bh_22
        exact q_iret C Bh_22 hr hlk Bh_22.2.2 dX0_foldedTree_117
      ·
        have jc_13 := il_nle c_13
        refine lv_aload_n hx hb dX0_foldedTree_47 rfl (lv_at hl 0 rfl) (hp_n (n := 48) rfl ?_)
        refine lv_dup hx hb dX0_foldedTree_48 rfl (hp_n (n := 49) rfl ?_)
        refine q_geti (κ := 1) (k := 3) (φ := 53) (pc' := 52) C Bh_11 (cw_k Bh_11.2.2 k0) fl_X0_25 rfl rfl rfl dX0_foldedTree_49 rfl (fun x_23 ex_23 => ?_)
        refine lv_iconst (v := 1) hx hb dX0_foldedTree_52 (by decide) (hp_n (n := 53) rfl ?_)
        refine lv_iadd hx hb dX0_foldedTree_53 (hp_n (n := 54) rfl (lv_topi (fun x_24 ex_24 => ?_)))
        refine q_puti (κ := 1) (k := 3) (φ := 53) (pc' := 57) C Bh_11 (cw_k Bh_11.2.2 k0) fl_X0_25 rfl rfl rfl rfl rfl rfl (cw_sI Bh_11.2.2 (by decide) (fun h => absurd h (by decide))) dX0_foldedTree_54 rfl (fun αh_25 Hh_25 Lh_25 eh_25 Bh_25 => ?_)
        refine lv_aload_n hx hb dX0_foldedTree_57 rfl (lv_at hl 0 rfl) (hp_n (n := 58) rfl ?_)
        refine q_getr (κ := 1) (k := 1) (φ := 51) (pc' := 61) C Bh_25 (cw_k Bh_25.2.2 k0) fl_X0_18 rfl rfl rfl (cw_r Bh_25.2.2 k0 rfl rfl (by decide) (by decide)) dX0_foldedTree_58 rfl (fun b_26 eb_26 kb_26 => ?_)
        refine lv_aload_n hx hb dX0_foldedTree_61 rfl (lv_at hl 0 rfl) (hp_n (n := 62) rfl ?_)
        have t_27 : x_24 = hp_I αh_25 53 a0 := by rw [eh_25]; exact hp_I_at.symm
        refine q_getj (κ := 1) (k := 3) (φ := 53) (pc' := 65) C Bh_25 (cw_k Bh_25.2.2 k0) fl_X0_25 rfl rfl rfl t_27 dX0_foldedTree_62 rfl ?_
        refine lv_iconst (v := 1) hx hb dX0_foldedTree_65 (by decide) (hp_n (n := 66) rfl ?_)
        refine lv_isub hx hb dX0_foldedTree_66 (hp_n (n := 67) rfl (lv_topi (fun x_28 ex_28 => ?_)))
        refine q_ci (pc' := 70) Bh_25 (hp_runV (As := [.int x_28]) (rest := []) C Bh_25 (t_X5_at Γ l αh_25 Bh_25.2.2.1 b_26 (cw_k Bh_25.2.2 kb_26) x_28) lb_X5_at lv_X5_at lk_X0_48 (cw_k Bh_25.2.2 kb_26) rfl (by omega) rfl hl.1 rfl (Nat.le_of_ble_eq_true rfl) dX0_foldedTree_67 ⟨Nat.le_refl _, Nat.le_refl _⟩) (fun _ _ h => by rw [h]; exact Bh_25.2.2) rfl (fun rh_29 αh_29 Hh_29 Lh_29 ph_29 Bh_29 => ?_)
        rw [ph_29] at Bh_29
        exact q_iret C Bh_29 hr hlk Bh_29.2.2 dX0_foldedTree_70
    ·
      have jc_12 := il_eq c_12
      exact J18 Hh_11 Lh_11 Bh_11 ls (lv_sub hl [0] rfl)
abbrev w_X0_why : cw_W := ([50, 52, 53, 54], [51], [], [])
set_option maxRecDepth 100000 in
set_option maxHeartbeats 4000000 in
theorem t_X0_why (Γ : hp_G) (l : Launch) (α : hp_T) (g : GC α) (a0 : Nat) (k0 : hp_K α a0 = 1) (a1 : Int32) (a2 : Nat) (k2 : hp_K α a2 = 6) (a3 : Int32) (a4 : Int32) (a5 : Int32) (a6 : Int32) : Met l yX0_why (hp_ws yX0_why cX0_why 8 (some .int)) (hp_rm 45 0 0) (hp_Pc Γ α [.ref a0, .int a1, .ref a2, .int a3, .int a4, .int a5, .int a6]) (hp_Qi Γ (fun r β => cw w_X0_why α β)) 0 0 (hp_A Γ) := by
  refine hp_start (by decide) ?_
  intro p e s m below meth c C hr hlk B0 hnm
  have C : hp_C Γ p m c cX0_why 8 s ([.ref a0, .int a1, .ref a2, .int a3, .int a4, .int a5, .int a6] : List Value).toArray RX0 := C
  have hx := C.1.1
  have hb := C.1.2.1
  have hown := C.1.2.2.2.1
  have hts := C.1.2.2.2.2
  have B : hp_B Γ (cw w_X0_why) s α α s.heap [] := ⟨B0.1, B0.2.1, cw_rf g⟩
  have lit0 : (0 : Int32).toInt = 0 := by decide
  have lit1 : (1 : Int32).toInt = 1 := by decide
  have lit2 : (2 : Int32).toInt = 2 := by decide
  have lit3 : (3 : Int32).toInt = 3 := by decide
  have hl := lv_entry ([.ref a0, .int a1, .ref a2, .int a3, .int a4, .int a5, .int a6]) (n := 8) (Nat.le_of_ble_eq_true rfl)
  show W p l e (hp_rm 45 0 0) s m ([.ref a0, .int a1, .ref a2, .int a3, .int a4, .int a5, .int a6] : List Value).toArray below meth c s.heap [] 0 0 (MQ below (hp_Qi Γ (fun r β => cw w_X0_why α β)) ([.ref a0, .int a1, .ref a2, .int a3, .int a4, .int a5, .int a6] : List Value).toArray s 0 0 (hp_A Γ)) (entryFrame m ([.ref a0, .int a1, .ref a2, .int a3, .int a4, .int a5, .int a6] : List Value).toArray 8)
  rw [lg_entry_eq]
  generalize (lg_sl ([.ref a0, .int a1, .ref a2, .int a3, .int a4, .int a5, .int a6]) ++ List.replicate (8 - (lg_sl ([.ref a0, .int a1, .ref a2, .int a3, .int a4, .int a5, .int a6])).length) Slot.unset).toArray = ls at hl ⊢
  have hl : lv_has ls 8 [(0, .ref a0), (1, .int a1), (2, .ref a2), (3, .int a3), (4, .int a4), (5, .int a5), (6, .int a6)] := hl
  refine lv_iload_n hx hb dX0_why_0 rfl (lv_at hl 3 rfl) (hp_n (n := 1) rfl ?_)
  refine q_ci (pc' := 4) B (hp_runS (As := [.int a3]) (rest := []) C B (t_J6_bitCount_0f7a4 Γ l α B.2.2.1 a3) lb_J6_bitCount_0f7a4 ls_J6_bitCount_0f7a4 lk_X0_31 rfl (by decide) rfl hl.1 rfl (Nat.le_of_ble_eq_true rfl) dX0_why_1 ⟨Nat.le_refl _, Nat.le_refl _⟩) (fun _ _ h => by rw [h]; exact B.2.2) rfl (fun rh_1 αh_1 Hh_1 Lh_1 ph_1 Bh_1 => ?_)
  rw [ph_1] at Bh_1
  refine lv_istore (lv' := [(7, .int rh_1), (0, .ref a0), (1, .int a1), (2, .ref a2), (3, .int a3), (4, .int a4), (5, .int a5), (6, .int a6)]) hx hb dX0_why_4 hl (by decide) rfl (fun ls hl => hp_n (n := 6) rfl ?_)
  refine lv_aload_n hx hb dX0_why_6 rfl (lv_at hl 3 rfl) (hp_n (n := 7) rfl ?_)
  refine q_geti (κ := 6) (k := 1) (φ := 301) (pc' := 10) C Bh_1 (cw_k Bh_1.2.2 k2) fl_X0_37 rfl rfl rfl dX0_why_7 rfl (fun x_2 ex_2 => ?_)
  refine lv_iload hx hb dX0_why_10 (lv_at hl 0 rfl) (hp_n (n := 12) rfl ?_)
  refine lv_iload hx hb dX0_why_12 (lv_at hl 6 rfl) (hp_n (n := 14) rfl ?_)
  refine lv_iadd hx hb dX0_why_14 (hp_n (n := 15) rfl (lv_topi (fun x_3 ex_3 => ?_)))
  refine lv_icmp_eq (tgt := 36) hx hb dX0_why_15 (by decide) (fun c_4 => ?_) (fun c_4 => hp_n (n := 18) rfl ?_)
  ·
    have jc_4 := il_eq c_4
    refine lv_aload_n hx hb dX0_why_36 rfl (lv_at hl 1 rfl) (hp_n (n := 37) rfl ?_)
    refine lv_iload_n hx hb dX0_why_37 rfl (lv_at hl 2 rfl) (hp_n (n := 38) rfl ?_)
    refine q_puti (κ := 1) (k := 0) (φ := 50) (pc' := 41) C Bh_1 (cw_k Bh_1.2.2 k0) fl_X0_9 rfl rfl rfl rfl rfl rfl (cw_sI Bh_1.2.2 (by decide) (fun h => absurd h (by decide))) dX0_why_38 rfl (fun αh_5 Hh_5 Lh_5 eh_5 Bh_5 => ?_)
    refine lv_aload_n hx hb dX0_why_41 rfl (lv_at hl 1 rfl) (hp_n (n := 42) rfl ?_)
    refine lv_aload_n hx hb dX0_why_42 rfl (lv_at hl 3 rfl) (hp_n (n := 43) rfl ?_)
    refine q_putr (κ := 1) (k := 1) (φ := 51) (pc' := 46) C Bh_5 (cw_k Bh_5.2.2 k0) fl_X0_18 rfl rfl rfl rfl rfl rfl (cw_sR Bh_5.2.2 (by decide) (Or.inl k2)) dX0_why_43 rfl (fun αh_6 Hh_6 Lh_6 eh_6 Bh_6 => ?_)
    refine lv_aload_n hx hb dX0_why_46 rfl (lv_at hl 1 rfl) (hp_n (n := 47) rfl ?_)
    refine lv_iload_n hx hb dX0_why_47 rfl (lv_at hl 4 rfl) (hp_n (n := 48) rfl ?_)
    refine q_puti (κ := 1) (k := 2) (φ := 52) (pc' := 51) C Bh_6 (cw_k Bh_6.2.2 k0) fl_X0_22 rfl rfl rfl rfl rfl rfl (cw_sI Bh_6.2.2 (by decide) (fun h => absurd h (by decide))) dX0_why_48 rfl (fun αh_7 Hh_7 Lh_7 eh_7 Bh_7 => ?_)
    refine lv_aload_n hx hb dX0_why_51 rfl (lv_at hl 1 rfl) (hp_n (n := 52) rfl ?_)
    refine lv_iconst (v := 0) hx hb dX0_why_52 (by decide) (hp_n (n := 53) rfl ?_)
    refine q_puti (κ := 1) (k := 3) (φ := 53) (pc' := 56) C Bh_7 (cw_k Bh_7.2.2 k0) fl_X0_25 rfl rfl rfl rfl rfl rfl (cw_sI Bh_7.2.2 (by decide) (fun h => absurd h (by decide))) dX0_why_53 rfl (fun αh_8 Hh_8 Lh_8 eh_8 Bh_8 => ?_)
    refine lv_aload_n hx hb dX0_why_56 rfl (lv_at hl 1 rfl) (hp_n (n := 57) rfl ?_)
    refine lv_iload hx hb dX0_why_57 (lv_at hl 0 rfl) (hp_n (n := 59) rfl ?_)
    refine q_puti (κ := 1) (k := 4) (φ := 54) (pc' := 62) C Bh_8 (cw_k Bh_8.2.2 k0) fl_X0_28 rfl rfl rfl rfl rfl rfl (cw_sI Bh_8.2.2 (by decide) (fun h => absurd h (by decide))) dX0_why_59 rfl (fun αh_9 Hh_9 Lh_9 eh_9 Bh_9 => ?_)
    refine lv_aload_n hx hb dX0_why_62 rfl (lv_at hl 1 rfl) (hp_n (n := 63) rfl ?_)
    refine lv_iconst (v := 0) hx hb dX0_why_63 (by decide) (hp_n (n := 64) rfl ?_)
    refine lv_iload hx hb dX0_why_64 (lv_at hl 5 rfl) (hp_n (n := 66) rfl ?_)
    refine lv_iconst (v := 0) hx hb dX0_why_66 (by decide) (hp_n (n := 67) rfl ?_)
    refine q_ci (pc' := 70) Bh_9 (hp_runS (As := [.ref a0, .int 0, .int a4, .int 0]) (rest := []) C Bh_9 (t_X0_foldedTree 41 Γ l αh_9 Bh_9.2.2.1 a0 (cw_k Bh_9.2.2 k0) 0 a4 0 (by omega)) lb_X0_foldedTree ls_X0_foldedTree lk_X0_40 rfl (by decide) rfl hl.1 rfl (Nat.le_of_ble_eq_true rfl) dX0_why_67 ⟨Nat.le_refl _, Nat.le_refl _⟩) (fun _ _ h => cw_tr Bh_9.2.2 h (by decide)) rfl (fun rh_10 αh_10 Hh_10 Lh_10 ph_10 Bh_10 => ?_)
    refine lv_iload hx hb dX0_why_70 (lv_at hl 7 rfl) (hp_n (n := 72) rfl ?_)
    refine lv_icmp_ne (tgt := 79) hx hb dX0_why_72 (by decide) (fun c_11 => ?_) (fun c_11 => hp_n (n := 75) rfl ?_)
    ·
      have jc_11 := il_ne c_11
      refine lv_iconst (v := 3) hx hb dX0_why_79 (by decide) (hp_n (n := 80) rfl ?_)
      exact q_iret C Bh_10 hr hlk Bh_10.2.2 dX0_why_80
    ·
      have jc_11 := il_eq c_11
      refine lv_iconst (v := 0) hx hb dX0_why_75 (by decide) (hp_n (n := 76) rfl ?_)
      refine lv_goto (tgt := 80) hx hb dX0_why_76 (by decide) ?_
      exact q_iret C Bh_10 hr hlk Bh_10.2.2 dX0_why_80
  ·
    have jc_4 := il_ne c_4
    refine lv_aload_n hx hb dX0_why_18 rfl (lv_at hl 3 rfl) (hp_n (n := 19) rfl ?_)
    refine q_getj (κ := 6) (k := 1) (φ := 301) (pc' := 22) C Bh_1 (cw_k Bh_1.2.2 k2) fl_X0_37 rfl rfl rfl ex_2 dX0_why_19 rfl ?_
    refine lv_iload hx hb dX0_why_22 (lv_at hl 0 rfl) (hp_n (n := 24) rfl ?_)
    refine lv_iload hx hb dX0_why_24 (lv_at hl 6 rfl) (hp_n (n := 26) rfl ?_)
    refine lv_iadd hx hb dX0_why_26 (hp_n (n := 27) rfl (lv_topi (fun x_12 ex_12 => ?_)))
    refine lv_icmp_ge (tgt := 34) hx hb dX0_why_27 (by decide) (fun c_13 => ?_) (fun c_13 => hp_n (n := 30) rfl ?_)
    ·
      have jc_13 := il_le c_13
      refine lv_iconst (v := 2) hx hb dX0_why_34 (by decide) (hp_n (n := 35) rfl ?_)
      exact q_iret C Bh_1 hr hlk Bh_1.2.2 dX0_why_35
    ·
      have jc_13 := il_nle c_13
      refine lv_iconst (v := 1) hx hb dX0_why_30 (by decide) (hp_n (n := 31) rfl ?_)
      refine lv_goto (tgt := 35) hx hb dX0_why_31 (by decide) ?_
      exact q_iret C Bh_1 hr hlk Bh_1.2.2 dX0_why_35
end JN3_1
section JN3_2
abbrev w_X4_restOf : cw_W := ([], [], [], [])
set_option maxRecDepth 100000 in
set_option maxHeartbeats 4000000 in
theorem t_X4_restOf (Γ : hp_G) (l : Launch) (α : hp_T) (g : GC α) (a0 : Nat) (k0 : hp_K α a0 = 5) (a1 : Int64) : Met l yX4_restOf (hp_ws yX4_restOf cX4_restOf 3 (some .int)) (hp_rm 1 0 0) (hp_Pc Γ α [.ref a0, .long a1]) (hp_Qi Γ (fun r β => β = α)) 0 0 (hp_A Γ) := by
  refine hp_start (by decide) ?_
  intro p e s m below meth c C hr hlk B0 hnm
  have C : hp_C Γ p m c cX4_restOf 3 s ([.ref a0, .long a1] : List Value).toArray RX4 := C
  have hx := C.1.1
  have hb := C.1.2.1
  have hown := C.1.2.2.2.1
  have hts := C.1.2.2.2.2
  have B : hp_B Γ (cw w_X4_restOf) s α α s.heap [] := ⟨B0.1, B0.2.1, cw_rf g⟩
  have lit0 : (0 : Int32).toInt = 0 := by decide
  have hl := lv_entry ([.ref a0, .long a1]) (n := 3) (Nat.le_of_ble_eq_true rfl)
  show W p l e (hp_rm 1 0 0) s m ([.ref a0, .long a1] : List Value).toArray below meth c s.heap [] 0 0 (MQ below (hp_Qi Γ (fun r β => β = α)) ([.ref a0, .long a1] : List Value).toArray s 0 0 (hp_A Γ)) (entryFrame m ([.ref a0, .long a1] : List Value).toArray 3)
  rw [lg_entry_eq]
  generalize (lg_sl ([.ref a0, .long a1]) ++ List.replicate (3 - (lg_sl ([.ref a0, .long a1])).length) Slot.unset).toArray = ls at hl ⊢
  have hl : lv_has ls 3 [(0, .ref a0), (1, .long a1)] := hl
  refine lv_aload_n hx hb dX4_restOf_0 rfl (lv_at hl 0 rfl) (hp_n (n := 1) rfl ?_)
  refine q_geti (κ := 5) (k := 2) (φ := 252) (pc' := 4) C B (cw_k B.2.2 k0) fl_X4_19 rfl rfl rfl dX4_restOf_1 rfl (fun x_1 ex_1 => ?_)
  refine lv_if_le (tgt := 20) hx hb dX4_restOf_4 (by decide) (fun c_2 => ?_) (fun c_2 => hp_n (n := 7) rfl ?_)
  ·
    have jc_2 := il_le c_2
    refine lv_iconst (v := 0) hx hb dX4_restOf_20 (by decide) (hp_n (n := 21) rfl ?_)
    exact q_iret C B hr hlk rfl dX4_restOf_21
  ·
    have jc_2 := il_nle c_2
    refine lv_lload_n hx hb dX4_restOf_7 rfl (lv_at hl 1 rfl) (hp_n (n := 8) rfl ?_)
    refine lv_aload_n hx hb dX4_restOf_8 rfl (lv_at hl 0 rfl) (hp_n (n := 9) rfl ?_)
    refine q_getj (κ := 5) (k := 2) (φ := 252) (pc' := 12) C B (cw_k B.2.2 k0) fl_X4_19 rfl rfl rfl ex_1 dX4_restOf_9 rfl ?_
    refine lv_i2l hx hb dX4_restOf_12 rfl (hp_n (n := 13) rfl (lv_topl (fun x_3 ex_3 => ?_)))
    refine q_cl (pc' := 16) B (hp_runS (As := [.long a1, .long x_3]) (rest := []) C B (t_J9_floorMod_f86c9 Γ l α B.2.2.1 a1 x_3 (li_nz ex_3 (by omega))) lb_J9_floorMod_f86c9 ls_J9_floorMod_f86c9 lk_X4_104 rfl (by decide) rfl hl.1 rfl (Nat.le_of_ble_eq_true rfl) dX4_restOf_13 ⟨Nat.le_refl _, Nat.le_refl _⟩) (fun _ _ h => by rw [h]; exact B.2.2) rfl (fun rh_4 αh_4 Hh_4 Lh_4 ph_4 Bh_4 => ?_)
    rw [ph_4] at Bh_4
    refine lv_l2i hx hb dX4_restOf_16 rfl (hp_n (n := 17) rfl (lv_topi (fun x_5 ex_5 => ?_)))
    refine lv_goto (tgt := 21) hx hb dX4_restOf_17 (by decide) ?_
    exact q_iret C Bh_4 hr hlk rfl dX4_restOf_21
abbrev w_X4_firstOf : cw_W := ([], [], [], [])
set_option maxRecDepth 100000 in
set_option maxHeartbeats 4000000 in
theorem t_X4_firstOf (Γ : hp_G) (l : Launch) (α : hp_T) (g : GC α) (a0 : Nat) (k0 : hp_K α a0 = 5) (a1 : Int32) : Met l yX4_firstOf (hp_ws yX4_firstOf cX4_firstOf 2 (some .int)) (hp_rm 2 0 0) (hp_Pc Γ α [.ref a0, .int a1]) (hp_Qi Γ (fun r β => β = α)) 0 0 (hp_A Γ) := by
  refine hp_start (by decide) ?_
  intro p e s m below meth c C hr hlk B0 hnm
  have C : hp_C Γ p m c cX4_firstOf 2 s ([.ref a0, .int a1] : List Value).toArray RX4 := C
  have hx := C.1.1
  have hb := C.1.2.1
  have hown := C.1.2.2.2.1
  have hts := C.1.2.2.2.2
  have B : hp_B Γ (cw w_X4_firstOf) s α α s.heap [] := ⟨B0.1, B0.2.1, cw_rf g⟩
  have hl := lv_entry ([.ref a0, .int a1]) (n := 2) (Nat.le_of_ble_eq_true rfl)
  show W p l e (hp_rm 2 0 0) s m ([.ref a0, .int a1] : List Value).toArray below meth c s.heap [] 0 0 (MQ below (hp_Qi Γ (fun r β => β = α)) ([.ref a0, .int a1] : List Value).toArray s 0 0 (hp_A Γ)) (entryFrame m ([.ref a0, .int a1] : List Value).toArray 2)
  rw [lg_entry_eq]
  generalize (lg_sl ([.ref a0, .int a1]) ++ List.replicate (2 - (lg_sl ([.ref a0, .int a1])).length) Slot.unset).toArray = ls at hl ⊢
  have hl : lv_has ls 2 [(0, .ref a0), (1, .int a1)] := hl
  refine lv_aload_n hx hb dX4_firstOf_0 rfl (lv_at hl 0 rfl) (hp_n (n := 1) rfl ?_)
  refine lv_iload_n hx hb dX4_firstOf_1 rfl (lv_at hl 1 rfl) (hp_n (n := 2) rfl ?_)
  refine lv_i2l hx hb dX4_firstOf_2 rfl (hp_n (n := 3) rfl (lv_topl (fun x_1 ex_1 => ?_)))
  refine lv_ldc2 hx hb hown (hts _ kc_X4_102) dX4_firstOf_3 (hp_n (n := 6) rfl ?_)
  refine lv_lsub hx hb dX4_firstOf_6 (hp_n (n := 7) rfl (lv_topl (fun x_2 ex_2 => ?_)))
  refine q_ci (pc' := 10) B (hp_runV (As := [.long x_2]) (rest := []) C B (t_X4_restOf Γ l α B.2.2.1 a0 (cw_k B.2.2 k0) x_2) lb_X4_restOf lv_X4_restOf lk_X4_98 (cw_k B.2.2 k0) rfl (by decide) rfl hl.1 rfl (Nat.le_of_ble_eq_true rfl) dX4_firstOf_7 ⟨Nat.le_refl _, Nat.le_refl _⟩) (fun _ _ h => by rw [h]; exact B.2.2) rfl (fun rh_3 αh_3 Hh_3 Lh_3 ph_3 Bh_3 => ?_)
  rw [ph_3] at Bh_3
  exact q_iret C Bh_3 hr hlk rfl dX4_firstOf_10
abbrev w_X4_leastRoot : cw_W := ([], [], [], [])
set_option maxRecDepth 100000 in
set_option maxHeartbeats 4000000 in
theorem t_X4_leastRoot (Γ : hp_G) (l : Launch) (α : hp_T) (g : GC α) (a0 : Nat) (k0 : hp_K α a0 = 5) (a1 : Int32) (a2 : Int32) : Met l yX4_leastRoot (hp_ws yX4_leastRoot cX4_leastRoot 4 (some .int)) (hp_rm 2 0 0) (hp_Pc Γ α [.ref a0, .int a1, .int a2]) (hp_Qi Γ (fun r β => β = α)) 0 0 (hp_A Γ) := by
  refine hp_start (by decide) ?_
  intro p e s m below meth c C hr hlk B0 hnm
  have C : hp_C Γ p m c cX4_leastRoot 4 s ([.ref a0, .int a1, .int a2] : List Value).toArray RX4 := C
  have hx := C.1.1
  have hb := C.1.2.1
  have hown := C.1.2.2.2.1
  have hts := C.1.2.2.2.2
  have B : hp_B Γ (cw w_X4_leastRoot) s α α s.heap [] := ⟨B0.1, B0.2.1, cw_rf g⟩
  have litm1 : ((-1) : Int32).toInt = (-1) := by decide
  have lit0 : (0 : Int32).toInt = 0 := by decide
  have lit7 : (7 : Int32).toInt = 7 := by decide
  have lit65521 : (65521 : Int32).toInt = 65521 := by decide
  have hl := lv_entry ([.ref a0, .int a1, .int a2]) (n := 4) (Nat.le_of_ble_eq_true rfl)
  show W p l e (hp_rm 2 0 0) s m ([.ref a0, .int a1, .int a2] : List Value).toArray below meth c s.heap [] 0 0 (MQ below (hp_Qi Γ (fun r β => β = α)) ([.ref a0, .int a1, .int a2] : List Value).toArray s 0 0 (hp_A Γ)) (entryFrame m ([.ref a0, .int a1, .int a2] : List Value).toArray 4)
  rw [lg_entry_eq]
  generalize (lg_sl ([.ref a0, .int a1, .int a2]) ++ List.replicate (4 - (lg_sl ([.ref a0, .int a1, .int a2])).length) Slot.unset).toArray = ls at hl ⊢
  have hl : lv_has ls 4 [(0, .ref a0), (1, .int a1), (2, .int a2)] := hl
  refine lv_aload_n hx hb dX4_leastRoot_0 rfl (lv_at hl 0 rfl) (hp_n (n := 1) rfl ?_)
  refine lv_iload_n hx hb dX4_leastRoot_1 rfl (lv_at hl 2 rfl) (hp_n (n := 2) rfl ?_)
  refine lv_iload_n hx hb dX4_leastRoot_2 rfl (lv_at hl 1 rfl) (hp_n (n := 3) rfl ?_)
  refine lv_isub hx hb dX4_leastRoot_3 (hp_n (n := 4) rfl (lv_topi (fun x_1 ex_1 => ?_)))
  refine lv_bipush (v := 7) hx hb dX4_leastRoot_4 (by decide) (hp_n (n := 6) rfl ?_)
  refine lv_isub hx hb dX4_leastRoot_6 (hp_n (n := 7) rfl (lv_topi (fun x_2 ex_2 => ?_)))
  refine lv_i2l hx hb dX4_leastRoot_7 rfl (hp_n (n := 8) rfl (lv_topl (fun x_3 ex_3 => ?_)))
  refine q_ci (pc' := 11) B (hp_runV (As := [.long x_3]) (rest := []) C B (t_X4_restOf Γ l α B.2.2.1 a0 (cw_k B.2.2 k0) x_3) lb_X4_restOf lv_X4_restOf lk_X4_98 (cw_k B.2.2 k0) rfl (by decide) rfl hl.1 rfl (Nat.le_of_ble_eq_true rfl) dX4_leastRoot_8 ⟨Nat.le_refl _, Nat.le_refl _⟩) (fun _ _ h => by rw [h]; exact B.2.2) rfl (fun rh_4 αh_4 Hh_4 Lh_4 ph_4 Bh_4 => ?_)
  rw [ph_4] at Bh_4
  refine lv_istore_n (lv' := [(3, .int rh_4), (0, .ref a0), (1, .int a1), (2, .int a2)]) hx hb dX4_leastRoot_11 rfl hl (by decide) rfl (fun ls hl => hp_n (n := 12) rfl ?_)
  refine lv_iload_n hx hb dX4_leastRoot_12 rfl (lv_at hl 0 rfl) (hp_n (n := 13) rfl ?_)
  refine lv_if_lt (tgt := 34) hx hb dX4_leastRoot_13 (by decide) (fun c_5 => ?_) (fun c_5 => hp_n (n := 16) rfl ?_)
  ·
    have jc_5 := il_lt c_5
    refine lv_iconst (v := (-1)) hx hb dX4_leastRoot_34 (by decide) (hp_n (n := 35) rfl ?_)
    exact q_iret C Bh_4 hr hlk rfl dX4_leastRoot_35
  ·
    have jc_5 := il_nlt c_5
    refine lv_iload_n hx hb dX4_leastRoot_16 rfl (lv_at hl 0 rfl) (hp_n (n := 17) rfl ?_)
    refine lv_aload_n hx hb dX4_leastRoot_17 rfl (lv_at hl 1 rfl) (hp_n (n := 18) rfl ?_)
    refine q_getr (κ := 5) (k := 0) (φ := 250) (pc' := 21) C Bh_4 (cw_k Bh_4.2.2 k0) fl_X4_10 rfl rfl rfl (cw_r Bh_4.2.2 k0 rfl rfl (by decide) (by decide)) dX4_leastRoot_18 rfl (fun b_6 eb_6 kb_6 => ?_)
    refine q_alen (κ := 34) (t := 0) (n := 65521) (x := 65521) (ty := .int) (pc' := 22) C Bh_4 (cw_k Bh_4.2.2 kb_6) (by decide) rfl rfl rfl dX4_leastRoot_21 rfl ?_
    refine lv_icmp_ge (tgt := 34) hx hb dX4_leastRoot_22 (by decide) (fun c_7 => ?_) (fun c_7 => hp_n (n := 25) rfl ?_)
    ·
      have jc_7 := il_le c_7
      refine lv_iconst (v := (-1)) hx hb dX4_leastRoot_34 (by decide) (hp_n (n := 35) rfl ?_)
      exact q_iret C Bh_4 hr hlk rfl dX4_leastRoot_35
    ·
      have jc_7 := il_nle c_7
      refine lv_aload_n hx hb dX4_leastRoot_25 rfl (lv_at hl 1 rfl) (hp_n (n := 26) rfl ?_)
      refine q_gets (κ := 5) (k := 0) (φ := 250) (pc' := 29) C Bh_4 (cw_k Bh_4.2.2 k0) fl_X4_10 rfl rfl rfl eb_6 dX4_leastRoot_26 rfl ?_
      refine lv_iload_n hx hb dX4_leastRoot_29 rfl (lv_at hl 0 rfl) (hp_n (n := 30) rfl ?_)
      refine q_ial (κ := 34) (n := 65521) (pc' := 31) C Bh_4 (cw_k Bh_4.2.2 kb_6) (by decide) rfl (vi_of (by omega) (by omega)) dX4_leastRoot_30 rfl (lv_topi (fun x_8 ex_8 => ?_))
      refine lv_goto (tgt := 35) hx hb dX4_leastRoot_31 (by decide) ?_
      exact q_iret C Bh_4 hr hlk rfl dX4_leastRoot_35
abbrev w_X4_secondOf : cw_W := ([], [], [], [])
set_option maxRecDepth 100000 in
set_option maxHeartbeats 4000000 in
theorem t_X4_secondOf (Γ : hp_G) (l : Launch) (α : hp_T) (g : GC α) (a0 : Nat) (k0 : hp_K α a0 = 5) (a1 : Int32) (a2 : Int32) : Met l yX4_secondOf (hp_ws yX4_secondOf cX4_secondOf 3 (some .int)) (hp_rm 2 0 0) (hp_Pc Γ α [.ref a0, .int a1, .int a2]) (hp_Qi Γ (fun r β => β = α)) 0 0 (hp_A Γ) := by
  refine hp_start (by decide) ?_
  intro p e s m below meth c C hr hlk B0 hnm
  have C : hp_C Γ p m c cX4_secondOf 3 s ([.ref a0, .int a1, .int a2] : List Value).toArray RX4 := C
  have hx := C.1.1
  have hb := C.1.2.1
  have hown := C.1.2.2.2.1
  have hts := C.1.2.2.2.2
  have B : hp_B Γ (cw w_X4_secondOf) s α α s.heap [] := ⟨B0.1, B0.2.1, cw_rf g⟩
  have lit0 : (0 : Int32).toInt = 0 := by decide
  have hl := lv_entry ([.ref a0, .int a1, .int a2]) (n := 3) (Nat.le_of_ble_eq_true rfl)
  show W p l e (hp_rm 2 0 0) s m ([.ref a0, .int a1, .int a2] : List Value).toArray below meth c s.heap [] 0 0 (MQ below (hp_Qi Γ (fun r β => β = α)) ([.ref a0, .int a1, .int a2] : List Value).toArray s 0 0 (hp_A Γ)) (entryFrame m ([.ref a0, .int a1, .int a2] : List Value).toArray 3)
  rw [lg_entry_eq]
  generalize (lg_sl ([.ref a0, .int a1, .int a2]) ++ List.replicate (3 - (lg_sl ([.ref a0, .int a1, .int a2])).length) Slot.unset).toArray = ls at hl ⊢
  have hl : lv_has ls 3 [(0, .ref a0), (1, .int a1), (2, .int a2)] := hl
  refine lv_aload_n hx hb dX4_secondOf_0 rfl (lv_at hl 0 rfl) (hp_n (n := 1) rfl ?_)
  refine lv_iload_n hx hb dX4_secondOf_1 rfl (lv_at hl 2 rfl) (hp_n (n := 2) rfl ?_)
  refine lv_aload_n hx hb dX4_secondOf_2 rfl (lv_at hl 0 rfl) (hp_n (n := 3) rfl ?_)
  refine q_geti (κ := 5) (k := 2) (φ := 252) (pc' := 6) C B (cw_k B.2.2 k0) fl_X4_19 rfl rfl rfl dX4_secondOf_3 rfl (fun x_1 ex_1 => ?_)
  refine lv_iload_n hx hb dX4_secondOf_6 rfl (lv_at hl 1 rfl) (hp_n (n := 7) rfl ?_)
  refine lv_iconst (v := 0) hx hb dX4_secondOf_7 (by decide) (hp_n (n := 8) rfl ?_)
  refine q_ci (pc' := 11) B (hp_runS (As := [.int x_1, .int a1, .int 0]) (rest := [.int a2, .ref a0]) C B (t_X11_markOfTwo Γ l α B.2.2.1 x_1 a1 0) lb_X11_markOfTwo ls_X11_markOfTwo lk_X4_94 rfl (by decide) rfl hl.1 rfl (Nat.le_of_ble_eq_true rfl) dX4_secondOf_8 ⟨Nat.le_refl _, Nat.le_refl _⟩) (fun _ _ h => by rw [h]; exact B.2.2) rfl (fun rh_2 αh_2 Hh_2 Lh_2 ph_2 Bh_2 => ?_)
  rw [ph_2] at Bh_2
  refine lv_isub hx hb dX4_secondOf_11 (hp_n (n := 12) rfl (lv_topi (fun x_3 ex_3 => ?_)))
  refine lv_i2l hx hb dX4_secondOf_12 rfl (hp_n (n := 13) rfl (lv_topl (fun x_4 ex_4 => ?_)))
  refine q_ci (pc' := 16) Bh_2 (hp_runV (As := [.long x_4]) (rest := []) C Bh_2 (t_X4_restOf Γ l α Bh_2.2.2.1 a0 (cw_k Bh_2.2.2 k0) x_4) lb_X4_restOf lv_X4_restOf lk_X4_98 (cw_k Bh_2.2.2 k0) rfl (by decide) rfl hl.1 rfl (Nat.le_of_ble_eq_true rfl) dX4_secondOf_13 ⟨Nat.le_refl _, Nat.le_refl _⟩) (fun _ _ h => by rw [h]; exact Bh_2.2.2) rfl (fun rh_5 αh_5 Hh_5 Lh_5 ph_5 Bh_5 => ?_)
  rw [ph_5] at Bh_5
  exact q_iret C Bh_5 hr hlk rfl dX4_secondOf_16
abbrev w_X4_take : cw_W := ([259, 260], [], [], [])
set_option maxRecDepth 100000 in
set_option maxHeartbeats 4000000 in
theorem t_X4_take (Γ : hp_G) (l : Launch) (α : hp_T) (g : GC α) (a0 : Nat) (k0 : hp_K α a0 = 5) (a1 : Int32) : Met l yX4_take (hp_ws yX4_take cX4_take 2 none) (hp_rm 1 0 0) (hp_Pc Γ α [.ref a0, .int a1]) (hp_Qv Γ (fun β => cw w_X4_take α β)) 0 0 (hp_A Γ) := by
  refine hp_start (by decide) ?_
  intro p e s m below meth c C hr hlk B0 hnm
  have C : hp_C Γ p m c cX4_take 2 s ([.ref a0, .int a1] : List Value).toArray RX4 := C
  have hx := C.1.1
  have hb := C.1.2.1
  have hown := C.1.2.2.2.1
  have hts := C.1.2.2.2.2
  have B : hp_B Γ (cw w_X4_take) s α α s.heap [] := ⟨B0.1, B0.2.1, cw_rf g⟩
  have lit0 : (0 : Int32).toInt = 0 := by decide
  have lit1 : (1 : Int32).toInt = 1 := by decide
  have hl := lv_entry ([.ref a0, .int a1]) (n := 2) (Nat.le_of_ble_eq_true rfl)
  show W p l e (hp_rm 1 0 0) s m ([.ref a0, .int a1] : List Value).toArray below meth c s.heap [] 0 0 (MQ below (hp_Qv Γ (fun β => cw w_X4_take α β)) ([.ref a0, .int a1] : List Value).toArray s 0 0 (hp_A Γ)) (entryFrame m ([.ref a0, .int a1] : List Value).toArray 2)
  rw [lg_entry_eq]
  generalize (lg_sl ([.ref a0, .int a1]) ++ List.replicate (2 - (lg_sl ([.ref a0, .int a1])).length) Slot.unset).toArray = ls at hl ⊢
  have hl : lv_has ls 2 [(0, .ref a0), (1, .int a1)] := hl
  refine lv_iload_n hx hb dX4_take_0 rfl (lv_at hl 1 rfl) (hp_n (n := 1) rfl ?_)
  refine lv_aload_n hx hb dX4_take_1 rfl (lv_at hl 0 rfl) (hp_n (n := 2) rfl ?_)
  refine q_geti (κ := 5) (k := 8) (φ := 258) (pc' := 5) C B (cw_k B.2.2 k0) fl_X4_46 rfl rfl rfl dX4_take_2 rfl (fun x_1 ex_1 => ?_)
  refine lv_icmp_ne (tgt := 9) hx hb dX4_take_5 (by decide) (fun c_2 => ?_) (fun c_2 => hp_n (n := 8) rfl ?_)
  ·
    have jc_2 := il_ne c_2
    refine lv_aload_n hx hb dX4_take_9 rfl (lv_at hl 0 rfl) (hp_n (n := 10) rfl ?_)
    refine lv_aload_n hx hb dX4_take_10 rfl (lv_at hl 0 rfl) (hp_n (n := 11) rfl ?_)
    refine q_geti (κ := 5) (k := 9) (φ := 259) (pc' := 14) C B (cw_k B.2.2 k0) fl_X4_49 rfl rfl rfl dX4_take_11 rfl (fun x_3 ex_3 => ?_)
    refine lv_if_ne (tgt := 21) hx hb dX4_take_14 (by decide) (fun c_4 => ?_) (fun c_4 => hp_n (n := 17) rfl ?_)
    ·
      have jc_4 := il_ne c_4
      refine lv_aload_n hx hb dX4_take_21 rfl (lv_at hl 0 rfl) (hp_n (n := 22) rfl ?_)
      refine q_geti (κ := 5) (k := 10) (φ := 260) (pc' := 25) C B (cw_k B.2.2 k0) fl_X4_52 rfl rfl rfl dX4_take_22 rfl (fun x_5 ex_5 => ?_)
      refine lv_iload_n hx hb dX4_take_25 rfl (lv_at hl 1 rfl) (hp_n (n := 26) rfl ?_)
      refine q_ci (pc' := 29) B (hp_runS (As := [.int x_5, .int a1]) (rest := [.ref a0]) C B (t_J9_min_7cf53 Γ l α B.2.2.1 x_5 a1) lb_J9_min_7cf53 ls_J9_min_7cf53 lk_X4_89 rfl (by decide) rfl hl.1 rfl (Nat.le_of_ble_eq_true rfl) dX4_take_26 ⟨Nat.le_refl _, Nat.le_refl _⟩) (fun _ _ h => by rw [h.1]; exact B.2.2) rfl (fun rh_6 αh_6 Hh_6 Lh_6 ph_6 Bh_6 => ?_)
      rw [ph_6.1] at Bh_6
      obtain ⟨ph_6a, ph_6b, ph_6c⟩ := ph_6.2
      refine q_puti (κ := 5) (k := 10) (φ := 260) (pc' := 32) C Bh_6 (cw_k Bh_6.2.2 k0) fl_X4_52 rfl rfl rfl rfl rfl rfl (cw_sI Bh_6.2.2 (by decide) (fun h => absurd h (by decide))) dX4_take_29 rfl (fun αh_7 Hh_7 Lh_7 eh_7 Bh_7 => ?_)
      refine lv_aload_n hx hb dX4_take_32 rfl (lv_at hl 0 rfl) (hp_n (n := 33) rfl ?_)
      refine lv_dup hx hb dX4_take_33 rfl (hp_n (n := 34) rfl ?_)
      have t_8 : x_3 = hp_I αh_7 259 a0 := by rw [eh_7, hp_I_ne (by decide)]; exact ex_3
      refine q_getj (κ := 5) (k := 9) (φ := 259) (pc' := 37) C Bh_7 (cw_k Bh_7.2.2 k0) fl_X4_49 rfl rfl rfl t_8 dX4_take_34 rfl ?_
      refine lv_iconst (v := 1) hx hb dX4_take_37 (by decide) (hp_n (n := 38) rfl ?_)
      refine lv_iadd hx hb dX4_take_38 (hp_n (n := 39) rfl (lv_topi (fun x_9 ex_9 => ?_)))
      refine q_puti (κ := 5) (k := 9) (φ := 259) (pc' := 42) C Bh_7 (cw_k Bh_7.2.2 k0) fl_X4_49 rfl rfl rfl rfl rfl rfl (cw_sI Bh_7.2.2 (by decide) (fun h => absurd h (by decide))) dX4_take_39 rfl (fun αh_10 Hh_10 Lh_10 eh_10 Bh_10 => ?_)
      exact q_vret C Bh_10 hr hlk Bh_10.2.2 dX4_take_42
    ·
      have jc_4 := il_eq c_4
      refine lv_iload_n hx hb dX4_take_17 rfl (lv_at hl 1 rfl) (hp_n (n := 18) rfl ?_)
      refine lv_goto (tgt := 29) hx hb dX4_take_18 (by decide) ?_
      refine q_puti (κ := 5) (k := 10) (φ := 260) (pc' := 32) C B (cw_k B.2.2 k0) fl_X4_52 rfl rfl rfl rfl rfl rfl (cw_sI B.2.2 (by decide) (fun h => absurd h (by decide))) dX4_take_29 rfl (fun αh_11 Hh_11 Lh_11 eh_11 Bh_11 => ?_)
      refine lv_aload_n hx hb dX4_take_32 rfl (lv_at hl 0 rfl) (hp_n (n := 33) rfl ?_)
      refine lv_dup hx hb dX4_take_33 rfl (hp_n (n := 34) rfl ?_)
      have t_12 : x_3 = hp_I αh_11 259 a0 := by rw [eh_11, hp_I_ne (by decide)]; exact ex_3
      refine q_getj (κ := 5) (k := 9) (φ := 259) (pc' := 37) C Bh_11 (cw_k Bh_11.2.2 k0) fl_X4_49 rfl rfl rfl t_12 dX4_take_34 rfl ?_
      refine lv_iconst (v := 1) hx hb dX4_take_37 (by decide) (hp_n (n := 38) rfl ?_)
      refine lv_iadd hx hb dX4_take_38 (hp_n (n := 39) rfl (lv_topi (fun x_13 ex_13 => ?_)))
      refine q_puti (κ := 5) (k := 9) (φ := 259) (pc' := 42) C Bh_11 (cw_k Bh_11.2.2 k0) fl_X4_49 rfl rfl rfl rfl rfl rfl (cw_sI Bh_11.2.2 (by decide) (fun h => absurd h (by decide))) dX4_take_39 rfl (fun αh_14 Hh_14 Lh_14 eh_14 Bh_14 => ?_)
      exact q_vret C Bh_14 hr hlk Bh_14.2.2 dX4_take_42
  ·
    have jc_2 := il_eq c_2
    exact q_vret C B hr hlk B.2.2 dX4_take_8
abbrev w_X4_goBack : cw_W := ([259, 260], [], [], [])
set_option maxRecDepth 100000 in
set_option maxHeartbeats 4000000 in
theorem t_X4_goBack (n : Nat) : ∀ (Γ : hp_G) (l : Launch) (α : hp_T) (g : GC α) (a0 : Nat) (k0 : hp_K α a0 = 5) (a1 : Int32) (a2 : Int32) (hd : a1.toInt + 1 ≤ (n : Int)), Met l yX4_goBack (hp_ws yX4_goBack cX4_goBack 7 none) (hp_rm (n + 4) 0 0) (hp_Pc Γ α [.ref a0, .int a1, .int a2]) (hp_Qv Γ (fun β => cw w_X4_goBack α β)) 0 0 (hp_A Γ) := by
  induction n using Nat.strongRecOn with
  | ind n ihR =>
  intro Γ l α g a0 k0 a1 a2 hd
  refine hp_start (by decide) ?_
  intro p e s m below meth c C hr hlk B0 hnm
  have C : hp_C Γ p m c cX4_goBack 7 s ([.ref a0, .int a1, .int a2] : List Value).toArray RX4 := C
  have hx := C.1.1
  have hb := C.1.2.1
  have hown := C.1.2.2.2.1
  have hts := C.1.2.2.2.2
  have B : hp_B Γ (cw w_X4_goBack) s α α s.heap [] := ⟨B0.1, B0.2.1, cw_rf g⟩
  have lit0 : (0 : Int32).toInt = 0 := by decide
  have lit1 : (1 : Int32).toInt = 1 := by decide
  have lit65521 : (65521 : Int32).toInt = 65521 := by decide
  have hl := lv_entry ([.ref a0, .int a1, .int a2]) (n := 7) (Nat.le_of_ble_eq_true rfl)
  show W p l e (hp_rm (n + 4) 0 0) s m ([.ref a0, .int a1, .int a2] : List Value).toArray below meth c s.heap [] 0 0 (MQ below (hp_Qv Γ (fun β => cw w_X4_goBack α β)) ([.ref a0, .int a1, .int a2] : List Value).toArray s 0 0 (hp_A Γ)) (entryFrame m ([.ref a0, .int a1, .int a2] : List Value).toArray 7)
  rw [lg_entry_eq]
  generalize (lg_sl ([.ref a0, .int a1, .int a2]) ++ List.replicate (7 - (lg_sl ([.ref a0, .int a1, .int a2])).length) Slot.unset).toArray = ls at hl ⊢
  have hl : lv_has ls 7 [(0, .ref a0), (1, .int a1), (2, .int a2)] := hl
  refine lv_iload_n hx hb dX4_goBack_0 rfl (lv_at hl 1 rfl) (hp_n (n := 1) rfl ?_)
  refine lv_aload_n hx hb dX4_goBack_1 rfl (lv_at hl 0 rfl) (hp_n (n := 2) rfl ?_)
  refine q_geti (κ := 5) (k := 5) (φ := 255) (pc' := 5) C B (cw_k B.2.2 k0) fl_X4_37 rfl rfl rfl dX4_goBack_2 rfl (fun x_1 ex_1 => ?_)
  have J12 : ∀ (Hh_2 : Heap) (Lh_2 : List Loc) (Bh_2 : hp_B Γ (cw w_X4_goBack) s α α Hh_2 Lh_2) (ls : Array Slot) (hl : lv_has ls 7 [(0, .ref a0), (2, .int a2)]), W p l e (hp_rm (n + 4) 0 0) s m ([.ref a0, .int a1, .int a2] : List Value).toArray below meth c Hh_2 Lh_2 0 0 (MQ below (hp_Qv Γ (fun β => cw w_X4_goBack α β)) ([.ref a0, .int a1, .int a2] : List Value).toArray s 0 0 (hp_A Γ)) (F0 m 12 ls []) := by
    intro Hh_2 Lh_2 Bh_2 ls hl
    refine lv_aload_n hx hb dX4_goBack_12 rfl (lv_at hl 0 rfl) (hp_n (n := 13) rfl ?_)
    refine lv_iload_n hx hb dX4_goBack_13 rfl (lv_at hl 1 rfl) (hp_n (n := 14) rfl ?_)
    refine q_cv (pc' := 17) Bh_2 (hp_runV (As := [.int a2]) (rest := []) C Bh_2 (t_X4_take Γ l α Bh_2.2.2.1 a0 (cw_k Bh_2.2.2 k0) a2) lb_X4_take lv_X4_take lk_X4_68 (cw_k Bh_2.2.2 k0) rfl (by omega) rfl hl.1 rfl (Nat.le_of_ble_eq_true rfl) dX4_goBack_14 ⟨Nat.le_refl _, Nat.le_refl _⟩) (fun _ h => cw_tr Bh_2.2.2 h (by decide)) rfl (fun αh_3 Hh_3 Lh_3 ph_3 Bh_3 => ?_)
    exact q_vret C Bh_3 hr hlk Bh_3.2.2 dX4_goBack_17
  refine lv_icmp_lt (tgt := 12) hx hb dX4_goBack_5 (by decide) (fun c_4 => ?_) (fun c_4 => hp_n (n := 8) rfl ?_)
  ·
    have jc_4 := il_lt c_4
    exact J12 s.heap [] B ls (lv_sub hl [0, 2] rfl)
  ·
    have jc_4 := il_nlt c_4
    refine lv_iload_n hx hb dX4_goBack_8 rfl (lv_at hl 1 rfl) (hp_n (n := 9) rfl ?_)
    refine lv_if_ge (tgt := 18) hx hb dX4_goBack_9 (by decide) (fun c_5 => ?_) (fun c_5 => hp_n (n := 12) rfl ?_)
    ·
      have jc_5 := il_le c_5
      refine lv_iload_n hx hb dX4_goBack_18 rfl (lv_at hl 1 rfl) (hp_n (n := 19) rfl ?_)
      refine lv_aload_n hx hb dX4_goBack_19 rfl (lv_at hl 0 rfl) (hp_n (n := 20) rfl ?_)
      refine q_geti (κ := 5) (k := 6) (φ := 256) (pc' := 23) C B (cw_k B.2.2 k0) fl_X4_40 rfl rfl rfl dX4_goBack_20 rfl (fun x_6 ex_6 => ?_)
      refine lv_icmp_ne (tgt := 30) hx hb dX4_goBack_23 (by decide) (fun c_7 => ?_) (fun c_7 => hp_n (n := 26) rfl ?_)
      ·
        have jc_7 := il_ne c_7
        refine lv_iconst (v := 0) hx hb dX4_goBack_30 (by decide) (hp_n (n := 31) rfl ?_)
        refine lv_istore_n (lv' := [(3, .int 0), (0, .ref a0), (1, .int a1), (2, .int a2)]) hx hb dX4_goBack_31 rfl hl (by decide) rfl (fun ls hl => hp_n (n := 32) rfl ?_)
        refine lv_iload_n hx hb dX4_goBack_32 rfl (lv_at hl 0 rfl) (hp_n (n := 33) rfl ?_)
        refine lv_if_eq (tgt := 43) hx hb dX4_goBack_33 (by decide) (fun c_8 => ?_) (fun c_8 => hp_n (n := 36) rfl ?_)
        rotate_left
        · exact absurd c_8 (by decide)
        refine lv_aload_n hx hb dX4_goBack_43 rfl (lv_at hl 1 rfl) (hp_n (n := 44) rfl ?_)
        refine q_getr (κ := 5) (k := 4) (φ := 254) (pc' := 47) C B (cw_k B.2.2 k0) fl_X4_33 rfl rfl rfl (cw_r B.2.2 k0 rfl rfl (by decide) (by decide)) dX4_goBack_44 rfl (fun b_9 eb_9 kb_9 => ?_)
        refine lv_iload_n hx hb dX4_goBack_47 rfl (lv_at hl 2 rfl) (hp_n (n := 48) rfl ?_)
        refine q_ci (pc' := 51) B (hp_runV (As := [.int a1]) (rest := []) C B (t_X5_at Γ l α B.2.2.1 b_9 (cw_k B.2.2 kb_9) a1) lb_X5_at lv_X5_at lk_X4_71 (cw_k B.2.2 kb_9) rfl (by omega) rfl hl.1 rfl (Nat.le_of_ble_eq_true rfl) dX4_goBack_48 ⟨Nat.le_refl _, Nat.le_refl _⟩) (fun _ _ h => by rw [h]; exact B.2.2) rfl (fun rh_10 αh_10 Hh_10 Lh_10 ph_10 Bh_10 => ?_)
        rw [ph_10] at Bh_10
        refine lv_istore (lv' := [(4, .int rh_10), (3, .int 0), (0, .ref a0), (1, .int a1), (2, .int a2)]) hx hb dX4_goBack_51 hl (by decide) rfl (fun ls hl => hp_n (n := 53) rfl ?_)
        refine lv_aload_n hx hb dX4_goBack_53 rfl (lv_at hl 2 rfl) (hp_n (n := 54) rfl ?_)
        refine q_getr (κ := 5) (k := 3) (φ := 253) (pc' := 57) C Bh_10 (cw_k Bh_10.2.2 k0) fl_X4_26 rfl rfl rfl (cw_r Bh_10.2.2 k0 rfl rfl (by decide) (by decide)) dX4_goBack_54 rfl (fun b_11 eb_11 kb_11 => ?_)
        refine lv_iload_n hx hb dX4_goBack_57 rfl (lv_at hl 3 rfl) (hp_n (n := 58) rfl ?_)
        refine q_ci (pc' := 61) Bh_10 (hp_runV (As := [.int a1]) (rest := []) C Bh_10 (t_X8_isAhead Γ l α Bh_10.2.2.1 b_11 (cw_k Bh_10.2.2 kb_11) a1) lb_X8_isAhead lv_X8_isAhead lk_X4_75 (cw_k Bh_10.2.2 kb_11) rfl (by omega) rfl hl.1 rfl (Nat.le_of_ble_eq_true rfl) dX4_goBack_58 ⟨Nat.le_refl _, Nat.le_refl _⟩) (fun _ _ h => by rw [h.1]; exact Bh_10.2.2) rfl (fun rh_12 αh_12 Hh_12 Lh_12 ph_12 Bh_12 => ?_)
        rw [ph_12.1] at Bh_12
        have zh_12 := ph_12.2
        refine lv_iload_n hx hb dX4_goBack_61 rfl (lv_at hl 1 rfl) (hp_n (n := 62) rfl ?_)
        refine lv_icmp_eq (tgt := 80) hx hb dX4_goBack_62 (by decide) (fun c_13 => ?_) (fun c_13 => hp_n (n := 65) rfl ?_)
        ·
          have jc_13 := il_eq c_13
          refine lv_aload_n hx hb dX4_goBack_80 rfl (lv_at hl 2 rfl) (hp_n (n := 81) rfl ?_)
          refine lv_iload hx hb dX4_goBack_81 (lv_at hl 0 rfl) (hp_n (n := 83) rfl ?_)
          refine lv_iload_n hx hb dX4_goBack_83 rfl (lv_at hl 4 rfl) (hp_n (n := 84) rfl ?_)
          refine q_ci (pc' := 87) Bh_12 (hp_runV (As := [.int rh_10, .int a2]) (rest := []) C Bh_12 (t_X4_leastRoot Γ l α Bh_12.2.2.1 a0 (cw_k Bh_12.2.2 k0) rh_10 a2) lb_X4_leastRoot lv_X4_leastRoot lk_X4_83 (cw_k Bh_12.2.2 k0) rfl (by omega) rfl hl.1 rfl (Nat.le_of_ble_eq_true rfl) dX4_goBack_84 ⟨Nat.le_refl _, Nat.le_refl _⟩) (fun _ _ h => by rw [h]; exact Bh_12.2.2) rfl (fun rh_14 αh_14 Hh_14 Lh_14 ph_14 Bh_14 => ?_)
          rw [ph_14] at Bh_14
          refine lv_istore (lv' := [(5, .int rh_14), (4, .int rh_10), (3, .int 0), (0, .ref a0), (1, .int a1), (2, .int a2)]) hx hb dX4_goBack_87 hl (by decide) rfl (fun ls hl => hp_n (n := 89) rfl ?_)
          refine lv_iconst (v := 0) hx hb dX4_goBack_89 (by decide) (hp_n (n := 90) rfl ?_)
          have J92 : ∀ (nq : Nat) (αh_15 : hp_T) (Hh_15 : Heap) (Lh_15 : List Loc) (Bh_15 : hp_B Γ (cw w_X4_goBack) s α αh_15 Hh_15 Lh_15) (v5_h_15 : Int32) (v6_h_15 : Int32) (ih_15_0 : 0 ≤ v6_h_15.toInt) (ls : Array Slot) (hl : lv_has ls 7 [(0, .ref a0), (1, .int a1), (5, .int v5_h_15), (6, .int v6_h_15)]) (hmu92 : (2147483647 - v6_h_15.toInt).toNat = nq), W p l e (hp_rm (n + 4) 0 0) s m ([.ref a0, .int a1, .int a2] : List Value).toArray below meth c Hh_15 Lh_15 0 0 (MQ below (hp_Qv Γ (fun β => cw w_X4_goBack α β)) ([.ref a0, .int a1, .int a2] : List Value).toArray s 0 0 (hp_A Γ)) (F0 m 92 ls []) := by
            intro nq
            induction nq using Nat.strongRecOn with
            | ind nq ih92 =>
            intro αh_15 Hh_15 Lh_15 Bh_15 v5_h_15 v6_h_15 ih_15_0 ls hl hmu92
            have inv92_0 := ih_15_0
            refine lv_iload hx hb dX4_goBack_92 (lv_at hl 3 rfl) (hp_n (n := 94) rfl ?_)
            refine lv_aload_n hx hb dX4_goBack_94 rfl (lv_at hl 0 rfl) (hp_n (n := 95) rfl ?_)
            refine q_geti (κ := 5) (k := 2) (φ := 252) (pc' := 98) C Bh_15 (cw_k Bh_15.2.2 k0) fl_X4_19 rfl rfl rfl dX4_goBack_95 rfl (fun x_16 ex_16 => ?_)
            refine lv_icmp_ge (tgt := 141) hx hb dX4_goBack_98 (by decide) (fun c_17 => ?_) (fun c_17 => hp_n (n := 101) rfl ?_)
            ·
              have jc_17 := il_le c_17
              exact q_vret C Bh_15 hr hlk Bh_15.2.2 dX4_goBack_141
            ·
              have jc_17 := il_nle c_17
              refine lv_iload hx hb dX4_goBack_101 (lv_at hl 2 rfl) (hp_n (n := 103) rfl ?_)
              refine lv_if_lt (tgt := 141) hx hb dX4_goBack_103 (by decide) (fun c_18 => ?_) (fun c_18 => hp_n (n := 106) rfl ?_)
              ·
                have jc_18 := il_lt c_18
                exact q_vret C Bh_15 hr hlk Bh_15.2.2 dX4_goBack_141
              ·
                have jc_18 := il_nlt c_18
                refine lv_iload hx hb dX4_goBack_106 (lv_at hl 2 rfl) (hp_n (n := 108) rfl ?_)
                refine lv_ldc hx hb hown (hts _ kc_X4_9) dX4_goBack_108 (hp_n (n := 110) rfl ?_)
                refine lv_icmp_ge (tgt := 141) hx hb dX4_goBack_110 (by decide) (fun c_19 => ?_) (fun c_19 => hp_n (n := 113) rfl ?_)
                ·
                  have jc_19 := il_le c_19
                  exact q_vret C Bh_15 hr hlk Bh_15.2.2 dX4_goBack_141
                ·
                  have jc_19 := il_nle c_19
                  refine lv_aload_n hx hb dX4_goBack_113 rfl (lv_at hl 0 rfl) (hp_n (n := 114) rfl ?_)
                  refine lv_iload_n hx hb dX4_goBack_114 rfl (lv_at hl 1 rfl) (hp_n (n := 115) rfl ?_)
                  refine lv_iconst (v := 1) hx hb dX4_goBack_115 (by decide) (hp_n (n := 116) rfl ?_)
                  refine lv_isub hx hb dX4_goBack_116 (hp_n (n := 117) rfl (lv_topi (fun x_20 ex_20 => ?_)))
                  try have qx_20 : x_20.toInt = a1.toInt - (1 : Int32).toInt := by have b0 := ib_hi a1; have c0 := ib_lo a1; have b1 := ib_hi x_1; have c1 := ib_lo x_1; have b2 := ib_hi x_6; have c2 := ib_lo x_6; rw [ex_20]; exact ii_sub (by omega) (by omega)
                  refine lv_aload_n hx hb dX4_goBack_117 rfl (lv_at hl 0 rfl) (hp_n (n := 118) rfl ?_)
                  refine lv_iload hx hb dX4_goBack_118 (lv_at hl 2 rfl) (hp_n (n := 120) rfl ?_)
                  refine q_ci (pc' := 123) Bh_15 (hp_runV (As := [.int v5_h_15]) (rest := [.int x_20, .ref a0]) C Bh_15 (t_X4_firstOf Γ l αh_15 Bh_15.2.2.1 a0 (cw_k Bh_15.2.2 k0) v5_h_15) lb_X4_firstOf lv_X4_firstOf lk_X4_86 (cw_k Bh_15.2.2 k0) rfl (by omega) rfl hl.1 rfl (Nat.le_of_ble_eq_true rfl) dX4_goBack_120 ⟨Nat.le_refl _, Nat.le_refl _⟩) (fun _ _ h => by rw [h]; exact Bh_15.2.2) rfl (fun rh_21 αh_21 Hh_21 Lh_21 ph_21 Bh_21 => ?_)
                  rw [ph_21] at Bh_21
                  refine q_cv (pc' := 126) Bh_21 (hp_runS (As := [.ref a0, .int x_20, .int rh_21]) (rest := []) C Bh_21 (ihR (n - 1) (by omega) Γ l αh_15 Bh_21.2.2.1 a0 (cw_k Bh_21.2.2 k0) x_20 rh_21 (by omega)) lb_X4_goBack ls_X4_goBack lk_X4_64 rfl (by omega) rfl hl.1 rfl (Nat.le_of_ble_eq_true rfl) dX4_goBack_123 ⟨Nat.le_refl _, Nat.le_refl _⟩) (fun _ h => cw_tr Bh_21.2.2 h (by decide)) rfl (fun αh_22 Hh_22 Lh_22 ph_22 Bh_22 => ?_)
                  refine lv_aload_n hx hb dX4_goBack_126 rfl (lv_at hl 0 rfl) (hp_n (n := 127) rfl ?_)
                  refine q_getr (κ := 5) (k := 1) (φ := 251) (pc' := 130) C Bh_22 (cw_k Bh_22.2.2 k0) fl_X4_16 rfl rfl rfl (cw_r Bh_22.2.2 k0 rfl rfl (by decide) (by decide)) dX4_goBack_127 rfl (fun b_23 eb_23 kb_23 => ?_)
                  refine lv_iload hx hb dX4_goBack_130 (lv_at hl 2 rfl) (hp_n (n := 132) rfl ?_)
                  refine q_ial (κ := 35) (n := 65521) (pc' := 133) C Bh_22 (cw_k Bh_22.2.2 kb_23) (by decide) rfl (vi_of (by omega) (by omega)) dX4_goBack_132 rfl (lv_topi (fun x_24 ex_24 => ?_))
                  refine lv_istore (lv' := [(5, .int x_24), (0, .ref a0), (1, .int a1), (6, .int v6_h_15)]) hx hb dX4_goBack_133 hl (by decide) rfl (fun ls hl => hp_n (n := 135) rfl ?_)
                  obtain ⟨x_25, ex_25⟩ : ∃ y : Int32, y = v6_h_15 + 1 := ⟨_, rfl⟩
                  try have qx_25 : x_25.toInt = v6_h_15.toInt + (1 : Int32).toInt := by have b0 := ib_hi v6_h_15; have c0 := ib_lo v6_h_15; have b1 := ib_hi x_16; have c1 := ib_lo x_16; rw [ex_25]; exact ii_add (by omega) (by omega)
                  refine lv_iinc (v := x_25) (lv' := [(6, .int x_25), (5, .int x_24), (0, .ref a0), (1, .int a1)]) hx hb dX4_goBack_135 hl (k := 3) rfl (by rw [ex_25]; rfl) (by decide) rfl (fun ls hl => hp_n (n := 138) rfl ?_)
                  refine lv_goto (tgt := 92) hx hb dX4_goBack_138 (by decide) ?_
                  exact ih92 _ (by have q0 := ib_hi x_16; have q1 := ib_lo x_16; have qa := ib_hi v6_h_15; have qb := ib_lo v6_h_15; have qc : (v6_h_15 + 1).toInt = v6_h_15.toInt + (1 : Int32).toInt := ii_add (by omega) (by omega); rw [ex_25]; omega) αh_22 Hh_22 Lh_22 Bh_22 x_24 x_25 (by omega) ls (lv_sub hl [2, 3, 1, 0] rfl) rfl
          refine lv_istore (lv' := [(6, .int 0), (5, .int rh_14), (4, .int rh_10), (3, .int 0), (0, .ref a0), (1, .int a1), (2, .int a2)]) hx hb dX4_goBack_90 hl (by decide) rfl (fun ls hl => hp_n (n := 92) rfl ?_)
          exact J92 _ α Hh_14 Lh_14 Bh_14 rh_14 0 (by omega) ls (lv_sub hl [4, 5, 1, 0] rfl) rfl
        ·
          have jc_13 := il_ne c_13
          refine lv_aload_n hx hb dX4_goBack_65 rfl (lv_at hl 2 rfl) (hp_n (n := 66) rfl ?_)
          refine lv_iload_n hx hb dX4_goBack_66 rfl (lv_at hl 3 rfl) (hp_n (n := 67) rfl ?_)
          refine lv_iconst (v := 1) hx hb dX4_goBack_67 (by decide) (hp_n (n := 68) rfl ?_)
          refine lv_isub hx hb dX4_goBack_68 (hp_n (n := 69) rfl (lv_topi (fun x_26 ex_26 => ?_)))
          try have qx_26 : x_26.toInt = a1.toInt - (1 : Int32).toInt := by have b0 := ib_hi a1; have c0 := ib_lo a1; have b1 := ib_hi x_1; have c1 := ib_lo x_1; have b2 := ib_hi x_6; have c2 := ib_lo x_6; rw [ex_26]; exact ii_sub (by omega) (by omega)
          refine lv_aload_n hx hb dX4_goBack_69 rfl (lv_at hl 2 rfl) (hp_n (n := 70) rfl ?_)
          refine lv_iload hx hb dX4_goBack_70 (lv_at hl 0 rfl) (hp_n (n := 72) rfl ?_)
          refine lv_iload_n hx hb dX4_goBack_72 rfl (lv_at hl 4 rfl) (hp_n (n := 73) rfl ?_)
          refine q_ci (pc' := 76) Bh_12 (hp_runV (As := [.int rh_10, .int a2]) (rest := [.int x_26, .ref a0]) C Bh_12 (t_X4_secondOf Γ l α Bh_12.2.2.1 a0 (cw_k Bh_12.2.2 k0) rh_10 a2) lb_X4_secondOf lv_X4_secondOf lk_X4_79 (cw_k Bh_12.2.2 k0) rfl (by omega) rfl hl.1 rfl (Nat.le_of_ble_eq_true rfl) dX4_goBack_73 ⟨Nat.le_refl _, Nat.le_refl _⟩) (fun _ _ h => by rw [h]; exact Bh_12.2.2) rfl (fun rh_27 αh_27 Hh_27 Lh_27 ph_27 Bh_27 => ?_)
          rw [ph_27] at Bh_27
          refine q_cv (pc' := 79) Bh_27 (hp_runS (As := [.ref a0, .int x_26, .int rh_27]) (rest := []) C Bh_27 (ihR (n - 1) (by omega) Γ l α Bh_27.2.2.1 a0 (cw_k Bh_27.2.2 k0) x_26 rh_27 (by omega)) lb_X4_goBack ls_X4_goBack lk_X4_64 rfl (by omega) rfl hl.1 rfl (Nat.le_of_ble_eq_true rfl) dX4_goBack_76 ⟨Nat.le_refl _, Nat.le_refl _⟩) (fun _ h => cw_tr Bh_27.2.2 h (by decide)) rfl (fun αh_28 Hh_28 Lh_28 ph_28 Bh_28 => ?_)
          exact q_vret C Bh_28 hr hlk Bh_28.2.2 dX4_goBack_79
      ·
        have jc_7 := il_eq c_7
        refine lv_iconst (v := 1) hx hb dX4_goBack_26 (by decide) (hp_n (n := 27) rfl ?_)
        refine lv_goto (tgt := 31) hx hb dX4_goBack_27 (by decide) ?_
        refine lv_istore_n (lv' := [(3, .int 1), (0, .ref a0), (1, .int a1), (2, .int a2)]) hx hb dX4_goBack_31 rfl hl (by decide) rfl (fun ls hl => hp_n (n := 32) rfl ?_)
        refine lv_iload_n hx hb dX4_goBack_32 rfl (lv_at hl 0 rfl) (hp_n (n := 33) rfl ?_)
        refine lv_if_eq (tgt := 43) hx hb dX4_goBack_33 (by decide) (fun c_29 => ?_) (fun c_29 => hp_n (n := 36) rfl ?_)
        · exact absurd c_29 (by decide)
        refine lv_aload_n hx hb dX4_goBack_36 rfl (lv_at hl 1 rfl) (hp_n (n := 37) rfl ?_)
        refine q_geti (κ := 5) (k := 7) (φ := 257) (pc' := 40) C B (cw_k B.2.2 k0) fl_X4_43 rfl rfl rfl dX4_goBack_37 rfl (fun x_30 ex_30 => ?_)
        refine lv_goto (tgt := 51) hx hb dX4_goBack_40 (by decide) ?_
        refine lv_istore (lv' := [(4, .int x_30), (3, .int 1), (0, .ref a0), (1, .int a1), (2, .int a2)]) hx hb dX4_goBack_51 hl (by decide) rfl (fun ls hl => hp_n (n := 53) rfl ?_)
        refine lv_aload_n hx hb dX4_goBack_53 rfl (lv_at hl 2 rfl) (hp_n (n := 54) rfl ?_)
        refine q_getr (κ := 5) (k := 3) (φ := 253) (pc' := 57) C B (cw_k B.2.2 k0) fl_X4_26 rfl rfl rfl (cw_r B.2.2 k0 rfl rfl (by decide) (by decide)) dX4_goBack_54 rfl (fun b_31 eb_31 kb_31 => ?_)
        refine lv_iload_n hx hb dX4_goBack_57 rfl (lv_at hl 3 rfl) (hp_n (n := 58) rfl ?_)
        refine q_ci (pc' := 61) B (hp_runV (As := [.int a1]) (rest := []) C B (t_X8_isAhead Γ l α B.2.2.1 b_31 (cw_k B.2.2 kb_31) a1) lb_X8_isAhead lv_X8_isAhead lk_X4_75 (cw_k B.2.2 kb_31) rfl (by omega) rfl hl.1 rfl (Nat.le_of_ble_eq_true rfl) dX4_goBack_58 ⟨Nat.le_refl _, Nat.le_refl _⟩) (fun _ _ h => by rw [h.1]; exact B.2.2) rfl (fun rh_32 αh_32 Hh_32 Lh_32 ph_32 Bh_32 => ?_)
        rw [ph_32.1] at Bh_32
        have zh_32 := ph_32.2
        refine lv_iload_n hx hb dX4_goBack_61 rfl (lv_at hl 1 rfl) (hp_n (n := 62) rfl ?_)
        refine lv_icmp_eq (tgt := 80) hx hb dX4_goBack_62 (by decide) (fun c_33 => ?_) (fun c_33 => hp_n (n := 65) rfl ?_)
        ·
          have jc_33 := il_eq c_33
          refine lv_aload_n hx hb dX4_goBack_80 rfl (lv_at hl 2 rfl) (hp_n (n := 81) rfl ?_)
          refine lv_iload hx hb dX4_goBack_81 (lv_at hl 0 rfl) (hp_n (n := 83) rfl ?_)
          refine lv_iload_n hx hb dX4_goBack_83 rfl (lv_at hl 4 rfl) (hp_n (n := 84) rfl ?_)
          refine q_ci (pc' := 87) Bh_32 (hp_runV (As := [.int x_30, .int a2]) (rest := []) C Bh_32 (t_X4_leastRoot Γ l α Bh_32.2.2.1 a0 (cw_k Bh_32.2.2 k0) x_30 a2) lb_X4_leastRoot lv_X4_leastRoot lk_X4_83 (cw_k Bh_32.2.2 k0) rfl (by omega) rfl hl.1 rfl (Nat.le_of_ble_eq_true rfl) dX4_goBack_84 ⟨Nat.le_refl _, Nat.le_refl _⟩) (fun _ _ h => by rw [h]; exact Bh_32.2.2) rfl (fun rh_34 αh_34 Hh_34 Lh_34 ph_34 Bh_34 => ?_)
          rw [ph_34] at Bh_34
          refine lv_istore (lv' := [(5, .int rh_34), (4, .int x_30), (3, .int 1), (0, .ref a0), (1, .int a1), (2, .int a2)]) hx hb dX4_goBack_87 hl (by decide) rfl (fun ls hl => hp_n (n := 89) rfl ?_)
          refine lv_iconst (v := 0) hx hb dX4_goBack_89 (by decide) (hp_n (n := 90) rfl ?_)
          have J92 : ∀ (nq : Nat) (αh_35 : hp_T) (Hh_35 : Heap) (Lh_35 : List Loc) (Bh_35 : hp_B Γ (cw w_X4_goBack) s α αh_35 Hh_35 Lh_35) (v5_h_35 : Int32) (v6_h_35 : Int32) (ih_35_0 : 0 ≤ v6_h_35.toInt) (ls : Array Slot) (hl : lv_has ls 7 [(0, .ref a0), (1, .int a1), (5, .int v5_h_35), (6, .int v6_h_35)]) (hmu92 : (2147483647 - v6_h_35.toInt).toNat = nq), W p l e (hp_rm (n + 4) 0 0) s m ([.ref a0, .int a1, .int a2] : List Value).toArray below meth c Hh_35 Lh_35 0 0 (MQ below (hp_Qv Γ (fun β => cw w_X4_goBack α β)) ([.ref a0, .int a1, .int a2] : List Value).toArray s 0 0 (hp_A Γ)) (F0 m 92 ls []) := by
            intro nq
            induction nq using Nat.strongRecOn with
            | ind nq ih92 =>
            intro αh_35 Hh_35 Lh_35 Bh_35 v5_h_35 v6_h_35 ih_35_0 ls hl hmu92
            have inv92_0 := ih_35_0
            refine lv_iload hx hb dX4_goBack_92 (lv_at hl 3 rfl) (hp_n (n := 94) rfl ?_)
            refine lv_aload_n hx hb dX4_goBack_94 rfl (lv_at hl 0 rfl) (hp_n (n := 95) rfl ?_)
            refine q_geti (κ := 5) (k := 2) (φ := 252) (pc' := 98) C Bh_35 (cw_k Bh_35.2.2 k0) fl_X4_19 rfl rfl rfl dX4_goBack_95 rfl (fun x_36 ex_36 => ?_)
            refine lv_icmp_ge (tgt := 141) hx hb dX4_goBack_98 (by decide) (fun c_37 => ?_) (fun c_37 => hp_n (n := 101) rfl ?_)
            ·
              have jc_37 := il_le c_37
              exact q_vret C Bh_35 hr hlk Bh_35.2.2 dX4_goBack_141
            ·
              have jc_37 := il_nle c_37
              refine lv_iload hx hb dX4_goBack_101 (lv_at hl 2 rfl) (hp_n (n := 103) rfl ?_)
              refine lv_if_lt (tgt := 141) hx hb dX4_goBack_103 (by decide) (fun c_38 => ?_) (fun c_38 => hp_n (n := 106) rfl ?_)
              ·
                have jc_38 := il_lt c_38
                exact q_vret C Bh_35 hr hlk Bh_35.2.2 dX4_goBack_141
              ·
                have jc_38 := il_nlt c_38
                refine lv_iload hx hb dX4_goBack_106 (lv_at hl 2 rfl) (hp_n (n := 108) rfl ?_)
                refine lv_ldc hx hb hown (hts _ kc_X4_9) dX4_goBack_108 (hp_n (n := 110) rfl ?_)
                refine lv_icmp_ge (tgt := 141) hx hb dX4_goBack_110 (by decide) (fun c_39 => ?_) (fun c_39 => hp_n (n := 113) rfl ?_)
                ·
                  have jc_39 := il_le c_39
                  exact q_vret C Bh_35 hr hlk Bh_35.2.2 dX4_goBack_141
                ·
                  have jc_39 := il_nle c_39
                  refine lv_aload_n hx hb dX4_goBack_113 rfl (lv_at hl 0 rfl) (hp_n (n := 114) rfl ?_)
                  refine lv_iload_n hx hb dX4_goBack_114 rfl (lv_at hl 1 rfl) (hp_n (n := 115) rfl ?_)
                  refine lv_iconst (v := 1) hx hb dX4_goBack_115 (by decide) (hp_n (n := 116) rfl ?_)
                  refine lv_isub hx hb dX4_goBack_116 (hp_n (n := 117) rfl (lv_topi (fun x_40 ex_40 => ?_)))
                  try have qx_40 : x_40.toInt = a1.toInt - (1 : Int32).toInt := by have b0 := ib_hi a1; have c0 := ib_lo a1; have b1 := ib_hi x_1; have c1 := ib_lo x_1; have b2 := ib_hi x_6; have c2 := ib_lo x_6; rw [ex_40]; exact ii_sub (by omega) (by omega)
                  refine lv_aload_n hx hb dX4_goBack_117 rfl (lv_at hl 0 rfl) (hp_n (n := 118) rfl ?_)
                  refine lv_iload hx hb dX4_goBack_118 (lv_at hl 2 rfl) (hp_n (n := 120) rfl ?_)
                  refine q_ci (pc' := 123) Bh_35 (hp_runV (As := [.int v5_h_35]) (rest := [.int x_40, .ref a0]) C Bh_35 (t_X4_firstOf Γ l αh_35 Bh_35.2.2.1 a0 (cw_k Bh_35.2.2 k0) v5_h_35) lb_X4_firstOf lv_X4_firstOf lk_X4_86 (cw_k Bh_35.2.2 k0) rfl (by omega) rfl hl.1 rfl (Nat.le_of_ble_eq_true rfl) dX4_goBack_120 ⟨Nat.le_refl _, Nat.le_refl _⟩) (fun _ _ h => by rw [h]; exact Bh_35.2.2) rfl (fun rh_41 αh_41 Hh_41 Lh_41 ph_41 Bh_41 => ?_)
                  rw [ph_41] at Bh_41
                  refine q_cv (pc' := 126) Bh_41 (hp_runS (As := [.ref a0, .int x_40, .int rh_41]) (rest := []) C Bh_41 (ihR (n - 1) (by omega) Γ l αh_35 Bh_41.2.2.1 a0 (cw_k Bh_41.2.2 k0) x_40 rh_41 (by omega)) lb_X4_goBack ls_X4_goBack lk_X4_64 rfl (by omega) rfl hl.1 rfl (Nat.le_of_ble_eq_true rfl) dX4_goBack_123 ⟨Nat.le_refl _, Nat.le_refl _⟩) (fun _ h => cw_tr Bh_41.2.2 h (by decide)) rfl (fun αh_42 Hh_42 Lh_42 ph_42 Bh_42 => ?_)
                  refine lv_aload_n hx hb dX4_goBack_126 rfl (lv_at hl 0 rfl) (hp_n (n := 127) rfl ?_)
                  refine q_getr (κ := 5) (k := 1) (φ := 251) (pc' := 130) C Bh_42 (cw_k Bh_42.2.2 k0) fl_X4_16 rfl rfl rfl (cw_r Bh_42.2.2 k0 rfl rfl (by decide) (by decide)) dX4_goBack_127 rfl (fun b_43 eb_43 kb_43 => ?_)
                  refine lv_iload hx hb dX4_goBack_130 (lv_at hl 2 rfl) (hp_n (n := 132) rfl ?_)
                  refine q_ial (κ := 35) (n := 65521) (pc' := 133) C Bh_42 (cw_k Bh_42.2.2 kb_43) (by decide) rfl (vi_of (by omega) (by omega)) dX4_goBack_132 rfl (lv_topi (fun x_44 ex_44 => ?_))
                  refine lv_istore (lv' := [(5, .int x_44), (0, .ref a0), (1, .int a1), (6, .int v6_h_35)]) hx hb dX4_goBack_133 hl (by decide) rfl (fun ls hl => hp_n (n := 135) rfl ?_)
                  obtain ⟨x_45, ex_45⟩ : ∃ y : Int32, y = v6_h_35 + 1 := ⟨_, rfl⟩
                  try have qx_45 : x_45.toInt = v6_h_35.toInt + (1 : Int32).toInt := by have b0 := ib_hi v6_h_35; have c0 := ib_lo v6_h_35; have b1 := ib_hi x_36; have c1 := ib_lo x_36; rw [ex_45]; exact ii_add (by omega) (by omega)
                  refine lv_iinc (v := x_45) (lv' := [(6, .int x_45), (5, .int x_44), (0, .ref a0), (1, .int a1)]) hx hb dX4_goBack_135 hl (k := 3) rfl (by rw [ex_45]; rfl) (by decide) rfl (fun ls hl => hp_n (n := 138) rfl ?_)
                  refine lv_goto (tgt := 92) hx hb dX4_goBack_138 (by decide) ?_
                  exact ih92 _ (by have q0 := ib_hi x_36; have q1 := ib_lo x_36; have qa := ib_hi v6_h_35; have qb := ib_lo v6_h_35; have qc : (v6_h_35 + 1).toInt = v6_h_35.toInt + (1 : Int32).toInt := ii_add (by omega) (by omega); rw [ex_45]; omega) αh_42 Hh_42 Lh_42 Bh_42 x_44 x_45 (by omega) ls (lv_sub hl [2, 3, 1, 0] rfl) rfl
          refine lv_istore (lv' := [(6, .int 0), (5, .int rh_34), (4, .int x_30), (3, .int 1), (0, .ref a0), (1, .int a1), (2, .int a2)]) hx hb dX4_goBack_90 hl (by decide) rfl (fun ls hl => hp_n (n := 92) rfl ?_)
          exact J92 _ α Hh_34 Lh_34 Bh_34 rh_34 0 (by omega) ls (lv_sub hl [4, 5, 1, 0] rfl) rfl
        ·
          have jc_33 := il_ne c_33
          refine lv_aload_n hx hb dX4_goBack_65 rfl (lv_at hl 2 rfl) (hp_n (n := 66) rfl ?_)
          refine lv_iload_n hx hb dX4_goBack_66 rfl (lv_at hl 3 rfl) (hp_n (n := 67) rfl ?_)
          refine lv_iconst (v := 1) hx hb dX4_goBack_67 (by decide) (hp_n (n := 68) rfl ?_)
          refine lv_isub hx hb dX4_goBack_68 (hp_n (n := 69) rfl (lv_topi (fun x_46 ex_46 => ?_)))
          try have qx_46 : x_46.toInt = a1.toInt - (1 : Int32).toInt := by have b0 := ib_hi a1; have c0 := ib_lo a1; have b1 := ib_hi x_1; have c1 := ib_lo x_1; have b2 := ib_hi x_6; have c2 := ib_lo x_6; rw [ex_46]; exact ii_sub (by omega) (by omega)
          refine lv_aload_n hx hb dX4_goBack_69 rfl (lv_at hl 2 rfl) (hp_n (n := 70) rfl ?_)
          refine lv_iload hx hb dX4_goBack_70 (lv_at hl 0 rfl) (hp_n (n := 72) rfl ?_)
          refine lv_iload_n hx hb dX4_goBack_72 rfl (lv_at hl 4 rfl) (hp_n (n := 73) rfl ?_)
          refine q_ci (pc' := 76) Bh_32 (hp_runV (As := [.int x_30, .int a2]) (rest := [.int x_46, .ref a0]) C Bh_32 (t_X4_secondOf Γ l α Bh_32.2.2.1 a0 (cw_k Bh_32.2.2 k0) x_30 a2) lb_X4_secondOf lv_X4_secondOf lk_X4_79 (cw_k Bh_32.2.2 k0) rfl (by omega) rfl hl.1 rfl (Nat.le_of_ble_eq_true rfl) dX4_goBack_73 ⟨Nat.le_refl _, Nat.le_refl _⟩) (fun _ _ h => by rw [h]; exact Bh_32.2.2) rfl (fun rh_47 αh_47 Hh_47 Lh_47 ph_47 Bh_47 => ?_)
          rw [ph_47] at Bh_47
          refine q_cv (pc' := 79) Bh_47 (hp_runS (As := [.ref a0, .int x_46, .int rh_47]) (rest := []) C Bh_47 (ihR (n - 1) (by omega) Γ l α Bh_47.2.2.1 a0 (cw_k Bh_47.2.2 k0) x_46 rh_47 (by omega)) lb_X4_goBack ls_X4_goBack lk_X4_64 rfl (by omega) rfl hl.1 rfl (Nat.le_of_ble_eq_true rfl) dX4_goBack_76 ⟨Nat.le_refl _, Nat.le_refl _⟩) (fun _ h => cw_tr Bh_47.2.2 h (by decide)) rfl (fun αh_48 Hh_48 Lh_48 ph_48 Bh_48 => ?_)
          exact q_vret C Bh_48 hr hlk Bh_48.2.2 dX4_goBack_79
    ·
      have jc_5 := il_nle c_5
      exact J12 s.heap [] B ls (lv_sub hl [0, 2] rfl)
abbrev w_X4_seek : cw_W := ([259, 260], [], [], [])
set_option maxRecDepth 100000 in
set_option maxHeartbeats 4000000 in
theorem t_X4_seek (Γ : hp_G) (l : Launch) (α : hp_T) (g : GC α) (a0 : Nat) (k0 : hp_K α a0 = 5) (a1 : Int32) : Met l yX4_seek (hp_ws yX4_seek cX4_seek 2 none) (hp_rm 70 0 0) (hp_Pc Γ α [.ref a0, .int a1]) (hp_Qv Γ (fun β => cw w_X4_seek α β)) 0 0 (hp_A Γ) := by
  refine hp_start (by decide) ?_
  intro p e s m below meth c C hr hlk B0 hnm
  have C : hp_C Γ p m c cX4_seek 2 s ([.ref a0, .int a1] : List Value).toArray RX4 := C
  have hx := C.1.1
  have hb := C.1.2.1
  have hown := C.1.2.2.2.1
  have hts := C.1.2.2.2.2
  have B : hp_B Γ (cw w_X4_seek) s α α s.heap [] := ⟨B0.1, B0.2.1, cw_rf g⟩
  have lit0 : (0 : Int32).toInt = 0 := by decide
  have lit1 : (1 : Int32).toInt = 1 := by decide
  have hl := lv_entry ([.ref a0, .int a1]) (n := 2) (Nat.le_of_ble_eq_true rfl)
  show W p l e (hp_rm 70 0 0) s m ([.ref a0, .int a1] : List Value).toArray below meth c s.heap [] 0 0 (MQ below (hp_Qv Γ (fun β => cw w_X4_seek α β)) ([.ref a0, .int a1] : List Value).toArray s 0 0 (hp_A Γ)) (entryFrame m ([.ref a0, .int a1] : List Value).toArray 2)
  rw [lg_entry_eq]
  generalize (lg_sl ([.ref a0, .int a1]) ++ List.replicate (2 - (lg_sl ([.ref a0, .int a1])).length) Slot.unset).toArray = ls at hl ⊢
  have hl : lv_has ls 2 [(0, .ref a0), (1, .int a1)] := hl
  refine lv_aload_n hx hb dX4_seek_0 rfl (lv_at hl 0 rfl) (hp_n (n := 1) rfl ?_)
  refine lv_iconst (v := 0) hx hb dX4_seek_1 (by decide) (hp_n (n := 2) rfl ?_)
  refine q_puti (κ := 5) (k := 9) (φ := 259) (pc' := 5) C B (cw_k B.2.2 k0) fl_X4_49 rfl rfl rfl rfl rfl rfl (cw_sI B.2.2 (by decide) (fun h => absurd h (by decide))) dX4_seek_2 rfl (fun αh_1 Hh_1 Lh_1 eh_1 Bh_1 => ?_)
  refine lv_aload_n hx hb dX4_seek_5 rfl (lv_at hl 0 rfl) (hp_n (n := 6) rfl ?_)
  refine lv_iconst (v := 0) hx hb dX4_seek_6 (by decide) (hp_n (n := 7) rfl ?_)
  refine q_puti (κ := 5) (k := 10) (φ := 260) (pc' := 10) C Bh_1 (cw_k Bh_1.2.2 k0) fl_X4_52 rfl rfl rfl rfl rfl rfl (cw_sI Bh_1.2.2 (by decide) (fun h => absurd h (by decide))) dX4_seek_7 rfl (fun αh_2 Hh_2 Lh_2 eh_2 Bh_2 => ?_)
  refine lv_aload_n hx hb dX4_seek_10 rfl (lv_at hl 0 rfl) (hp_n (n := 11) rfl ?_)
  refine q_geti (κ := 5) (k := 2) (φ := 252) (pc' := 14) C Bh_2 (cw_k Bh_2.2.2 k0) fl_X4_19 rfl rfl rfl dX4_seek_11 rfl (fun x_3 ex_3 => ?_)
  refine lv_if_le (tgt := 31) hx hb dX4_seek_14 (by decide) (fun c_4 => ?_) (fun c_4 => hp_n (n := 17) rfl ?_)
  ·
    have jc_4 := il_le c_4
    exact q_vret C Bh_2 hr hlk Bh_2.2.2 dX4_seek_31
  ·
    have jc_4 := il_nle c_4
    refine lv_aload_n hx hb dX4_seek_17 rfl (lv_at hl 0 rfl) (hp_n (n := 18) rfl ?_)
    refine lv_aload_n hx hb dX4_seek_18 rfl (lv_at hl 0 rfl) (hp_n (n := 19) rfl ?_)
    refine q_getr (κ := 5) (k := 3) (φ := 253) (pc' := 22) C Bh_2 (cw_k Bh_2.2.2 k0) fl_X4_26 rfl rfl rfl (cw_r Bh_2.2.2 k0 rfl rfl (by decide) (by decide)) dX4_seek_19 rfl (fun b_5 eb_5 kb_5 => ?_)
    refine q_geti (κ := 9) (k := 3) (φ := 453) (pc' := 25) C Bh_2 (cw_k Bh_2.2.2 kb_5) fl_X4_61 rfl rfl rfl dX4_seek_22 rfl (fun x_6 ex_6 => ?_)
    obtain ⟨gx_6a, gx_6b⟩ : 0 ≤ x_6.toInt ∧ x_6.toInt ≤ 64 := by rw [ex_6]; exact Bh_2.2.2.1.1 453 b_5 rfl
    refine lv_iconst (v := 1) hx hb dX4_seek_25 (by decide) (hp_n (n := 26) rfl ?_)
    refine lv_isub hx hb dX4_seek_26 (hp_n (n := 27) rfl (lv_topi (fun x_7 ex_7 => ?_)))
    try have qx_7 : x_7.toInt = x_6.toInt - (1 : Int32).toInt := by have b0 := ib_hi x_6; have c0 := ib_lo x_6; rw [ex_7]; exact ii_sub (by omega) (by omega)
    refine lv_iload_n hx hb dX4_seek_27 rfl (lv_at hl 1 rfl) (hp_n (n := 28) rfl ?_)
    refine q_cv (pc' := 31) Bh_2 (hp_runS (As := [.ref a0, .int x_7, .int a1]) (rest := []) C Bh_2 (t_X4_goBack 64 Γ l αh_2 Bh_2.2.2.1 a0 (cw_k Bh_2.2.2 k0) x_7 a1 (by omega)) lb_X4_goBack ls_X4_goBack lk_X4_64 rfl (by decide) rfl hl.1 rfl (Nat.le_of_ble_eq_true rfl) dX4_seek_28 ⟨Nat.le_refl _, Nat.le_refl _⟩) (fun _ h => cw_tr Bh_2.2.2 h (by decide)) rfl (fun αh_8 Hh_8 Lh_8 ph_8 Bh_8 => ?_)
    exact q_vret C Bh_8 hr hlk Bh_8.2.2 dX4_seek_31
abbrev w_X4_seekThing : cw_W := ([255, 256, 258, 259, 260], [253, 254], [], [])
set_option maxRecDepth 100000 in
set_option maxHeartbeats 4000000 in
theorem t_X4_seekThing (Γ : hp_G) (l : Launch) (α : hp_T) (g : GC α) (a0 : Nat) (k0 : hp_K α a0 = 5) (a1 : Nat) (k1 : hp_K α a1 = 9) (a2 : Nat) (k2 : hp_K α a2 = 6) (a3 : Int32) (a4 : Int32) : Met l yX4_seekThing (hp_ws yX4_seekThing cX4_seekThing 5 none) (hp_rm 71 0 0) (hp_Pc Γ α [.ref a0, .ref a1, .ref a2, .int a3, .int a4]) (hp_Qv Γ (fun β => cw w_X4_seekThing α β)) 0 0 (hp_A Γ) := by
  refine hp_start (by decide) ?_
  intro p e s m below meth c C hr hlk B0 hnm
  have C : hp_C Γ p m c cX4_seekThing 5 s ([.ref a0, .ref a1, .ref a2, .int a3, .int a4] : List Value).toArray RX4 := C
  have hx := C.1.1
  have hb := C.1.2.1
  have hown := C.1.2.2.2.1
  have hts := C.1.2.2.2.2
  have B : hp_B Γ (cw w_X4_seekThing) s α α s.heap [] := ⟨B0.1, B0.2.1, cw_rf g⟩
  have litm1 : ((-1) : Int32).toInt = (-1) := by decide
  have lit0 : (0 : Int32).toInt = 0 := by decide
  have hl := lv_entry ([.ref a0, .ref a1, .ref a2, .int a3, .int a4]) (n := 5) (Nat.le_of_ble_eq_true rfl)
  show W p l e (hp_rm 71 0 0) s m ([.ref a0, .ref a1, .ref a2, .int a3, .int a4] : List Value).toArray below meth c s.heap [] 0 0 (MQ below (hp_Qv Γ (fun β => cw w_X4_seekThing α β)) ([.ref a0, .ref a1, .ref a2, .int a3, .int a4] : List Value).toArray s 0 0 (hp_A Γ)) (entryFrame m ([.ref a0, .ref a1, .ref a2, .int a3, .int a4] : List Value).toArray 5)
  rw [lg_entry_eq]
  generalize (lg_sl ([.ref a0, .ref a1, .ref a2, .int a3, .int a4]) ++ List.replicate (5 - (lg_sl ([.ref a0, .ref a1, .ref a2, .int a3, .int a4])).length) Slot.unset).toArray = ls at hl ⊢
  have hl : lv_has ls 5 [(0, .ref a0), (1, .ref a1), (2, .ref a2), (3, .int a3), (4, .int a4)] := hl
  refine lv_aload_n hx hb dX4_seekThing_0 rfl (lv_at hl 0 rfl) (hp_n (n := 1) rfl ?_)
  refine lv_aload_n hx hb dX4_seekThing_1 rfl (lv_at hl 1 rfl) (hp_n (n := 2) rfl ?_)
  refine q_putr (κ := 5) (k := 3) (φ := 253) (pc' := 5) C B (cw_k B.2.2 k0) fl_X4_26 rfl rfl rfl rfl rfl rfl (cw_sR B.2.2 (by decide) (Or.inl k1)) dX4_seekThing_2 rfl (fun αh_1 Hh_1 Lh_1 eh_1 Bh_1 => ?_)
  refine lv_aload_n hx hb dX4_seekThing_5 rfl (lv_at hl 0 rfl) (hp_n (n := 6) rfl ?_)
  refine lv_aload_n hx hb dX4_seekThing_6 rfl (lv_at hl 2 rfl) (hp_n (n := 7) rfl ?_)
  refine q_putr (κ := 5) (k := 4) (φ := 254) (pc' := 10) C Bh_1 (cw_k Bh_1.2.2 k0) fl_X4_33 rfl rfl rfl rfl rfl rfl (cw_sR Bh_1.2.2 (by decide) (Or.inl k2)) dX4_seekThing_7 rfl (fun αh_2 Hh_2 Lh_2 eh_2 Bh_2 => ?_)
  refine lv_aload_n hx hb dX4_seekThing_10 rfl (lv_at hl 0 rfl) (hp_n (n := 11) rfl ?_)
  refine lv_iconst (v := 0) hx hb dX4_seekThing_11 (by decide) (hp_n (n := 12) rfl ?_)
  refine q_puti (κ := 5) (k := 5) (φ := 255) (pc' := 15) C Bh_2 (cw_k Bh_2.2.2 k0) fl_X4_37 rfl rfl rfl rfl rfl rfl (cw_sI Bh_2.2.2 (by decide) (fun h => absurd h (by decide))) dX4_seekThing_12 rfl (fun αh_3 Hh_3 Lh_3 eh_3 Bh_3 => ?_)
  refine lv_aload_n hx hb dX4_seekThing_15 rfl (lv_at hl 0 rfl) (hp_n (n := 16) rfl ?_)
  refine lv_iconst (v := (-1)) hx hb dX4_seekThing_16 (by decide) (hp_n (n := 17) rfl ?_)
  refine q_puti (κ := 5) (k := 6) (φ := 256) (pc' := 20) C Bh_3 (cw_k Bh_3.2.2 k0) fl_X4_40 rfl rfl rfl rfl rfl rfl (cw_sI Bh_3.2.2 (by decide) (fun h => absurd h (by decide))) dX4_seekThing_17 rfl (fun αh_4 Hh_4 Lh_4 eh_4 Bh_4 => ?_)
  refine lv_aload_n hx hb dX4_seekThing_20 rfl (lv_at hl 0 rfl) (hp_n (n := 21) rfl ?_)
  refine lv_iload_n hx hb dX4_seekThing_21 rfl (lv_at hl 3 rfl) (hp_n (n := 22) rfl ?_)
  refine q_puti (κ := 5) (k := 8) (φ := 258) (pc' := 25) C Bh_4 (cw_k Bh_4.2.2 k0) fl_X4_46 rfl rfl rfl rfl rfl rfl (cw_sI Bh_4.2.2 (by decide) (fun h => absurd h (by decide))) dX4_seekThing_22 rfl (fun αh_5 Hh_5 Lh_5 eh_5 Bh_5 => ?_)
  refine lv_aload_n hx hb dX4_seekThing_25 rfl (lv_at hl 0 rfl) (hp_n (n := 26) rfl ?_)
  refine lv_iload hx hb dX4_seekThing_26 (lv_at hl 4 rfl) (hp_n (n := 28) rfl ?_)
  refine q_cv (pc' := 31) Bh_5 (hp_runV (As := [.int a4]) (rest := []) C Bh_5 (t_X4_seek Γ l αh_5 Bh_5.2.2.1 a0 (cw_k Bh_5.2.2 k0) a4) lb_X4_seek lv_X4_seek lk_X4_57 (cw_k Bh_5.2.2 k0) rfl (by decide) rfl hl.1 rfl (Nat.le_of_ble_eq_true rfl) dX4_seekThing_28 ⟨Nat.le_refl _, Nat.le_refl _⟩) (fun _ h => cw_tr Bh_5.2.2 h (by decide)) rfl (fun αh_6 Hh_6 Lh_6 ph_6 Bh_6 => ?_)
  exact q_vret C Bh_6 hr hlk Bh_6.2.2 dX4_seekThing_31
abbrev w_X4_seekStep : cw_W := ([255, 256, 257, 258, 259, 260], [253, 254], [], [])
set_option maxRecDepth 100000 in
set_option maxHeartbeats 4000000 in
theorem t_X4_seekStep (Γ : hp_G) (l : Launch) (α : hp_T) (g : GC α) (a0 : Nat) (k0 : hp_K α a0 = 5) (a1 : Nat) (k1 : hp_K α a1 = 9) (a2 : Nat) (k2 : hp_K α a2 = 6) (a3 : Int32) (a4 : Int32) (a5 : Int32) : Met l yX4_seekStep (hp_ws yX4_seekStep cX4_seekStep 6 none) (hp_rm 71 0 0) (hp_Pc Γ α [.ref a0, .ref a1, .ref a2, .int a3, .int a4, .int a5]) (hp_Qv Γ (fun β => cw w_X4_seekStep α β)) 0 0 (hp_A Γ) := by
  refine hp_start (by decide) ?_
  intro p e s m below meth c C hr hlk B0 hnm
  have C : hp_C Γ p m c cX4_seekStep 6 s ([.ref a0, .ref a1, .ref a2, .int a3, .int a4, .int a5] : List Value).toArray RX4 := C
  have hx := C.1.1
  have hb := C.1.2.1
  have hown := C.1.2.2.2.1
  have hts := C.1.2.2.2.2
  have B : hp_B Γ (cw w_X4_seekStep) s α α s.heap [] := ⟨B0.1, B0.2.1, cw_rf g⟩
  have litm1 : ((-1) : Int32).toInt = (-1) := by decide
  have hl := lv_entry ([.ref a0, .ref a1, .ref a2, .int a3, .int a4, .int a5]) (n := 6) (Nat.le_of_ble_eq_true rfl)
  show W p l e (hp_rm 71 0 0) s m ([.ref a0, .ref a1, .ref a2, .int a3, .int a4, .int a5] : List Value).toArray below meth c s.heap [] 0 0 (MQ below (hp_Qv Γ (fun β => cw w_X4_seekStep α β)) ([.ref a0, .ref a1, .ref a2, .int a3, .int a4, .int a5] : List Value).toArray s 0 0 (hp_A Γ)) (entryFrame m ([.ref a0, .ref a1, .ref a2, .int a3, .int a4, .int a5] : List Value).toArray 6)
  rw [lg_entry_eq]
  generalize (lg_sl ([.ref a0, .ref a1, .ref a2, .int a3, .int a4, .int a5]) ++ List.replicate (6 - (lg_sl ([.ref a0, .ref a1, .ref a2, .int a3, .int a4, .int a5])).length) Slot.unset).toArray = ls at hl ⊢
  have hl : lv_has ls 6 [(0, .ref a0), (1, .ref a1), (2, .ref a2), (3, .int a3), (4, .int a4), (5, .int a5)] := hl
  refine lv_aload_n hx hb dX4_seekStep_0 rfl (lv_at hl 0 rfl) (hp_n (n := 1) rfl ?_)
  refine lv_aload_n hx hb dX4_seekStep_1 rfl (lv_at hl 1 rfl) (hp_n (n := 2) rfl ?_)
  refine q_putr (κ := 5) (k := 3) (φ := 253) (pc' := 5) C B (cw_k B.2.2 k0) fl_X4_26 rfl rfl rfl rfl rfl rfl (cw_sR B.2.2 (by decide) (Or.inl k1)) dX4_seekStep_2 rfl (fun αh_1 Hh_1 Lh_1 eh_1 Bh_1 => ?_)
  refine lv_aload_n hx hb dX4_seekStep_5 rfl (lv_at hl 0 rfl) (hp_n (n := 6) rfl ?_)
  refine lv_aload_n hx hb dX4_seekStep_6 rfl (lv_at hl 2 rfl) (hp_n (n := 7) rfl ?_)
  refine q_putr (κ := 5) (k := 4) (φ := 254) (pc' := 10) C Bh_1 (cw_k Bh_1.2.2 k0) fl_X4_33 rfl rfl rfl rfl rfl rfl (cw_sR Bh_1.2.2 (by decide) (Or.inl k2)) dX4_seekStep_7 rfl (fun αh_2 Hh_2 Lh_2 eh_2 Bh_2 => ?_)
  refine lv_aload_n hx hb dX4_seekStep_10 rfl (lv_at hl 0 rfl) (hp_n (n := 11) rfl ?_)
  refine lv_iload hx hb dX4_seekStep_11 (lv_at hl 5 rfl) (hp_n (n := 13) rfl ?_)
  refine q_puti (κ := 5) (k := 5) (φ := 255) (pc' := 16) C Bh_2 (cw_k Bh_2.2.2 k0) fl_X4_37 rfl rfl rfl rfl rfl rfl (cw_sI Bh_2.2.2 (by decide) (fun h => absurd h (by decide))) dX4_seekStep_13 rfl (fun αh_3 Hh_3 Lh_3 eh_3 Bh_3 => ?_)
  refine lv_aload_n hx hb dX4_seekStep_16 rfl (lv_at hl 0 rfl) (hp_n (n := 17) rfl ?_)
  refine lv_iload hx hb dX4_seekStep_17 (lv_at hl 5 rfl) (hp_n (n := 19) rfl ?_)
  refine q_puti (κ := 5) (k := 6) (φ := 256) (pc' := 22) C Bh_3 (cw_k Bh_3.2.2 k0) fl_X4_40 rfl rfl rfl rfl rfl rfl (cw_sI Bh_3.2.2 (by decide) (fun h => absurd h (by decide))) dX4_seekStep_19 rfl (fun αh_4 Hh_4 Lh_4 eh_4 Bh_4 => ?_)
  refine lv_aload_n hx hb dX4_seekStep_22 rfl (lv_at hl 0 rfl) (hp_n (n := 23) rfl ?_)
  refine lv_iload_n hx hb dX4_seekStep_23 rfl (lv_at hl 3 rfl) (hp_n (n := 24) rfl ?_)
  refine q_puti (κ := 5) (k := 7) (φ := 257) (pc' := 27) C Bh_4 (cw_k Bh_4.2.2 k0) fl_X4_43 rfl rfl rfl rfl rfl rfl (cw_sI Bh_4.2.2 (by decide) (fun h => absurd h (by decide))) dX4_seekStep_24 rfl (fun αh_5 Hh_5 Lh_5 eh_5 Bh_5 => ?_)
  refine lv_aload_n hx hb dX4_seekStep_27 rfl (lv_at hl 0 rfl) (hp_n (n := 28) rfl ?_)
  refine lv_iconst (v := (-1)) hx hb dX4_seekStep_28 (by decide) (hp_n (n := 29) rfl ?_)
  refine q_puti (κ := 5) (k := 8) (φ := 258) (pc' := 32) C Bh_5 (cw_k Bh_5.2.2 k0) fl_X4_46 rfl rfl rfl rfl rfl rfl (cw_sI Bh_5.2.2 (by decide) (fun h => absurd h (by decide))) dX4_seekStep_29 rfl (fun αh_6 Hh_6 Lh_6 eh_6 Bh_6 => ?_)
  refine lv_aload_n hx hb dX4_seekStep_32 rfl (lv_at hl 0 rfl) (hp_n (n := 33) rfl ?_)
  refine lv_iload hx hb dX4_seekStep_33 (lv_at hl 4 rfl) (hp_n (n := 35) rfl ?_)
  refine q_cv (pc' := 38) Bh_6 (hp_runV (As := [.int a4]) (rest := []) C Bh_6 (t_X4_seek Γ l αh_6 Bh_6.2.2.1 a0 (cw_k Bh_6.2.2 k0) a4) lb_X4_seek lv_X4_seek lk_X4_57 (cw_k Bh_6.2.2 k0) rfl (by decide) rfl hl.1 rfl (Nat.le_of_ble_eq_true rfl) dX4_seekStep_35 ⟨Nat.le_refl _, Nat.le_refl _⟩) (fun _ h => cw_tr Bh_6.2.2 h (by decide)) rfl (fun αh_7 Hh_7 Lh_7 ph_7 Bh_7 => ?_)
  exact q_vret C Bh_7 hr hlk Bh_7.2.2 dX4_seekStep_38
abbrev w_X4_prepare : cw_W := ([252], [], [34, 35], [])
set_option maxRecDepth 100000 in
set_option maxHeartbeats 4000000 in
theorem t_X4_prepare (Γ : hp_G) (l : Launch) (α : hp_T) (g : GC α) (a0 : Nat) (k0 : hp_K α a0 = 5) (a1 : Int32) : Met l yX4_prepare (hp_ws yX4_prepare cX4_prepare 4 none) (hp_rm 0 0 0) (hp_Pc Γ α [.ref a0, .int a1]) (hp_Qv Γ (fun β => cw w_X4_prepare α β)) 0 0 (hp_A Γ) := by
  refine hp_start (by decide) ?_
  intro p e s m below meth c C hr hlk B0 hnm
  have C : hp_C Γ p m c cX4_prepare 4 s ([.ref a0, .int a1] : List Value).toArray RX4 := C
  have hx := C.1.1
  have hb := C.1.2.1
  have hown := C.1.2.2.2.1
  have hts := C.1.2.2.2.2
  have B : hp_B Γ (cw w_X4_prepare) s α α s.heap [] := ⟨B0.1, B0.2.1, cw_rf g⟩
  have litm1 : ((-1) : Int32).toInt = (-1) := by decide
  have lit0 : (0 : Int32).toInt = 0 := by decide
  have lit1 : (1 : Int32).toInt = 1 := by decide
  have lit101 : (101 : Int32).toInt = 101 := by decide
  have lit65521 : (65521 : Int32).toInt = 65521 := by decide
  have hl := lv_entry ([.ref a0, .int a1]) (n := 4) (Nat.le_of_ble_eq_true rfl)
  show W p l e (hp_rm 0 0 0) s m ([.ref a0, .int a1] : List Value).toArray below meth c s.heap [] 0 0 (MQ below (hp_Qv Γ (fun β => cw w_X4_prepare α β)) ([.ref a0, .int a1] : List Value).toArray s 0 0 (hp_A Γ)) (entryFrame m ([.ref a0, .int a1] : List Value).toArray 4)
  rw [lg_entry_eq]
  generalize (lg_sl ([.ref a0, .int a1]) ++ List.replicate (4 - (lg_sl ([.ref a0, .int a1])).length) Slot.unset).toArray = ls at hl ⊢
  have hl : lv_has ls 4 [(0, .ref a0), (1, .int a1)] := hl
  refine lv_aload_n hx hb dX4_prepare_0 rfl (lv_at hl 0 rfl) (hp_n (n := 1) rfl ?_)
  refine q_geti (κ := 5) (k := 2) (φ := 252) (pc' := 4) C B (cw_k B.2.2 k0) fl_X4_19 rfl rfl rfl dX4_prepare_1 rfl (fun x_1 ex_1 => ?_)
  refine lv_iload_n hx hb dX4_prepare_4 rfl (lv_at hl 1 rfl) (hp_n (n := 5) rfl ?_)
  refine lv_icmp_eq (tgt := 20) hx hb dX4_prepare_5 (by decide) (fun c_2 => ?_) (fun c_2 => hp_n (n := 8) rfl ?_)
  ·
    have jc_2 := il_eq c_2
    exact q_vret C B hr hlk B.2.2 dX4_prepare_20
  ·
    have jc_2 := il_ne c_2
    refine lv_iload_n hx hb dX4_prepare_8 rfl (lv_at hl 1 rfl) (hp_n (n := 9) rfl ?_)
    refine lv_bipush (v := 101) hx hb dX4_prepare_9 (by decide) (hp_n (n := 11) rfl ?_)
    refine lv_icmp_lt (tgt := 20) hx hb dX4_prepare_11 (by decide) (fun c_3 => ?_) (fun c_3 => hp_n (n := 14) rfl ?_)
    ·
      have jc_3 := il_lt c_3
      exact q_vret C B hr hlk B.2.2 dX4_prepare_20
    ·
      have jc_3 := il_nlt c_3
      refine lv_iload_n hx hb dX4_prepare_14 rfl (lv_at hl 1 rfl) (hp_n (n := 15) rfl ?_)
      refine lv_ldc hx hb hown (hts _ kc_X4_9) dX4_prepare_15 (hp_n (n := 17) rfl ?_)
      refine lv_icmp_le (tgt := 21) hx hb dX4_prepare_17 (by decide) (fun c_4 => ?_) (fun c_4 => hp_n (n := 20) rfl ?_)
      ·
        have jc_4 := il_le c_4
        refine lv_aload_n hx hb dX4_prepare_21 rfl (lv_at hl 0 rfl) (hp_n (n := 22) rfl ?_)
        refine lv_iload_n hx hb dX4_prepare_22 rfl (lv_at hl 1 rfl) (hp_n (n := 23) rfl ?_)
        refine q_puti (κ := 5) (k := 2) (φ := 252) (pc' := 26) C B (cw_k B.2.2 k0) fl_X4_19 rfl rfl rfl rfl rfl rfl (cw_sI B.2.2 (by decide) (fun h => absurd h (by decide))) dX4_prepare_23 rfl (fun αh_5 Hh_5 Lh_5 eh_5 Bh_5 => ?_)
        refine lv_iconst (v := 0) hx hb dX4_prepare_26 (by decide) (hp_n (n := 27) rfl ?_)
        have J28 : ∀ (nq : Nat) (αh_6 : hp_T) (Hh_6 : Heap) (Lh_6 : List Loc) (Bh_6 : hp_B Γ (cw w_X4_prepare) s α αh_6 Hh_6 Lh_6) (v2_h_6 : Int32) (ih_6_0 : 0 ≤ v2_h_6.toInt) (fh_6_0 : a1 = hp_I αh_6 252 a0) (ls : Array Slot) (hl : lv_has ls 4 [(0, .ref a0), (2, .int v2_h_6)]) (hmu28 : (2147483647 - v2_h_6.toInt).toNat = nq), W p l e (hp_rm 0 0 0) s m ([.ref a0, .int a1] : List Value).toArray below meth c Hh_6 Lh_6 0 0 (MQ below (hp_Qv Γ (fun β => cw w_X4_prepare α β)) ([.ref a0, .int a1] : List Value).toArray s 0 0 (hp_A Γ)) (F0 m 28 ls []) := by
          intro nq
          induction nq using Nat.strongRecOn with
          | ind nq ih28 =>
          intro αh_6 Hh_6 Lh_6 Bh_6 v2_h_6 ih_6_0 fh_6_0 ls hl hmu28
          have inv28_0 := ih_6_0
          refine lv_iload_n hx hb dX4_prepare_28 rfl (lv_at hl 1 rfl) (hp_n (n := 29) rfl ?_)
          refine lv_aload_n hx hb dX4_prepare_29 rfl (lv_at hl 0 rfl) (hp_n (n := 30) rfl ?_)
          refine q_getj (κ := 5) (k := 2) (φ := 252) (pc' := 33) C Bh_6 (cw_k Bh_6.2.2 k0) fl_X4_19 rfl rfl rfl fh_6_0 dX4_prepare_30 rfl ?_
          have J58 : ∀ (Hh_7 : Heap) (Lh_7 : List Loc) (Bh_7 : hp_B Γ (cw w_X4_prepare) s α αh_6 Hh_7 Lh_7) (ls : Array Slot) (hl : lv_has ls 4 [(0, .ref a0)]), W p l e (hp_rm 0 0 0) s m ([.ref a0, .int a1] : List Value).toArray below meth c Hh_7 Lh_7 0 0 (MQ below (hp_Qv Γ (fun β => cw w_X4_prepare α β)) ([.ref a0, .int a1] : List Value).toArray s 0 0 (hp_A Γ)) (F0 m 58 ls []) := by
            intro Hh_7 Lh_7 Bh_7 ls hl
            refine lv_aload_n hx hb dX4_prepare_58 rfl (lv_at hl 0 rfl) (hp_n (n := 59) rfl ?_)
            refine q_getj (κ := 5) (k := 2) (φ := 252) (pc' := 62) C Bh_7 (cw_k Bh_7.2.2 k0) fl_X4_19 rfl rfl rfl fh_6_0 dX4_prepare_59 rfl ?_
            refine lv_iconst (v := 1) hx hb dX4_prepare_62 (by decide) (hp_n (n := 63) rfl ?_)
            refine lv_isub hx hb dX4_prepare_63 (hp_n (n := 64) rfl (lv_topi (fun x_8 ex_8 => ?_)))
            try have qx_8 : x_8.toInt = a1.toInt - (1 : Int32).toInt := by have b0 := ib_hi a1; have c0 := ib_lo a1; have b1 := ib_hi x_1; have c1 := ib_lo x_1; rw [ex_8]; exact ii_sub (by omega) (by omega)
            have J65 : ∀ (nq : Nat) (αh_9 : hp_T) (Hh_9 : Heap) (Lh_9 : List Loc) (Bh_9 : hp_B Γ (cw w_X4_prepare) s α αh_9 Hh_9 Lh_9) (v2_h_9 : Int32) (ih_9_0 : v2_h_9.toInt < 65521) (fh_9_0 : a1 = hp_I αh_9 252 a0) (ls : Array Slot) (hl : lv_has ls 4 [(0, .ref a0), (2, .int v2_h_9)]) (hmu65 : (v2_h_9.toInt + 1).toNat = nq), W p l e (hp_rm 0 0 0) s m ([.ref a0, .int a1] : List Value).toArray below meth c Hh_9 Lh_9 0 0 (MQ below (hp_Qv Γ (fun β => cw w_X4_prepare α β)) ([.ref a0, .int a1] : List Value).toArray s 0 0 (hp_A Γ)) (F0 m 65 ls []) := by
              intro nq
              induction nq using Nat.strongRecOn with
              | ind nq ih65 =>
              intro αh_9 Hh_9 Lh_9 Bh_9 v2_h_9 ih_9_0 fh_9_0 ls hl hmu65
              have inv65_0 := ih_9_0
              refine lv_iload_n hx hb dX4_prepare_65 rfl (lv_at hl 1 rfl) (hp_n (n := 66) rfl ?_)
              refine lv_if_lt (tgt := 132) hx hb dX4_prepare_66 (by decide) (fun c_10 => ?_) (fun c_10 => hp_n (n := 69) rfl ?_)
              ·
                have jc_10 := il_lt c_10
                exact q_vret C Bh_9 hr hlk Bh_9.2.2 dX4_prepare_132
              ·
                have jc_10 := il_nlt c_10
                refine lv_iload_n hx hb dX4_prepare_69 rfl (lv_at hl 1 rfl) (hp_n (n := 70) rfl ?_)
                refine lv_i2l hx hb dX4_prepare_70 rfl (hp_n (n := 71) rfl (lv_topl (fun x_11 ex_11 => ?_)))
                refine lv_iload_n hx hb dX4_prepare_71 rfl (lv_at hl 1 rfl) (hp_n (n := 72) rfl ?_)
                refine lv_i2l hx hb dX4_prepare_72 rfl (hp_n (n := 73) rfl (lv_topl (fun x_12 ex_12 => ?_)))
                refine lv_lmul hx hb dX4_prepare_73 (hp_n (n := 74) rfl (lv_topl (fun x_13 ex_13 => ?_)))
                refine lv_ldc2 hx hb hown (hts _ kc_X4_55) dX4_prepare_74 (hp_n (n := 77) rfl ?_)
                refine lv_iload_n hx hb dX4_prepare_77 rfl (lv_at hl 1 rfl) (hp_n (n := 78) rfl ?_)
                refine lv_i2l hx hb dX4_prepare_78 rfl (hp_n (n := 79) rfl (lv_topl (fun x_14 ex_14 => ?_)))
                refine lv_lmul hx hb dX4_prepare_79 (hp_n (n := 80) rfl (lv_topl (fun x_15 ex_15 => ?_)))
                refine lv_ladd hx hb dX4_prepare_80 (hp_n (n := 81) rfl (lv_topl (fun x_16 ex_16 => ?_)))
                refine lv_aload_n hx hb dX4_prepare_81 rfl (lv_at hl 0 rfl) (hp_n (n := 82) rfl ?_)
                refine q_getj (κ := 5) (k := 2) (φ := 252) (pc' := 85) C Bh_9 (cw_k Bh_9.2.2 k0) fl_X4_19 rfl rfl rfl fh_9_0 dX4_prepare_82 rfl ?_
                refine lv_i2l hx hb dX4_prepare_85 rfl (hp_n (n := 86) rfl (lv_topl (fun x_17 ex_17 => ?_)))
                refine lv_lrem hx hb dX4_prepare_86 (li_nz ex_17 (by omega)) (hp_n (n := 87) rfl (lv_topl (fun x_18 ex_18 => ?_)))
                refine lv_l2i hx hb dX4_prepare_87 rfl (hp_n (n := 88) rfl (lv_topi (fun x_19 ex_19 => ?_)))
                refine lv_istore_n (lv' := [(3, .int x_19), (0, .ref a0), (2, .int v2_h_9)]) hx hb dX4_prepare_88 rfl hl (by decide) rfl (fun ls hl => hp_n (n := 89) rfl ?_)
                have hr3 : 0 ≤ x_19.toInt := by simp only [ex_19, ex_18, ex_16, ex_13, ex_11, ex_12, ex_15, ex_14, ex_17]; exact rt_nn (by omega) (by omega) (by omega) (by omega)
                refine lv_iload_n hx hb dX4_prepare_89 rfl (lv_at hl 2 rfl) (hp_n (n := 90) rfl ?_)
                refine lv_aload_n hx hb dX4_prepare_90 rfl (lv_at hl 1 rfl) (hp_n (n := 91) rfl ?_)
                refine q_getr (κ := 5) (k := 1) (φ := 251) (pc' := 94) C Bh_9 (cw_k Bh_9.2.2 k0) fl_X4_16 rfl rfl rfl (cw_r Bh_9.2.2 k0 rfl rfl (by decide) (by decide)) dX4_prepare_91 rfl (fun b_20 eb_20 kb_20 => ?_)
                refine q_alen (κ := 35) (t := 0) (n := 65521) (x := 65521) (ty := .int) (pc' := 95) C Bh_9 (cw_k Bh_9.2.2 kb_20) (by decide) rfl rfl rfl dX4_prepare_94 rfl ?_
                refine lv_icmp_ge (tgt := 126) hx hb dX4_prepare_95 (by decide) (fun c_21 => ?_) (fun c_21 => hp_n (n := 98) rfl ?_)
                ·
                  have jc_21 := il_le c_21
                  obtain ⟨x_22, ex_22⟩ : ∃ y : Int32, y = v2_h_9 + (-1) := ⟨_, rfl⟩
                  try have qx_22 : x_22.toInt = v2_h_9.toInt + ((-1) : Int32).toInt := by have b0 := ib_hi v2_h_9; have c0 := ib_lo v2_h_9; rw [ex_22]; exact ii_add (by omega) (by omega)
                  refine lv_iinc (v := x_22) (lv' := [(2, .int x_22), (3, .int x_19), (0, .ref a0)]) hx hb dX4_prepare_126 hl (k := 2) rfl (by rw [ex_22]; rfl) (by decide) rfl (fun ls hl => hp_n (n := 129) rfl ?_)
                  refine lv_goto (tgt := 65) hx hb dX4_prepare_129 (by decide) ?_
                  exact ih65 _ (mu_dn1 hmu65 ex_22 (by omega)) αh_9 Hh_9 Lh_9 Bh_9 x_22 (by omega) fh_9_0 ls (lv_sub hl [2, 0] rfl) rfl
                ·
                  have jc_21 := il_nle c_21
                  refine lv_iload_n hx hb dX4_prepare_98 rfl (lv_at hl 0 rfl) (hp_n (n := 99) rfl ?_)
                  refine lv_aload_n hx hb dX4_prepare_99 rfl (lv_at hl 1 rfl) (hp_n (n := 100) rfl ?_)
                  refine q_getr (κ := 5) (k := 0) (φ := 250) (pc' := 103) C Bh_9 (cw_k Bh_9.2.2 k0) fl_X4_10 rfl rfl rfl (cw_r Bh_9.2.2 k0 rfl rfl (by decide) (by decide)) dX4_prepare_100 rfl (fun b_23 eb_23 kb_23 => ?_)
                  refine q_alen (κ := 34) (t := 0) (n := 65521) (x := 65521) (ty := .int) (pc' := 104) C Bh_9 (cw_k Bh_9.2.2 kb_23) (by decide) rfl rfl rfl dX4_prepare_103 rfl ?_
                  refine lv_icmp_ge (tgt := 126) hx hb dX4_prepare_104 (by decide) (fun c_24 => ?_) (fun c_24 => hp_n (n := 107) rfl ?_)
                  ·
                    have jc_24 := il_le c_24
                    obtain ⟨x_25, ex_25⟩ : ∃ y : Int32, y = v2_h_9 + (-1) := ⟨_, rfl⟩
                    try have qx_25 : x_25.toInt = v2_h_9.toInt + ((-1) : Int32).toInt := by have b0 := ib_hi v2_h_9; have c0 := ib_lo v2_h_9; rw [ex_25]; exact ii_add (by omega) (by omega)
                    refine lv_iinc (v := x_25) (lv' := [(2, .int x_25), (3, .int x_19), (0, .ref a0)]) hx hb dX4_prepare_126 hl (k := 2) rfl (by rw [ex_25]; rfl) (by decide) rfl (fun ls hl => hp_n (n := 129) rfl ?_)
                    refine lv_goto (tgt := 65) hx hb dX4_prepare_129 (by decide) ?_
                    exact ih65 _ (mu_dn1 hmu65 ex_25 (by omega)) αh_9 Hh_9 Lh_9 Bh_9 x_25 (by omega) fh_9_0 ls (lv_sub hl [2, 0] rfl) rfl
                  ·
                    have jc_24 := il_nle c_24
                    refine lv_aload_n hx hb dX4_prepare_107 rfl (lv_at hl 1 rfl) (hp_n (n := 108) rfl ?_)
                    refine q_gets (κ := 5) (k := 1) (φ := 251) (pc' := 111) C Bh_9 (cw_k Bh_9.2.2 k0) fl_X4_16 rfl rfl rfl eb_20 dX4_prepare_108 rfl ?_
                    refine lv_iload_n hx hb dX4_prepare_111 rfl (lv_at hl 2 rfl) (hp_n (n := 112) rfl ?_)
                    refine lv_aload_n hx hb dX4_prepare_112 rfl (lv_at hl 1 rfl) (hp_n (n := 113) rfl ?_)
                    refine q_gets (κ := 5) (k := 0) (φ := 250) (pc' := 116) C Bh_9 (cw_k Bh_9.2.2 k0) fl_X4_10 rfl rfl rfl eb_23 dX4_prepare_113 rfl ?_
                    refine lv_iload_n hx hb dX4_prepare_116 rfl (lv_at hl 0 rfl) (hp_n (n := 117) rfl ?_)
                    refine q_ial (κ := 34) (n := 65521) (pc' := 118) C Bh_9 (cw_k Bh_9.2.2 kb_23) (by decide) rfl (vi_of (by omega) (by omega)) dX4_prepare_117 rfl (lv_topi (fun x_26 ex_26 => ?_))
                    refine q_ias (κ := 35) (n := 65521) (pc' := 119) C Bh_9 (cw_k Bh_9.2.2 kb_20) (by decide) rfl (vi_of (by omega) (by omega)) rfl (cw_sE Bh_9.2.2 (by decide)) dX4_prepare_118 rfl (fun αh_27 Hh_27 Lh_27 eh_27 Bh_27 => ?_)
                    refine lv_aload_n hx hb dX4_prepare_119 rfl (lv_at hl 1 rfl) (hp_n (n := 120) rfl ?_)
                    have t_28 : b_23 = hp_R αh_27 250 a0 := by rw [eh_27]; exact eb_23
                    refine q_gets (κ := 5) (k := 0) (φ := 250) (pc' := 123) C Bh_27 (cw_k Bh_27.2.2 k0) fl_X4_10 rfl rfl rfl t_28 dX4_prepare_120 rfl ?_
                    refine lv_iload_n hx hb dX4_prepare_123 rfl (lv_at hl 0 rfl) (hp_n (n := 124) rfl ?_)
                    refine lv_iload_n hx hb dX4_prepare_124 rfl (lv_at hl 2 rfl) (hp_n (n := 125) rfl ?_)
                    refine q_ias (κ := 34) (n := 65521) (pc' := 126) C Bh_27 (cw_k Bh_27.2.2 kb_23) (by decide) rfl (vi_of (by omega) (by omega)) rfl (cw_sE Bh_27.2.2 (by decide)) dX4_prepare_125 rfl (fun αh_29 Hh_29 Lh_29 eh_29 Bh_29 => ?_)
                    obtain ⟨x_30, ex_30⟩ : ∃ y : Int32, y = v2_h_9 + (-1) := ⟨_, rfl⟩
                    try have qx_30 : x_30.toInt = v2_h_9.toInt + ((-1) : Int32).toInt := by have b0 := ib_hi v2_h_9; have c0 := ib_lo v2_h_9; rw [ex_30]; exact ii_add (by omega) (by omega)
                    refine lv_iinc (v := x_30) (lv' := [(2, .int x_30), (3, .int x_19), (0, .ref a0)]) hx hb dX4_prepare_126 hl (k := 2) rfl (by rw [ex_30]; rfl) (by decide) rfl (fun ls hl => hp_n (n := 129) rfl ?_)
                    refine lv_goto (tgt := 65) hx hb dX4_prepare_129 (by decide) ?_
                    have t_31 : a1 = hp_I αh_27 252 a0 := by rw [eh_27]; exact fh_9_0
                    have t_32 : a1 = hp_I αh_29 252 a0 := by rw [eh_29]; exact t_31
                    exact ih65 _ (mu_dn1 hmu65 ex_30 (by omega)) αh_29 Hh_29 Lh_29 Bh_29 x_30 (by omega) t_32 ls (lv_sub hl [2, 0] rfl) rfl
            refine lv_istore_n (lv' := [(2, .int x_8), (0, .ref a0)]) hx hb dX4_prepare_64 rfl hl (by decide) rfl (fun ls hl => hp_n (n := 65) rfl ?_)
            exact J65 _ αh_6 Hh_7 Lh_7 Bh_7 x_8 (by omega) fh_6_0 ls (lv_sub hl [1, 0] rfl) rfl
          refine lv_icmp_ge (tgt := 58) hx hb dX4_prepare_33 (by decide) (fun c_33 => ?_) (fun c_33 => hp_n (n := 36) rfl ?_)
          ·
            have jc_33 := il_le c_33
            exact J58 Hh_6 Lh_6 Bh_6 ls (lv_sub hl [0] rfl)
          ·
            have jc_33 := il_nle c_33
            refine lv_iload_n hx hb dX4_prepare_36 rfl (lv_at hl 1 rfl) (hp_n (n := 37) rfl ?_)
            refine lv_aload_n hx hb dX4_prepare_37 rfl (lv_at hl 0 rfl) (hp_n (n := 38) rfl ?_)
            refine q_getr (κ := 5) (k := 0) (φ := 250) (pc' := 41) C Bh_6 (cw_k Bh_6.2.2 k0) fl_X4_10 rfl rfl rfl (cw_r Bh_6.2.2 k0 rfl rfl (by decide) (by decide)) dX4_prepare_38 rfl (fun b_34 eb_34 kb_34 => ?_)
            refine q_alen (κ := 34) (t := 0) (n := 65521) (x := 65521) (ty := .int) (pc' := 42) C Bh_6 (cw_k Bh_6.2.2 kb_34) (by decide) rfl rfl rfl dX4_prepare_41 rfl ?_
            refine lv_icmp_ge (tgt := 58) hx hb dX4_prepare_42 (by decide) (fun c_35 => ?_) (fun c_35 => hp_n (n := 45) rfl ?_)
            ·
              have jc_35 := il_le c_35
              exact J58 Hh_6 Lh_6 Bh_6 ls (lv_sub hl [0] rfl)
            ·
              have jc_35 := il_nle c_35
              refine lv_aload_n hx hb dX4_prepare_45 rfl (lv_at hl 0 rfl) (hp_n (n := 46) rfl ?_)
              refine q_gets (κ := 5) (k := 0) (φ := 250) (pc' := 49) C Bh_6 (cw_k Bh_6.2.2 k0) fl_X4_10 rfl rfl rfl eb_34 dX4_prepare_46 rfl ?_
              refine lv_iload_n hx hb dX4_prepare_49 rfl (lv_at hl 1 rfl) (hp_n (n := 50) rfl ?_)
              refine lv_iconst (v := (-1)) hx hb dX4_prepare_50 (by decide) (hp_n (n := 51) rfl ?_)
              refine q_ias (κ := 34) (n := 65521) (pc' := 52) C Bh_6 (cw_k Bh_6.2.2 kb_34) (by decide) rfl (vi_of (by omega) (by omega)) rfl (cw_sE Bh_6.2.2 (by decide)) dX4_prepare_51 rfl (fun αh_36 Hh_36 Lh_36 eh_36 Bh_36 => ?_)
              obtain ⟨x_37, ex_37⟩ : ∃ y : Int32, y = v2_h_6 + 1 := ⟨_, rfl⟩
              try have qx_37 : x_37.toInt = v2_h_6.toInt + (1 : Int32).toInt := by have b0 := ib_hi a1; have c0 := ib_lo a1; have b1 := ib_hi v2_h_6; have c1 := ib_lo v2_h_6; rw [ex_37]; exact ii_add (by omega) (by omega)
              refine lv_iinc (v := x_37) (lv' := [(2, .int x_37), (0, .ref a0)]) hx hb dX4_prepare_52 hl (k := 1) rfl (by rw [ex_37]; rfl) (by decide) rfl (fun ls hl => hp_n (n := 55) rfl ?_)
              refine lv_goto (tgt := 28) hx hb dX4_prepare_55 (by decide) ?_
              have t_38 : a1 = hp_I αh_36 252 a0 := by rw [eh_36]; exact fh_6_0
              exact ih28 _ (by have q0 := ib_hi a1; have q1 := ib_lo a1; have qa := ib_hi v2_h_6; have qb := ib_lo v2_h_6; have qc : (v2_h_6 + 1).toInt = v2_h_6.toInt + (1 : Int32).toInt := ii_add (by omega) (by omega); rw [ex_37]; omega) αh_36 Hh_36 Lh_36 Bh_36 x_37 (by omega) t_38 ls (lv_sub hl [1, 0] rfl) rfl
        refine lv_istore_n (lv' := [(2, .int 0), (0, .ref a0), (1, .int a1)]) hx hb dX4_prepare_27 rfl hl (by decide) rfl (fun ls hl => hp_n (n := 28) rfl ?_)
        have t_39 : a1 = hp_I αh_5 252 a0 := by rw [eh_5]; exact hp_I_at.symm
        exact J28 _ αh_5 Hh_5 Lh_5 Bh_5 0 (by omega) t_39 ls (lv_sub hl [1, 0] rfl) rfl
      ·
        have jc_4 := il_nle c_4
        exact q_vret C B hr hlk B.2.2 dX4_prepare_20
end JN3_2
section JN3_3
theorem fo_J0_38 : Cond.fieldLink RJ0 38 "java/lang/String" "COMPACT_STRINGS" "Z" ∈ lw_u := hp_mu (tm_2_14 (List.mem_of_getElem? (i := 11) rfl)) rfl
theorem fo_J0_1053 : Cond.fieldLink RJ0 1053 "jdk/internal/util/Preconditions" "SIOOBE_FORMATTER" "Ljava/util/function/BiFunction;" ∈ lw_u := hp_mu (tb_3 (List.mem_of_getElem? (i := 11) rfl)) rfl
theorem fo_J0_9 : Cond.fieldLink RJ0 9 "java/lang/String" "value" "[B" ∈ lw_u := hp_mu (tm_9_7 (List.mem_of_getElem? (i := 7) rfl)) rfl
theorem fo_J0_15 : Cond.fieldLink RJ0 15 "java/lang/String" "coder" "B" ∈ lw_u := hp_mu (tm_9_7 (List.mem_of_getElem? (i := 8) rfl)) rfl
theorem sx_J0_length_8abf5 : Cond.selects yJ0_length_8abf5.cls yJ0_length_8abf5 yJ0_length_8abf5 ∈ lw_u := hp_mu (tm_2_14 (List.mem_of_getElem? (i := 5) rfl)) rfl
theorem sx_J0_charAt_5068e : Cond.selects yJ0_charAt_5068e.cls yJ0_charAt_5068e yJ0_charAt_5068e ∈ lw_u := hp_mu (tm_2_14 (List.mem_of_getElem? (i := 15) rfl)) rfl
theorem sx_J0_coder_7d493 : Cond.selects yJ0_coder_7d493.cls yJ0_coder_7d493 yJ0_coder_7d493 ∈ lw_u := hp_mu (tm_2_14 (List.mem_of_getElem? (i := 9) rfl)) rfl
theorem sx_J0_isLatin1_aae02 : Cond.selects yJ0_isLatin1_aae02.cls yJ0_isLatin1_aae02 yJ0_isLatin1_aae02 ∈ lw_u := hp_mu (tb_3 (List.mem_of_getElem? (i := 3) rfl)) rfl
theorem iz_X11 : Cond.initialized RX11 ∈ lw_u := hp_mu (tb_1 (List.mem_of_getElem? (i := 1) rfl)) rfl
theorem iz_X10 : Cond.initialized RX10 ∈ lw_u := hp_mu (tb_1 (List.mem_of_getElem? (i := 2) rfl)) rfl
theorem iz_X5 : Cond.initialized RX5 ∈ lw_u := hp_mu (tb_1 (List.mem_of_getElem? (i := 3) rfl)) rfl
theorem iz_X8 : Cond.initialized RX8 ∈ lw_u := hp_mu (tb_1 (List.mem_of_getElem? (i := 4) rfl)) rfl
theorem iz_X2 : Cond.initialized RX2 ∈ lw_u := hp_mu (tb_1 (List.mem_of_getElem? (i := 5) rfl)) rfl
theorem iz_X9 : Cond.initialized RX9 ∈ lw_u := hp_mu (tb_1 (List.mem_of_getElem? (i := 6) rfl)) rfl
theorem iz_X1 : Cond.initialized RX1 ∈ lw_u := hp_mu (tb_1 (List.mem_of_getElem? (i := 7) rfl)) rfl
theorem iz_X7 : Cond.initialized RX7 ∈ lw_u := hp_mu (tb_1 (List.mem_of_getElem? (i := 8) rfl)) rfl
theorem iz_X0 : Cond.initialized RX0 ∈ lw_u := hp_mu (tb_1 (List.mem_of_getElem? (i := 9) rfl)) rfl
theorem iz_X3 : Cond.initialized RX3 ∈ lw_u := hp_mu (tb_1 (List.mem_of_getElem? (i := 10) rfl)) rfl
theorem iz_X6 : Cond.initialized RX6 ∈ lw_u := hp_mu (tb_1 (List.mem_of_getElem? (i := 11) rfl)) rfl
theorem iz_X12 : Cond.initialized RX12 ∈ lw_u := hp_mu (tb_1 (List.mem_of_getElem? (i := 12) rfl)) rfl
theorem iz_X4 : Cond.initialized RX4 ∈ lw_u := hp_mu (tm_1_1 (List.mem_of_getElem? (i := 3) rfl)) rfl
theorem cl_L_7 : Cond.classLink RL 7 RX11 ∈ lw_u := hp_mu (tm_1_1 (List.mem_of_getElem? (i := 4) rfl)) rfl
theorem it_X11 : Cond.instantiable RX11 19 ∈ lw_u := hp_mu (tm_1_1 (List.mem_of_getElem? (i := 5) rfl)) rfl
theorem ol_X11 : Cond.methodLink RX11 1 objectInit ∈ lw_u := hp_mu (tm_1_1 (List.mem_of_getElem? (i := 9) rfl)) rfl
theorem oi_in : Cond.instanceMethod objectInit ∈ lw_u := hp_mu (tm_1_1 (List.mem_of_getElem? (i := 10) rfl)) rfl
theorem oi_cd : Cond.code objectInit ⟨#[0xb1]⟩ 1 none ∈ lw_u := hp_mu (tm_1_1 (List.mem_of_getElem? (i := 11) rfl)) rfl
theorem cl_X11_13 : Cond.classLink RX11 13 RX10 ∈ lw_u := hp_mu (tm_1_1 (List.mem_of_getElem? (i := 12) rfl)) rfl
theorem it_X10 : Cond.instantiable RX10 10 ∈ lw_u := hp_mu (tm_1_1 (List.mem_of_getElem? (i := 13) rfl)) rfl
theorem ol_X10 : Cond.methodLink RX10 3 objectInit ∈ lw_u := hp_mu (tm_1_2 (List.mem_of_getElem? (i := 1) rfl)) rfl
theorem cl_X10_16 : Cond.classLink RX10 16 RX2 ∈ lw_u := hp_mu (tm_1_2 (List.mem_of_getElem? (i := 3) rfl)) rfl
theorem ao_X2 : Cond.arrayOver (.object "ProvenRecord$Log") ∈ hp_nest := List.mem_filter.mpr ⟨tm_1_2 (List.mem_of_getElem? (i := 4) rfl), by decide +kernel⟩
theorem cl_X10_25 : Cond.classLink RX10 25 RX1 ∈ lw_u := hp_mu (tm_1_2 (List.mem_of_getElem? (i := 5) rfl)) rfl
theorem ao_X1 : Cond.arrayOver (.object "ProvenRecord$Frozen") ∈ hp_nest := List.mem_filter.mpr ⟨tm_1_2 (List.mem_of_getElem? (i := 6) rfl), by decide +kernel⟩
theorem cl_X10_34 : Cond.classLink RX10 34 RX7 ∈ lw_u := hp_mu (tm_1_2 (List.mem_of_getElem? (i := 7) rfl)) rfl
theorem ao_X7 : Cond.arrayOver (.object "ProvenRecord$Watcher") ∈ hp_nest := List.mem_filter.mpr ⟨tm_1_2 (List.mem_of_getElem? (i := 8) rfl), by decide +kernel⟩
theorem cl_X10_47 : Cond.classLink RX10 47 RX5 ∈ lw_u := hp_mu (tm_1_2 (List.mem_of_getElem? (i := 9) rfl)) rfl
theorem it_X5 : Cond.instantiable RX5 2 ∈ lw_u := hp_mu (tm_1_2 (List.mem_of_getElem? (i := 10) rfl)) rfl
theorem ol_X5 : Cond.methodLink RX5 3 objectInit ∈ lw_u := hp_mu (tm_1_2 (List.mem_of_getElem? (i := 14) rfl)) rfl
theorem ac_int : Cond.arrayClass .int ∈ lw_u := hp_mu (tm_1_3 (List.mem_of_getElem? (i := 11) rfl)) rfl
theorem cl_X10_54 : Cond.classLink RX10 54 RX8 ∈ lw_u := hp_mu (tm_1_3 (List.mem_of_getElem? (i := 12) rfl)) rfl
theorem it_X8 : Cond.instantiable RX8 5 ∈ lw_u := hp_mu (tm_1_3 (List.mem_of_getElem? (i := 13) rfl)) rfl
theorem ol_X8 : Cond.methodLink RX8 3 objectInit ∈ lw_u := hp_mu (tm_1_4 (List.mem_of_getElem? (i := 1) rfl)) rfl
theorem ac_boolean : Cond.arrayClass .boolean ∈ lw_u := hp_mu (tm_1_5 (List.mem_of_getElem? (i := 5) rfl)) rfl
theorem it_X2 : Cond.instantiable RX2 3 ∈ lw_u := hp_mu (tm_1_5 (List.mem_of_getElem? (i := 6) rfl)) rfl
theorem ol_X2 : Cond.methodLink RX2 3 objectInit ∈ lw_u := hp_mu (tm_1_5 (List.mem_of_getElem? (i := 10) rfl)) rfl
theorem cl_X2_9 : Cond.classLink RX2 9 RX9 ∈ lw_u := hp_mu (tm_1_5 (List.mem_of_getElem? (i := 11) rfl)) rfl
theorem ao_X9 : Cond.arrayOver (.object "ProvenRecord$Word") ∈ hp_nest := List.mem_filter.mpr ⟨tm_1_5 (List.mem_of_getElem? (i := 12) rfl), by decide +kernel⟩
theorem it_X9 : Cond.instantiable RX9 2 ∈ lw_u := hp_mu (tm_1_5 (List.mem_of_getElem? (i := 13) rfl)) rfl
theorem ol_X9 : Cond.methodLink RX9 3 objectInit ∈ lw_u := hp_mu (tm_1_6 (List.mem_of_getElem? (i := 1) rfl)) rfl
theorem ac_byte : Cond.arrayClass .byte ∈ lw_u := hp_mu (tm_1_6 (List.mem_of_getElem? (i := 10) rfl)) rfl
theorem it_X1 : Cond.instantiable RX1 5 ∈ lw_u := hp_mu (tm_1_7 (List.mem_of_getElem? (i := 8) rfl)) rfl
theorem ol_X1 : Cond.methodLink RX1 1 objectInit ∈ lw_u := hp_mu (tm_1_7 (List.mem_of_getElem? (i := 12) rfl)) rfl
theorem cl_X1_22 : Cond.classLink RX1 22 RX5 ∈ lw_u := hp_mu (tm_1_7 (List.mem_of_getElem? (i := 13) rfl)) rfl
theorem it_X7 : Cond.instantiable RX7 4 ∈ lw_u := hp_mu (tm_1_9 (List.mem_of_getElem? (i := 8) rfl)) rfl
theorem ol_X7 : Cond.methodLink RX7 3 objectInit ∈ lw_u := hp_mu (tm_1_9 (List.mem_of_getElem? (i := 12) rfl)) rfl
theorem cl_X11_23 : Cond.classLink RX11 23 RX5 ∈ lw_u := hp_mu (tm_1_13 (List.mem_of_getElem? (i := 8) rfl)) rfl
theorem cl_X11_37 : Cond.classLink RX11 37 RX9 ∈ lw_u := hp_mu (tm_1_13 (List.mem_of_getElem? (i := 10) rfl)) rfl
theorem cl_X11_59 : Cond.classLink RX11 59 RX8 ∈ lw_u := hp_mu (tm_1_13 (List.mem_of_getElem? (i := 12) rfl)) rfl
theorem cl_X11_72 : Cond.classLink RX11 72 RX0 ∈ lw_u := hp_mu (tm_1_13 (List.mem_of_getElem? (i := 14) rfl)) rfl
theorem it_X0 : Cond.instantiable RX0 5 ∈ lw_u := hp_mu (tm_1_13 (List.mem_of_getElem? (i := 15) rfl)) rfl
theorem ol_X0 : Cond.methodLink RX0 3 objectInit ∈ lw_u := hp_mu (tm_1_14 (List.mem_of_getElem? (i := 3) rfl)) rfl
theorem cl_X0_15 : Cond.classLink RX0 15 RX5 ∈ lw_u := hp_mu (tm_1_14 (List.mem_of_getElem? (i := 4) rfl)) rfl
theorem cl_X11_79 : Cond.classLink RX11 79 RX3 ∈ lw_u := hp_mu (tb_2 (List.mem_of_getElem? (i := 6) rfl)) rfl
theorem it_X3 : Cond.instantiable RX3 10 ∈ lw_u := hp_mu (tb_2 (List.mem_of_getElem? (i := 7) rfl)) rfl
theorem ol_X3 : Cond.methodLink RX3 3 objectInit ∈ lw_u := hp_mu (tb_2 (List.mem_of_getElem? (i := 11) rfl)) rfl
theorem cl_X3_9 : Cond.classLink RX3 9 RX6 ∈ lw_u := hp_mu (tb_2 (List.mem_of_getElem? (i := 12) rfl)) rfl
theorem it_X6 : Cond.instantiable RX6 7 ∈ lw_u := hp_mu (tb_2 (List.mem_of_getElem? (i := 13) rfl)) rfl
theorem ol_X6 : Cond.methodLink RX6 3 objectInit ∈ lw_u := hp_mu (tm_2_1 (List.mem_of_getElem? (i := 1) rfl)) rfl
theorem cl_X3_18 : Cond.classLink RX3 18 RX5 ∈ lw_u := hp_mu (tm_2_2 (List.mem_of_getElem? (i := 12) rfl)) rfl
theorem cl_X3_25 : Cond.classLink RX3 25 RX8 ∈ lw_u := hp_mu (tm_2_2 (List.mem_of_getElem? (i := 14) rfl)) rfl
theorem cl_X3_46 : Cond.classLink RX3 46 RX9 ∈ lw_u := hp_mu (tm_2_3 (List.mem_of_getElem? (i := 1) rfl)) rfl
theorem cl_X11_368 : Cond.classLink RX11 368 RX4 ∈ lw_u := hp_mu (tm_5_8 (List.mem_of_getElem? (i := 13) rfl)) rfl
theorem it_X4 : Cond.instantiable RX4 11 ∈ lw_u := hp_mu (tm_5_8 (List.mem_of_getElem? (i := 14) rfl)) rfl
theorem ol_X4 : Cond.methodLink RX4 3 objectInit ∈ lw_u := hp_mu (tm_5_9 (List.mem_of_getElem? (i := 2) rfl)) rfl
theorem cl_X4_23 : Cond.classLink RX4 23 RX8 ∈ lw_u := hp_mu (tm_5_9 (List.mem_of_getElem? (i := 4) rfl)) rfl
theorem cl_X4_30 : Cond.classLink RX4 30 RX5 ∈ lw_u := hp_mu (tm_5_9 (List.mem_of_getElem? (i := 6) rfl)) rfl
theorem cl_L_10 : Cond.classLink RL 10 RX12 ∈ lw_u := hp_mu (tm_6_7 (List.mem_of_getElem? (i := 7) rfl)) rfl
theorem it_X12 : Cond.instantiable RX12 48 ∈ lw_u := hp_mu (tm_6_7 (List.mem_of_getElem? (i := 8) rfl)) rfl
theorem ol_X12 : Cond.methodLink RX12 1 objectInit ∈ lw_u := hp_mu (tm_6_7 (List.mem_of_getElem? (i := 12) rfl)) rfl
theorem ac_long : Cond.arrayClass .long ∈ lw_u := hp_mu (tm_7_2 (List.mem_of_getElem? (i := 15) rfl)) rfl
end JN3_3
section JN3_4
/-! ===== texts: the JDK's own members over the literals ===== -/
theorem st_S {Γ : hp_G} {s : State} {α : hp_T} (hK : hp_KK Γ s) (hR : hp_Rep Γ α s.heap) : vk_S 21 hp_sn hp_sb Γ.2.2.2.2.1 Γ.2.2.2.2.2 (hp_A Γ) s s.heap := hK.2.2.2.1.kept (fun a ha _ => hR.2.1 a ha)
theorem st_Z {Γ : hp_G} {s : State} {α : hp_T} (hK : hp_KK Γ s) (hR : hp_Rep Γ α s.heap) : va_Z "java/lang/String" "COMPACT_STRINGS" "Z" (.int 1) (hp_A Γ) s s.heap := hK.2.2.2.2.1.kept (fun a ha _ => hR.2.1 a ha)
theorem st_Zq {Γ : hp_G} {s : State} {α : hp_T} (hK : hp_KK Γ s) (hR : hp_Rep Γ α s.heap) : va_Zq "jdk/internal/util/Preconditions" "SIOOBE_FORMATTER" "Ljava/util/function/BiFunction;" (hp_A Γ) s s.heap := hK.2.2.2.2.2.kept (fun a ha _ => hR.2.1 a ha)
def hp_len (i : Nat) : Int32 := Int32.ofNat (hp_sn.getD i 0)
def hp_ch (i j : Nat) : Int32 := (((hp_sb.getD i []).getD j 0 &&& 255).toUInt32 % 65536).toInt32
theorem st_sh : ∀ i, i < 21 → hp_len i >>> ((0 : Int32) &&& 31) = hp_len i := by decide +kernel
theorem st_len : ∀ i, i < 21 → (hp_len i).toInt = (hp_sn.getD i 0 : Int) ∧ hp_sn.getD i 0 ≤ 6 := by decide +kernel
theorem st_ch8 : ∀ i, i < 21 → ∀ j, j < 7 → narrow .char (.int (hp_ch i j)) = .int (hp_ch i j) := by decide +kernel
theorem st_ch {i : Nat} (hi : i < 21) {a : Int32} (h0 : 0 ≤ a.toInt) (h1 : a.toInt < (hp_len i).toInt) : narrow .char (.int (hp_ch i a.toNatClampNeg)) = .int (hp_ch i a.toNatClampNeg) := by
  have h2 := (st_len i hi).1
  have h3 := (st_len i hi).2
  have h4 := ic_clamp h0
  exact st_ch8 i hi _ (by omega)
section HPT
variable {p : Program} {l : Launch} {e : Env} {s : State} {m : MethodId} {args : Array Value} {below : List Frame} {meth : Method} {c : Code} {H : Heap} {locs : List Loc} {cells slots : Nat} {Q : State → Prop} {cc bytes : ByteArray} {nL maxL : Nat} {ret : Option FieldType} {own : String} {Γ : hp_G} {α0 α αs : hp_T} {Iv : hp_T → hp_T → Prop} {pc : Nat} {ls : Array Slot} {st rest : List Value} {i index n d d' mc ms mc' ms' : Nat} {y : MethodName} {As : List Value} {R : Room}
/-- a call of a text's own member -/
theorem hp_runT {Qc : Array Value → State → Outcome → State → Prop} (C : hp_C Γ p m c cc nL s args own) (hR0 : hp_Rep Γ αs s.heap) (B : hp_B Γ Iv s α0 α H locs) (hi : i < 21) (hM : Met l y (hp_ws y bytes maxL ret) (hp_rm d' mc ms) (hp_Pc Γ α (.ref (Γ.2.2.2.2.1 i) :: As)) Qc mc ms (hp_A Γ)) (hB : hp_LB y bytes maxL ret n) (v1 : Cond.instanceMethod y ∈ lw_u) (v2 : Cond.selects y.cls y y ∈ lw_u) (hyc : y.cls = "java/lang/String") (hL : hp_LK own index y) (hR : R = hp_rm d mc' ms') (hd : d' < d) (hlen : As.length = n) (hsz : ls.size = nL) (hst : st = As.reverse ++ .ref (Γ.2.2.2.2.1 i) :: rest) (hcat : (rest.map fun v => v.category).sum ≤ 8) (hdg : decode cc pc = .ok (.invokevirtual index, 3)) (hf : cells + mc ≤ mc' ∧ slots + ms ≤ ms') :
    va_Run p l e R s m args below meth c H locs cells slots mc ms (F0 m pc ls st) rest (Qc (Value.ref (Γ.2.2.2.2.1 i) :: As).toArray) (hp_A Γ) := by
  obtain ⟨h1, h2, h3, h4⟩ := hB
  have hts := C.1.2.2.2.2
  have hrecv : ∃ cellB : Cell, H[Γ.2.2.2.2.1 i]? = some cellB ∧ cellB.vm.isStatics = false ∧ s.vm.findClass y.cls = some cellB.cls := by
    rw [hyc]
    exact vk_recv (st_S C.2 hR0) hi B.2.1
  have hp : PreV s H y.cls (Γ.2.2.2.2.1 i) (hp_Pc Γ α (.ref (Γ.2.2.2.2.1 i) :: As)) As := ⟨hp_blind Γ α _, hrecv, fun U hU hW => ⟨rfl, by rw [hU]; exact B.1, C.2.warm hW⟩⟩
  have hRR : (hp_rm d' mc ms).frames + 1 ≤ R.frames ∧ 8 + (maxL + 11) + (hp_rm d' mc ms).locals ≤ R.locals := by
    rw [hR]; show d' + 1 ≤ d ∧ 8 + (maxL + 11) + 45 * d' ≤ 45 * d; omega
  have hff : cells + mc ≤ R.cells ∧ slots + ms ≤ R.slots := by rw [hR]; exact hf
  rcases hL with hL | ⟨host, hL⟩
  · exact va_runV (As := As) (rest := rest) (n := n) (C := y.cls) C.1 hM ⟨callB_of n hts (hp_gs h1) rfl rfl rfl (hts _ h2) (hts _ hL) h4 hRR, hts _ v1, hts _ v2⟩ hp rfl hlen hsz hst (lv_room (m := m) (pc := pc) (ls := ls) (rest := st) hcat) hdg hff
  · exact va_runVN (As := As) (rest := rest) (n := n) (C := y.cls) C.1 hM ⟨va_cnB n hts (hp_gs h1) rfl rfl rfl (C.2.2.1 _ hL) (hts _ h2) h4 hRR, hts _ v1, hts _ v2⟩ hp rfl hlen hsz hst (lv_room (m := m) (pc := pc) (ls := ls) (rest := st) hcat) hdg hff
theorem st_ldcw (hexec : p.tables.exec = Jvm.exec) (hb : c.code = cc) {tx : String} {q : Nat} (hown : s.vm.findClass own = some m.cls) (hZ : vk_R own index tx q s) (hdg : decode cc pc = .ok (.ldc_w index, 3))
    (k : W p l e R s m args below meth c H locs cells slots Q (F0 m (pc + 3) ls (.ref q :: rest))) : W p l e R s m args below meth c H locs cells slots Q (F0 m pc ls rest) := by
  intro T hT X
  obtain ⟨t, a1, b1⟩ := k T hT X
  refine ⟨t, ?_, b1⟩
  obtain ⟨k0, cf, i0, a', hk, hcf, hcp, -, hr, hev'⟩ := Cond.stringRef_spec hown hZ.1
  cases hZ.2.symm.trans hev'
  obtain ⟨k', hk', he⟩ := X.warmed.alike.2.2 _ _ hk
  have hr' : k'.resolved[index]? = some (some (.string q)) := by
    rcases X.warmed.entry hk hk' index with h | ⟨h, -⟩
    · rw [h]; exact hr
    · rw [hr] at h; cases h
  have hdg2 : decode c.code pc = .ok (.ldc_w index, 3) := by rw [hb]; exact hdg
  jvm_step X.here [hexec, hdg2, ldc_w.wp_string (e := e) (s := T) (f := F0 m pc ls rest) X.here.top hk' (by rw [he]; exact hcf) hcp hr']
  exact a1
end HPT
set_option maxRecDepth 100000 in
set_option maxHeartbeats 4000000 in
theorem t_J0_coder_7d493 (Γ : hp_G) (l : Launch) (α : hp_T) (i : Nat) (hi : i < 21) : Met l yJ0_coder_7d493 (hp_ws yJ0_coder_7d493 cJ0_coder_7d493 1 (some .byte)) (hp_rm 0 0 0) (hp_Pc Γ α [.ref (Γ.2.2.2.2.1 i)]) (hp_Qi Γ (fun r β => β = α ∧ r = 0)) 0 0 (hp_A Γ) := by
  refine hp_startF (by decide +kernel) ?_
  intro p e s m below meth c C hr hlk B hnm
  have C : hp_C Γ p m c cJ0_coder_7d493 1 s ([.ref (Γ.2.2.2.2.1 i)] : List Value).toArray RJ0 := C
  have hx := C.1.1
  have hb := C.1.2.1
  have hown := C.1.2.2.2.1
  have hts := C.1.2.2.2.2
  have hl := lv_entry ([.ref (Γ.2.2.2.2.1 i)]) (n := 1) (Nat.le_of_ble_eq_true rfl)
  rw [lg_entry_eq]
  generalize (lg_sl ([.ref (Γ.2.2.2.2.1 i)]) ++ List.replicate (1 - (lg_sl ([.ref (Γ.2.2.2.2.1 i)])).length) Slot.unset).toArray = ls at hl ⊢
  have hl : lv_has ls 1 [(0, .ref (Γ.2.2.2.2.1 i))] := hl
  refine va_gets hx hb (st_Z C.2 B.1) B.2.1 hown (hts _ fo_J0_38) (fun _ h => h) dJ0_coder_7d493_0 (hp_n (n := 3) rfl ?_)
  refine lv_if_eq (tgt := 13) hx hb dJ0_coder_7d493_3 (by decide) (fun q => absurd q (by decide)) (fun q => hp_n (n := 6) rfl ?_)
  refine lv_aload_n hx hb dJ0_coder_7d493_6 rfl (lv_at hl 0 rfl) (hp_n (n := 7) rfl ?_)
  refine vk_getf hx hb (((st_S C.2 B.1).1 i hi).2.1) B.2.1 hown (hts _ fo_J0_15) (fun _ h => h) dJ0_coder_7d493_7 (hp_n (n := 10) rfl ?_)
  refine lv_goto (tgt := 14) hx hb dJ0_coder_7d493_10 (by decide) ?_
  exact q_zret C B hr hlk rfl ⟨rfl, rfl⟩ dJ0_coder_7d493_14
set_option maxRecDepth 100000 in
set_option maxHeartbeats 4000000 in
theorem t_J0_isLatin1_aae02 (Γ : hp_G) (l : Launch) (α : hp_T) (i : Nat) (hi : i < 21) : Met l yJ0_isLatin1_aae02 (hp_ws yJ0_isLatin1_aae02 cJ0_isLatin1_aae02 1 (some .boolean)) (hp_rm 0 0 0) (hp_Pc Γ α [.ref (Γ.2.2.2.2.1 i)]) (hp_Qi Γ (fun r β => β = α ∧ r = 1)) 0 0 (hp_A Γ) := by
  refine hp_startF (by decide +kernel) ?_
  intro p e s m below meth c C hr hlk B hnm
  have C : hp_C Γ p m c cJ0_isLatin1_aae02 1 s ([.ref (Γ.2.2.2.2.1 i)] : List Value).toArray RJ0 := C
  have hx := C.1.1
  have hb := C.1.2.1
  have hown := C.1.2.2.2.1
  have hts := C.1.2.2.2.2
  have hl := lv_entry ([.ref (Γ.2.2.2.2.1 i)]) (n := 1) (Nat.le_of_ble_eq_true rfl)
  rw [lg_entry_eq]
  generalize (lg_sl ([.ref (Γ.2.2.2.2.1 i)]) ++ List.replicate (1 - (lg_sl ([.ref (Γ.2.2.2.2.1 i)])).length) Slot.unset).toArray = ls at hl ⊢
  have hl : lv_has ls 1 [(0, .ref (Γ.2.2.2.2.1 i))] := hl
  refine va_gets hx hb (st_Z C.2 B.1) B.2.1 hown (hts _ fo_J0_38) (fun _ h => h) dJ0_isLatin1_aae02_0 (hp_n (n := 3) rfl ?_)
  refine lv_if_eq (tgt := 17) hx hb dJ0_isLatin1_aae02_3 (by decide) (fun q => absurd q (by decide)) (fun q => hp_n (n := 6) rfl ?_)
  refine lv_aload_n hx hb dJ0_isLatin1_aae02_6 rfl (lv_at hl 0 rfl) (hp_n (n := 7) rfl ?_)
  refine vk_getf hx hb (((st_S C.2 B.1).1 i hi).2.1) B.2.1 hown (hts _ fo_J0_15) (fun _ h => h) dJ0_isLatin1_aae02_7 (hp_n (n := 10) rfl ?_)
  refine lv_if_ne (tgt := 17) hx hb dJ0_isLatin1_aae02_10 (by decide) (fun q => absurd rfl q) (fun q => hp_n (n := 13) rfl ?_)
  refine lv_iconst (v := 1) hx hb dJ0_isLatin1_aae02_13 (by decide) (hp_n (n := 14) rfl ?_)
  refine lv_goto (tgt := 18) hx hb dJ0_isLatin1_aae02_14 (by decide) ?_
  exact q_zret C B hr hlk rfl ⟨rfl, rfl⟩ dJ0_isLatin1_aae02_18
set_option maxRecDepth 100000 in
set_option maxHeartbeats 4000000 in
theorem t_J0_length_8abf5 (Γ : hp_G) (l : Launch) (α : hp_T) (i : Nat) (hi : i < 21) : Met l yJ0_length_8abf5 (hp_ws yJ0_length_8abf5 cJ0_length_8abf5 1 (some .int)) (hp_rm 1 0 0) (hp_Pc Γ α [.ref (Γ.2.2.2.2.1 i)]) (hp_Qi Γ (fun r β => β = α ∧ r = hp_len i)) 0 0 (hp_A Γ) := by
  refine hp_startF (by decide +kernel) ?_
  intro p e s m below meth c C hr hlk B hnm
  have C : hp_C Γ p m c cJ0_length_8abf5 1 s ([.ref (Γ.2.2.2.2.1 i)] : List Value).toArray RJ0 := C
  have hx := C.1.1
  have hb := C.1.2.1
  have hown := C.1.2.2.2.1
  have hts := C.1.2.2.2.2
  have hl := lv_entry ([.ref (Γ.2.2.2.2.1 i)]) (n := 1) (Nat.le_of_ble_eq_true rfl)
  rw [lg_entry_eq]
  generalize (lg_sl ([.ref (Γ.2.2.2.2.1 i)]) ++ List.replicate (1 - (lg_sl ([.ref (Γ.2.2.2.2.1 i)])).length) Slot.unset).toArray = ls at hl ⊢
  have hl : lv_has ls 1 [(0, .ref (Γ.2.2.2.2.1 i))] := hl
  have B0 := B
  refine lv_aload_n hx hb dJ0_length_8abf5_0 rfl (lv_at hl 0 rfl) (hp_n (n := 1) rfl ?_)
  refine vk_getf hx hb (((st_S C.2 B.1).1 i hi).2.2.1) B.2.1 hown (hts _ fo_J0_9) (fun _ h => h) dJ0_length_8abf5_1 (hp_n (n := 4) rfl ?_)
  refine va_tlen hx hb (((st_S C.2 B.1).1 i hi).2.2.2) B.2.1 (v := hp_len i) rfl dJ0_length_8abf5_4 (hp_n (n := 5) rfl ?_)
  refine lv_aload_n hx hb dJ0_length_8abf5_5 rfl (lv_at hl 0 rfl) (hp_n (n := 6) rfl ?_)
  refine q_ci (pc' := 9) B (hp_runT (i := i) (As := []) (rest := [.int (hp_len i)]) C B0.1 B hi (t_J0_coder_7d493 Γ l α i hi ) lb_J0_coder_7d493 li_J0_coder_7d493 sx_J0_coder_7d493 rfl lk_J0_335 rfl (by decide) rfl hl.1 rfl (Nat.le_of_ble_eq_true rfl) dJ0_length_8abf5_6 ⟨Nat.le_refl _, Nat.le_refl _⟩) (fun _ _ _ => trivial) rfl (fun r1 α1 H1 L1 p1 B1 => ?_)
  obtain ⟨rfl, rfl⟩ := p1
  refine lv_ishr hx hb dJ0_length_8abf5_9 (hp_n (n := 10) rfl ?_)
  rw [st_sh i hi]
  exact q_iret C B1 hr hlk ⟨rfl, rfl⟩ dJ0_length_8abf5_10
set_option maxRecDepth 100000 in
set_option maxHeartbeats 4000000 in
theorem t_J3_checkIndex_8e157 (Γ : hp_G) (l : Launch) (α : hp_T) (a0 a1 : Int32) (o : Option Nat) (h0 : 0 ≤ a0.toInt) (h1 : a0.toInt < a1.toInt) : Met l yJ3_checkIndex_8e157 (hp_ws yJ3_checkIndex_8e157 cJ3_checkIndex_8e157 3 (some .int)) (hp_rm 0 0 0) (hp_Pc Γ α [.int a0, .int a1, va_rf o]) (hp_Qi Γ (fun r β => β = α)) 0 0 (hp_A Γ) := by
  rcases o with _ | o
  ·
    refine hp_startF (by decide +kernel) ?_
    intro p e s m below meth c C hr hlk B hnm
    have C : hp_C Γ p m c cJ3_checkIndex_8e157 3 s ([.int a0, .int a1, .null] : List Value).toArray RJ3 := C
    have hx := C.1.1
    have hb := C.1.2.1
    have hown := C.1.2.2.2.1
    have hts := C.1.2.2.2.2
    have hl := lv_entry ([.int a0, .int a1, .null]) (n := 3) (Nat.le_of_ble_eq_true rfl)
    show W p l e (hp_rm 0 0 0) s m ([.int a0, .int a1, .null] : List Value).toArray below meth c s.heap [] 0 0 (MQ below (hp_Qi Γ (fun r β => β = α)) ([.int a0, .int a1, .null] : List Value).toArray s 0 0 (hp_A Γ)) (entryFrame m ([.int a0, .int a1, .null] : List Value).toArray 3)
    rw [lg_entry_eq]
    generalize (lg_sl ([.int a0, .int a1, .null]) ++ List.replicate (3 - (lg_sl ([.int a0, .int a1, .null])).length) Slot.unset).toArray = ls at hl ⊢
    have hl : lv_has ls 3 [(0, .int a0), (1, .int a1), (2, .null)] := hl
    refine lv_iload_n hx hb dJ3_checkIndex_8e157_0 rfl (lv_at hl 0 rfl) (hp_n (n := 1) rfl ?_)
    refine lv_if_lt (tgt := 9) hx hb dJ3_checkIndex_8e157_1 (by decide) (fun q => ?_) (fun q => hp_n (n := 4) rfl ?_)
    · have q := il_lt q
      have z : (0 : Int32).toInt = 0 := rfl
      omega
    refine lv_iload_n hx hb dJ3_checkIndex_8e157_4 rfl (lv_at hl 0 rfl) (hp_n (n := 5) rfl ?_)
    refine lv_iload_n hx hb dJ3_checkIndex_8e157_5 rfl (lv_at hl 1 rfl) (hp_n (n := 6) rfl ?_)
    refine lv_icmp_lt (tgt := 16) hx hb dJ3_checkIndex_8e157_6 (by decide) (fun q => ?_) (fun q => ?_)
    · refine lv_iload_n hx hb dJ3_checkIndex_8e157_16 rfl (lv_at hl 0 rfl) (hp_n (n := 17) rfl ?_)
      exact q_iret C B hr hlk rfl dJ3_checkIndex_8e157_17
    · have q := il_nlt q
      omega
  ·
    refine hp_startF (by decide +kernel) ?_
    intro p e s m below meth c C hr hlk B hnm
    have C : hp_C Γ p m c cJ3_checkIndex_8e157 3 s ([.int a0, .int a1, .ref o] : List Value).toArray RJ3 := C
    have hx := C.1.1
    have hb := C.1.2.1
    have hown := C.1.2.2.2.1
    have hts := C.1.2.2.2.2
    have hl := lv_entry ([.int a0, .int a1, .ref o]) (n := 3) (Nat.le_of_ble_eq_true rfl)
    show W p l e (hp_rm 0 0 0) s m ([.int a0, .int a1, .ref o] : List Value).toArray below meth c s.heap [] 0 0 (MQ below (hp_Qi Γ (fun r β => β = α)) ([.int a0, .int a1, .ref o] : List Value).toArray s 0 0 (hp_A Γ)) (entryFrame m ([.int a0, .int a1, .ref o] : List Value).toArray 3)
    rw [lg_entry_eq]
    generalize (lg_sl ([.int a0, .int a1, .ref o]) ++ List.replicate (3 - (lg_sl ([.int a0, .int a1, .ref o])).length) Slot.unset).toArray = ls at hl ⊢
    have hl : lv_has ls 3 [(0, .int a0), (1, .int a1), (2, .ref o)] := hl
    refine lv_iload_n hx hb dJ3_checkIndex_8e157_0 rfl (lv_at hl 0 rfl) (hp_n (n := 1) rfl ?_)
    refine lv_if_lt (tgt := 9) hx hb dJ3_checkIndex_8e157_1 (by decide) (fun q => ?_) (fun q => hp_n (n := 4) rfl ?_)
    · have q := il_lt q
      have z : (0 : Int32).toInt = 0 := rfl
      omega
    refine lv_iload_n hx hb dJ3_checkIndex_8e157_4 rfl (lv_at hl 0 rfl) (hp_n (n := 5) rfl ?_)
    refine lv_iload_n hx hb dJ3_checkIndex_8e157_5 rfl (lv_at hl 1 rfl) (hp_n (n := 6) rfl ?_)
    refine lv_icmp_lt (tgt := 16) hx hb dJ3_checkIndex_8e157_6 (by decide) (fun q => ?_) (fun q => ?_)
    · refine lv_iload_n hx hb dJ3_checkIndex_8e157_16 rfl (lv_at hl 0 rfl) (hp_n (n := 17) rfl ?_)
      exact q_iret C B hr hlk rfl dJ3_checkIndex_8e157_17
    · have q := il_nlt q
      omega
set_option maxRecDepth 100000 in
set_option maxHeartbeats 4000000 in
theorem t_J0_checkIndex_df160 (Γ : hp_G) (l : Launch) (α : hp_T) (a0 a1 : Int32) (h0 : 0 ≤ a0.toInt) (h1 : a0.toInt < a1.toInt) : Met l yJ0_checkIndex_df160 (hp_ws yJ0_checkIndex_df160 cJ0_checkIndex_df160 2 none) (hp_rm 1 0 0) (hp_Pc Γ α [.int a0, .int a1]) (hp_Qv Γ (fun β => β = α)) 0 0 (hp_A Γ) := by
  refine hp_startF (by decide +kernel) ?_
  intro p e s m below meth c C hr hlk B hnm
  have C : hp_C Γ p m c cJ0_checkIndex_df160 2 s ([.int a0, .int a1] : List Value).toArray RJ0 := C
  have hx := C.1.1
  have hb := C.1.2.1
  have hown := C.1.2.2.2.1
  have hts := C.1.2.2.2.2
  have hl := lv_entry ([.int a0, .int a1]) (n := 2) (Nat.le_of_ble_eq_true rfl)
  rw [lg_entry_eq]
  generalize (lg_sl ([.int a0, .int a1]) ++ List.replicate (2 - (lg_sl ([.int a0, .int a1])).length) Slot.unset).toArray = ls at hl ⊢
  have hl : lv_has ls 2 [(0, .int a0), (1, .int a1)] := hl
  refine lv_iload_n hx hb dJ0_checkIndex_df160_0 rfl (lv_at hl 0 rfl) (hp_n (n := 1) rfl ?_)
  refine lv_iload_n hx hb dJ0_checkIndex_df160_1 rfl (lv_at hl 1 rfl) (hp_n (n := 2) rfl ?_)
  rcases st_Zq C.2 B.1 with hz | ⟨t0, hz⟩
  · refine va_gets (v := .null) hx hb hz B.2.1 hown (hts _ fo_J0_1053) (fun _ h => h) dJ0_checkIndex_df160_2 (hp_n (n := 5) rfl ?_)
    refine q_ci (pc' := 8) B (hp_runS (As := [.int a0, .int a1, va_rf none]) (rest := []) C B (t_J3_checkIndex_8e157 Γ l α a0 a1 none h0 h1) lb_J3_checkIndex_8e157 ls_J3_checkIndex_8e157 lk_J0_1059 rfl (by decide) rfl hl.1 rfl (Nat.le_of_ble_eq_true rfl) dJ0_checkIndex_df160_5 ⟨Nat.le_refl _, Nat.le_refl _⟩) (fun _ _ _ => trivial) rfl (fun r1 α1 H1 L1 p1 B1 => ?_)
    obtain rfl := p1
    refine lv_pop hx hb dJ0_checkIndex_df160_8 rfl (hp_n (n := 9) rfl ?_)
    exact q_vret C B1 hr hlk rfl dJ0_checkIndex_df160_9
  · refine va_gets (v := .ref t0) hx hb hz B.2.1 hown (hts _ fo_J0_1053) (fun _ h => h) dJ0_checkIndex_df160_2 (hp_n (n := 5) rfl ?_)
    refine q_ci (pc' := 8) B (hp_runS (As := [.int a0, .int a1, va_rf (some t0)]) (rest := []) C B (t_J3_checkIndex_8e157 Γ l α a0 a1 (some t0) h0 h1) lb_J3_checkIndex_8e157 ls_J3_checkIndex_8e157 lk_J0_1059 rfl (by decide) rfl hl.1 rfl (Nat.le_of_ble_eq_true rfl) dJ0_checkIndex_df160_5 ⟨Nat.le_refl _, Nat.le_refl _⟩) (fun _ _ _ => trivial) rfl (fun r1 α1 H1 L1 p1 B1 => ?_)
    obtain rfl := p1
    refine lv_pop hx hb dJ0_checkIndex_df160_8 rfl (hp_n (n := 9) rfl ?_)
    exact q_vret C B1 hr hlk rfl dJ0_checkIndex_df160_9
set_option maxRecDepth 100000 in
set_option maxHeartbeats 4000000 in
theorem t_J1_charAt_3b067 (Γ : hp_G) (l : Launch) (α : hp_T) (i : Nat) (hi : i < 21) (a1 : Int32) (h0 : 0 ≤ a1.toInt) (h1 : a1.toInt < (hp_len i).toInt) : Met l yJ1_charAt_3b067 (hp_ws yJ1_charAt_3b067 cJ1_charAt_3b067 2 (some .char)) (hp_rm 2 0 0) (hp_Pc Γ α [.ref (Γ.2.2.2.2.2 i), .int a1]) (hp_Qi Γ (fun r β => β = α ∧ r = hp_ch i a1.toNatClampNeg)) 0 0 (hp_A Γ) := by
  refine hp_startF (by decide +kernel) ?_
  intro p e s m below meth c C hr hlk B hnm
  have C : hp_C Γ p m c cJ1_charAt_3b067 2 s ([.ref (Γ.2.2.2.2.2 i), .int a1] : List Value).toArray RJ1 := C
  have hx := C.1.1
  have hb := C.1.2.1
  have hown := C.1.2.2.2.1
  have hts := C.1.2.2.2.2
  have hl := lv_entry ([.ref (Γ.2.2.2.2.2 i), .int a1]) (n := 2) (Nat.le_of_ble_eq_true rfl)
  rw [lg_entry_eq]
  generalize (lg_sl ([.ref (Γ.2.2.2.2.2 i), .int a1]) ++ List.replicate (2 - (lg_sl ([.ref (Γ.2.2.2.2.2 i), .int a1])).length) Slot.unset).toArray = ls at hl ⊢
  have hl : lv_has ls 2 [(0, .ref (Γ.2.2.2.2.2 i)), (1, .int a1)] := hl
  have B0 := B
  have hlen := (st_len i hi).1
  refine lv_iload_n hx hb dJ1_charAt_3b067_0 rfl (lv_at hl 1 rfl) (hp_n (n := 1) rfl ?_)
  refine lv_aload_n hx hb dJ1_charAt_3b067_1 rfl (lv_at hl 0 rfl) (hp_n (n := 2) rfl ?_)
  refine va_tlen hx hb (((st_S C.2 B.1).1 i hi).2.2.2) B.2.1 (v := hp_len i) rfl dJ1_charAt_3b067_2 (hp_n (n := 3) rfl ?_)
  refine q_cv (pc' := 6) B (hp_runS (As := [.int a1, .int (hp_len i)]) (rest := []) C B (t_J0_checkIndex_df160 Γ l α a1 (hp_len i) h0 h1) lb_J0_checkIndex_df160 ls_J0_checkIndex_df160 lk_J1_9 rfl (by decide) rfl hl.1 rfl (Nat.le_of_ble_eq_true rfl) dJ1_charAt_3b067_3 ⟨Nat.le_refl _, Nat.le_refl _⟩) (fun _ _ => trivial) rfl (fun α1 H1 L1 p1 B1 => ?_)
  obtain rfl := p1
  refine lv_aload_n hx hb dJ1_charAt_3b067_6 rfl (lv_at hl 0 rfl) (hp_n (n := 7) rfl ?_)
  refine lv_iload_n hx hb dJ1_charAt_3b067_7 rfl (lv_at hl 1 rfl) (hp_n (n := 8) rfl ?_)
  refine va_tb hx hb (((st_S C.2 B0.1).1 i hi).2.2.2) B1.2.1 (vi_of h0 (by omega)) rfl dJ1_charAt_3b067_8 (hp_n (n := 9) rfl ?_)
  refine lv_sipush (v := 255) hx hb dJ1_charAt_3b067_9 (by decide) (hp_n (n := 12) rfl ?_)
  refine lv_iand hx hb dJ1_charAt_3b067_12 (hp_n (n := 13) rfl ?_)
  refine lv_i2c (v := hp_ch i a1.toNatClampNeg) hx hb dJ1_charAt_3b067_13 rfl (hp_n (n := 14) rfl ?_)
  exact q_zret C B1 hr hlk (st_ch hi h0 h1) ⟨rfl, rfl⟩ dJ1_charAt_3b067_14
set_option maxRecDepth 100000 in
set_option maxHeartbeats 4000000 in
theorem t_J0_charAt_5068e (Γ : hp_G) (l : Launch) (α : hp_T) (i : Nat) (hi : i < 21) (a1 : Int32) (h0 : 0 ≤ a1.toInt) (h1 : a1.toInt < (hp_len i).toInt) : Met l yJ0_charAt_5068e (hp_ws yJ0_charAt_5068e cJ0_charAt_5068e 2 (some .char)) (hp_rm 3 0 0) (hp_Pc Γ α [.ref (Γ.2.2.2.2.1 i), .int a1]) (hp_Qi Γ (fun r β => β = α ∧ r = hp_ch i a1.toNatClampNeg)) 0 0 (hp_A Γ) := by
  refine hp_startF (by decide +kernel) ?_
  intro p e s m below meth c C hr hlk B hnm
  have C : hp_C Γ p m c cJ0_charAt_5068e 2 s ([.ref (Γ.2.2.2.2.1 i), .int a1] : List Value).toArray RJ0 := C
  have hx := C.1.1
  have hb := C.1.2.1
  have hown := C.1.2.2.2.1
  have hts := C.1.2.2.2.2
  have hl := lv_entry ([.ref (Γ.2.2.2.2.1 i), .int a1]) (n := 2) (Nat.le_of_ble_eq_true rfl)
  rw [lg_entry_eq]
  generalize (lg_sl ([.ref (Γ.2.2.2.2.1 i), .int a1]) ++ List.replicate (2 - (lg_sl ([.ref (Γ.2.2.2.2.1 i), .int a1])).length) Slot.unset).toArray = ls at hl ⊢
  have hl : lv_has ls 2 [(0, .ref (Γ.2.2.2.2.1 i)), (1, .int a1)] := hl
  have B0 := B
  refine lv_aload_n hx hb dJ0_charAt_5068e_0 rfl (lv_at hl 0 rfl) (hp_n (n := 1) rfl ?_)
  refine q_ci (pc' := 4) B (hp_runT (i := i) (As := []) (rest := []) C B0.1 B hi (t_J0_isLatin1_aae02 Γ l α i hi ) lb_J0_isLatin1_aae02 li_J0_isLatin1_aae02 sx_J0_isLatin1_aae02 rfl lk_J0_492 rfl (by decide) rfl hl.1 rfl (Nat.le_of_ble_eq_true rfl) dJ0_charAt_5068e_1 ⟨Nat.le_refl _, Nat.le_refl _⟩) (fun _ _ _ => trivial) rfl (fun r1 α1 H1 L1 p1 B1 => ?_)
  obtain ⟨rfl, rfl⟩ := p1
  refine lv_if_eq (tgt := 16) hx hb dJ0_charAt_5068e_4 (by decide) (fun q => absurd q (by decide)) (fun q => hp_n (n := 7) rfl ?_)
  refine lv_aload_n hx hb dJ0_charAt_5068e_7 rfl (lv_at hl 0 rfl) (hp_n (n := 8) rfl ?_)
  refine vk_getf hx hb (((st_S C.2 B0.1).1 i hi).2.2.1) B1.2.1 hown (hts _ fo_J0_9) (fun _ h => h) dJ0_charAt_5068e_8 (hp_n (n := 11) rfl ?_)
  refine lv_iload_n hx hb dJ0_charAt_5068e_11 rfl (lv_at hl 1 rfl) (hp_n (n := 12) rfl ?_)
  refine q_ci (pc' := 15) B1 (hp_runS (As := [.ref (Γ.2.2.2.2.2 i), .int a1]) (rest := []) C B1 (t_J1_charAt_3b067 Γ l _ i hi a1 h0 h1) lb_J1_charAt_3b067 ls_J1_charAt_3b067 lk_J0_495 rfl (by decide) rfl hl.1 rfl (Nat.le_of_ble_eq_true rfl) dJ0_charAt_5068e_12 ⟨Nat.le_refl _, Nat.le_refl _⟩) (fun _ _ _ => trivial) rfl (fun r2 α2 H2 L2 p2 B2 => ?_)
  obtain ⟨rfl, rfl⟩ := p2
  exact q_zret C B2 hr hlk (st_ch hi h0 h1) ⟨rfl, rfl⟩ dJ0_charAt_5068e_15
theorem sr_X11_409 {Γ : hp_G} {s : State} (h : hp_KK Γ s) : vk_R RX11 409 "in " (Γ.2.2.2.2.1 15) s := h.2.2.1 (RX11, 409, "in ", 15) (by decide +kernel)
theorem sr_X11_418 {Γ : hp_G} {s : State} (h : hp_KK Γ s) : vk_R RX11 418 " of " (Γ.2.2.2.2.1 4) s := h.2.2.1 (RX11, 418, " of ", 4) (by decide +kernel)
theorem sr_X11_420 {Γ : hp_G} {s : State} (h : hp_KK Γ s) : vk_R RX11 420 " mark " (Γ.2.2.2.2.1 3) s := h.2.2.1 (RX11, 420, " mark ", 3) (by decide +kernel)
theorem sr_X11_422 {Γ : hp_G} {s : State} (h : hp_KK Γ s) : vk_R RX11 422 " head " (Γ.2.2.2.2.1 2) s := h.2.2.1 (RX11, 422, " head ", 2) (by decide +kernel)
theorem sr_X11_427 {Γ : hp_G} {s : State} (h : hp_KK Γ s) : vk_R RX11 427 "grow " (Γ.2.2.2.2.1 12) s := h.2.2.1 (RX11, 427, "grow ", 12) (by decide +kernel)
theorem sr_X11_429 {Γ : hp_G} {s : State} (h : hp_KK Γ s) : vk_R RX11 429 " to " (Γ.2.2.2.2.1 5) s := h.2.2.1 (RX11, 429, " to ", 5) (by decide +kernel)
theorem sr_X11_496 {Γ : hp_G} {s : State} (h : hp_KK Γ s) : vk_R RX11 496 " by" (Γ.2.2.2.2.1 1) s := h.2.2.1 (RX11, 496, " by", 1) (by decide +kernel)
theorem sr_X11_498 {Γ : hp_G} {s : State} (h : hp_KK Γ s) : vk_R RX11 498 " " (Γ.2.2.2.2.1 0) s := h.2.2.1 (RX11, 498, " ", 0) (by decide +kernel)
theorem sr_X11_500 {Γ : hp_G} {s : State} (h : hp_KK Γ s) : vk_R RX11 500 ";" (Γ.2.2.2.2.1 6) s := h.2.2.1 (RX11, 500, ";", 6) (by decide +kernel)
theorem sr_X3_107 {Γ : hp_G} {s : State} (h : hp_KK Γ s) : vk_R RX3 107 "freeze" (Γ.2.2.2.2.1 10) s := h.2.2.1 (RX3, 107, "freeze", 10) (by decide +kernel)
theorem sr_X3_112 {Γ : hp_G} {s : State} (h : hp_KK Γ s) : vk_R RX3 112 "show" (Γ.2.2.2.2.1 19) s := h.2.2.1 (RX3, 112, "show", 19) (by decide +kernel)
theorem sr_X3_127 {Γ : hp_G} {s : State} (h : hp_KK Γ s) : vk_R RX3 127 "in" (Γ.2.2.2.2.1 14) s := h.2.2.1 (RX3, 127, "in", 14) (by decide +kernel)
theorem sr_X3_129 {Γ : hp_G} {s : State} (h : hp_KK Γ s) : vk_R RX3 129 "grow" (Γ.2.2.2.2.1 11) s := h.2.2.1 (RX3, 129, "grow", 11) (by decide +kernel)
theorem sr_X3_156 {Γ : hp_G} {s : State} (h : hp_KK Γ s) : vk_R RX3 156 "of" (Γ.2.2.2.2.1 18) s := h.2.2.1 (RX3, 156, "of", 18) (by decide +kernel)
theorem sr_X3_161 {Γ : hp_G} {s : State} (h : hp_KK Γ s) : vk_R RX3 161 "mark" (Γ.2.2.2.2.1 16) s := h.2.2.1 (RX3, 161, "mark", 16) (by decide +kernel)
theorem sr_X3_166 {Γ : hp_G} {s : State} (h : hp_KK Γ s) : vk_R RX3 166 "head" (Γ.2.2.2.2.1 13) s := h.2.2.1 (RX3, 166, "head", 13) (by decide +kernel)
theorem sr_X3_186 {Γ : hp_G} {s : State} (h : hp_KK Γ s) : vk_R RX3 186 "by" (Γ.2.2.2.2.1 8) s := h.2.2.1 (RX3, 186, "by", 8) (by decide +kernel)
theorem sr_X3_69 {Γ : hp_G} {s : State} (h : hp_KK Γ s) : vk_R RX3 69 "mod" (Γ.2.2.2.2.1 17) s := h.2.2.1 (RX3, 69, "mod", 17) (by decide +kernel)
theorem sr_X3_86 {Γ : hp_G} {s : State} (h : hp_KK Γ s) : vk_R RX3 86 "add" (Γ.2.2.2.2.1 7) s := h.2.2.1 (RX3, 86, "add", 7) (by decide +kernel)
theorem sr_X3_92 {Γ : hp_G} {s : State} (h : hp_KK Γ s) : vk_R RX3 92 "to" (Γ.2.2.2.2.1 20) s := h.2.2.1 (RX3, 92, "to", 20) (by decide +kernel)
theorem sr_X3_97 {Γ : hp_G} {s : State} (h : hp_KK Γ s) : vk_R RX3 97 "fork" (Γ.2.2.2.2.1 9) s := h.2.2.1 (RX3, 97, "fork", 9) (by decide +kernel)
theorem sr_X12_447 {Γ : hp_G} {s : State} (h : hp_KK Γ s) : vk_R RX12 447 "in" (Γ.2.2.2.2.1 14) s := h.2.2.1 (RX12, 447, "in", 14) (by decide +kernel)
theorem sr_X12_453 {Γ : hp_G} {s : State} (h : hp_KK Γ s) : vk_R RX12 453 "of" (Γ.2.2.2.2.1 18) s := h.2.2.1 (RX12, 453, "of", 18) (by decide +kernel)
theorem sr_X12_455 {Γ : hp_G} {s : State} (h : hp_KK Γ s) : vk_R RX12 455 "mark" (Γ.2.2.2.2.1 16) s := h.2.2.1 (RX12, 455, "mark", 16) (by decide +kernel)
theorem sr_X12_457 {Γ : hp_G} {s : State} (h : hp_KK Γ s) : vk_R RX12 457 "head" (Γ.2.2.2.2.1 13) s := h.2.2.1 (RX12, 457, "head", 13) (by decide +kernel)
theorem sr_X12_462 {Γ : hp_G} {s : State} (h : hp_KK Γ s) : vk_R RX12 462 "grow" (Γ.2.2.2.2.1 11) s := h.2.2.1 (RX12, 462, "grow", 11) (by decide +kernel)
theorem sr_X12_464 {Γ : hp_G} {s : State} (h : hp_KK Γ s) : vk_R RX12 464 "to" (Γ.2.2.2.2.1 20) s := h.2.2.1 (RX12, 464, "to", 20) (by decide +kernel)
end JN3_4
section JN3_5
abbrev w_X6_byteAt : cw_W := ([], [], [], [])
set_option maxRecDepth 100000 in
set_option maxHeartbeats 4000000 in
theorem t_X6_byteAt (Γ : hp_G) (l : Launch) (α : hp_T) (g : GC α) (a0 : Nat) (k0 : hp_K α a0 = 7) (a1 : Int32) : Met l yX6_byteAt (hp_ws yX6_byteAt cX6_byteAt 2 (some .int)) (hp_rm 0 0 0) (hp_Pc Γ α [.ref a0, .int a1]) (hp_Qi Γ (fun r β => β = α)) 0 0 (hp_A Γ) := by
  refine hp_start (by decide) ?_
  intro p e s m below meth c C hr hlk B0 hnm
  have C : hp_C Γ p m c cX6_byteAt 2 s ([.ref a0, .int a1] : List Value).toArray RX6 := C
  have hx := C.1.1
  have hb := C.1.2.1
  have hown := C.1.2.2.2.1
  have hts := C.1.2.2.2.2
  have B : hp_B Γ (cw w_X6_byteAt) s α α s.heap [] := ⟨B0.1, B0.2.1, cw_rf g⟩
  have lit0 : (0 : Int32).toInt = 0 := by decide
  have lit900 : (900 : Int32).toInt = 900 := by decide
  have hl := lv_entry ([.ref a0, .int a1]) (n := 2) (Nat.le_of_ble_eq_true rfl)
  show W p l e (hp_rm 0 0 0) s m ([.ref a0, .int a1] : List Value).toArray below meth c s.heap [] 0 0 (MQ below (hp_Qi Γ (fun r β => β = α)) ([.ref a0, .int a1] : List Value).toArray s 0 0 (hp_A Γ)) (entryFrame m ([.ref a0, .int a1] : List Value).toArray 2)
  rw [lg_entry_eq]
  generalize (lg_sl ([.ref a0, .int a1]) ++ List.replicate (2 - (lg_sl ([.ref a0, .int a1])).length) Slot.unset).toArray = ls at hl ⊢
  have hl : lv_has ls 2 [(0, .ref a0), (1, .int a1)] := hl
  refine lv_iload_n hx hb dX6_byteAt_0 rfl (lv_at hl 1 rfl) (hp_n (n := 1) rfl ?_)
  refine lv_if_lt (tgt := 30) hx hb dX6_byteAt_1 (by decide) (fun c_1 => ?_) (fun c_1 => hp_n (n := 4) rfl ?_)
  ·
    have jc_1 := il_lt c_1
    refine lv_iconst (v := 0) hx hb dX6_byteAt_30 (by decide) (hp_n (n := 31) rfl ?_)
    exact q_iret C B hr hlk rfl dX6_byteAt_31
  ·
    have jc_1 := il_nlt c_1
    refine lv_iload_n hx hb dX6_byteAt_4 rfl (lv_at hl 1 rfl) (hp_n (n := 5) rfl ?_)
    refine lv_aload_n hx hb dX6_byteAt_5 rfl (lv_at hl 0 rfl) (hp_n (n := 6) rfl ?_)
    refine q_geti (κ := 7) (k := 1) (φ := 351) (pc' := 9) C B (cw_k B.2.2 k0) fl_X6_15 rfl rfl rfl dX6_byteAt_6 rfl (fun x_2 ex_2 => ?_)
    refine lv_icmp_ge (tgt := 30) hx hb dX6_byteAt_9 (by decide) (fun c_3 => ?_) (fun c_3 => hp_n (n := 12) rfl ?_)
    ·
      have jc_3 := il_le c_3
      refine lv_iconst (v := 0) hx hb dX6_byteAt_30 (by decide) (hp_n (n := 31) rfl ?_)
      exact q_iret C B hr hlk rfl dX6_byteAt_31
    ·
      have jc_3 := il_nle c_3
      refine lv_iload_n hx hb dX6_byteAt_12 rfl (lv_at hl 1 rfl) (hp_n (n := 13) rfl ?_)
      refine lv_aload_n hx hb dX6_byteAt_13 rfl (lv_at hl 0 rfl) (hp_n (n := 14) rfl ?_)
      refine q_getu (κ := 7) (k := 0) (φ := 350) (pc' := 17) C B (cw_k B.2.2 k0) fl_X6_9 rfl rfl rfl (cw_u B.2.2 k0) dX6_byteAt_14 rfl (fun b_4 eb_4 kb_4 => ?_)
      rcases kb_4 with kb_4 | kb_4
      ·
        refine q_alen (κ := 24) (t := 1) (n := 900) (x := 900) (ty := .byte) (pc' := 18) C B (cw_k B.2.2 kb_4) (by decide) rfl rfl rfl dX6_byteAt_17 rfl ?_
        refine lv_icmp_ge (tgt := 30) hx hb dX6_byteAt_18 (by decide) (fun c_5 => ?_) (fun c_5 => hp_n (n := 21) rfl ?_)
        ·
          have jc_5 := il_le c_5
          refine lv_iconst (v := 0) hx hb dX6_byteAt_30 (by decide) (hp_n (n := 31) rfl ?_)
          exact q_iret C B hr hlk rfl dX6_byteAt_31
        ·
          have jc_5 := il_nle c_5
          refine lv_aload_n hx hb dX6_byteAt_21 rfl (lv_at hl 0 rfl) (hp_n (n := 22) rfl ?_)
          refine q_gets (κ := 7) (k := 0) (φ := 350) (pc' := 25) C B (cw_k B.2.2 k0) fl_X6_9 rfl rfl rfl eb_4 dX6_byteAt_22 rfl ?_
          refine lv_iload_n hx hb dX6_byteAt_25 rfl (lv_at hl 1 rfl) (hp_n (n := 26) rfl ?_)
          refine q_bal (κ := 24) (n := 900) (pc' := 27) C B (cw_k B.2.2 kb_4) (by decide) rfl (vi_of (by omega) (by omega)) dX6_byteAt_26 rfl (lv_topi (fun x_6 ex_6 => ?_))
          refine lv_goto (tgt := 31) hx hb dX6_byteAt_27 (by decide) ?_
          exact q_iret C B hr hlk rfl dX6_byteAt_31
      ·
        refine q_alen (κ := 36) (t := 1) (n := 0) (x := 0) (ty := .byte) (pc' := 18) C B (cw_k B.2.2 kb_4) (by decide) rfl rfl rfl dX6_byteAt_17 rfl ?_
        refine lv_icmp_ge (tgt := 30) hx hb dX6_byteAt_18 (by decide) (fun c_7 => ?_) (fun c_7 => hp_n (n := 21) rfl ?_)
        ·
          have jc_7 := il_le c_7
          refine lv_iconst (v := 0) hx hb dX6_byteAt_30 (by decide) (hp_n (n := 31) rfl ?_)
          exact q_iret C B hr hlk rfl dX6_byteAt_31
        ·
          have jc_7 := il_nle c_7
          refine lv_aload_n hx hb dX6_byteAt_21 rfl (lv_at hl 0 rfl) (hp_n (n := 22) rfl ?_)
          refine q_gets (κ := 7) (k := 0) (φ := 350) (pc' := 25) C B (cw_k B.2.2 k0) fl_X6_9 rfl rfl rfl eb_4 dX6_byteAt_22 rfl ?_
          refine lv_iload_n hx hb dX6_byteAt_25 rfl (lv_at hl 1 rfl) (hp_n (n := 26) rfl ?_)
          refine q_bal (κ := 36) (n := 0) (pc' := 27) C B (cw_k B.2.2 kb_4) (by decide) rfl (vi_of (by omega) (by omega)) dX6_byteAt_26 rfl (lv_topi (fun x_8 ex_8 => ?_))
          refine lv_goto (tgt := 31) hx hb dX6_byteAt_27 (by decide) ?_
          exact q_iret C B hr hlk rfl dX6_byteAt_31
abbrev w_X6_isBlank : cw_W := ([], [], [], [])
set_option maxRecDepth 100000 in
set_option maxHeartbeats 4000000 in
theorem t_X6_isBlank (Γ : hp_G) (l : Launch) (α : hp_T) (g : GC α) (a0 : Int32) : Met l yX6_isBlank (hp_ws yX6_isBlank cX6_isBlank 1 (some .boolean)) (hp_rm 0 0 0) (hp_Pc Γ α [.int a0]) (hp_Qi Γ (fun r β => β = α ∧ (r = 0 ∨ r = 1))) 0 0 (hp_A Γ) := by
  refine hp_start (by decide) ?_
  intro p e s m below meth c C hr hlk B0 hnm
  have C : hp_C Γ p m c cX6_isBlank 1 s ([.int a0] : List Value).toArray RX6 := C
  have hx := C.1.1
  have hb := C.1.2.1
  have hown := C.1.2.2.2.1
  have hts := C.1.2.2.2.2
  have B : hp_B Γ (cw w_X6_isBlank) s α α s.heap [] := ⟨B0.1, B0.2.1, cw_rf g⟩
  have lit0 : (0 : Int32).toInt = 0 := by decide
  have lit1 : (1 : Int32).toInt = 1 := by decide
  have lit10 : (10 : Int32).toInt = 10 := by decide
  have lit32 : (32 : Int32).toInt = 32 := by decide
  have hl := lv_entry ([.int a0]) (n := 1) (Nat.le_of_ble_eq_true rfl)
  show W p l e (hp_rm 0 0 0) s m ([.int a0] : List Value).toArray below meth c s.heap [] 0 0 (MQ below (hp_Qi Γ (fun r β => β = α ∧ (r = 0 ∨ r = 1))) ([.int a0] : List Value).toArray s 0 0 (hp_A Γ)) (entryFrame m ([.int a0] : List Value).toArray 1)
  rw [lg_entry_eq]
  generalize (lg_sl ([.int a0]) ++ List.replicate (1 - (lg_sl ([.int a0])).length) Slot.unset).toArray = ls at hl ⊢
  have hl : lv_has ls 1 [(0, .int a0)] := hl
  refine lv_iload_n hx hb dX6_isBlank_0 rfl (lv_at hl 0 rfl) (hp_n (n := 1) rfl ?_)
  refine lv_bipush (v := 10) hx hb dX6_isBlank_1 (by decide) (hp_n (n := 3) rfl ?_)
  refine lv_icmp_eq (tgt := 12) hx hb dX6_isBlank_3 (by decide) (fun c_1 => ?_) (fun c_1 => hp_n (n := 6) rfl ?_)
  ·
    have jc_1 := il_eq c_1
    refine lv_iconst (v := 1) hx hb dX6_isBlank_12 (by decide) (hp_n (n := 13) rfl ?_)
    refine lv_goto (tgt := 17) hx hb dX6_isBlank_13 (by decide) ?_
    exact q_zret C B hr hlk (by decide) ⟨rfl, (Or.inr rfl)⟩ dX6_isBlank_17
  ·
    have jc_1 := il_ne c_1
    refine lv_iload_n hx hb dX6_isBlank_6 rfl (lv_at hl 0 rfl) (hp_n (n := 7) rfl ?_)
    refine lv_bipush (v := 32) hx hb dX6_isBlank_7 (by decide) (hp_n (n := 9) rfl ?_)
    refine lv_icmp_ne (tgt := 16) hx hb dX6_isBlank_9 (by decide) (fun c_2 => ?_) (fun c_2 => hp_n (n := 12) rfl ?_)
    ·
      have jc_2 := il_ne c_2
      refine lv_iconst (v := 0) hx hb dX6_isBlank_16 (by decide) (hp_n (n := 17) rfl ?_)
      exact q_zret C B hr hlk (by decide) ⟨rfl, (Or.inl rfl)⟩ dX6_isBlank_17
    ·
      have jc_2 := il_eq c_2
      refine lv_iconst (v := 1) hx hb dX6_isBlank_12 (by decide) (hp_n (n := 13) rfl ?_)
      refine lv_goto (tgt := 17) hx hb dX6_isBlank_13 (by decide) ?_
      exact q_zret C B hr hlk (by decide) ⟨rfl, (Or.inr rfl)⟩ dX6_isBlank_17
abbrev w_X6_kindOf : cw_W := ([], [], [], [])
set_option maxRecDepth 100000 in
set_option maxHeartbeats 4000000 in
theorem t_X6_kindOf (Γ : hp_G) (l : Launch) (α : hp_T) (g : GC α) (a0 : Int32) : Met l yX6_kindOf (hp_ws yX6_kindOf cX6_kindOf 1 (some .int)) (hp_rm 0 0 0) (hp_Pc Γ α [.int a0]) (hp_Qi Γ (fun r β => β = α)) 0 0 (hp_A Γ) := by
  refine hp_start (by decide) ?_
  intro p e s m below meth c C hr hlk B0 hnm
  have C : hp_C Γ p m c cX6_kindOf 1 s ([.int a0] : List Value).toArray RX6 := C
  have hx := C.1.1
  have hb := C.1.2.1
  have hown := C.1.2.2.2.1
  have hts := C.1.2.2.2.2
  have B : hp_B Γ (cw w_X6_kindOf) s α α s.heap [] := ⟨B0.1, B0.2.1, cw_rf g⟩
  have lit1 : (1 : Int32).toInt = 1 := by decide
  have lit2 : (2 : Int32).toInt = 2 := by decide
  have lit3 : (3 : Int32).toInt = 3 := by decide
  have lit4 : (4 : Int32).toInt = 4 := by decide
  have lit48 : (48 : Int32).toInt = 48 := by decide
  have lit57 : (57 : Int32).toInt = 57 := by decide
  have lit59 : (59 : Int32).toInt = 59 := by decide
  have lit97 : (97 : Int32).toInt = 97 := by decide
  have lit122 : (122 : Int32).toInt = 122 := by decide
  have hl := lv_entry ([.int a0]) (n := 1) (Nat.le_of_ble_eq_true rfl)
  show W p l e (hp_rm 0 0 0) s m ([.int a0] : List Value).toArray below meth c s.heap [] 0 0 (MQ below (hp_Qi Γ (fun r β => β = α)) ([.int a0] : List Value).toArray s 0 0 (hp_A Γ)) (entryFrame m ([.int a0] : List Value).toArray 1)
  rw [lg_entry_eq]
  generalize (lg_sl ([.int a0]) ++ List.replicate (1 - (lg_sl ([.int a0])).length) Slot.unset).toArray = ls at hl ⊢
  have hl : lv_has ls 1 [(0, .int a0)] := hl
  refine lv_iload_n hx hb dX6_kindOf_0 rfl (lv_at hl 0 rfl) (hp_n (n := 1) rfl ?_)
  refine lv_bipush (v := 97) hx hb dX6_kindOf_1 (by decide) (hp_n (n := 3) rfl ?_)
  have J14 : ∀ (Hh_1 : Heap) (Lh_1 : List Loc) (Bh_1 : hp_B Γ (cw w_X6_kindOf) s α α Hh_1 Lh_1) (ls : Array Slot) (hl : lv_has ls 1 [(0, .int a0)]), W p l e (hp_rm 0 0 0) s m ([.int a0] : List Value).toArray below meth c Hh_1 Lh_1 0 0 (MQ below (hp_Qi Γ (fun r β => β = α)) ([.int a0] : List Value).toArray s 0 0 (hp_A Γ)) (F0 m 14 ls []) := by
    intro Hh_1 Lh_1 Bh_1 ls hl
    refine lv_iload_n hx hb dX6_kindOf_14 rfl (lv_at hl 0 rfl) (hp_n (n := 15) rfl ?_)
    refine lv_bipush (v := 48) hx hb dX6_kindOf_15 (by decide) (hp_n (n := 17) rfl ?_)
    have J28 : ∀ (Hh_2 : Heap) (Lh_2 : List Loc) (Bh_2 : hp_B Γ (cw w_X6_kindOf) s α α Hh_2 Lh_2) (ls : Array Slot) (hl : lv_has ls 1 [(0, .int a0)]), W p l e (hp_rm 0 0 0) s m ([.int a0] : List Value).toArray below meth c Hh_2 Lh_2 0 0 (MQ below (hp_Qi Γ (fun r β => β = α)) ([.int a0] : List Value).toArray s 0 0 (hp_A Γ)) (F0 m 28 ls []) := by
      intro Hh_2 Lh_2 Bh_2 ls hl
      refine lv_iload_n hx hb dX6_kindOf_28 rfl (lv_at hl 0 rfl) (hp_n (n := 29) rfl ?_)
      refine lv_bipush (v := 59) hx hb dX6_kindOf_29 (by decide) (hp_n (n := 31) rfl ?_)
      refine lv_icmp_ne (tgt := 38) hx hb dX6_kindOf_31 (by decide) (fun c_3 => ?_) (fun c_3 => hp_n (n := 34) rfl ?_)
      ·
        have jc_3 := il_ne c_3
        refine lv_iconst (v := 4) hx hb dX6_kindOf_38 (by decide) (hp_n (n := 39) rfl ?_)
        exact q_iret C Bh_2 hr hlk rfl dX6_kindOf_39
      ·
        have jc_3 := il_eq c_3
        refine lv_iconst (v := 3) hx hb dX6_kindOf_34 (by decide) (hp_n (n := 35) rfl ?_)
        refine lv_goto (tgt := 39) hx hb dX6_kindOf_35 (by decide) ?_
        exact q_iret C Bh_2 hr hlk rfl dX6_kindOf_39
    refine lv_icmp_lt (tgt := 28) hx hb dX6_kindOf_17 (by decide) (fun c_4 => ?_) (fun c_4 => hp_n (n := 20) rfl ?_)
    ·
      have jc_4 := il_lt c_4
      exact J28 Hh_1 Lh_1 Bh_1 ls (lv_sub hl [0] rfl)
    ·
      have jc_4 := il_nlt c_4
      refine lv_iload_n hx hb dX6_kindOf_20 rfl (lv_at hl 0 rfl) (hp_n (n := 21) rfl ?_)
      refine lv_bipush (v := 57) hx hb dX6_kindOf_21 (by decide) (hp_n (n := 23) rfl ?_)
      refine lv_icmp_gt (tgt := 28) hx hb dX6_kindOf_23 (by decide) (fun c_5 => ?_) (fun c_5 => hp_n (n := 26) rfl ?_)
      ·
        have jc_5 := il_lt c_5
        exact J28 Hh_1 Lh_1 Bh_1 ls (lv_sub hl [0] rfl)
      ·
        have jc_5 := il_nlt c_5
        refine lv_iconst (v := 2) hx hb dX6_kindOf_26 (by decide) (hp_n (n := 27) rfl ?_)
        exact q_iret C Bh_1 hr hlk rfl dX6_kindOf_27
  refine lv_icmp_lt (tgt := 14) hx hb dX6_kindOf_3 (by decide) (fun c_6 => ?_) (fun c_6 => hp_n (n := 6) rfl ?_)
  ·
    have jc_6 := il_lt c_6
    exact J14 s.heap [] B ls (lv_sub hl [0] rfl)
  ·
    have jc_6 := il_nlt c_6
    refine lv_iload_n hx hb dX6_kindOf_6 rfl (lv_at hl 0 rfl) (hp_n (n := 7) rfl ?_)
    refine lv_bipush (v := 122) hx hb dX6_kindOf_7 (by decide) (hp_n (n := 9) rfl ?_)
    refine lv_icmp_gt (tgt := 14) hx hb dX6_kindOf_9 (by decide) (fun c_7 => ?_) (fun c_7 => hp_n (n := 12) rfl ?_)
    ·
      have jc_7 := il_lt c_7
      exact J14 s.heap [] B ls (lv_sub hl [0] rfl)
    ·
      have jc_7 := il_nlt c_7
      refine lv_iconst (v := 1) hx hb dX6_kindOf_12 (by decide) (hp_n (n := 13) rfl ?_)
      exact q_iret C B hr hlk rfl dX6_kindOf_13
abbrev w_X6_begin : cw_W := ([351, 352], [350], [], [])
set_option maxRecDepth 100000 in
set_option maxHeartbeats 4000000 in
theorem t_X6_begin (Γ : hp_G) (l : Launch) (α : hp_T) (g : GC α) (a0 : Nat) (k0 : hp_K α a0 = 7) (a1 : Nat) (k1 : hp_K α a1 = 24) (a2 : Int32) : Met l yX6_begin (hp_ws yX6_begin cX6_begin 3 none) (hp_rm 1 0 0) (hp_Pc Γ α [.ref a0, .ref a1, .int a2]) (hp_Qv Γ (fun β => cw w_X6_begin α β)) 0 0 (hp_A Γ) := by
  refine hp_start (by decide) ?_
  intro p e s m below meth c C hr hlk B0 hnm
  have C : hp_C Γ p m c cX6_begin 3 s ([.ref a0, .ref a1, .int a2] : List Value).toArray RX6 := C
  have hx := C.1.1
  have hb := C.1.2.1
  have hown := C.1.2.2.2.1
  have hts := C.1.2.2.2.2
  have B : hp_B Γ (cw w_X6_begin) s α α s.heap [] := ⟨B0.1, B0.2.1, cw_rf g⟩
  have lit0 : (0 : Int32).toInt = 0 := by decide
  have lit900 : (900 : Int32).toInt = 900 := by decide
  have hl := lv_entry ([.ref a0, .ref a1, .int a2]) (n := 3) (Nat.le_of_ble_eq_true rfl)
  show W p l e (hp_rm 1 0 0) s m ([.ref a0, .ref a1, .int a2] : List Value).toArray below meth c s.heap [] 0 0 (MQ below (hp_Qv Γ (fun β => cw w_X6_begin α β)) ([.ref a0, .ref a1, .int a2] : List Value).toArray s 0 0 (hp_A Γ)) (entryFrame m ([.ref a0, .ref a1, .int a2] : List Value).toArray 3)
  rw [lg_entry_eq]
  generalize (lg_sl ([.ref a0, .ref a1, .int a2]) ++ List.replicate (3 - (lg_sl ([.ref a0, .ref a1, .int a2])).length) Slot.unset).toArray = ls at hl ⊢
  have hl : lv_has ls 3 [(0, .ref a0), (1, .ref a1), (2, .int a2)] := hl
  refine lv_aload_n hx hb dX6_begin_0 rfl (lv_at hl 0 rfl) (hp_n (n := 1) rfl ?_)
  refine lv_aload_n hx hb dX6_begin_1 rfl (lv_at hl 1 rfl) (hp_n (n := 2) rfl ?_)
  refine q_putr (κ := 7) (k := 0) (φ := 350) (pc' := 5) C B (cw_k B.2.2 k0) fl_X6_9 rfl rfl rfl rfl rfl rfl (cw_sR B.2.2 (by decide) (Or.inl k1)) dX6_begin_2 rfl (fun αh_1 Hh_1 Lh_1 eh_1 Bh_1 => ?_)
  refine lv_aload_n hx hb dX6_begin_5 rfl (lv_at hl 0 rfl) (hp_n (n := 6) rfl ?_)
  refine lv_iconst (v := 0) hx hb dX6_begin_6 (by decide) (hp_n (n := 7) rfl ?_)
  refine lv_iload_n hx hb dX6_begin_7 rfl (lv_at hl 2 rfl) (hp_n (n := 8) rfl ?_)
  refine lv_aload_n hx hb dX6_begin_8 rfl (lv_at hl 1 rfl) (hp_n (n := 9) rfl ?_)
  refine q_alen (κ := 24) (t := 1) (n := 900) (x := 900) (ty := .byte) (pc' := 10) C Bh_1 (cw_k Bh_1.2.2 k1) (by decide) rfl rfl rfl dX6_begin_9 rfl ?_
  refine q_ci (pc' := 13) Bh_1 (hp_runS (As := [.int a2, .int 900]) (rest := [.int 0, .ref a0]) C Bh_1 (t_J9_min_7cf53 Γ l αh_1 Bh_1.2.2.1 a2 900) lb_J9_min_7cf53 ls_J9_min_7cf53 lk_X6_34 rfl (by decide) rfl hl.1 rfl (Nat.le_of_ble_eq_true rfl) dX6_begin_10 ⟨Nat.le_refl _, Nat.le_refl _⟩) (fun _ _ h => by rw [h.1]; exact Bh_1.2.2) rfl (fun rh_2 αh_2 Hh_2 Lh_2 ph_2 Bh_2 => ?_)
  rw [ph_2.1] at Bh_2
  obtain ⟨ph_2a, ph_2b, ph_2c⟩ := ph_2.2
  refine q_ci (pc' := 16) Bh_2 (hp_runS (As := [.int 0, .int rh_2]) (rest := [.ref a0]) C Bh_2 (t_J9_max_7cf53 Γ l αh_1 Bh_2.2.2.1 0 rh_2) lb_J9_max_7cf53 ls_J9_max_7cf53 lk_X6_40 rfl (by decide) rfl hl.1 rfl (Nat.le_of_ble_eq_true rfl) dX6_begin_13 ⟨Nat.le_refl _, Nat.le_refl _⟩) (fun _ _ h => by rw [h.1]; exact Bh_2.2.2) rfl (fun rh_3 αh_3 Hh_3 Lh_3 ph_3 Bh_3 => ?_)
  rw [ph_3.1] at Bh_3
  obtain ⟨ph_3a, ph_3b, ph_3c⟩ := ph_3.2
  refine q_puti (κ := 7) (k := 1) (φ := 351) (pc' := 19) C Bh_3 (cw_k Bh_3.2.2 k0) fl_X6_15 rfl rfl rfl rfl rfl rfl (cw_sI Bh_3.2.2 (by decide) (fun h => absurd h (by decide))) dX6_begin_16 rfl (fun αh_4 Hh_4 Lh_4 eh_4 Bh_4 => ?_)
  refine lv_aload_n hx hb dX6_begin_19 rfl (lv_at hl 0 rfl) (hp_n (n := 20) rfl ?_)
  refine lv_iconst (v := 0) hx hb dX6_begin_20 (by decide) (hp_n (n := 21) rfl ?_)
  refine q_puti (κ := 7) (k := 2) (φ := 352) (pc' := 24) C Bh_4 (cw_k Bh_4.2.2 k0) fl_X6_19 rfl rfl rfl rfl rfl rfl (cw_sI Bh_4.2.2 (by decide) (fun h => absurd h (by decide))) dX6_begin_21 rfl (fun αh_5 Hh_5 Lh_5 eh_5 Bh_5 => ?_)
  exact q_vret C Bh_5 hr hlk Bh_5.2.2 dX6_begin_24
abbrev w_X6_advance : cw_W := ([352, 353, 354, 355, 356], [], [], [])
set_option maxRecDepth 100000 in
set_option maxHeartbeats 4000000 in
theorem t_X6_advance (Γ : hp_G) (l : Launch) (α : hp_T) (g : GC α) (a0 : Nat) (k0 : hp_K α a0 = 7) : Met l yX6_advance (hp_ws yX6_advance cX6_advance 2 none) (hp_rm 1 0 0) (hp_Pc Γ α [.ref a0]) (hp_Qv Γ (fun β => cw w_X6_advance α β)) 0 0 (hp_A Γ) := by
  refine hp_start (by decide) ?_
  intro p e s m below meth c C hr hlk B0 hnm
  have C : hp_C Γ p m c cX6_advance 2 s ([.ref a0] : List Value).toArray RX6 := C
  have hx := C.1.1
  have hb := C.1.2.1
  have hown := C.1.2.2.2.1
  have hts := C.1.2.2.2.2
  have B : hp_B Γ (cw w_X6_advance) s α α s.heap [] := ⟨B0.1, B0.2.1, cw_rf g⟩
  have lit0 : (0 : Int32).toInt = 0 := by decide
  have lit1 : (1 : Int32).toInt = 1 := by decide
  have lit2 : (2 : Int32).toInt = 2 := by decide
  have lit4 : (4 : Int32).toInt = 4 := by decide
  have lit5 : (5 : Int32).toInt = 5 := by decide
  have lit10 : (10 : Int32).toInt = 10 := by decide
  have lit48 : (48 : Int32).toInt = 48 := by decide
  have lit900 : (900 : Int32).toInt = 900 := by decide
  have hl := lv_entry ([.ref a0]) (n := 2) (Nat.le_of_ble_eq_true rfl)
  show W p l e (hp_rm 1 0 0) s m ([.ref a0] : List Value).toArray below meth c s.heap [] 0 0 (MQ below (hp_Qv Γ (fun β => cw w_X6_advance α β)) ([.ref a0] : List Value).toArray s 0 0 (hp_A Γ)) (entryFrame m ([.ref a0] : List Value).toArray 2)
  rw [lg_entry_eq]
  generalize (lg_sl ([.ref a0]) ++ List.replicate (2 - (lg_sl ([.ref a0])).length) Slot.unset).toArray = ls at hl ⊢
  have hl : lv_has ls 2 [(0, .ref a0)] := hl
  refine lv_iconst (v := 0) hx hb dX6_advance_0 (by decide) (hp_n (n := 1) rfl ?_)
  have J2 : ∀ (nq : Nat) (αh_1 : hp_T) (Hh_1 : Heap) (Lh_1 : List Loc) (Bh_1 : hp_B Γ (cw w_X6_advance) s α αh_1 Hh_1 Lh_1) (v1_h_1 : Int32) (ih_1_0 : 0 ≤ v1_h_1.toInt) (ls : Array Slot) (hl : lv_has ls 2 [(0, .ref a0), (1, .int v1_h_1)]) (hmu2 : (2147483647 - v1_h_1.toInt).toNat = nq), W p l e (hp_rm 1 0 0) s m ([.ref a0] : List Value).toArray below meth c Hh_1 Lh_1 0 0 (MQ below (hp_Qv Γ (fun β => cw w_X6_advance α β)) ([.ref a0] : List Value).toArray s 0 0 (hp_A Γ)) (F0 m 2 ls []) := by
    intro nq
    induction nq using Nat.strongRecOn with
    | ind nq ih2 =>
    intro αh_1 Hh_1 Lh_1 Bh_1 v1_h_1 ih_1_0 ls hl hmu2
    have inv2_0 := ih_1_0
    refine lv_iload_n hx hb dX6_advance_2 rfl (lv_at hl 1 rfl) (hp_n (n := 3) rfl ?_)
    refine lv_sipush (v := 900) hx hb dX6_advance_3 (by decide) (hp_n (n := 6) rfl ?_)
    have J39 : ∀ (Hh_2 : Heap) (Lh_2 : List Loc) (Bh_2 : hp_B Γ (cw w_X6_advance) s α αh_1 Hh_2 Lh_2) (ls : Array Slot) (hl : lv_has ls 2 [(0, .ref a0)]), W p l e (hp_rm 1 0 0) s m ([.ref a0] : List Value).toArray below meth c Hh_2 Lh_2 0 0 (MQ below (hp_Qv Γ (fun β => cw w_X6_advance α β)) ([.ref a0] : List Value).toArray s 0 0 (hp_A Γ)) (F0 m 39 ls []) := by
      intro Hh_2 Lh_2 Bh_2 ls hl
      refine lv_aload_n hx hb dX6_advance_39 rfl (lv_at hl 0 rfl) (hp_n (n := 40) rfl ?_)
      refine lv_aload_n hx hb dX6_advance_40 rfl (lv_at hl 0 rfl) (hp_n (n := 41) rfl ?_)
      refine q_geti (κ := 7) (k := 2) (φ := 352) (pc' := 44) C Bh_2 (cw_k Bh_2.2.2 k0) fl_X6_19 rfl rfl rfl dX6_advance_41 rfl (fun x_3 ex_3 => ?_)
      refine q_puti (κ := 7) (k := 4) (φ := 354) (pc' := 47) C Bh_2 (cw_k Bh_2.2.2 k0) fl_X6_25 rfl rfl rfl rfl rfl rfl (cw_sI Bh_2.2.2 (by decide) (fun h => absurd h (by decide))) dX6_advance_44 rfl (fun αh_4 Hh_4 Lh_4 eh_4 Bh_4 => ?_)
      refine lv_aload_n hx hb dX6_advance_47 rfl (lv_at hl 0 rfl) (hp_n (n := 48) rfl ?_)
      refine lv_aload_n hx hb dX6_advance_48 rfl (lv_at hl 0 rfl) (hp_n (n := 49) rfl ?_)
      have t_5 : x_3 = hp_I αh_4 352 a0 := by rw [eh_4, hp_I_ne (by decide)]; exact ex_3
      refine q_getj (κ := 7) (k := 2) (φ := 352) (pc' := 52) C Bh_4 (cw_k Bh_4.2.2 k0) fl_X6_19 rfl rfl rfl t_5 dX6_advance_49 rfl ?_
      refine lv_aload_n hx hb dX6_advance_52 rfl (lv_at hl 0 rfl) (hp_n (n := 53) rfl ?_)
      refine q_geti (κ := 7) (k := 1) (φ := 351) (pc' := 56) C Bh_4 (cw_k Bh_4.2.2 k0) fl_X6_15 rfl rfl rfl dX6_advance_53 rfl (fun x_6 ex_6 => ?_)
      refine lv_icmp_ge (tgt := 73) hx hb dX6_advance_56 (by decide) (fun c_7 => ?_) (fun c_7 => hp_n (n := 59) rfl ?_)
      ·
        have jc_7 := il_le c_7
        refine lv_iconst (v := 0) hx hb dX6_advance_73 (by decide) (hp_n (n := 74) rfl ?_)
        refine q_puti (κ := 7) (k := 3) (φ := 353) (pc' := 77) C Bh_4 (cw_k Bh_4.2.2 k0) fl_X6_22 rfl rfl rfl rfl rfl rfl (cw_sI Bh_4.2.2 (by decide) (fun h => absurd h (by decide))) dX6_advance_74 rfl (fun αh_8 Hh_8 Lh_8 eh_8 Bh_8 => ?_)
        refine lv_aload_n hx hb dX6_advance_77 rfl (lv_at hl 0 rfl) (hp_n (n := 78) rfl ?_)
        refine lv_dup hx hb dX6_advance_78 rfl (hp_n (n := 79) rfl ?_)
        have t_9 : x_3 = hp_I αh_8 352 a0 := by rw [eh_8, hp_I_ne (by decide)]; exact t_5
        refine q_getj (κ := 7) (k := 2) (φ := 352) (pc' := 82) C Bh_8 (cw_k Bh_8.2.2 k0) fl_X6_19 rfl rfl rfl t_9 dX6_advance_79 rfl ?_
        refine lv_aload_n hx hb dX6_advance_82 rfl (lv_at hl 0 rfl) (hp_n (n := 83) rfl ?_)
        have t_10 : 0 = hp_I αh_8 353 a0 := by rw [eh_8]; exact hp_I_at.symm
        refine q_getj (κ := 7) (k := 3) (φ := 353) (pc' := 86) C Bh_8 (cw_k Bh_8.2.2 k0) fl_X6_22 rfl rfl rfl t_10 dX6_advance_83 rfl ?_
        refine lv_if_ne (tgt := 93) hx hb dX6_advance_86 (by decide) (fun c_11 => ?_) (fun c_11 => hp_n (n := 89) rfl ?_)
        · exact absurd c_11 (by decide)
        refine lv_iconst (v := 0) hx hb dX6_advance_89 (by decide) (hp_n (n := 90) rfl ?_)
        refine lv_goto (tgt := 94) hx hb dX6_advance_90 (by decide) ?_
        refine lv_iadd hx hb dX6_advance_94 (hp_n (n := 95) rfl (lv_topi (fun x_12 ex_12 => ?_)))
        refine q_puti (κ := 7) (k := 2) (φ := 352) (pc' := 98) C Bh_8 (cw_k Bh_8.2.2 k0) fl_X6_19 rfl rfl rfl rfl rfl rfl (cw_sI Bh_8.2.2 (by decide) (fun h => absurd h (by decide))) dX6_advance_95 rfl (fun αh_13 Hh_13 Lh_13 eh_13 Bh_13 => ?_)
        refine lv_iconst (v := 0) hx hb dX6_advance_98 (by decide) (hp_n (n := 99) rfl ?_)
        have J100 : ∀ (nq : Nat) (αh_14 : hp_T) (Hh_14 : Heap) (Lh_14 : List Loc) (Bh_14 : hp_B Γ (cw w_X6_advance) s α αh_14 Hh_14 Lh_14) (v1_h_14 : Int32) (ih_14_0 : 0 ≤ v1_h_14.toInt) (ls : Array Slot) (hl : lv_has ls 2 [(0, .ref a0), (1, .int v1_h_14)]) (hmu100 : (2147483647 - v1_h_14.toInt).toNat = nq), W p l e (hp_rm 1 0 0) s m ([.ref a0] : List Value).toArray below meth c Hh_14 Lh_14 0 0 (MQ below (hp_Qv Γ (fun β => cw w_X6_advance α β)) ([.ref a0] : List Value).toArray s 0 0 (hp_A Γ)) (F0 m 100 ls []) := by
          intro nq
          induction nq using Nat.strongRecOn with
          | ind nq ih100 =>
          intro αh_14 Hh_14 Lh_14 Bh_14 v1_h_14 ih_14_0 ls hl hmu100
          have inv100_0 := ih_14_0
          refine lv_iload_n hx hb dX6_advance_100 rfl (lv_at hl 1 rfl) (hp_n (n := 101) rfl ?_)
          refine lv_sipush (v := 900) hx hb dX6_advance_101 (by decide) (hp_n (n := 104) rfl ?_)
          have J157 : ∀ (Hh_15 : Heap) (Lh_15 : List Loc) (Bh_15 : hp_B Γ (cw w_X6_advance) s α αh_14 Hh_15 Lh_15) (ls : Array Slot) (hl : lv_has ls 2 [(0, .ref a0)]), W p l e (hp_rm 1 0 0) s m ([.ref a0] : List Value).toArray below meth c Hh_15 Lh_15 0 0 (MQ below (hp_Qv Γ (fun β => cw w_X6_advance α β)) ([.ref a0] : List Value).toArray s 0 0 (hp_A Γ)) (F0 m 157 ls []) := by
            intro Hh_15 Lh_15 Bh_15 ls hl
            refine lv_aload_n hx hb dX6_advance_157 rfl (lv_at hl 0 rfl) (hp_n (n := 158) rfl ?_)
            refine lv_aload_n hx hb dX6_advance_158 rfl (lv_at hl 0 rfl) (hp_n (n := 159) rfl ?_)
            refine q_geti (κ := 7) (k := 2) (φ := 352) (pc' := 162) C Bh_15 (cw_k Bh_15.2.2 k0) fl_X6_19 rfl rfl rfl dX6_advance_159 rfl (fun x_16 ex_16 => ?_)
            refine lv_aload_n hx hb dX6_advance_162 rfl (lv_at hl 0 rfl) (hp_n (n := 163) rfl ?_)
            refine q_geti (κ := 7) (k := 4) (φ := 354) (pc' := 166) C Bh_15 (cw_k Bh_15.2.2 k0) fl_X6_25 rfl rfl rfl dX6_advance_163 rfl (fun x_17 ex_17 => ?_)
            refine lv_isub hx hb dX6_advance_166 (hp_n (n := 167) rfl (lv_topi (fun x_18 ex_18 => ?_)))
            refine q_puti (κ := 7) (k := 5) (φ := 355) (pc' := 170) C Bh_15 (cw_k Bh_15.2.2 k0) fl_X6_28 rfl rfl rfl rfl rfl rfl (cw_sI Bh_15.2.2 (by decide) (fun h => absurd h (by decide))) dX6_advance_167 rfl (fun αh_19 Hh_19 Lh_19 eh_19 Bh_19 => ?_)
            refine lv_aload_n hx hb dX6_advance_170 rfl (lv_at hl 0 rfl) (hp_n (n := 171) rfl ?_)
            refine lv_iconst (v := 0) hx hb dX6_advance_171 (by decide) (hp_n (n := 172) rfl ?_)
            refine q_puti (κ := 7) (k := 6) (φ := 356) (pc' := 175) C Bh_19 (cw_k Bh_19.2.2 k0) fl_X6_31 rfl rfl rfl rfl rfl rfl (cw_sI Bh_19.2.2 (by decide) (fun h => absurd h (by decide))) dX6_advance_172 rfl (fun αh_20 Hh_20 Lh_20 eh_20 Bh_20 => ?_)
            refine lv_iconst (v := 0) hx hb dX6_advance_175 (by decide) (hp_n (n := 176) rfl ?_)
            have J177 : ∀ (nq : Nat) (αh_21 : hp_T) (Hh_21 : Heap) (Lh_21 : List Loc) (Bh_21 : hp_B Γ (cw w_X6_advance) s α αh_21 Hh_21 Lh_21) (v1_h_21 : Int32) (ih_21_0 : 0 ≤ v1_h_21.toInt) (ls : Array Slot) (hl : lv_has ls 2 [(0, .ref a0), (1, .int v1_h_21)]) (hmu177 : (2147483647 - v1_h_21.toInt).toNat = nq), W p l e (hp_rm 1 0 0) s m ([.ref a0] : List Value).toArray below meth c Hh_21 Lh_21 0 0 (MQ below (hp_Qv Γ (fun β => cw w_X6_advance α β)) ([.ref a0] : List Value).toArray s 0 0 (hp_A Γ)) (F0 m 177 ls []) := by
              intro nq
              induction nq using Nat.strongRecOn with
              | ind nq ih177 =>
              intro αh_21 Hh_21 Lh_21 Bh_21 v1_h_21 ih_21_0 ls hl hmu177
              have inv177_0 := ih_21_0
              refine lv_iload_n hx hb dX6_advance_177 rfl (lv_at hl 1 rfl) (hp_n (n := 178) rfl ?_)
              refine lv_aload_n hx hb dX6_advance_178 rfl (lv_at hl 0 rfl) (hp_n (n := 179) rfl ?_)
              refine q_geti (κ := 7) (k := 5) (φ := 355) (pc' := 182) C Bh_21 (cw_k Bh_21.2.2 k0) fl_X6_28 rfl rfl rfl dX6_advance_179 rfl (fun x_22 ex_22 => ?_)
              have J229 : ∀ (Hh_23 : Heap) (Lh_23 : List Loc) (Bh_23 : hp_B Γ (cw w_X6_advance) s α αh_21 Hh_23 Lh_23) (ls : Array Slot) (hl : lv_has ls 2 [(0, .ref a0)]), W p l e (hp_rm 1 0 0) s m ([.ref a0] : List Value).toArray below meth c Hh_23 Lh_23 0 0 (MQ below (hp_Qv Γ (fun β => cw w_X6_advance α β)) ([.ref a0] : List Value).toArray s 0 0 (hp_A Γ)) (F0 m 229 ls []) := by
                intro Hh_23 Lh_23 Bh_23 ls hl
                refine lv_aload_n hx hb dX6_advance_229 rfl (lv_at hl 0 rfl) (hp_n (n := 230) rfl ?_)
                refine lv_aload_n hx hb dX6_advance_230 rfl (lv_at hl 0 rfl) (hp_n (n := 231) rfl ?_)
                refine q_geti (κ := 7) (k := 3) (φ := 353) (pc' := 234) C Bh_23 (cw_k Bh_23.2.2 k0) fl_X6_22 rfl rfl rfl dX6_advance_231 rfl (fun x_24 ex_24 => ?_)
                refine lv_iconst (v := 2) hx hb dX6_advance_234 (by decide) (hp_n (n := 235) rfl ?_)
                refine lv_icmp_ne (tgt := 250) hx hb dX6_advance_235 (by decide) (fun c_25 => ?_) (fun c_25 => hp_n (n := 238) rfl ?_)
                ·
                  have jc_25 := il_ne c_25
                  refine lv_aload_n hx hb dX6_advance_250 rfl (lv_at hl 0 rfl) (hp_n (n := 251) rfl ?_)
                  refine q_getj (κ := 7) (k := 3) (φ := 353) (pc' := 254) C Bh_23 (cw_k Bh_23.2.2 k0) fl_X6_22 rfl rfl rfl ex_24 dX6_advance_251 rfl ?_
                  refine q_puti (κ := 7) (k := 3) (φ := 353) (pc' := 257) C Bh_23 (cw_k Bh_23.2.2 k0) fl_X6_22 rfl rfl rfl rfl rfl rfl (cw_sI Bh_23.2.2 (by decide) (fun h => absurd h (by decide))) dX6_advance_254 rfl (fun αh_26 Hh_26 Lh_26 eh_26 Bh_26 => ?_)
                  exact q_vret C Bh_26 hr hlk Bh_26.2.2 dX6_advance_257
                ·
                  have jc_25 := il_eq c_25
                  refine lv_aload_n hx hb dX6_advance_238 rfl (lv_at hl 0 rfl) (hp_n (n := 239) rfl ?_)
                  refine q_getj (κ := 7) (k := 5) (φ := 355) (pc' := 242) C Bh_23 (cw_k Bh_23.2.2 k0) fl_X6_28 rfl rfl rfl ex_22 dX6_advance_239 rfl ?_
                  refine lv_iconst (v := 5) hx hb dX6_advance_242 (by decide) (hp_n (n := 243) rfl ?_)
                  refine lv_icmp_le (tgt := 250) hx hb dX6_advance_243 (by decide) (fun c_27 => ?_) (fun c_27 => hp_n (n := 246) rfl ?_)
                  ·
                    have jc_27 := il_le c_27
                    refine lv_aload_n hx hb dX6_advance_250 rfl (lv_at hl 0 rfl) (hp_n (n := 251) rfl ?_)
                    refine q_getj (κ := 7) (k := 3) (φ := 353) (pc' := 254) C Bh_23 (cw_k Bh_23.2.2 k0) fl_X6_22 rfl rfl rfl ex_24 dX6_advance_251 rfl ?_
                    refine q_puti (κ := 7) (k := 3) (φ := 353) (pc' := 257) C Bh_23 (cw_k Bh_23.2.2 k0) fl_X6_22 rfl rfl rfl rfl rfl rfl (cw_sI Bh_23.2.2 (by decide) (fun h => absurd h (by decide))) dX6_advance_254 rfl (fun αh_28 Hh_28 Lh_28 eh_28 Bh_28 => ?_)
                    exact q_vret C Bh_28 hr hlk Bh_28.2.2 dX6_advance_257
                  ·
                    have jc_27 := il_nle c_27
                    refine lv_iconst (v := 4) hx hb dX6_advance_246 (by decide) (hp_n (n := 247) rfl ?_)
                    refine lv_goto (tgt := 254) hx hb dX6_advance_247 (by decide) ?_
                    refine q_puti (κ := 7) (k := 3) (φ := 353) (pc' := 257) C Bh_23 (cw_k Bh_23.2.2 k0) fl_X6_22 rfl rfl rfl rfl rfl rfl (cw_sI Bh_23.2.2 (by decide) (fun h => absurd h (by decide))) dX6_advance_254 rfl (fun αh_29 Hh_29 Lh_29 eh_29 Bh_29 => ?_)
                    exact q_vret C Bh_29 hr hlk Bh_29.2.2 dX6_advance_257
              refine lv_icmp_ge (tgt := 229) hx hb dX6_advance_182 (by decide) (fun c_30 => ?_) (fun c_30 => hp_n (n := 185) rfl ?_)
              ·
                have jc_30 := il_le c_30
                exact J229 Hh_21 Lh_21 Bh_21 ls (lv_sub hl [0] rfl)
              ·
                have jc_30 := il_nle c_30
                refine lv_iload_n hx hb dX6_advance_185 rfl (lv_at hl 1 rfl) (hp_n (n := 186) rfl ?_)
                refine lv_iconst (v := 5) hx hb dX6_advance_186 (by decide) (hp_n (n := 187) rfl ?_)
                refine lv_icmp_ge (tgt := 229) hx hb dX6_advance_187 (by decide) (fun c_31 => ?_) (fun c_31 => hp_n (n := 190) rfl ?_)
                ·
                  have jc_31 := il_le c_31
                  exact J229 Hh_21 Lh_21 Bh_21 ls (lv_sub hl [0] rfl)
                ·
                  have jc_31 := il_nle c_31
                  refine lv_aload_n hx hb dX6_advance_190 rfl (lv_at hl 0 rfl) (hp_n (n := 191) rfl ?_)
                  refine q_geti (κ := 7) (k := 3) (φ := 353) (pc' := 194) C Bh_21 (cw_k Bh_21.2.2 k0) fl_X6_22 rfl rfl rfl dX6_advance_191 rfl (fun x_32 ex_32 => ?_)
                  refine lv_iconst (v := 2) hx hb dX6_advance_194 (by decide) (hp_n (n := 195) rfl ?_)
                  refine lv_icmp_ne (tgt := 229) hx hb dX6_advance_195 (by decide) (fun c_33 => ?_) (fun c_33 => hp_n (n := 198) rfl ?_)
                  ·
                    have jc_33 := il_ne c_33
                    exact J229 Hh_21 Lh_21 Bh_21 ls (lv_sub hl [0] rfl)
                  ·
                    have jc_33 := il_eq c_33
                    refine lv_aload_n hx hb dX6_advance_198 rfl (lv_at hl 0 rfl) (hp_n (n := 199) rfl ?_)
                    refine lv_bipush (v := 10) hx hb dX6_advance_199 (by decide) (hp_n (n := 201) rfl ?_)
                    refine lv_aload_n hx hb dX6_advance_201 rfl (lv_at hl 0 rfl) (hp_n (n := 202) rfl ?_)
                    refine q_geti (κ := 7) (k := 6) (φ := 356) (pc' := 205) C Bh_21 (cw_k Bh_21.2.2 k0) fl_X6_31 rfl rfl rfl dX6_advance_202 rfl (fun x_34 ex_34 => ?_)
                    refine lv_imul hx hb dX6_advance_205 (hp_n (n := 206) rfl (lv_topi (fun x_35 ex_35 => ?_)))
                    refine lv_aload_n hx hb dX6_advance_206 rfl (lv_at hl 0 rfl) (hp_n (n := 207) rfl ?_)
                    refine lv_aload_n hx hb dX6_advance_207 rfl (lv_at hl 0 rfl) (hp_n (n := 208) rfl ?_)
                    refine q_geti (κ := 7) (k := 4) (φ := 354) (pc' := 211) C Bh_21 (cw_k Bh_21.2.2 k0) fl_X6_25 rfl rfl rfl dX6_advance_208 rfl (fun x_36 ex_36 => ?_)
                    refine lv_iload_n hx hb dX6_advance_211 rfl (lv_at hl 1 rfl) (hp_n (n := 212) rfl ?_)
                    refine lv_iadd hx hb dX6_advance_212 (hp_n (n := 213) rfl (lv_topi (fun x_37 ex_37 => ?_)))
                    refine q_ci (pc' := 216) Bh_21 (hp_runV (As := [.int x_37]) (rest := [.int x_35, .ref a0]) C Bh_21 (t_X6_byteAt Γ l αh_21 Bh_21.2.2.1 a0 (cw_k Bh_21.2.2 k0) x_37) lb_X6_byteAt lv_X6_byteAt lk_X6_43 (cw_k Bh_21.2.2 k0) rfl (by decide) rfl hl.1 rfl (Nat.le_of_ble_eq_true rfl) dX6_advance_213 ⟨Nat.le_refl _, Nat.le_refl _⟩) (fun _ _ h => by rw [h]; exact Bh_21.2.2) rfl (fun rh_38 αh_38 Hh_38 Lh_38 ph_38 Bh_38 => ?_)
                    rw [ph_38] at Bh_38
                    refine lv_iadd hx hb dX6_advance_216 (hp_n (n := 217) rfl (lv_topi (fun x_39 ex_39 => ?_)))
                    refine lv_bipush (v := 48) hx hb dX6_advance_217 (by decide) (hp_n (n := 219) rfl ?_)
                    refine lv_isub hx hb dX6_advance_219 (hp_n (n := 220) rfl (lv_topi (fun x_40 ex_40 => ?_)))
                    refine q_puti (κ := 7) (k := 6) (φ := 356) (pc' := 223) C Bh_38 (cw_k Bh_38.2.2 k0) fl_X6_31 rfl rfl rfl rfl rfl rfl (cw_sI Bh_38.2.2 (by decide) (fun h => absurd h (by decide))) dX6_advance_220 rfl (fun αh_41 Hh_41 Lh_41 eh_41 Bh_41 => ?_)
                    obtain ⟨x_42, ex_42⟩ : ∃ y : Int32, y = v1_h_21 + 1 := ⟨_, rfl⟩
                    have qx_42 : x_42.toInt = v1_h_21.toInt + 1 := by have q0 := ib_hi x_22; have qa := ib_lo v1_h_21; rw [ex_42]; exact ii_add (by omega) (by omega)
                    refine lv_iinc (v := x_42) (lv' := [(1, .int x_42), (0, .ref a0)]) hx hb dX6_advance_223 hl (k := 1) rfl (by rw [ex_42]; rfl) (by decide) rfl (fun ls hl => hp_n (n := 226) rfl ?_)
                    refine lv_goto (tgt := 177) hx hb dX6_advance_226 (by decide) ?_
                    exact ih177 _ (by have q0 := ib_hi x_22; have q1 := ib_lo x_22; have qa := ib_hi v1_h_21; have qb := ib_lo v1_h_21; have qc : (v1_h_21 + 1).toInt = v1_h_21.toInt + (1 : Int32).toInt := ii_add (by omega) (by omega); rw [ex_42]; omega) αh_41 Hh_41 Lh_41 Bh_41 x_42 (by omega) ls (lv_sub hl [1, 0] rfl) rfl
            refine lv_istore_n (lv' := [(1, .int 0), (0, .ref a0)]) hx hb dX6_advance_176 rfl hl (by decide) rfl (fun ls hl => hp_n (n := 177) rfl ?_)
            exact J177 _ αh_20 Hh_20 Lh_20 Bh_20 0 (by omega) ls (lv_sub hl [1, 0] rfl) rfl
          refine lv_icmp_ge (tgt := 157) hx hb dX6_advance_104 (by decide) (fun c_43 => ?_) (fun c_43 => hp_n (n := 107) rfl ?_)
          ·
            have jc_43 := il_le c_43
            exact J157 Hh_14 Lh_14 Bh_14 ls (lv_sub hl [0] rfl)
          ·
            have jc_43 := il_nle c_43
            refine lv_aload_n hx hb dX6_advance_107 rfl (lv_at hl 0 rfl) (hp_n (n := 108) rfl ?_)
            refine q_geti (κ := 7) (k := 3) (φ := 353) (pc' := 111) C Bh_14 (cw_k Bh_14.2.2 k0) fl_X6_22 rfl rfl rfl dX6_advance_108 rfl (fun x_44 ex_44 => ?_)
            refine lv_iconst (v := 1) hx hb dX6_advance_111 (by decide) (hp_n (n := 112) rfl ?_)
            have J123 : ∀ (Hh_45 : Heap) (Lh_45 : List Loc) (Bh_45 : hp_B Γ (cw w_X6_advance) s α αh_14 Hh_45 Lh_45) (ls : Array Slot) (hl : lv_has ls 2 [(0, .ref a0), (1, .int v1_h_14)]), W p l e (hp_rm 1 0 0) s m ([.ref a0] : List Value).toArray below meth c Hh_45 Lh_45 0 0 (MQ below (hp_Qv Γ (fun β => cw w_X6_advance α β)) ([.ref a0] : List Value).toArray s 0 0 (hp_A Γ)) (F0 m 123 ls []) := by
              intro Hh_45 Lh_45 Bh_45 ls hl
              refine lv_aload_n hx hb dX6_advance_123 rfl (lv_at hl 0 rfl) (hp_n (n := 124) rfl ?_)
              refine lv_aload_n hx hb dX6_advance_124 rfl (lv_at hl 0 rfl) (hp_n (n := 125) rfl ?_)
              refine q_geti (κ := 7) (k := 2) (φ := 352) (pc' := 128) C Bh_45 (cw_k Bh_45.2.2 k0) fl_X6_19 rfl rfl rfl dX6_advance_125 rfl (fun x_46 ex_46 => ?_)
              refine q_ci (pc' := 131) Bh_45 (hp_runV (As := [.int x_46]) (rest := []) C Bh_45 (t_X6_byteAt Γ l αh_14 Bh_45.2.2.1 a0 (cw_k Bh_45.2.2 k0) x_46) lb_X6_byteAt lv_X6_byteAt lk_X6_43 (cw_k Bh_45.2.2 k0) rfl (by decide) rfl hl.1 rfl (Nat.le_of_ble_eq_true rfl) dX6_advance_128 ⟨Nat.le_refl _, Nat.le_refl _⟩) (fun _ _ h => by rw [h]; exact Bh_45.2.2) rfl (fun rh_47 αh_47 Hh_47 Lh_47 ph_47 Bh_47 => ?_)
              rw [ph_47] at Bh_47
              refine q_ci (pc' := 134) Bh_47 (hp_runS (As := [.int rh_47]) (rest := []) C Bh_47 (t_X6_kindOf Γ l αh_14 Bh_47.2.2.1 rh_47) lb_X6_kindOf ls_X6_kindOf lk_X6_51 rfl (by decide) rfl hl.1 rfl (Nat.le_of_ble_eq_true rfl) dX6_advance_131 ⟨Nat.le_refl _, Nat.le_refl _⟩) (fun _ _ h => by rw [h]; exact Bh_47.2.2) rfl (fun rh_48 αh_48 Hh_48 Lh_48 ph_48 Bh_48 => ?_)
              rw [ph_48] at Bh_48
              refine lv_aload_n hx hb dX6_advance_134 rfl (lv_at hl 0 rfl) (hp_n (n := 135) rfl ?_)
              refine q_getj (κ := 7) (k := 3) (φ := 353) (pc' := 138) C Bh_48 (cw_k Bh_48.2.2 k0) fl_X6_22 rfl rfl rfl ex_44 dX6_advance_135 rfl ?_
              refine lv_icmp_ne (tgt := 157) hx hb dX6_advance_138 (by decide) (fun c_49 => ?_) (fun c_49 => hp_n (n := 141) rfl ?_)
              ·
                have jc_49 := il_ne c_49
                exact J157 Hh_48 Lh_48 Bh_48 ls (lv_sub hl [0] rfl)
              ·
                have jc_49 := il_eq c_49
                refine lv_aload_n hx hb dX6_advance_141 rfl (lv_at hl 0 rfl) (hp_n (n := 142) rfl ?_)
                refine lv_dup hx hb dX6_advance_142 rfl (hp_n (n := 143) rfl ?_)
                refine q_getj (κ := 7) (k := 2) (φ := 352) (pc' := 146) C Bh_48 (cw_k Bh_48.2.2 k0) fl_X6_19 rfl rfl rfl ex_46 dX6_advance_143 rfl ?_
                refine lv_iconst (v := 1) hx hb dX6_advance_146 (by decide) (hp_n (n := 147) rfl ?_)
                refine lv_iadd hx hb dX6_advance_147 (hp_n (n := 148) rfl (lv_topi (fun x_50 ex_50 => ?_)))
                refine q_puti (κ := 7) (k := 2) (φ := 352) (pc' := 151) C Bh_48 (cw_k Bh_48.2.2 k0) fl_X6_19 rfl rfl rfl rfl rfl rfl (cw_sI Bh_48.2.2 (by decide) (fun h => absurd h (by decide))) dX6_advance_148 rfl (fun αh_51 Hh_51 Lh_51 eh_51 Bh_51 => ?_)
                obtain ⟨x_52, ex_52⟩ : ∃ y : Int32, y = v1_h_14 + 1 := ⟨_, rfl⟩
                have qx_52 : x_52.toInt = v1_h_14.toInt + 1 := by have qa := ib_lo v1_h_14; rw [ex_52]; exact ii_add (by omega) (by omega)
                refine lv_iinc (v := x_52) (lv' := [(1, .int x_52), (0, .ref a0)]) hx hb dX6_advance_151 hl (k := 1) rfl (by rw [ex_52]; rfl) (by decide) rfl (fun ls hl => hp_n (n := 154) rfl ?_)
                refine lv_goto (tgt := 100) hx hb dX6_advance_154 (by decide) ?_
                exact ih100 _ (by have qa := ib_hi v1_h_14; have qb := ib_lo v1_h_14; have qc : (v1_h_14 + 1).toInt = v1_h_14.toInt + (1 : Int32).toInt := ii_add (by omega) (by omega); rw [ex_52]; omega) αh_51 Hh_51 Lh_51 Bh_51 x_52 (by omega) ls (lv_sub hl [1, 0] rfl) rfl
            refine lv_icmp_eq (tgt := 123) hx hb dX6_advance_112 (by decide) (fun c_53 => ?_) (fun c_53 => hp_n (n := 115) rfl ?_)
            ·
              have jc_53 := il_eq c_53
              exact J123 Hh_14 Lh_14 Bh_14 ls (lv_sub hl [0, 1] rfl)
            ·
              have jc_53 := il_ne c_53
              refine lv_aload_n hx hb dX6_advance_115 rfl (lv_at hl 0 rfl) (hp_n (n := 116) rfl ?_)
              refine q_getj (κ := 7) (k := 3) (φ := 353) (pc' := 119) C Bh_14 (cw_k Bh_14.2.2 k0) fl_X6_22 rfl rfl rfl ex_44 dX6_advance_116 rfl ?_
              refine lv_iconst (v := 2) hx hb dX6_advance_119 (by decide) (hp_n (n := 120) rfl ?_)
              refine lv_icmp_ne (tgt := 157) hx hb dX6_advance_120 (by decide) (fun c_54 => ?_) (fun c_54 => hp_n (n := 123) rfl ?_)
              ·
                have jc_54 := il_ne c_54
                exact J157 Hh_14 Lh_14 Bh_14 ls (lv_sub hl [0] rfl)
              ·
                have jc_54 := il_eq c_54
                exact J123 Hh_14 Lh_14 Bh_14 ls (lv_sub hl [0, 1] rfl)
        refine lv_istore_n (lv' := [(1, .int 0), (0, .ref a0)]) hx hb dX6_advance_99 rfl hl (by decide) rfl (fun ls hl => hp_n (n := 100) rfl ?_)
        exact J100 _ αh_13 Hh_13 Lh_13 Bh_13 0 (by omega) ls (lv_sub hl [1, 0] rfl) rfl
      ·
        have jc_7 := il_nle c_7
        refine lv_aload_n hx hb dX6_advance_59 rfl (lv_at hl 0 rfl) (hp_n (n := 60) rfl ?_)
        refine lv_aload_n hx hb dX6_advance_60 rfl (lv_at hl 0 rfl) (hp_n (n := 61) rfl ?_)
        refine q_getj (κ := 7) (k := 2) (φ := 352) (pc' := 64) C Bh_4 (cw_k Bh_4.2.2 k0) fl_X6_19 rfl rfl rfl t_5 dX6_advance_61 rfl ?_
        refine q_ci (pc' := 67) Bh_4 (hp_runV (As := [.int x_3]) (rest := [.ref a0]) C Bh_4 (t_X6_byteAt Γ l αh_4 Bh_4.2.2.1 a0 (cw_k Bh_4.2.2 k0) x_3) lb_X6_byteAt lv_X6_byteAt lk_X6_43 (cw_k Bh_4.2.2 k0) rfl (by decide) rfl hl.1 rfl (Nat.le_of_ble_eq_true rfl) dX6_advance_64 ⟨Nat.le_refl _, Nat.le_refl _⟩) (fun _ _ h => by rw [h]; exact Bh_4.2.2) rfl (fun rh_55 αh_55 Hh_55 Lh_55 ph_55 Bh_55 => ?_)
        rw [ph_55] at Bh_55
        refine q_ci (pc' := 70) Bh_55 (hp_runS (As := [.int rh_55]) (rest := [.ref a0]) C Bh_55 (t_X6_kindOf Γ l αh_4 Bh_55.2.2.1 rh_55) lb_X6_kindOf ls_X6_kindOf lk_X6_51 rfl (by decide) rfl hl.1 rfl (Nat.le_of_ble_eq_true rfl) dX6_advance_67 ⟨Nat.le_refl _, Nat.le_refl _⟩) (fun _ _ h => by rw [h]; exact Bh_55.2.2) rfl (fun rh_56 αh_56 Hh_56 Lh_56 ph_56 Bh_56 => ?_)
        rw [ph_56] at Bh_56
        refine lv_goto (tgt := 74) hx hb dX6_advance_70 (by decide) ?_
        refine q_puti (κ := 7) (k := 3) (φ := 353) (pc' := 77) C Bh_56 (cw_k Bh_56.2.2 k0) fl_X6_22 rfl rfl rfl rfl rfl rfl (cw_sI Bh_56.2.2 (by decide) (fun h => absurd h (by decide))) dX6_advance_74 rfl (fun αh_57 Hh_57 Lh_57 eh_57 Bh_57 => ?_)
        refine lv_aload_n hx hb dX6_advance_77 rfl (lv_at hl 0 rfl) (hp_n (n := 78) rfl ?_)
        refine lv_dup hx hb dX6_advance_78 rfl (hp_n (n := 79) rfl ?_)
        have t_58 : x_3 = hp_I αh_57 352 a0 := by rw [eh_57, hp_I_ne (by decide)]; exact t_5
        refine q_getj (κ := 7) (k := 2) (φ := 352) (pc' := 82) C Bh_57 (cw_k Bh_57.2.2 k0) fl_X6_19 rfl rfl rfl t_58 dX6_advance_79 rfl ?_
        refine lv_aload_n hx hb dX6_advance_82 rfl (lv_at hl 0 rfl) (hp_n (n := 83) rfl ?_)
        have t_59 : rh_56 = hp_I αh_57 353 a0 := by rw [eh_57]; exact hp_I_at.symm
        refine q_getj (κ := 7) (k := 3) (φ := 353) (pc' := 86) C Bh_57 (cw_k Bh_57.2.2 k0) fl_X6_22 rfl rfl rfl t_59 dX6_advance_83 rfl ?_
        refine lv_if_ne (tgt := 93) hx hb dX6_advance_86 (by decide) (fun c_60 => ?_) (fun c_60 => hp_n (n := 89) rfl ?_)
        ·
          have jc_60 := il_ne c_60
          refine lv_iconst (v := 1) hx hb dX6_advance_93 (by decide) (hp_n (n := 94) rfl ?_)
          refine lv_iadd hx hb dX6_advance_94 (hp_n (n := 95) rfl (lv_topi (fun x_61 ex_61 => ?_)))
          have qx_61 : x_61.toInt = x_3.toInt + 1 := by have q0 := ib_hi x_6; have qa := ib_lo x_3; rw [ex_61]; exact ii_add (by omega) (by omega)
          refine q_puti (κ := 7) (k := 2) (φ := 352) (pc' := 98) C Bh_57 (cw_k Bh_57.2.2 k0) fl_X6_19 rfl rfl rfl rfl rfl rfl (cw_sI Bh_57.2.2 (by decide) (fun h => absurd h (by decide))) dX6_advance_95 rfl (fun αh_62 Hh_62 Lh_62 eh_62 Bh_62 => ?_)
          refine lv_iconst (v := 0) hx hb dX6_advance_98 (by decide) (hp_n (n := 99) rfl ?_)
          have J100 : ∀ (nq : Nat) (αh_63 : hp_T) (Hh_63 : Heap) (Lh_63 : List Loc) (Bh_63 : hp_B Γ (cw w_X6_advance) s α αh_63 Hh_63 Lh_63) (v1_h_63 : Int32) (ih_63_0 : 0 ≤ v1_h_63.toInt) (ls : Array Slot) (hl : lv_has ls 2 [(0, .ref a0), (1, .int v1_h_63)]) (hmu100 : (2147483647 - v1_h_63.toInt).toNat = nq), W p l e (hp_rm 1 0 0) s m ([.ref a0] : List Value).toArray below meth c Hh_63 Lh_63 0 0 (MQ below (hp_Qv Γ (fun β => cw w_X6_advance α β)) ([.ref a0] : List Value).toArray s 0 0 (hp_A Γ)) (F0 m 100 ls []) := by
            intro nq
            induction nq using Nat.strongRecOn with
            | ind nq ih100 =>
            intro αh_63 Hh_63 Lh_63 Bh_63 v1_h_63 ih_63_0 ls hl hmu100
            have inv100_0 := ih_63_0
            refine lv_iload_n hx hb dX6_advance_100 rfl (lv_at hl 1 rfl) (hp_n (n := 101) rfl ?_)
            refine lv_sipush (v := 900) hx hb dX6_advance_101 (by decide) (hp_n (n := 104) rfl ?_)
            have J157 : ∀ (Hh_64 : Heap) (Lh_64 : List Loc) (Bh_64 : hp_B Γ (cw w_X6_advance) s α αh_63 Hh_64 Lh_64) (ls : Array Slot) (hl : lv_has ls 2 [(0, .ref a0)]), W p l e (hp_rm 1 0 0) s m ([.ref a0] : List Value).toArray below meth c Hh_64 Lh_64 0 0 (MQ below (hp_Qv Γ (fun β => cw w_X6_advance α β)) ([.ref a0] : List Value).toArray s 0 0 (hp_A Γ)) (F0 m 157 ls []) := by
              intro Hh_64 Lh_64 Bh_64 ls hl
              refine lv_aload_n hx hb dX6_advance_157 rfl (lv_at hl 0 rfl) (hp_n (n := 158) rfl ?_)
              refine lv_aload_n hx hb dX6_advance_158 rfl (lv_at hl 0 rfl) (hp_n (n := 159) rfl ?_)
              refine q_geti (κ := 7) (k := 2) (φ := 352) (pc' := 162) C Bh_64 (cw_k Bh_64.2.2 k0) fl_X6_19 rfl rfl rfl dX6_advance_159 rfl (fun x_65 ex_65 => ?_)
              refine lv_aload_n hx hb dX6_advance_162 rfl (lv_at hl 0 rfl) (hp_n (n := 163) rfl ?_)
              refine q_geti (κ := 7) (k := 4) (φ := 354) (pc' := 166) C Bh_64 (cw_k Bh_64.2.2 k0) fl_X6_25 rfl rfl rfl dX6_advance_163 rfl (fun x_66 ex_66 => ?_)
              refine lv_isub hx hb dX6_advance_166 (hp_n (n := 167) rfl (lv_topi (fun x_67 ex_67 => ?_)))
              refine q_puti (κ := 7) (k := 5) (φ := 355) (pc' := 170) C Bh_64 (cw_k Bh_64.2.2 k0) fl_X6_28 rfl rfl rfl rfl rfl rfl (cw_sI Bh_64.2.2 (by decide) (fun h => absurd h (by decide))) dX6_advance_167 rfl (fun αh_68 Hh_68 Lh_68 eh_68 Bh_68 => ?_)
              refine lv_aload_n hx hb dX6_advance_170 rfl (lv_at hl 0 rfl) (hp_n (n := 171) rfl ?_)
              refine lv_iconst (v := 0) hx hb dX6_advance_171 (by decide) (hp_n (n := 172) rfl ?_)
              refine q_puti (κ := 7) (k := 6) (φ := 356) (pc' := 175) C Bh_68 (cw_k Bh_68.2.2 k0) fl_X6_31 rfl rfl rfl rfl rfl rfl (cw_sI Bh_68.2.2 (by decide) (fun h => absurd h (by decide))) dX6_advance_172 rfl (fun αh_69 Hh_69 Lh_69 eh_69 Bh_69 => ?_)
              refine lv_iconst (v := 0) hx hb dX6_advance_175 (by decide) (hp_n (n := 176) rfl ?_)
              have J177 : ∀ (nq : Nat) (αh_70 : hp_T) (Hh_70 : Heap) (Lh_70 : List Loc) (Bh_70 : hp_B Γ (cw w_X6_advance) s α αh_70 Hh_70 Lh_70) (v1_h_70 : Int32) (ih_70_0 : 0 ≤ v1_h_70.toInt) (ls : Array Slot) (hl : lv_has ls 2 [(0, .ref a0), (1, .int v1_h_70)]) (hmu177 : (2147483647 - v1_h_70.toInt).toNat = nq), W p l e (hp_rm 1 0 0) s m ([.ref a0] : List Value).toArray below meth c Hh_70 Lh_70 0 0 (MQ below (hp_Qv Γ (fun β => cw w_X6_advance α β)) ([.ref a0] : List Value).toArray s 0 0 (hp_A Γ)) (F0 m 177 ls []) := by
                intro nq
                induction nq using Nat.strongRecOn with
                | ind nq ih177 =>
                intro αh_70 Hh_70 Lh_70 Bh_70 v1_h_70 ih_70_0 ls hl hmu177
                have inv177_0 := ih_70_0
                refine lv_iload_n hx hb dX6_advance_177 rfl (lv_at hl 1 rfl) (hp_n (n := 178) rfl ?_)
                refine lv_aload_n hx hb dX6_advance_178 rfl (lv_at hl 0 rfl) (hp_n (n := 179) rfl ?_)
                refine q_geti (κ := 7) (k := 5) (φ := 355) (pc' := 182) C Bh_70 (cw_k Bh_70.2.2 k0) fl_X6_28 rfl rfl rfl dX6_advance_179 rfl (fun x_71 ex_71 => ?_)
                have J229 : ∀ (Hh_72 : Heap) (Lh_72 : List Loc) (Bh_72 : hp_B Γ (cw w_X6_advance) s α αh_70 Hh_72 Lh_72) (ls : Array Slot) (hl : lv_has ls 2 [(0, .ref a0)]), W p l e (hp_rm 1 0 0) s m ([.ref a0] : List Value).toArray below meth c Hh_72 Lh_72 0 0 (MQ below (hp_Qv Γ (fun β => cw w_X6_advance α β)) ([.ref a0] : List Value).toArray s 0 0 (hp_A Γ)) (F0 m 229 ls []) := by
                  intro Hh_72 Lh_72 Bh_72 ls hl
                  refine lv_aload_n hx hb dX6_advance_229 rfl (lv_at hl 0 rfl) (hp_n (n := 230) rfl ?_)
                  refine lv_aload_n hx hb dX6_advance_230 rfl (lv_at hl 0 rfl) (hp_n (n := 231) rfl ?_)
                  refine q_geti (κ := 7) (k := 3) (φ := 353) (pc' := 234) C Bh_72 (cw_k Bh_72.2.2 k0) fl_X6_22 rfl rfl rfl dX6_advance_231 rfl (fun x_73 ex_73 => ?_)
                  refine lv_iconst (v := 2) hx hb dX6_advance_234 (by decide) (hp_n (n := 235) rfl ?_)
                  refine lv_icmp_ne (tgt := 250) hx hb dX6_advance_235 (by decide) (fun c_74 => ?_) (fun c_74 => hp_n (n := 238) rfl ?_)
                  ·
                    have jc_74 := il_ne c_74
                    refine lv_aload_n hx hb dX6_advance_250 rfl (lv_at hl 0 rfl) (hp_n (n := 251) rfl ?_)
                    refine q_getj (κ := 7) (k := 3) (φ := 353) (pc' := 254) C Bh_72 (cw_k Bh_72.2.2 k0) fl_X6_22 rfl rfl rfl ex_73 dX6_advance_251 rfl ?_
                    refine q_puti (κ := 7) (k := 3) (φ := 353) (pc' := 257) C Bh_72 (cw_k Bh_72.2.2 k0) fl_X6_22 rfl rfl rfl rfl rfl rfl (cw_sI Bh_72.2.2 (by decide) (fun h => absurd h (by decide))) dX6_advance_254 rfl (fun αh_75 Hh_75 Lh_75 eh_75 Bh_75 => ?_)
                    exact q_vret C Bh_75 hr hlk Bh_75.2.2 dX6_advance_257
                  ·
                    have jc_74 := il_eq c_74
                    refine lv_aload_n hx hb dX6_advance_238 rfl (lv_at hl 0 rfl) (hp_n (n := 239) rfl ?_)
                    refine q_getj (κ := 7) (k := 5) (φ := 355) (pc' := 242) C Bh_72 (cw_k Bh_72.2.2 k0) fl_X6_28 rfl rfl rfl ex_71 dX6_advance_239 rfl ?_
                    refine lv_iconst (v := 5) hx hb dX6_advance_242 (by decide) (hp_n (n := 243) rfl ?_)
                    refine lv_icmp_le (tgt := 250) hx hb dX6_advance_243 (by decide) (fun c_76 => ?_) (fun c_76 => hp_n (n := 246) rfl ?_)
                    ·
                      have jc_76 := il_le c_76
                      refine lv_aload_n hx hb dX6_advance_250 rfl (lv_at hl 0 rfl) (hp_n (n := 251) rfl ?_)
                      refine q_getj (κ := 7) (k := 3) (φ := 353) (pc' := 254) C Bh_72 (cw_k Bh_72.2.2 k0) fl_X6_22 rfl rfl rfl ex_73 dX6_advance_251 rfl ?_
                      refine q_puti (κ := 7) (k := 3) (φ := 353) (pc' := 257) C Bh_72 (cw_k Bh_72.2.2 k0) fl_X6_22 rfl rfl rfl rfl rfl rfl (cw_sI Bh_72.2.2 (by decide) (fun h => absurd h (by decide))) dX6_advance_254 rfl (fun αh_77 Hh_77 Lh_77 eh_77 Bh_77 => ?_)
                      exact q_vret C Bh_77 hr hlk Bh_77.2.2 dX6_advance_257
                    ·
                      have jc_76 := il_nle c_76
                      refine lv_iconst (v := 4) hx hb dX6_advance_246 (by decide) (hp_n (n := 247) rfl ?_)
                      refine lv_goto (tgt := 254) hx hb dX6_advance_247 (by decide) ?_
                      refine q_puti (κ := 7) (k := 3) (φ := 353) (pc' := 257) C Bh_72 (cw_k Bh_72.2.2 k0) fl_X6_22 rfl rfl rfl rfl rfl rfl (cw_sI Bh_72.2.2 (by decide) (fun h => absurd h (by decide))) dX6_advance_254 rfl (fun αh_78 Hh_78 Lh_78 eh_78 Bh_78 => ?_)
                      exact q_vret C Bh_78 hr hlk Bh_78.2.2 dX6_advance_257
                refine lv_icmp_ge (tgt := 229) hx hb dX6_advance_182 (by decide) (fun c_79 => ?_) (fun c_79 => hp_n (n := 185) rfl ?_)
                ·
                  have jc_79 := il_le c_79
                  exact J229 Hh_70 Lh_70 Bh_70 ls (lv_sub hl [0] rfl)
                ·
                  have jc_79 := il_nle c_79
                  refine lv_iload_n hx hb dX6_advance_185 rfl (lv_at hl 1 rfl) (hp_n (n := 186) rfl ?_)
                  refine lv_iconst (v := 5) hx hb dX6_advance_186 (by decide) (hp_n (n := 187) rfl ?_)
                  refine lv_icmp_ge (tgt := 229) hx hb dX6_advance_187 (by decide) (fun c_80 => ?_) (fun c_80 => hp_n (n := 190) rfl ?_)
                  ·
                    have jc_80 := il_le c_80
                    exact J229 Hh_70 Lh_70 Bh_70 ls (lv_sub hl [0] rfl)
                  ·
                    have jc_80 := il_nle c_80
                    refine lv_aload_n hx hb dX6_advance_190 rfl (lv_at hl 0 rfl) (hp_n (n := 191) rfl ?_)
                    refine q_geti (κ := 7) (k := 3) (φ := 353) (pc' := 194) C Bh_70 (cw_k Bh_70.2.2 k0) fl_X6_22 rfl rfl rfl dX6_advance_191 rfl (fun x_81 ex_81 => ?_)
                    refine lv_iconst (v := 2) hx hb dX6_advance_194 (by decide) (hp_n (n := 195) rfl ?_)
                    refine lv_icmp_ne (tgt := 229) hx hb dX6_advance_195 (by decide) (fun c_82 => ?_) (fun c_82 => hp_n (n := 198) rfl ?_)
                    ·
                      have jc_82 := il_ne c_82
                      exact J229 Hh_70 Lh_70 Bh_70 ls (lv_sub hl [0] rfl)
                    ·
                      have jc_82 := il_eq c_82
                      refine lv_aload_n hx hb dX6_advance_198 rfl (lv_at hl 0 rfl) (hp_n (n := 199) rfl ?_)
                      refine lv_bipush (v := 10) hx hb dX6_advance_199 (by decide) (hp_n (n := 201) rfl ?_)
                      refine lv_aload_n hx hb dX6_advance_201 rfl (lv_at hl 0 rfl) (hp_n (n := 202) rfl ?_)
                      refine q_geti (κ := 7) (k := 6) (φ := 356) (pc' := 205) C Bh_70 (cw_k Bh_70.2.2 k0) fl_X6_31 rfl rfl rfl dX6_advance_202 rfl (fun x_83 ex_83 => ?_)
                      refine lv_imul hx hb dX6_advance_205 (hp_n (n := 206) rfl (lv_topi (fun x_84 ex_84 => ?_)))
                      refine lv_aload_n hx hb dX6_advance_206 rfl (lv_at hl 0 rfl) (hp_n (n := 207) rfl ?_)
                      refine lv_aload_n hx hb dX6_advance_207 rfl (lv_at hl 0 rfl) (hp_n (n := 208) rfl ?_)
                      refine q_geti (κ := 7) (k := 4) (φ := 354) (pc' := 211) C Bh_70 (cw_k Bh_70.2.2 k0) fl_X6_25 rfl rfl rfl dX6_advance_208 rfl (fun x_85 ex_85 => ?_)
                      refine lv_iload_n hx hb dX6_advance_211 rfl (lv_at hl 1 rfl) (hp_n (n := 212) rfl ?_)
                      refine lv_iadd hx hb dX6_advance_212 (hp_n (n := 213) rfl (lv_topi (fun x_86 ex_86 => ?_)))
                      refine q_ci (pc' := 216) Bh_70 (hp_runV (As := [.int x_86]) (rest := [.int x_84, .ref a0]) C Bh_70 (t_X6_byteAt Γ l αh_70 Bh_70.2.2.1 a0 (cw_k Bh_70.2.2 k0) x_86) lb_X6_byteAt lv_X6_byteAt lk_X6_43 (cw_k Bh_70.2.2 k0) rfl (by decide) rfl hl.1 rfl (Nat.le_of_ble_eq_true rfl) dX6_advance_213 ⟨Nat.le_refl _, Nat.le_refl _⟩) (fun _ _ h => by rw [h]; exact Bh_70.2.2) rfl (fun rh_87 αh_87 Hh_87 Lh_87 ph_87 Bh_87 => ?_)
                      rw [ph_87] at Bh_87
                      refine lv_iadd hx hb dX6_advance_216 (hp_n (n := 217) rfl (lv_topi (fun x_88 ex_88 => ?_)))
                      refine lv_bipush (v := 48) hx hb dX6_advance_217 (by decide) (hp_n (n := 219) rfl ?_)
                      refine lv_isub hx hb dX6_advance_219 (hp_n (n := 220) rfl (lv_topi (fun x_89 ex_89 => ?_)))
                      refine q_puti (κ := 7) (k := 6) (φ := 356) (pc' := 223) C Bh_87 (cw_k Bh_87.2.2 k0) fl_X6_31 rfl rfl rfl rfl rfl rfl (cw_sI Bh_87.2.2 (by decide) (fun h => absurd h (by decide))) dX6_advance_220 rfl (fun αh_90 Hh_90 Lh_90 eh_90 Bh_90 => ?_)
                      obtain ⟨x_91, ex_91⟩ : ∃ y : Int32, y = v1_h_70 + 1 := ⟨_, rfl⟩
                      have qx_91 : x_91.toInt = v1_h_70.toInt + 1 := by have q0 := ib_hi x_71; have qa := ib_lo v1_h_70; rw [ex_91]; exact ii_add (by omega) (by omega)
                      refine lv_iinc (v := x_91) (lv' := [(1, .int x_91), (0, .ref a0)]) hx hb dX6_advance_223 hl (k := 1) rfl (by rw [ex_91]; rfl) (by decide) rfl (fun ls hl => hp_n (n := 226) rfl ?_)
                      refine lv_goto (tgt := 177) hx hb dX6_advance_226 (by decide) ?_
                      exact ih177 _ (by have q0 := ib_hi x_71; have q1 := ib_lo x_71; have qa := ib_hi v1_h_70; have qb := ib_lo v1_h_70; have qc : (v1_h_70 + 1).toInt = v1_h_70.toInt + (1 : Int32).toInt := ii_add (by omega) (by omega); rw [ex_91]; omega) αh_90 Hh_90 Lh_90 Bh_90 x_91 (by omega) ls (lv_sub hl [1, 0] rfl) rfl
              refine lv_istore_n (lv' := [(1, .int 0), (0, .ref a0)]) hx hb dX6_advance_176 rfl hl (by decide) rfl (fun ls hl => hp_n (n := 177) rfl ?_)
              exact J177 _ αh_69 Hh_69 Lh_69 Bh_69 0 (by omega) ls (lv_sub hl [1, 0] rfl) rfl
            refine lv_icmp_ge (tgt := 157) hx hb dX6_advance_104 (by decide) (fun c_92 => ?_) (fun c_92 => hp_n (n := 107) rfl ?_)
            ·
              have jc_92 := il_le c_92
              exact J157 Hh_63 Lh_63 Bh_63 ls (lv_sub hl [0] rfl)
            ·
              have jc_92 := il_nle c_92
              refine lv_aload_n hx hb dX6_advance_107 rfl (lv_at hl 0 rfl) (hp_n (n := 108) rfl ?_)
              refine q_geti (κ := 7) (k := 3) (φ := 353) (pc' := 111) C Bh_63 (cw_k Bh_63.2.2 k0) fl_X6_22 rfl rfl rfl dX6_advance_108 rfl (fun x_93 ex_93 => ?_)
              refine lv_iconst (v := 1) hx hb dX6_advance_111 (by decide) (hp_n (n := 112) rfl ?_)
              have J123 : ∀ (Hh_94 : Heap) (Lh_94 : List Loc) (Bh_94 : hp_B Γ (cw w_X6_advance) s α αh_63 Hh_94 Lh_94) (ls : Array Slot) (hl : lv_has ls 2 [(0, .ref a0), (1, .int v1_h_63)]), W p l e (hp_rm 1 0 0) s m ([.ref a0] : List Value).toArray below meth c Hh_94 Lh_94 0 0 (MQ below (hp_Qv Γ (fun β => cw w_X6_advance α β)) ([.ref a0] : List Value).toArray s 0 0 (hp_A Γ)) (F0 m 123 ls []) := by
                intro Hh_94 Lh_94 Bh_94 ls hl
                refine lv_aload_n hx hb dX6_advance_123 rfl (lv_at hl 0 rfl) (hp_n (n := 124) rfl ?_)
                refine lv_aload_n hx hb dX6_advance_124 rfl (lv_at hl 0 rfl) (hp_n (n := 125) rfl ?_)
                refine q_geti (κ := 7) (k := 2) (φ := 352) (pc' := 128) C Bh_94 (cw_k Bh_94.2.2 k0) fl_X6_19 rfl rfl rfl dX6_advance_125 rfl (fun x_95 ex_95 => ?_)
                refine q_ci (pc' := 131) Bh_94 (hp_runV (As := [.int x_95]) (rest := []) C Bh_94 (t_X6_byteAt Γ l αh_63 Bh_94.2.2.1 a0 (cw_k Bh_94.2.2 k0) x_95) lb_X6_byteAt lv_X6_byteAt lk_X6_43 (cw_k Bh_94.2.2 k0) rfl (by decide) rfl hl.1 rfl (Nat.le_of_ble_eq_true rfl) dX6_advance_128 ⟨Nat.le_refl _, Nat.le_refl _⟩) (fun _ _ h => by rw [h]; exact Bh_94.2.2) rfl (fun rh_96 αh_96 Hh_96 Lh_96 ph_96 Bh_96 => ?_)
                rw [ph_96] at Bh_96
                refine q_ci (pc' := 134) Bh_96 (hp_runS (As := [.int rh_96]) (rest := []) C Bh_96 (t_X6_kindOf Γ l αh_63 Bh_96.2.2.1 rh_96) lb_X6_kindOf ls_X6_kindOf lk_X6_51 rfl (by decide) rfl hl.1 rfl (Nat.le_of_ble_eq_true rfl) dX6_advance_131 ⟨Nat.le_refl _, Nat.le_refl _⟩) (fun _ _ h => by rw [h]; exact Bh_96.2.2) rfl (fun rh_97 αh_97 Hh_97 Lh_97 ph_97 Bh_97 => ?_)
                rw [ph_97] at Bh_97
                refine lv_aload_n hx hb dX6_advance_134 rfl (lv_at hl 0 rfl) (hp_n (n := 135) rfl ?_)
                refine q_getj (κ := 7) (k := 3) (φ := 353) (pc' := 138) C Bh_97 (cw_k Bh_97.2.2 k0) fl_X6_22 rfl rfl rfl ex_93 dX6_advance_135 rfl ?_
                refine lv_icmp_ne (tgt := 157) hx hb dX6_advance_138 (by decide) (fun c_98 => ?_) (fun c_98 => hp_n (n := 141) rfl ?_)
                ·
                  have jc_98 := il_ne c_98
                  exact J157 Hh_97 Lh_97 Bh_97 ls (lv_sub hl [0] rfl)
                ·
                  have jc_98 := il_eq c_98
                  refine lv_aload_n hx hb dX6_advance_141 rfl (lv_at hl 0 rfl) (hp_n (n := 142) rfl ?_)
                  refine lv_dup hx hb dX6_advance_142 rfl (hp_n (n := 143) rfl ?_)
                  refine q_getj (κ := 7) (k := 2) (φ := 352) (pc' := 146) C Bh_97 (cw_k Bh_97.2.2 k0) fl_X6_19 rfl rfl rfl ex_95 dX6_advance_143 rfl ?_
                  refine lv_iconst (v := 1) hx hb dX6_advance_146 (by decide) (hp_n (n := 147) rfl ?_)
                  refine lv_iadd hx hb dX6_advance_147 (hp_n (n := 148) rfl (lv_topi (fun x_99 ex_99 => ?_)))
                  refine q_puti (κ := 7) (k := 2) (φ := 352) (pc' := 151) C Bh_97 (cw_k Bh_97.2.2 k0) fl_X6_19 rfl rfl rfl rfl rfl rfl (cw_sI Bh_97.2.2 (by decide) (fun h => absurd h (by decide))) dX6_advance_148 rfl (fun αh_100 Hh_100 Lh_100 eh_100 Bh_100 => ?_)
                  obtain ⟨x_101, ex_101⟩ : ∃ y : Int32, y = v1_h_63 + 1 := ⟨_, rfl⟩
                  have qx_101 : x_101.toInt = v1_h_63.toInt + 1 := by have qa := ib_lo v1_h_63; rw [ex_101]; exact ii_add (by omega) (by omega)
                  refine lv_iinc (v := x_101) (lv' := [(1, .int x_101), (0, .ref a0)]) hx hb dX6_advance_151 hl (k := 1) rfl (by rw [ex_101]; rfl) (by decide) rfl (fun ls hl => hp_n (n := 154) rfl ?_)
                  refine lv_goto (tgt := 100) hx hb dX6_advance_154 (by decide) ?_
                  exact ih100 _ (by have qa := ib_hi v1_h_63; have qb := ib_lo v1_h_63; have qc : (v1_h_63 + 1).toInt = v1_h_63.toInt + (1 : Int32).toInt := ii_add (by omega) (by omega); rw [ex_101]; omega) αh_100 Hh_100 Lh_100 Bh_100 x_101 (by omega) ls (lv_sub hl [1, 0] rfl) rfl
              refine lv_icmp_eq (tgt := 123) hx hb dX6_advance_112 (by decide) (fun c_102 => ?_) (fun c_102 => hp_n (n := 115) rfl ?_)
              ·
                have jc_102 := il_eq c_102
                exact J123 Hh_63 Lh_63 Bh_63 ls (lv_sub hl [0, 1] rfl)
              ·
                have jc_102 := il_ne c_102
                refine lv_aload_n hx hb dX6_advance_115 rfl (lv_at hl 0 rfl) (hp_n (n := 116) rfl ?_)
                refine q_getj (κ := 7) (k := 3) (φ := 353) (pc' := 119) C Bh_63 (cw_k Bh_63.2.2 k0) fl_X6_22 rfl rfl rfl ex_93 dX6_advance_116 rfl ?_
                refine lv_iconst (v := 2) hx hb dX6_advance_119 (by decide) (hp_n (n := 120) rfl ?_)
                refine lv_icmp_ne (tgt := 157) hx hb dX6_advance_120 (by decide) (fun c_103 => ?_) (fun c_103 => hp_n (n := 123) rfl ?_)
                ·
                  have jc_103 := il_ne c_103
                  exact J157 Hh_63 Lh_63 Bh_63 ls (lv_sub hl [0] rfl)
                ·
                  have jc_103 := il_eq c_103
                  exact J123 Hh_63 Lh_63 Bh_63 ls (lv_sub hl [0, 1] rfl)
          refine lv_istore_n (lv' := [(1, .int 0), (0, .ref a0)]) hx hb dX6_advance_99 rfl hl (by decide) rfl (fun ls hl => hp_n (n := 100) rfl ?_)
          exact J100 _ αh_62 Hh_62 Lh_62 Bh_62 0 (by omega) ls (lv_sub hl [1, 0] rfl) rfl
        ·
          have jc_60 := il_eq c_60
          refine lv_iconst (v := 0) hx hb dX6_advance_89 (by decide) (hp_n (n := 90) rfl ?_)
          refine lv_goto (tgt := 94) hx hb dX6_advance_90 (by decide) ?_
          refine lv_iadd hx hb dX6_advance_94 (hp_n (n := 95) rfl (lv_topi (fun x_104 ex_104 => ?_)))
          refine q_puti (κ := 7) (k := 2) (φ := 352) (pc' := 98) C Bh_57 (cw_k Bh_57.2.2 k0) fl_X6_19 rfl rfl rfl rfl rfl rfl (cw_sI Bh_57.2.2 (by decide) (fun h => absurd h (by decide))) dX6_advance_95 rfl (fun αh_105 Hh_105 Lh_105 eh_105 Bh_105 => ?_)
          refine lv_iconst (v := 0) hx hb dX6_advance_98 (by decide) (hp_n (n := 99) rfl ?_)
          have J100 : ∀ (nq : Nat) (αh_106 : hp_T) (Hh_106 : Heap) (Lh_106 : List Loc) (Bh_106 : hp_B Γ (cw w_X6_advance) s α αh_106 Hh_106 Lh_106) (v1_h_106 : Int32) (ih_106_0 : 0 ≤ v1_h_106.toInt) (ls : Array Slot) (hl : lv_has ls 2 [(0, .ref a0), (1, .int v1_h_106)]) (hmu100 : (2147483647 - v1_h_106.toInt).toNat = nq), W p l e (hp_rm 1 0 0) s m ([.ref a0] : List Value).toArray below meth c Hh_106 Lh_106 0 0 (MQ below (hp_Qv Γ (fun β => cw w_X6_advance α β)) ([.ref a0] : List Value).toArray s 0 0 (hp_A Γ)) (F0 m 100 ls []) := by
            intro nq
            induction nq using Nat.strongRecOn with
            | ind nq ih100 =>
            intro αh_106 Hh_106 Lh_106 Bh_106 v1_h_106 ih_106_0 ls hl hmu100
            have inv100_0 := ih_106_0
            refine lv_iload_n hx hb dX6_advance_100 rfl (lv_at hl 1 rfl) (hp_n (n := 101) rfl ?_)
            refine lv_sipush (v := 900) hx hb dX6_advance_101 (by decide) (hp_n (n := 104) rfl ?_)
            have J157 : ∀ (Hh_107 : Heap) (Lh_107 : List Loc) (Bh_107 : hp_B Γ (cw w_X6_advance) s α αh_106 Hh_107 Lh_107) (ls : Array Slot) (hl : lv_has ls 2 [(0, .ref a0)]), W p l e (hp_rm 1 0 0) s m ([.ref a0] : List Value).toArray below meth c Hh_107 Lh_107 0 0 (MQ below (hp_Qv Γ (fun β => cw w_X6_advance α β)) ([.ref a0] : List Value).toArray s 0 0 (hp_A Γ)) (F0 m 157 ls []) := by
              intro Hh_107 Lh_107 Bh_107 ls hl
              refine lv_aload_n hx hb dX6_advance_157 rfl (lv_at hl 0 rfl) (hp_n (n := 158) rfl ?_)
              refine lv_aload_n hx hb dX6_advance_158 rfl (lv_at hl 0 rfl) (hp_n (n := 159) rfl ?_)
              refine q_geti (κ := 7) (k := 2) (φ := 352) (pc' := 162) C Bh_107 (cw_k Bh_107.2.2 k0) fl_X6_19 rfl rfl rfl dX6_advance_159 rfl (fun x_108 ex_108 => ?_)
              refine lv_aload_n hx hb dX6_advance_162 rfl (lv_at hl 0 rfl) (hp_n (n := 163) rfl ?_)
              refine q_geti (κ := 7) (k := 4) (φ := 354) (pc' := 166) C Bh_107 (cw_k Bh_107.2.2 k0) fl_X6_25 rfl rfl rfl dX6_advance_163 rfl (fun x_109 ex_109 => ?_)
              refine lv_isub hx hb dX6_advance_166 (hp_n (n := 167) rfl (lv_topi (fun x_110 ex_110 => ?_)))
              refine q_puti (κ := 7) (k := 5) (φ := 355) (pc' := 170) C Bh_107 (cw_k Bh_107.2.2 k0) fl_X6_28 rfl rfl rfl rfl rfl rfl (cw_sI Bh_107.2.2 (by decide) (fun h => absurd h (by decide))) dX6_advance_167 rfl (fun αh_111 Hh_111 Lh_111 eh_111 Bh_111 => ?_)
              refine lv_aload_n hx hb dX6_advance_170 rfl (lv_at hl 0 rfl) (hp_n (n := 171) rfl ?_)
              refine lv_iconst (v := 0) hx hb dX6_advance_171 (by decide) (hp_n (n := 172) rfl ?_)
              refine q_puti (κ := 7) (k := 6) (φ := 356) (pc' := 175) C Bh_111 (cw_k Bh_111.2.2 k0) fl_X6_31 rfl rfl rfl rfl rfl rfl (cw_sI Bh_111.2.2 (by decide) (fun h => absurd h (by decide))) dX6_advance_172 rfl (fun αh_112 Hh_112 Lh_112 eh_112 Bh_112 => ?_)
              refine lv_iconst (v := 0) hx hb dX6_advance_175 (by decide) (hp_n (n := 176) rfl ?_)
              have J177 : ∀ (nq : Nat) (αh_113 : hp_T) (Hh_113 : Heap) (Lh_113 : List Loc) (Bh_113 : hp_B Γ (cw w_X6_advance) s α αh_113 Hh_113 Lh_113) (v1_h_113 : Int32) (ih_113_0 : 0 ≤ v1_h_113.toInt) (ls : Array Slot) (hl : lv_has ls 2 [(0, .ref a0), (1, .int v1_h_113)]) (hmu177 : (2147483647 - v1_h_113.toInt).toNat = nq), W p l e (hp_rm 1 0 0) s m ([.ref a0] : List Value).toArray below meth c Hh_113 Lh_113 0 0 (MQ below (hp_Qv Γ (fun β => cw w_X6_advance α β)) ([.ref a0] : List Value).toArray s 0 0 (hp_A Γ)) (F0 m 177 ls []) := by
                intro nq
                induction nq using Nat.strongRecOn with
                | ind nq ih177 =>
                intro αh_113 Hh_113 Lh_113 Bh_113 v1_h_113 ih_113_0 ls hl hmu177
                have inv177_0 := ih_113_0
                refine lv_iload_n hx hb dX6_advance_177 rfl (lv_at hl 1 rfl) (hp_n (n := 178) rfl ?_)
                refine lv_aload_n hx hb dX6_advance_178 rfl (lv_at hl 0 rfl) (hp_n (n := 179) rfl ?_)
                refine q_geti (κ := 7) (k := 5) (φ := 355) (pc' := 182) C Bh_113 (cw_k Bh_113.2.2 k0) fl_X6_28 rfl rfl rfl dX6_advance_179 rfl (fun x_114 ex_114 => ?_)
                have J229 : ∀ (Hh_115 : Heap) (Lh_115 : List Loc) (Bh_115 : hp_B Γ (cw w_X6_advance) s α αh_113 Hh_115 Lh_115) (ls : Array Slot) (hl : lv_has ls 2 [(0, .ref a0)]), W p l e (hp_rm 1 0 0) s m ([.ref a0] : List Value).toArray below meth c Hh_115 Lh_115 0 0 (MQ below (hp_Qv Γ (fun β => cw w_X6_advance α β)) ([.ref a0] : List Value).toArray s 0 0 (hp_A Γ)) (F0 m 229 ls []) := by
                  intro Hh_115 Lh_115 Bh_115 ls hl
                  refine lv_aload_n hx hb dX6_advance_229 rfl (lv_at hl 0 rfl) (hp_n (n := 230) rfl ?_)
                  refine lv_aload_n hx hb dX6_advance_230 rfl (lv_at hl 0 rfl) (hp_n (n := 231) rfl ?_)
                  refine q_geti (κ := 7) (k := 3) (φ := 353) (pc' := 234) C Bh_115 (cw_k Bh_115.2.2 k0) fl_X6_22 rfl rfl rfl dX6_advance_231 rfl (fun x_116 ex_116 => ?_)
                  refine lv_iconst (v := 2) hx hb dX6_advance_234 (by decide) (hp_n (n := 235) rfl ?_)
                  refine lv_icmp_ne (tgt := 250) hx hb dX6_advance_235 (by decide) (fun c_117 => ?_) (fun c_117 => hp_n (n := 238) rfl ?_)
                  ·
                    have jc_117 := il_ne c_117
                    refine lv_aload_n hx hb dX6_advance_250 rfl (lv_at hl 0 rfl) (hp_n (n := 251) rfl ?_)
                    refine q_getj (κ := 7) (k := 3) (φ := 353) (pc' := 254) C Bh_115 (cw_k Bh_115.2.2 k0) fl_X6_22 rfl rfl rfl ex_116 dX6_advance_251 rfl ?_
                    refine q_puti (κ := 7) (k := 3) (φ := 353) (pc' := 257) C Bh_115 (cw_k Bh_115.2.2 k0) fl_X6_22 rfl rfl rfl rfl rfl rfl (cw_sI Bh_115.2.2 (by decide) (fun h => absurd h (by decide))) dX6_advance_254 rfl (fun αh_118 Hh_118 Lh_118 eh_118 Bh_118 => ?_)
                    exact q_vret C Bh_118 hr hlk Bh_118.2.2 dX6_advance_257
                  ·
                    have jc_117 := il_eq c_117
                    refine lv_aload_n hx hb dX6_advance_238 rfl (lv_at hl 0 rfl) (hp_n (n := 239) rfl ?_)
                    refine q_getj (κ := 7) (k := 5) (φ := 355) (pc' := 242) C Bh_115 (cw_k Bh_115.2.2 k0) fl_X6_28 rfl rfl rfl ex_114 dX6_advance_239 rfl ?_
                    refine lv_iconst (v := 5) hx hb dX6_advance_242 (by decide) (hp_n (n := 243) rfl ?_)
                    refine lv_icmp_le (tgt := 250) hx hb dX6_advance_243 (by decide) (fun c_119 => ?_) (fun c_119 => hp_n (n := 246) rfl ?_)
                    ·
                      have jc_119 := il_le c_119
                      refine lv_aload_n hx hb dX6_advance_250 rfl (lv_at hl 0 rfl) (hp_n (n := 251) rfl ?_)
                      refine q_getj (κ := 7) (k := 3) (φ := 353) (pc' := 254) C Bh_115 (cw_k Bh_115.2.2 k0) fl_X6_22 rfl rfl rfl ex_116 dX6_advance_251 rfl ?_
                      refine q_puti (κ := 7) (k := 3) (φ := 353) (pc' := 257) C Bh_115 (cw_k Bh_115.2.2 k0) fl_X6_22 rfl rfl rfl rfl rfl rfl (cw_sI Bh_115.2.2 (by decide) (fun h => absurd h (by decide))) dX6_advance_254 rfl (fun αh_120 Hh_120 Lh_120 eh_120 Bh_120 => ?_)
                      exact q_vret C Bh_120 hr hlk Bh_120.2.2 dX6_advance_257
                    ·
                      have jc_119 := il_nle c_119
                      refine lv_iconst (v := 4) hx hb dX6_advance_246 (by decide) (hp_n (n := 247) rfl ?_)
                      refine lv_goto (tgt := 254) hx hb dX6_advance_247 (by decide) ?_
                      refine q_puti (κ := 7) (k := 3) (φ := 353) (pc' := 257) C Bh_115 (cw_k Bh_115.2.2 k0) fl_X6_22 rfl rfl rfl rfl rfl rfl (cw_sI Bh_115.2.2 (by decide) (fun h => absurd h (by decide))) dX6_advance_254 rfl (fun αh_121 Hh_121 Lh_121 eh_121 Bh_121 => ?_)
                      exact q_vret C Bh_121 hr hlk Bh_121.2.2 dX6_advance_257
                refine lv_icmp_ge (tgt := 229) hx hb dX6_advance_182 (by decide) (fun c_122 => ?_) (fun c_122 => hp_n (n := 185) rfl ?_)
                ·
                  have jc_122 := il_le c_122
                  exact J229 Hh_113 Lh_113 Bh_113 ls (lv_sub hl [0] rfl)
                ·
                  have jc_122 := il_nle c_122
                  refine lv_iload_n hx hb dX6_advance_185 rfl (lv_at hl 1 rfl) (hp_n (n := 186) rfl ?_)
                  refine lv_iconst (v := 5) hx hb dX6_advance_186 (by decide) (hp_n (n := 187) rfl ?_)
                  refine lv_icmp_ge (tgt := 229) hx hb dX6_advance_187 (by decide) (fun c_123 => ?_) (fun c_123 => hp_n (n := 190) rfl ?_)
                  ·
                    have jc_123 := il_le c_123
                    exact J229 Hh_113 Lh_113 Bh_113 ls (lv_sub hl [0] rfl)
                  ·
                    have jc_123 := il_nle c_123
                    refine lv_aload_n hx hb dX6_advance_190 rfl (lv_at hl 0 rfl) (hp_n (n := 191) rfl ?_)
                    refine q_geti (κ := 7) (k := 3) (φ := 353) (pc' := 194) C Bh_113 (cw_k Bh_113.2.2 k0) fl_X6_22 rfl rfl rfl dX6_advance_191 rfl (fun x_124 ex_124 => ?_)
                    refine lv_iconst (v := 2) hx hb dX6_advance_194 (by decide) (hp_n (n := 195) rfl ?_)
                    refine lv_icmp_ne (tgt := 229) hx hb dX6_advance_195 (by decide) (fun c_125 => ?_) (fun c_125 => hp_n (n := 198) rfl ?_)
                    ·
                      have jc_125 := il_ne c_125
                      exact J229 Hh_113 Lh_113 Bh_113 ls (lv_sub hl [0] rfl)
                    ·
                      have jc_125 := il_eq c_125
                      refine lv_aload_n hx hb dX6_advance_198 rfl (lv_at hl 0 rfl) (hp_n (n := 199) rfl ?_)
                      refine lv_bipush (v := 10) hx hb dX6_advance_199 (by decide) (hp_n (n := 201) rfl ?_)
                      refine lv_aload_n hx hb dX6_advance_201 rfl (lv_at hl 0 rfl) (hp_n (n := 202) rfl ?_)
                      refine q_geti (κ := 7) (k := 6) (φ := 356) (pc' := 205) C Bh_113 (cw_k Bh_113.2.2 k0) fl_X6_31 rfl rfl rfl dX6_advance_202 rfl (fun x_126 ex_126 => ?_)
                      refine lv_imul hx hb dX6_advance_205 (hp_n (n := 206) rfl (lv_topi (fun x_127 ex_127 => ?_)))
                      refine lv_aload_n hx hb dX6_advance_206 rfl (lv_at hl 0 rfl) (hp_n (n := 207) rfl ?_)
                      refine lv_aload_n hx hb dX6_advance_207 rfl (lv_at hl 0 rfl) (hp_n (n := 208) rfl ?_)
                      refine q_geti (κ := 7) (k := 4) (φ := 354) (pc' := 211) C Bh_113 (cw_k Bh_113.2.2 k0) fl_X6_25 rfl rfl rfl dX6_advance_208 rfl (fun x_128 ex_128 => ?_)
                      refine lv_iload_n hx hb dX6_advance_211 rfl (lv_at hl 1 rfl) (hp_n (n := 212) rfl ?_)
                      refine lv_iadd hx hb dX6_advance_212 (hp_n (n := 213) rfl (lv_topi (fun x_129 ex_129 => ?_)))
                      refine q_ci (pc' := 216) Bh_113 (hp_runV (As := [.int x_129]) (rest := [.int x_127, .ref a0]) C Bh_113 (t_X6_byteAt Γ l αh_113 Bh_113.2.2.1 a0 (cw_k Bh_113.2.2 k0) x_129) lb_X6_byteAt lv_X6_byteAt lk_X6_43 (cw_k Bh_113.2.2 k0) rfl (by decide) rfl hl.1 rfl (Nat.le_of_ble_eq_true rfl) dX6_advance_213 ⟨Nat.le_refl _, Nat.le_refl _⟩) (fun _ _ h => by rw [h]; exact Bh_113.2.2) rfl (fun rh_130 αh_130 Hh_130 Lh_130 ph_130 Bh_130 => ?_)
                      rw [ph_130] at Bh_130
                      refine lv_iadd hx hb dX6_advance_216 (hp_n (n := 217) rfl (lv_topi (fun x_131 ex_131 => ?_)))
                      refine lv_bipush (v := 48) hx hb dX6_advance_217 (by decide) (hp_n (n := 219) rfl ?_)
                      refine lv_isub hx hb dX6_advance_219 (hp_n (n := 220) rfl (lv_topi (fun x_132 ex_132 => ?_)))
                      refine q_puti (κ := 7) (k := 6) (φ := 356) (pc' := 223) C Bh_130 (cw_k Bh_130.2.2 k0) fl_X6_31 rfl rfl rfl rfl rfl rfl (cw_sI Bh_130.2.2 (by decide) (fun h => absurd h (by decide))) dX6_advance_220 rfl (fun αh_133 Hh_133 Lh_133 eh_133 Bh_133 => ?_)
                      obtain ⟨x_134, ex_134⟩ : ∃ y : Int32, y = v1_h_113 + 1 := ⟨_, rfl⟩
                      have qx_134 : x_134.toInt = v1_h_113.toInt + 1 := by have q0 := ib_hi x_114; have qa := ib_lo v1_h_113; rw [ex_134]; exact ii_add (by omega) (by omega)
                      refine lv_iinc (v := x_134) (lv' := [(1, .int x_134), (0, .ref a0)]) hx hb dX6_advance_223 hl (k := 1) rfl (by rw [ex_134]; rfl) (by decide) rfl (fun ls hl => hp_n (n := 226) rfl ?_)
                      refine lv_goto (tgt := 177) hx hb dX6_advance_226 (by decide) ?_
                      exact ih177 _ (by have q0 := ib_hi x_114; have q1 := ib_lo x_114; have qa := ib_hi v1_h_113; have qb := ib_lo v1_h_113; have qc : (v1_h_113 + 1).toInt = v1_h_113.toInt + (1 : Int32).toInt := ii_add (by omega) (by omega); rw [ex_134]; omega) αh_133 Hh_133 Lh_133 Bh_133 x_134 (by omega) ls (lv_sub hl [1, 0] rfl) rfl
              refine lv_istore_n (lv' := [(1, .int 0), (0, .ref a0)]) hx hb dX6_advance_176 rfl hl (by decide) rfl (fun ls hl => hp_n (n := 177) rfl ?_)
              exact J177 _ αh_112 Hh_112 Lh_112 Bh_112 0 (by omega) ls (lv_sub hl [1, 0] rfl) rfl
            refine lv_icmp_ge (tgt := 157) hx hb dX6_advance_104 (by decide) (fun c_135 => ?_) (fun c_135 => hp_n (n := 107) rfl ?_)
            ·
              have jc_135 := il_le c_135
              exact J157 Hh_106 Lh_106 Bh_106 ls (lv_sub hl [0] rfl)
            ·
              have jc_135 := il_nle c_135
              refine lv_aload_n hx hb dX6_advance_107 rfl (lv_at hl 0 rfl) (hp_n (n := 108) rfl ?_)
              refine q_geti (κ := 7) (k := 3) (φ := 353) (pc' := 111) C Bh_106 (cw_k Bh_106.2.2 k0) fl_X6_22 rfl rfl rfl dX6_advance_108 rfl (fun x_136 ex_136 => ?_)
              refine lv_iconst (v := 1) hx hb dX6_advance_111 (by decide) (hp_n (n := 112) rfl ?_)
              have J123 : ∀ (Hh_137 : Heap) (Lh_137 : List Loc) (Bh_137 : hp_B Γ (cw w_X6_advance) s α αh_106 Hh_137 Lh_137) (ls : Array Slot) (hl : lv_has ls 2 [(0, .ref a0), (1, .int v1_h_106)]), W p l e (hp_rm 1 0 0) s m ([.ref a0] : List Value).toArray below meth c Hh_137 Lh_137 0 0 (MQ below (hp_Qv Γ (fun β => cw w_X6_advance α β)) ([.ref a0] : List Value).toArray s 0 0 (hp_A Γ)) (F0 m 123 ls []) := by
                intro Hh_137 Lh_137 Bh_137 ls hl
                refine lv_aload_n hx hb dX6_advance_123 rfl (lv_at hl 0 rfl) (hp_n (n := 124) rfl ?_)
                refine lv_aload_n hx hb dX6_advance_124 rfl (lv_at hl 0 rfl) (hp_n (n := 125) rfl ?_)
                refine q_geti (κ := 7) (k := 2) (φ := 352) (pc' := 128) C Bh_137 (cw_k Bh_137.2.2 k0) fl_X6_19 rfl rfl rfl dX6_advance_125 rfl (fun x_138 ex_138 => ?_)
                refine q_ci (pc' := 131) Bh_137 (hp_runV (As := [.int x_138]) (rest := []) C Bh_137 (t_X6_byteAt Γ l αh_106 Bh_137.2.2.1 a0 (cw_k Bh_137.2.2 k0) x_138) lb_X6_byteAt lv_X6_byteAt lk_X6_43 (cw_k Bh_137.2.2 k0) rfl (by decide) rfl hl.1 rfl (Nat.le_of_ble_eq_true rfl) dX6_advance_128 ⟨Nat.le_refl _, Nat.le_refl _⟩) (fun _ _ h => by rw [h]; exact Bh_137.2.2) rfl (fun rh_139 αh_139 Hh_139 Lh_139 ph_139 Bh_139 => ?_)
                rw [ph_139] at Bh_139
                refine q_ci (pc' := 134) Bh_139 (hp_runS (As := [.int rh_139]) (rest := []) C Bh_139 (t_X6_kindOf Γ l αh_106 Bh_139.2.2.1 rh_139) lb_X6_kindOf ls_X6_kindOf lk_X6_51 rfl (by decide) rfl hl.1 rfl (Nat.le_of_ble_eq_true rfl) dX6_advance_131 ⟨Nat.le_refl _, Nat.le_refl _⟩) (fun _ _ h => by rw [h]; exact Bh_139.2.2) rfl (fun rh_140 αh_140 Hh_140 Lh_140 ph_140 Bh_140 => ?_)
                rw [ph_140] at Bh_140
                refine lv_aload_n hx hb dX6_advance_134 rfl (lv_at hl 0 rfl) (hp_n (n := 135) rfl ?_)
                refine q_getj (κ := 7) (k := 3) (φ := 353) (pc' := 138) C Bh_140 (cw_k Bh_140.2.2 k0) fl_X6_22 rfl rfl rfl ex_136 dX6_advance_135 rfl ?_
                refine lv_icmp_ne (tgt := 157) hx hb dX6_advance_138 (by decide) (fun c_141 => ?_) (fun c_141 => hp_n (n := 141) rfl ?_)
                ·
                  have jc_141 := il_ne c_141
                  exact J157 Hh_140 Lh_140 Bh_140 ls (lv_sub hl [0] rfl)
                ·
                  have jc_141 := il_eq c_141
                  refine lv_aload_n hx hb dX6_advance_141 rfl (lv_at hl 0 rfl) (hp_n (n := 142) rfl ?_)
                  refine lv_dup hx hb dX6_advance_142 rfl (hp_n (n := 143) rfl ?_)
                  refine q_getj (κ := 7) (k := 2) (φ := 352) (pc' := 146) C Bh_140 (cw_k Bh_140.2.2 k0) fl_X6_19 rfl rfl rfl ex_138 dX6_advance_143 rfl ?_
                  refine lv_iconst (v := 1) hx hb dX6_advance_146 (by decide) (hp_n (n := 147) rfl ?_)
                  refine lv_iadd hx hb dX6_advance_147 (hp_n (n := 148) rfl (lv_topi (fun x_142 ex_142 => ?_)))
                  refine q_puti (κ := 7) (k := 2) (φ := 352) (pc' := 151) C Bh_140 (cw_k Bh_140.2.2 k0) fl_X6_19 rfl rfl rfl rfl rfl rfl (cw_sI Bh_140.2.2 (by decide) (fun h => absurd h (by decide))) dX6_advance_148 rfl (fun αh_143 Hh_143 Lh_143 eh_143 Bh_143 => ?_)
                  obtain ⟨x_144, ex_144⟩ : ∃ y : Int32, y = v1_h_106 + 1 := ⟨_, rfl⟩
                  have qx_144 : x_144.toInt = v1_h_106.toInt + 1 := by have qa := ib_lo v1_h_106; rw [ex_144]; exact ii_add (by omega) (by omega)
                  refine lv_iinc (v := x_144) (lv' := [(1, .int x_144), (0, .ref a0)]) hx hb dX6_advance_151 hl (k := 1) rfl (by rw [ex_144]; rfl) (by decide) rfl (fun ls hl => hp_n (n := 154) rfl ?_)
                  refine lv_goto (tgt := 100) hx hb dX6_advance_154 (by decide) ?_
                  exact ih100 _ (by have qa := ib_hi v1_h_106; have qb := ib_lo v1_h_106; have qc : (v1_h_106 + 1).toInt = v1_h_106.toInt + (1 : Int32).toInt := ii_add (by omega) (by omega); rw [ex_144]; omega) αh_143 Hh_143 Lh_143 Bh_143 x_144 (by omega) ls (lv_sub hl [1, 0] rfl) rfl
              refine lv_icmp_eq (tgt := 123) hx hb dX6_advance_112 (by decide) (fun c_145 => ?_) (fun c_145 => hp_n (n := 115) rfl ?_)
              ·
                have jc_145 := il_eq c_145
                exact J123 Hh_106 Lh_106 Bh_106 ls (lv_sub hl [0, 1] rfl)
              ·
                have jc_145 := il_ne c_145
                refine lv_aload_n hx hb dX6_advance_115 rfl (lv_at hl 0 rfl) (hp_n (n := 116) rfl ?_)
                refine q_getj (κ := 7) (k := 3) (φ := 353) (pc' := 119) C Bh_106 (cw_k Bh_106.2.2 k0) fl_X6_22 rfl rfl rfl ex_136 dX6_advance_116 rfl ?_
                refine lv_iconst (v := 2) hx hb dX6_advance_119 (by decide) (hp_n (n := 120) rfl ?_)
                refine lv_icmp_ne (tgt := 157) hx hb dX6_advance_120 (by decide) (fun c_146 => ?_) (fun c_146 => hp_n (n := 123) rfl ?_)
                ·
                  have jc_146 := il_ne c_146
                  exact J157 Hh_106 Lh_106 Bh_106 ls (lv_sub hl [0] rfl)
                ·
                  have jc_146 := il_eq c_146
                  exact J123 Hh_106 Lh_106 Bh_106 ls (lv_sub hl [0, 1] rfl)
          refine lv_istore_n (lv' := [(1, .int 0), (0, .ref a0)]) hx hb dX6_advance_99 rfl hl (by decide) rfl (fun ls hl => hp_n (n := 100) rfl ?_)
          exact J100 _ αh_105 Hh_105 Lh_105 Bh_105 0 (by omega) ls (lv_sub hl [1, 0] rfl) rfl
    refine lv_icmp_ge (tgt := 39) hx hb dX6_advance_6 (by decide) (fun c_147 => ?_) (fun c_147 => hp_n (n := 9) rfl ?_)
    ·
      have jc_147 := il_le c_147
      exact J39 Hh_1 Lh_1 Bh_1 ls (lv_sub hl [0] rfl)
    ·
      have jc_147 := il_nle c_147
      refine lv_aload_n hx hb dX6_advance_9 rfl (lv_at hl 0 rfl) (hp_n (n := 10) rfl ?_)
      refine lv_aload_n hx hb dX6_advance_10 rfl (lv_at hl 0 rfl) (hp_n (n := 11) rfl ?_)
      refine q_geti (κ := 7) (k := 2) (φ := 352) (pc' := 14) C Bh_1 (cw_k Bh_1.2.2 k0) fl_X6_19 rfl rfl rfl dX6_advance_11 rfl (fun x_148 ex_148 => ?_)
      refine q_ci (pc' := 17) Bh_1 (hp_runV (As := [.int x_148]) (rest := []) C Bh_1 (t_X6_byteAt Γ l αh_1 Bh_1.2.2.1 a0 (cw_k Bh_1.2.2 k0) x_148) lb_X6_byteAt lv_X6_byteAt lk_X6_43 (cw_k Bh_1.2.2 k0) rfl (by decide) rfl hl.1 rfl (Nat.le_of_ble_eq_true rfl) dX6_advance_14 ⟨Nat.le_refl _, Nat.le_refl _⟩) (fun _ _ h => by rw [h]; exact Bh_1.2.2) rfl (fun rh_149 αh_149 Hh_149 Lh_149 ph_149 Bh_149 => ?_)
      rw [ph_149] at Bh_149
      refine q_ci (pc' := 20) Bh_149 (hp_runS (As := [.int rh_149]) (rest := []) C Bh_149 (t_X6_isBlank Γ l αh_1 Bh_149.2.2.1 rh_149) lb_X6_isBlank ls_X6_isBlank lk_X6_47 rfl (by decide) rfl hl.1 rfl (Nat.le_of_ble_eq_true rfl) dX6_advance_17 ⟨Nat.le_refl _, Nat.le_refl _⟩) (fun _ _ h => by rw [h.1]; exact Bh_149.2.2) rfl (fun rh_150 αh_150 Hh_150 Lh_150 ph_150 Bh_150 => ?_)
      rw [ph_150.1] at Bh_150
      have zh_150 := ph_150.2
      refine lv_if_eq (tgt := 39) hx hb dX6_advance_20 (by decide) (fun c_151 => ?_) (fun c_151 => hp_n (n := 23) rfl ?_)
      ·
        have jc_151 := il_eq c_151
        exact J39 Hh_150 Lh_150 Bh_150 ls (lv_sub hl [0] rfl)
      ·
        have jc_151 := il_ne c_151
        refine lv_aload_n hx hb dX6_advance_23 rfl (lv_at hl 0 rfl) (hp_n (n := 24) rfl ?_)
        refine lv_dup hx hb dX6_advance_24 rfl (hp_n (n := 25) rfl ?_)
        refine q_getj (κ := 7) (k := 2) (φ := 352) (pc' := 28) C Bh_150 (cw_k Bh_150.2.2 k0) fl_X6_19 rfl rfl rfl ex_148 dX6_advance_25 rfl ?_
        refine lv_iconst (v := 1) hx hb dX6_advance_28 (by decide) (hp_n (n := 29) rfl ?_)
        refine lv_iadd hx hb dX6_advance_29 (hp_n (n := 30) rfl (lv_topi (fun x_152 ex_152 => ?_)))
        refine q_puti (κ := 7) (k := 2) (φ := 352) (pc' := 33) C Bh_150 (cw_k Bh_150.2.2 k0) fl_X6_19 rfl rfl rfl rfl rfl rfl (cw_sI Bh_150.2.2 (by decide) (fun h => absurd h (by decide))) dX6_advance_30 rfl (fun αh_153 Hh_153 Lh_153 eh_153 Bh_153 => ?_)
        obtain ⟨x_154, ex_154⟩ : ∃ y : Int32, y = v1_h_1 + 1 := ⟨_, rfl⟩
        have qx_154 : x_154.toInt = v1_h_1.toInt + 1 := by have qa := ib_lo v1_h_1; rw [ex_154]; exact ii_add (by omega) (by omega)
        refine lv_iinc (v := x_154) (lv' := [(1, .int x_154), (0, .ref a0)]) hx hb dX6_advance_33 hl (k := 1) rfl (by rw [ex_154]; rfl) (by decide) rfl (fun ls hl => hp_n (n := 36) rfl ?_)
        refine lv_goto (tgt := 2) hx hb dX6_advance_36 (by decide) ?_
        exact ih2 _ (by have qa := ib_hi v1_h_1; have qb := ib_lo v1_h_1; have qc : (v1_h_1 + 1).toInt = v1_h_1.toInt + (1 : Int32).toInt := ii_add (by omega) (by omega); rw [ex_154]; omega) αh_153 Hh_153 Lh_153 Bh_153 x_154 (by omega) ls (lv_sub hl [1, 0] rfl) rfl
  refine lv_istore_n (lv' := [(1, .int 0), (0, .ref a0)]) hx hb dX6_advance_1 rfl hl (by decide) rfl (fun ls hl => hp_n (n := 2) rfl ?_)
  exact J2 _ α s.heap [] B 0 (by omega) ls (lv_sub hl [1, 0] rfl) rfl
abbrev w_X6_spells : cw_W := ([], [], [], [])
set_option maxRecDepth 100000 in
set_option maxHeartbeats 4000000 in
theorem t_X6_spells (Γ : hp_G) (l : Launch) (α : hp_T) (g : GC α) (a0 : Nat) (k0 : hp_K α a0 = 7) (i1 : Nat) (h1 : i1 < 21) : Met l yX6_spells (hp_ws yX6_spells cX6_spells 4 (some .boolean)) (hp_rm 4 0 0) (hp_Pc Γ α [.ref a0, .ref (Γ.2.2.2.2.1 i1)]) (hp_Qi Γ (fun r β => β = α ∧ (r = 0 ∨ r = 1))) 0 0 (hp_A Γ) := by
  refine hp_start (by decide) ?_
  intro p e s m below meth c C hr hlk B0 hnm
  have C : hp_C Γ p m c cX6_spells 4 s ([.ref a0, .ref (Γ.2.2.2.2.1 i1)] : List Value).toArray RX6 := C
  have hx := C.1.1
  have hb := C.1.2.1
  have hown := C.1.2.2.2.1
  have hts := C.1.2.2.2.2
  have B : hp_B Γ (cw w_X6_spells) s α α s.heap [] := ⟨B0.1, B0.2.1, cw_rf g⟩
  have lit0 : (0 : Int32).toInt = 0 := by decide
  have lit1 : (1 : Int32).toInt = 1 := by decide
  have hl := lv_entry ([.ref a0, .ref (Γ.2.2.2.2.1 i1)]) (n := 4) (Nat.le_of_ble_eq_true rfl)
  show W p l e (hp_rm 4 0 0) s m ([.ref a0, .ref (Γ.2.2.2.2.1 i1)] : List Value).toArray below meth c s.heap [] 0 0 (MQ below (hp_Qi Γ (fun r β => β = α ∧ (r = 0 ∨ r = 1))) ([.ref a0, .ref (Γ.2.2.2.2.1 i1)] : List Value).toArray s 0 0 (hp_A Γ)) (entryFrame m ([.ref a0, .ref (Γ.2.2.2.2.1 i1)] : List Value).toArray 4)
  rw [lg_entry_eq]
  generalize (lg_sl ([.ref a0, .ref (Γ.2.2.2.2.1 i1)]) ++ List.replicate (4 - (lg_sl ([.ref a0, .ref (Γ.2.2.2.2.1 i1)])).length) Slot.unset).toArray = ls at hl ⊢
  have hl : lv_has ls 4 [(0, .ref a0), (1, .ref (Γ.2.2.2.2.1 i1))] := hl
  refine lv_aload_n hx hb dX6_spells_0 rfl (lv_at hl 0 rfl) (hp_n (n := 1) rfl ?_)
  refine q_geti (κ := 7) (k := 3) (φ := 353) (pc' := 4) C B (cw_k B.2.2 k0) fl_X6_22 rfl rfl rfl dX6_spells_1 rfl (fun x_1 ex_1 => ?_)
  refine lv_iconst (v := 1) hx hb dX6_spells_4 (by decide) (hp_n (n := 5) rfl ?_)
  refine lv_icmp_ne (tgt := 23) hx hb dX6_spells_5 (by decide) (fun c_2 => ?_) (fun c_2 => hp_n (n := 8) rfl ?_)
  ·
    have jc_2 := il_ne c_2
    refine lv_iconst (v := 0) hx hb dX6_spells_23 (by decide) (hp_n (n := 24) rfl ?_)
    refine lv_istore_n (lv' := [(2, .int 0), (0, .ref a0), (1, .ref (Γ.2.2.2.2.1 i1))]) hx hb dX6_spells_24 rfl hl (by decide) rfl (fun ls hl => hp_n (n := 25) rfl ?_)
    refine lv_iconst (v := 0) hx hb dX6_spells_25 (by decide) (hp_n (n := 26) rfl ?_)
    have J27 : ∀ (nq : Nat) (Hh_3 : Heap) (Lh_3 : List Loc) (Bh_3 : hp_B Γ (cw w_X6_spells) s α α Hh_3 Lh_3) (v2_h_3 : Int32) (zv2_h_3 : v2_h_3 = 0 ∨ v2_h_3 = 1) (v3_h_3 : Int32) (ih_3_0 : 0 ≤ v3_h_3.toInt) (ls : Array Slot) (hl : lv_has ls 4 [(0, .ref a0), (1, .ref (Γ.2.2.2.2.1 i1)), (2, .int v2_h_3), (3, .int v3_h_3)]) (hmu27 : (2147483647 - v3_h_3.toInt).toNat = nq), W p l e (hp_rm 4 0 0) s m ([.ref a0, .ref (Γ.2.2.2.2.1 i1)] : List Value).toArray below meth c Hh_3 Lh_3 0 0 (MQ below (hp_Qi Γ (fun r β => β = α ∧ (r = 0 ∨ r = 1))) ([.ref a0, .ref (Γ.2.2.2.2.1 i1)] : List Value).toArray s 0 0 (hp_A Γ)) (F0 m 27 ls []) := by
      intro nq
      induction nq using Nat.strongRecOn with
      | ind nq ih27 =>
      intro Hh_3 Lh_3 Bh_3 v2_h_3 zv2_h_3 v3_h_3 ih_3_0 ls hl hmu27
      have inv27_0 := ih_3_0
      refine lv_iload_n hx hb dX6_spells_27 rfl (lv_at hl 3 rfl) (hp_n (n := 28) rfl ?_)
      refine lv_aload_n hx hb dX6_spells_28 rfl (lv_at hl 1 rfl) (hp_n (n := 29) rfl ?_)
      refine q_ci (pc' := 32) Bh_3 (hp_runT (i := i1) (As := []) (rest := [.int v3_h_3]) C B0.1 Bh_3 h1 (t_J0_length_8abf5 Γ l α i1 h1) lb_J0_length_8abf5 li_J0_length_8abf5 sx_J0_length_8abf5 rfl lk_X6_54 rfl (by decide) rfl hl.1 rfl (Nat.le_of_ble_eq_true rfl) dX6_spells_29 ⟨Nat.le_refl _, Nat.le_refl _⟩) (fun _ _ h => by rw [h.1]; exact Bh_3.2.2) rfl (fun rh_4 αh_4 Hh_4 Lh_4 ph_4 Bh_4 => ?_)
      rw [ph_4.1] at Bh_4
      have lnh_4 : rh_4.toInt = (hp_len i1).toInt := by rw [ph_4.2]
      refine lv_icmp_ge (tgt := 69) hx hb dX6_spells_32 (by decide) (fun c_5 => ?_) (fun c_5 => hp_n (n := 35) rfl ?_)
      ·
        have jc_5 := il_le c_5
        refine lv_iload_n hx hb dX6_spells_69 rfl (lv_at hl 2 rfl) (hp_n (n := 70) rfl ?_)
        exact q_zret C Bh_4 hr hlk (nz_z zv2_h_3) ⟨rfl, zv2_h_3⟩ dX6_spells_70
      ·
        have jc_5 := il_nle c_5
        refine lv_iload_n hx hb dX6_spells_35 rfl (lv_at hl 2 rfl) (hp_n (n := 36) rfl ?_)
        refine lv_if_eq (tgt := 69) hx hb dX6_spells_36 (by decide) (fun c_6 => ?_) (fun c_6 => hp_n (n := 39) rfl ?_)
        ·
          have jc_6 := il_eq c_6
          refine lv_iload_n hx hb dX6_spells_69 rfl (lv_at hl 2 rfl) (hp_n (n := 70) rfl ?_)
          exact q_zret C Bh_4 hr hlk (nz_z zv2_h_3) ⟨rfl, zv2_h_3⟩ dX6_spells_70
        ·
          have jc_6 := il_ne c_6
          refine lv_aload_n hx hb dX6_spells_39 rfl (lv_at hl 0 rfl) (hp_n (n := 40) rfl ?_)
          refine lv_aload_n hx hb dX6_spells_40 rfl (lv_at hl 0 rfl) (hp_n (n := 41) rfl ?_)
          refine q_geti (κ := 7) (k := 4) (φ := 354) (pc' := 44) C Bh_4 (cw_k Bh_4.2.2 k0) fl_X6_25 rfl rfl rfl dX6_spells_41 rfl (fun x_7 ex_7 => ?_)
          refine lv_iload_n hx hb dX6_spells_44 rfl (lv_at hl 3 rfl) (hp_n (n := 45) rfl ?_)
          refine lv_iadd hx hb dX6_spells_45 (hp_n (n := 46) rfl (lv_topi (fun x_8 ex_8 => ?_)))
          refine q_ci (pc' := 49) Bh_4 (hp_runV (As := [.int x_8]) (rest := []) C Bh_4 (t_X6_byteAt Γ l α Bh_4.2.2.1 a0 (cw_k Bh_4.2.2 k0) x_8) lb_X6_byteAt lv_X6_byteAt lk_X6_43 (cw_k Bh_4.2.2 k0) rfl (by decide) rfl hl.1 rfl (Nat.le_of_ble_eq_true rfl) dX6_spells_46 ⟨Nat.le_refl _, Nat.le_refl _⟩) (fun _ _ h => by rw [h]; exact Bh_4.2.2) rfl (fun rh_9 αh_9 Hh_9 Lh_9 ph_9 Bh_9 => ?_)
          rw [ph_9] at Bh_9
          refine lv_aload_n hx hb dX6_spells_49 rfl (lv_at hl 1 rfl) (hp_n (n := 50) rfl ?_)
          refine lv_iload_n hx hb dX6_spells_50 rfl (lv_at hl 3 rfl) (hp_n (n := 51) rfl ?_)
          refine q_ci (pc' := 54) Bh_9 (hp_runT (i := i1) (As := [.int v3_h_3]) (rest := [.int rh_9]) C B0.1 Bh_9 h1 (t_J0_charAt_5068e Γ l α i1 h1 v3_h_3 (by omega) (by omega)) lb_J0_charAt_5068e li_J0_charAt_5068e sx_J0_charAt_5068e rfl lk_X6_59 rfl (by decide) rfl hl.1 rfl (Nat.le_of_ble_eq_true rfl) dX6_spells_51 ⟨Nat.le_refl _, Nat.le_refl _⟩) (fun _ _ h => by rw [h.1]; exact Bh_9.2.2) rfl (fun rh_10 αh_10 Hh_10 Lh_10 ph_10 Bh_10 => ?_)
          rw [ph_10.1] at Bh_10
          refine lv_icmp_ne (tgt := 61) hx hb dX6_spells_54 (by decide) (fun c_11 => ?_) (fun c_11 => hp_n (n := 57) rfl ?_)
          ·
            have jc_11 := il_ne c_11
            refine lv_iconst (v := 0) hx hb dX6_spells_61 (by decide) (hp_n (n := 62) rfl ?_)
            refine lv_istore_n (lv' := [(2, .int 0), (0, .ref a0), (1, .ref (Γ.2.2.2.2.1 i1)), (3, .int v3_h_3)]) hx hb dX6_spells_62 rfl hl (by decide) rfl (fun ls hl => hp_n (n := 63) rfl ?_)
            obtain ⟨x_12, ex_12⟩ : ∃ y : Int32, y = v3_h_3 + 1 := ⟨_, rfl⟩
            have qx_12 : x_12.toInt = v3_h_3.toInt + 1 := by have q0 := ib_hi rh_4; have qa := ib_lo v3_h_3; rw [ex_12]; exact ii_add (by omega) (by omega)
            refine lv_iinc (v := x_12) (lv' := [(3, .int x_12), (2, .int 0), (0, .ref a0), (1, .ref (Γ.2.2.2.2.1 i1))]) hx hb dX6_spells_63 hl (k := 3) rfl (by rw [ex_12]; rfl) (by decide) rfl (fun ls hl => hp_n (n := 66) rfl ?_)
            refine lv_goto (tgt := 27) hx hb dX6_spells_66 (by decide) ?_
            exact ih27 _ (by have q0 := ib_hi rh_4; have q1 := ib_lo rh_4; have qa := ib_hi v3_h_3; have qb := ib_lo v3_h_3; have qc : (v3_h_3 + 1).toInt = v3_h_3.toInt + (1 : Int32).toInt := ii_add (by omega) (by omega); rw [ex_12]; omega) Hh_10 Lh_10 Bh_10 0 (Or.inl rfl) x_12 (by omega) ls (lv_sub hl [2, 3, 1, 0] rfl) rfl
          ·
            have jc_11 := il_eq c_11
            refine lv_iconst (v := 1) hx hb dX6_spells_57 (by decide) (hp_n (n := 58) rfl ?_)
            refine lv_goto (tgt := 62) hx hb dX6_spells_58 (by decide) ?_
            refine lv_istore_n (lv' := [(2, .int 1), (0, .ref a0), (1, .ref (Γ.2.2.2.2.1 i1)), (3, .int v3_h_3)]) hx hb dX6_spells_62 rfl hl (by decide) rfl (fun ls hl => hp_n (n := 63) rfl ?_)
            obtain ⟨x_13, ex_13⟩ : ∃ y : Int32, y = v3_h_3 + 1 := ⟨_, rfl⟩
            have qx_13 : x_13.toInt = v3_h_3.toInt + 1 := by have q0 := ib_hi rh_4; have qa := ib_lo v3_h_3; rw [ex_13]; exact ii_add (by omega) (by omega)
            refine lv_iinc (v := x_13) (lv' := [(3, .int x_13), (2, .int 1), (0, .ref a0), (1, .ref (Γ.2.2.2.2.1 i1))]) hx hb dX6_spells_63 hl (k := 3) rfl (by rw [ex_13]; rfl) (by decide) rfl (fun ls hl => hp_n (n := 66) rfl ?_)
            refine lv_goto (tgt := 27) hx hb dX6_spells_66 (by decide) ?_
            exact ih27 _ (by have q0 := ib_hi rh_4; have q1 := ib_lo rh_4; have qa := ib_hi v3_h_3; have qb := ib_lo v3_h_3; have qc : (v3_h_3 + 1).toInt = v3_h_3.toInt + (1 : Int32).toInt := ii_add (by omega) (by omega); rw [ex_13]; omega) Hh_10 Lh_10 Bh_10 1 (Or.inr rfl) x_13 (by omega) ls (lv_sub hl [2, 3, 1, 0] rfl) rfl
    refine lv_istore_n (lv' := [(3, .int 0), (2, .int 0), (0, .ref a0), (1, .ref (Γ.2.2.2.2.1 i1))]) hx hb dX6_spells_26 rfl hl (by decide) rfl (fun ls hl => hp_n (n := 27) rfl ?_)
    exact J27 _ s.heap [] B 0 (Or.inl rfl) 0 (by omega) ls (lv_sub hl [2, 3, 1, 0] rfl) rfl
  ·
    have jc_2 := il_eq c_2
    refine lv_aload_n hx hb dX6_spells_8 rfl (lv_at hl 0 rfl) (hp_n (n := 9) rfl ?_)
    refine q_geti (κ := 7) (k := 5) (φ := 355) (pc' := 12) C B (cw_k B.2.2 k0) fl_X6_28 rfl rfl rfl dX6_spells_9 rfl (fun x_14 ex_14 => ?_)
    refine lv_aload_n hx hb dX6_spells_12 rfl (lv_at hl 1 rfl) (hp_n (n := 13) rfl ?_)
    refine q_ci (pc' := 16) B (hp_runT (i := i1) (As := []) (rest := [.int x_14]) C B0.1 B h1 (t_J0_length_8abf5 Γ l α i1 h1) lb_J0_length_8abf5 li_J0_length_8abf5 sx_J0_length_8abf5 rfl lk_X6_54 rfl (by decide) rfl hl.1 rfl (Nat.le_of_ble_eq_true rfl) dX6_spells_13 ⟨Nat.le_refl _, Nat.le_refl _⟩) (fun _ _ h => by rw [h.1]; exact B.2.2) rfl (fun rh_15 αh_15 Hh_15 Lh_15 ph_15 Bh_15 => ?_)
    rw [ph_15.1] at Bh_15
    have lnh_15 : rh_15.toInt = (hp_len i1).toInt := by rw [ph_15.2]
    refine lv_icmp_ne (tgt := 23) hx hb dX6_spells_16 (by decide) (fun c_16 => ?_) (fun c_16 => hp_n (n := 19) rfl ?_)
    ·
      have jc_16 := il_ne c_16
      refine lv_iconst (v := 0) hx hb dX6_spells_23 (by decide) (hp_n (n := 24) rfl ?_)
      refine lv_istore_n (lv' := [(2, .int 0), (0, .ref a0), (1, .ref (Γ.2.2.2.2.1 i1))]) hx hb dX6_spells_24 rfl hl (by decide) rfl (fun ls hl => hp_n (n := 25) rfl ?_)
      refine lv_iconst (v := 0) hx hb dX6_spells_25 (by decide) (hp_n (n := 26) rfl ?_)
      have J27 : ∀ (nq : Nat) (Hh_17 : Heap) (Lh_17 : List Loc) (Bh_17 : hp_B Γ (cw w_X6_spells) s α α Hh_17 Lh_17) (v2_h_17 : Int32) (zv2_h_17 : v2_h_17 = 0 ∨ v2_h_17 = 1) (v3_h_17 : Int32) (ih_17_0 : 0 ≤ v3_h_17.toInt) (ls : Array Slot) (hl : lv_has ls 4 [(0, .ref a0), (1, .ref (Γ.2.2.2.2.1 i1)), (2, .int v2_h_17), (3, .int v3_h_17)]) (hmu27 : (2147483647 - v3_h_17.toInt).toNat = nq), W p l e (hp_rm 4 0 0) s m ([.ref a0, .ref (Γ.2.2.2.2.1 i1)] : List Value).toArray below meth c Hh_17 Lh_17 0 0 (MQ below (hp_Qi Γ (fun r β => β = α ∧ (r = 0 ∨ r = 1))) ([.ref a0, .ref (Γ.2.2.2.2.1 i1)] : List Value).toArray s 0 0 (hp_A Γ)) (F0 m 27 ls []) := by
        intro nq
        induction nq using Nat.strongRecOn with
        | ind nq ih27 =>
        intro Hh_17 Lh_17 Bh_17 v2_h_17 zv2_h_17 v3_h_17 ih_17_0 ls hl hmu27
        have inv27_0 := ih_17_0
        refine lv_iload_n hx hb dX6_spells_27 rfl (lv_at hl 3 rfl) (hp_n (n := 28) rfl ?_)
        refine lv_aload_n hx hb dX6_spells_28 rfl (lv_at hl 1 rfl) (hp_n (n := 29) rfl ?_)
        refine q_ci (pc' := 32) Bh_17 (hp_runT (i := i1) (As := []) (rest := [.int v3_h_17]) C B0.1 Bh_17 h1 (t_J0_length_8abf5 Γ l α i1 h1) lb_J0_length_8abf5 li_J0_length_8abf5 sx_J0_length_8abf5 rfl lk_X6_54 rfl (by decide) rfl hl.1 rfl (Nat.le_of_ble_eq_true rfl) dX6_spells_29 ⟨Nat.le_refl _, Nat.le_refl _⟩) (fun _ _ h => by rw [h.1]; exact Bh_17.2.2) rfl (fun rh_18 αh_18 Hh_18 Lh_18 ph_18 Bh_18 => ?_)
        rw [ph_18.1] at Bh_18
        have lnh_18 : rh_18.toInt = (hp_len i1).toInt := by rw [ph_18.2]
        refine lv_icmp_ge (tgt := 69) hx hb dX6_spells_32 (by decide) (fun c_19 => ?_) (fun c_19 => hp_n (n := 35) rfl ?_)
        ·
          have jc_19 := il_le c_19
          refine lv_iload_n hx hb dX6_spells_69 rfl (lv_at hl 2 rfl) (hp_n (n := 70) rfl ?_)
          exact q_zret C Bh_18 hr hlk (nz_z zv2_h_17) ⟨rfl, zv2_h_17⟩ dX6_spells_70
        ·
          have jc_19 := il_nle c_19
          refine lv_iload_n hx hb dX6_spells_35 rfl (lv_at hl 2 rfl) (hp_n (n := 36) rfl ?_)
          refine lv_if_eq (tgt := 69) hx hb dX6_spells_36 (by decide) (fun c_20 => ?_) (fun c_20 => hp_n (n := 39) rfl ?_)
          ·
            have jc_20 := il_eq c_20
            refine lv_iload_n hx hb dX6_spells_69 rfl (lv_at hl 2 rfl) (hp_n (n := 70) rfl ?_)
            exact q_zret C Bh_18 hr hlk (nz_z zv2_h_17) ⟨rfl, zv2_h_17⟩ dX6_spells_70
          ·
            have jc_20 := il_ne c_20
            refine lv_aload_n hx hb dX6_spells_39 rfl (lv_at hl 0 rfl) (hp_n (n := 40) rfl ?_)
            refine lv_aload_n hx hb dX6_spells_40 rfl (lv_at hl 0 rfl) (hp_n (n := 41) rfl ?_)
            refine q_geti (κ := 7) (k := 4) (φ := 354) (pc' := 44) C Bh_18 (cw_k Bh_18.2.2 k0) fl_X6_25 rfl rfl rfl dX6_spells_41 rfl (fun x_21 ex_21 => ?_)
            refine lv_iload_n hx hb dX6_spells_44 rfl (lv_at hl 3 rfl) (hp_n (n := 45) rfl ?_)
            refine lv_iadd hx hb dX6_spells_45 (hp_n (n := 46) rfl (lv_topi (fun x_22 ex_22 => ?_)))
            refine q_ci (pc' := 49) Bh_18 (hp_runV (As := [.int x_22]) (rest := []) C Bh_18 (t_X6_byteAt Γ l α Bh_18.2.2.1 a0 (cw_k Bh_18.2.2 k0) x_22) lb_X6_byteAt lv_X6_byteAt lk_X6_43 (cw_k Bh_18.2.2 k0) rfl (by decide) rfl hl.1 rfl (Nat.le_of_ble_eq_true rfl) dX6_spells_46 ⟨Nat.le_refl _, Nat.le_refl _⟩) (fun _ _ h => by rw [h]; exact Bh_18.2.2) rfl (fun rh_23 αh_23 Hh_23 Lh_23 ph_23 Bh_23 => ?_)
            rw [ph_23] at Bh_23
            refine lv_aload_n hx hb dX6_spells_49 rfl (lv_at hl 1 rfl) (hp_n (n := 50) rfl ?_)
            refine lv_iload_n hx hb dX6_spells_50 rfl (lv_at hl 3 rfl) (hp_n (n := 51) rfl ?_)
            refine q_ci (pc' := 54) Bh_23 (hp_runT (i := i1) (As := [.int v3_h_17]) (rest := [.int rh_23]) C B0.1 Bh_23 h1 (t_J0_charAt_5068e Γ l α i1 h1 v3_h_17 (by omega) (by omega)) lb_J0_charAt_5068e li_J0_charAt_5068e sx_J0_charAt_5068e rfl lk_X6_59 rfl (by decide) rfl hl.1 rfl (Nat.le_of_ble_eq_true rfl) dX6_spells_51 ⟨Nat.le_refl _, Nat.le_refl _⟩) (fun _ _ h => by rw [h.1]; exact Bh_23.2.2) rfl (fun rh_24 αh_24 Hh_24 Lh_24 ph_24 Bh_24 => ?_)
            rw [ph_24.1] at Bh_24
            refine lv_icmp_ne (tgt := 61) hx hb dX6_spells_54 (by decide) (fun c_25 => ?_) (fun c_25 => hp_n (n := 57) rfl ?_)
            ·
              have jc_25 := il_ne c_25
              refine lv_iconst (v := 0) hx hb dX6_spells_61 (by decide) (hp_n (n := 62) rfl ?_)
              refine lv_istore_n (lv' := [(2, .int 0), (0, .ref a0), (1, .ref (Γ.2.2.2.2.1 i1)), (3, .int v3_h_17)]) hx hb dX6_spells_62 rfl hl (by decide) rfl (fun ls hl => hp_n (n := 63) rfl ?_)
              obtain ⟨x_26, ex_26⟩ : ∃ y : Int32, y = v3_h_17 + 1 := ⟨_, rfl⟩
              have qx_26 : x_26.toInt = v3_h_17.toInt + 1 := by have q0 := ib_hi rh_18; have qa := ib_lo v3_h_17; rw [ex_26]; exact ii_add (by omega) (by omega)
              refine lv_iinc (v := x_26) (lv' := [(3, .int x_26), (2, .int 0), (0, .ref a0), (1, .ref (Γ.2.2.2.2.1 i1))]) hx hb dX6_spells_63 hl (k := 3) rfl (by rw [ex_26]; rfl) (by decide) rfl (fun ls hl => hp_n (n := 66) rfl ?_)
              refine lv_goto (tgt := 27) hx hb dX6_spells_66 (by decide) ?_
              exact ih27 _ (by have q0 := ib_hi rh_18; have q1 := ib_lo rh_18; have qa := ib_hi v3_h_17; have qb := ib_lo v3_h_17; have qc : (v3_h_17 + 1).toInt = v3_h_17.toInt + (1 : Int32).toInt := ii_add (by omega) (by omega); rw [ex_26]; omega) Hh_24 Lh_24 Bh_24 0 (Or.inl rfl) x_26 (by omega) ls (lv_sub hl [2, 3, 1, 0] rfl) rfl
            ·
              have jc_25 := il_eq c_25
              refine lv_iconst (v := 1) hx hb dX6_spells_57 (by decide) (hp_n (n := 58) rfl ?_)
              refine lv_goto (tgt := 62) hx hb dX6_spells_58 (by decide) ?_
              refine lv_istore_n (lv' := [(2, .int 1), (0, .ref a0), (1, .ref (Γ.2.2.2.2.1 i1)), (3, .int v3_h_17)]) hx hb dX6_spells_62 rfl hl (by decide) rfl (fun ls hl => hp_n (n := 63) rfl ?_)
              obtain ⟨x_27, ex_27⟩ : ∃ y : Int32, y = v3_h_17 + 1 := ⟨_, rfl⟩
              have qx_27 : x_27.toInt = v3_h_17.toInt + 1 := by have q0 := ib_hi rh_18; have qa := ib_lo v3_h_17; rw [ex_27]; exact ii_add (by omega) (by omega)
              refine lv_iinc (v := x_27) (lv' := [(3, .int x_27), (2, .int 1), (0, .ref a0), (1, .ref (Γ.2.2.2.2.1 i1))]) hx hb dX6_spells_63 hl (k := 3) rfl (by rw [ex_27]; rfl) (by decide) rfl (fun ls hl => hp_n (n := 66) rfl ?_)
              refine lv_goto (tgt := 27) hx hb dX6_spells_66 (by decide) ?_
              exact ih27 _ (by have q0 := ib_hi rh_18; have q1 := ib_lo rh_18; have qa := ib_hi v3_h_17; have qb := ib_lo v3_h_17; have qc : (v3_h_17 + 1).toInt = v3_h_17.toInt + (1 : Int32).toInt := ii_add (by omega) (by omega); rw [ex_27]; omega) Hh_24 Lh_24 Bh_24 1 (Or.inr rfl) x_27 (by omega) ls (lv_sub hl [2, 3, 1, 0] rfl) rfl
      refine lv_istore_n (lv' := [(3, .int 0), (2, .int 0), (0, .ref a0), (1, .ref (Γ.2.2.2.2.1 i1))]) hx hb dX6_spells_26 rfl hl (by decide) rfl (fun ls hl => hp_n (n := 27) rfl ?_)
      exact J27 _ Hh_15 Lh_15 Bh_15 0 (Or.inl rfl) 0 (by omega) ls (lv_sub hl [2, 3, 1, 0] rfl) rfl
    ·
      have jc_16 := il_eq c_16
      refine lv_iconst (v := 1) hx hb dX6_spells_19 (by decide) (hp_n (n := 20) rfl ?_)
      refine lv_goto (tgt := 24) hx hb dX6_spells_20 (by decide) ?_
      refine lv_istore_n (lv' := [(2, .int 1), (0, .ref a0), (1, .ref (Γ.2.2.2.2.1 i1))]) hx hb dX6_spells_24 rfl hl (by decide) rfl (fun ls hl => hp_n (n := 25) rfl ?_)
      refine lv_iconst (v := 0) hx hb dX6_spells_25 (by decide) (hp_n (n := 26) rfl ?_)
      have J27 : ∀ (nq : Nat) (Hh_28 : Heap) (Lh_28 : List Loc) (Bh_28 : hp_B Γ (cw w_X6_spells) s α α Hh_28 Lh_28) (v2_h_28 : Int32) (zv2_h_28 : v2_h_28 = 0 ∨ v2_h_28 = 1) (v3_h_28 : Int32) (ih_28_0 : 0 ≤ v3_h_28.toInt) (ls : Array Slot) (hl : lv_has ls 4 [(0, .ref a0), (1, .ref (Γ.2.2.2.2.1 i1)), (2, .int v2_h_28), (3, .int v3_h_28)]) (hmu27 : (2147483647 - v3_h_28.toInt).toNat = nq), W p l e (hp_rm 4 0 0) s m ([.ref a0, .ref (Γ.2.2.2.2.1 i1)] : List Value).toArray below meth c Hh_28 Lh_28 0 0 (MQ below (hp_Qi Γ (fun r β => β = α ∧ (r = 0 ∨ r = 1))) ([.ref a0, .ref (Γ.2.2.2.2.1 i1)] : List Value).toArray s 0 0 (hp_A Γ)) (F0 m 27 ls []) := by
        intro nq
        induction nq using Nat.strongRecOn with
        | ind nq ih27 =>
        intro Hh_28 Lh_28 Bh_28 v2_h_28 zv2_h_28 v3_h_28 ih_28_0 ls hl hmu27
        have inv27_0 := ih_28_0
        refine lv_iload_n hx hb dX6_spells_27 rfl (lv_at hl 3 rfl) (hp_n (n := 28) rfl ?_)
        refine lv_aload_n hx hb dX6_spells_28 rfl (lv_at hl 1 rfl) (hp_n (n := 29) rfl ?_)
        refine q_ci (pc' := 32) Bh_28 (hp_runT (i := i1) (As := []) (rest := [.int v3_h_28]) C B0.1 Bh_28 h1 (t_J0_length_8abf5 Γ l α i1 h1) lb_J0_length_8abf5 li_J0_length_8abf5 sx_J0_length_8abf5 rfl lk_X6_54 rfl (by decide) rfl hl.1 rfl (Nat.le_of_ble_eq_true rfl) dX6_spells_29 ⟨Nat.le_refl _, Nat.le_refl _⟩) (fun _ _ h => by rw [h.1]; exact Bh_28.2.2) rfl (fun rh_29 αh_29 Hh_29 Lh_29 ph_29 Bh_29 => ?_)
        rw [ph_29.1] at Bh_29
        have lnh_29 : rh_29.toInt = (hp_len i1).toInt := by rw [ph_29.2]
        refine lv_icmp_ge (tgt := 69) hx hb dX6_spells_32 (by decide) (fun c_30 => ?_) (fun c_30 => hp_n (n := 35) rfl ?_)
        ·
          have jc_30 := il_le c_30
          refine lv_iload_n hx hb dX6_spells_69 rfl (lv_at hl 2 rfl) (hp_n (n := 70) rfl ?_)
          exact q_zret C Bh_29 hr hlk (nz_z zv2_h_28) ⟨rfl, zv2_h_28⟩ dX6_spells_70
        ·
          have jc_30 := il_nle c_30
          refine lv_iload_n hx hb dX6_spells_35 rfl (lv_at hl 2 rfl) (hp_n (n := 36) rfl ?_)
          refine lv_if_eq (tgt := 69) hx hb dX6_spells_36 (by decide) (fun c_31 => ?_) (fun c_31 => hp_n (n := 39) rfl ?_)
          ·
            have jc_31 := il_eq c_31
            refine lv_iload_n hx hb dX6_spells_69 rfl (lv_at hl 2 rfl) (hp_n (n := 70) rfl ?_)
            exact q_zret C Bh_29 hr hlk (nz_z zv2_h_28) ⟨rfl, zv2_h_28⟩ dX6_spells_70
          ·
            have jc_31 := il_ne c_31
            refine lv_aload_n hx hb dX6_spells_39 rfl (lv_at hl 0 rfl) (hp_n (n := 40) rfl ?_)
            refine lv_aload_n hx hb dX6_spells_40 rfl (lv_at hl 0 rfl) (hp_n (n := 41) rfl ?_)
            refine q_geti (κ := 7) (k := 4) (φ := 354) (pc' := 44) C Bh_29 (cw_k Bh_29.2.2 k0) fl_X6_25 rfl rfl rfl dX6_spells_41 rfl (fun x_32 ex_32 => ?_)
            refine lv_iload_n hx hb dX6_spells_44 rfl (lv_at hl 3 rfl) (hp_n (n := 45) rfl ?_)
            refine lv_iadd hx hb dX6_spells_45 (hp_n (n := 46) rfl (lv_topi (fun x_33 ex_33 => ?_)))
            refine q_ci (pc' := 49) Bh_29 (hp_runV (As := [.int x_33]) (rest := []) C Bh_29 (t_X6_byteAt Γ l α Bh_29.2.2.1 a0 (cw_k Bh_29.2.2 k0) x_33) lb_X6_byteAt lv_X6_byteAt lk_X6_43 (cw_k Bh_29.2.2 k0) rfl (by decide) rfl hl.1 rfl (Nat.le_of_ble_eq_true rfl) dX6_spells_46 ⟨Nat.le_refl _, Nat.le_refl _⟩) (fun _ _ h => by rw [h]; exact Bh_29.2.2) rfl (fun rh_34 αh_34 Hh_34 Lh_34 ph_34 Bh_34 => ?_)
            rw [ph_34] at Bh_34
            refine lv_aload_n hx hb dX6_spells_49 rfl (lv_at hl 1 rfl) (hp_n (n := 50) rfl ?_)
            refine lv_iload_n hx hb dX6_spells_50 rfl (lv_at hl 3 rfl) (hp_n (n := 51) rfl ?_)
            refine q_ci (pc' := 54) Bh_34 (hp_runT (i := i1) (As := [.int v3_h_28]) (rest := [.int rh_34]) C B0.1 Bh_34 h1 (t_J0_charAt_5068e Γ l α i1 h1 v3_h_28 (by omega) (by omega)) lb_J0_charAt_5068e li_J0_charAt_5068e sx_J0_charAt_5068e rfl lk_X6_59 rfl (by decide) rfl hl.1 rfl (Nat.le_of_ble_eq_true rfl) dX6_spells_51 ⟨Nat.le_refl _, Nat.le_refl _⟩) (fun _ _ h => by rw [h.1]; exact Bh_34.2.2) rfl (fun rh_35 αh_35 Hh_35 Lh_35 ph_35 Bh_35 => ?_)
            rw [ph_35.1] at Bh_35
            refine lv_icmp_ne (tgt := 61) hx hb dX6_spells_54 (by decide) (fun c_36 => ?_) (fun c_36 => hp_n (n := 57) rfl ?_)
            ·
              have jc_36 := il_ne c_36
              refine lv_iconst (v := 0) hx hb dX6_spells_61 (by decide) (hp_n (n := 62) rfl ?_)
              refine lv_istore_n (lv' := [(2, .int 0), (0, .ref a0), (1, .ref (Γ.2.2.2.2.1 i1)), (3, .int v3_h_28)]) hx hb dX6_spells_62 rfl hl (by decide) rfl (fun ls hl => hp_n (n := 63) rfl ?_)
              obtain ⟨x_37, ex_37⟩ : ∃ y : Int32, y = v3_h_28 + 1 := ⟨_, rfl⟩
              have qx_37 : x_37.toInt = v3_h_28.toInt + 1 := by have q0 := ib_hi rh_29; have qa := ib_lo v3_h_28; rw [ex_37]; exact ii_add (by omega) (by omega)
              refine lv_iinc (v := x_37) (lv' := [(3, .int x_37), (2, .int 0), (0, .ref a0), (1, .ref (Γ.2.2.2.2.1 i1))]) hx hb dX6_spells_63 hl (k := 3) rfl (by rw [ex_37]; rfl) (by decide) rfl (fun ls hl => hp_n (n := 66) rfl ?_)
              refine lv_goto (tgt := 27) hx hb dX6_spells_66 (by decide) ?_
              exact ih27 _ (by have q0 := ib_hi rh_29; have q1 := ib_lo rh_29; have qa := ib_hi v3_h_28; have qb := ib_lo v3_h_28; have qc : (v3_h_28 + 1).toInt = v3_h_28.toInt + (1 : Int32).toInt := ii_add (by omega) (by omega); rw [ex_37]; omega) Hh_35 Lh_35 Bh_35 0 (Or.inl rfl) x_37 (by omega) ls (lv_sub hl [2, 3, 1, 0] rfl) rfl
            ·
              have jc_36 := il_eq c_36
              refine lv_iconst (v := 1) hx hb dX6_spells_57 (by decide) (hp_n (n := 58) rfl ?_)
              refine lv_goto (tgt := 62) hx hb dX6_spells_58 (by decide) ?_
              refine lv_istore_n (lv' := [(2, .int 1), (0, .ref a0), (1, .ref (Γ.2.2.2.2.1 i1)), (3, .int v3_h_28)]) hx hb dX6_spells_62 rfl hl (by decide) rfl (fun ls hl => hp_n (n := 63) rfl ?_)
              obtain ⟨x_38, ex_38⟩ : ∃ y : Int32, y = v3_h_28 + 1 := ⟨_, rfl⟩
              have qx_38 : x_38.toInt = v3_h_28.toInt + 1 := by have q0 := ib_hi rh_29; have qa := ib_lo v3_h_28; rw [ex_38]; exact ii_add (by omega) (by omega)
              refine lv_iinc (v := x_38) (lv' := [(3, .int x_38), (2, .int 1), (0, .ref a0), (1, .ref (Γ.2.2.2.2.1 i1))]) hx hb dX6_spells_63 hl (k := 3) rfl (by rw [ex_38]; rfl) (by decide) rfl (fun ls hl => hp_n (n := 66) rfl ?_)
              refine lv_goto (tgt := 27) hx hb dX6_spells_66 (by decide) ?_
              exact ih27 _ (by have q0 := ib_hi rh_29; have q1 := ib_lo rh_29; have qa := ib_hi v3_h_28; have qb := ib_lo v3_h_28; have qc : (v3_h_28 + 1).toInt = v3_h_28.toInt + (1 : Int32).toInt := ii_add (by omega) (by omega); rw [ex_38]; omega) Hh_35 Lh_35 Bh_35 1 (Or.inr rfl) x_38 (by omega) ls (lv_sub hl [2, 3, 1, 0] rfl) rfl
      refine lv_istore_n (lv' := [(3, .int 0), (2, .int 1), (0, .ref a0), (1, .ref (Γ.2.2.2.2.1 i1))]) hx hb dX6_spells_26 rfl hl (by decide) rfl (fun ls hl => hp_n (n := 27) rfl ?_)
      exact J27 _ Hh_15 Lh_15 Bh_15 1 (Or.inr rfl) 0 (by omega) ls (lv_sub hl [2, 3, 1, 0] rfl) rfl
abbrev w_X6_copyWord : cw_W := ([501], [], [27], [])
end JN3_5
section JN3_6
abbrev w_X3_fail : cw_W := ([204, 205], [], [], [])
set_option maxRecDepth 100000 in
set_option maxHeartbeats 4000000 in
theorem t_X3_fail (Γ : hp_G) (l : Launch) (α : hp_T) (g : GC α) (a0 : Nat) (k0 : hp_K α a0 = 4) (a1 : Int32) : Met l yX3_fail (hp_ws yX3_fail cX3_fail 2 (some .boolean)) (hp_rm 0 0 0) (hp_Pc Γ α [.ref a0, .int a1]) (hp_Qi Γ (fun r β => cw w_X3_fail α β ∧ (r = 0 ∨ r = 1))) 0 0 (hp_A Γ) := by
  refine hp_start (by decide) ?_
  intro p e s m below meth c C hr hlk B0 hnm
  have C : hp_C Γ p m c cX3_fail 2 s ([.ref a0, .int a1] : List Value).toArray RX3 := C
  have hx := C.1.1
  have hb := C.1.2.1
  have hown := C.1.2.2.2.1
  have hts := C.1.2.2.2.2
  have B : hp_B Γ (cw w_X3_fail) s α α s.heap [] := ⟨B0.1, B0.2.1, cw_rf g⟩
  have lit0 : (0 : Int32).toInt = 0 := by decide
  have hl := lv_entry ([.ref a0, .int a1]) (n := 2) (Nat.le_of_ble_eq_true rfl)
  show W p l e (hp_rm 0 0 0) s m ([.ref a0, .int a1] : List Value).toArray below meth c s.heap [] 0 0 (MQ below (hp_Qi Γ (fun r β => cw w_X3_fail α β ∧ (r = 0 ∨ r = 1))) ([.ref a0, .int a1] : List Value).toArray s 0 0 (hp_A Γ)) (entryFrame m ([.ref a0, .int a1] : List Value).toArray 2)
  rw [lg_entry_eq]
  generalize (lg_sl ([.ref a0, .int a1]) ++ List.replicate (2 - (lg_sl ([.ref a0, .int a1])).length) Slot.unset).toArray = ls at hl ⊢
  have hl : lv_has ls 2 [(0, .ref a0), (1, .int a1)] := hl
  refine lv_aload_n hx hb dX3_fail_0 rfl (lv_at hl 0 rfl) (hp_n (n := 1) rfl ?_)
  refine lv_iload_n hx hb dX3_fail_1 rfl (lv_at hl 1 rfl) (hp_n (n := 2) rfl ?_)
  refine q_puti (κ := 4) (k := 4) (φ := 204) (pc' := 5) C B (cw_k B.2.2 k0) fl_X3_37 rfl rfl rfl rfl rfl rfl (cw_sI B.2.2 (by decide) (fun h => absurd h (by decide))) dX3_fail_2 rfl (fun αh_1 Hh_1 Lh_1 eh_1 Bh_1 => ?_)
  refine lv_aload_n hx hb dX3_fail_5 rfl (lv_at hl 0 rfl) (hp_n (n := 6) rfl ?_)
  refine lv_aload_n hx hb dX3_fail_6 rfl (lv_at hl 0 rfl) (hp_n (n := 7) rfl ?_)
  refine q_getr (κ := 4) (k := 0) (φ := 200) (pc' := 10) C Bh_1 (cw_k Bh_1.2.2 k0) fl_X3_12 rfl rfl rfl (cw_r Bh_1.2.2 k0 rfl rfl (by decide) (by decide)) dX3_fail_7 rfl (fun b_2 eb_2 kb_2 => ?_)
  refine q_geti (κ := 7) (k := 4) (φ := 354) (pc' := 13) C Bh_1 (cw_k Bh_1.2.2 kb_2) fl_X3_191 rfl rfl rfl dX3_fail_10 rfl (fun x_3 ex_3 => ?_)
  refine q_puti (κ := 4) (k := 5) (φ := 205) (pc' := 16) C Bh_1 (cw_k Bh_1.2.2 k0) fl_X3_40 rfl rfl rfl rfl rfl rfl (cw_sI Bh_1.2.2 (by decide) (fun h => absurd h (by decide))) dX3_fail_13 rfl (fun αh_4 Hh_4 Lh_4 eh_4 Bh_4 => ?_)
  refine lv_iconst (v := 0) hx hb dX3_fail_16 (by decide) (hp_n (n := 17) rfl ?_)
  exact q_zret C Bh_4 hr hlk (by decide) ⟨Bh_4.2.2, (Or.inl rfl)⟩ dX3_fail_17
abbrev w_X3_stray : cw_W := ([204, 205], [], [], [])
set_option maxRecDepth 100000 in
set_option maxHeartbeats 4000000 in
theorem t_X3_stray (Γ : hp_G) (l : Launch) (α : hp_T) (g : GC α) (a0 : Nat) (k0 : hp_K α a0 = 4) : Met l yX3_stray (hp_ws yX3_stray cX3_stray 1 (some .boolean)) (hp_rm 1 0 0) (hp_Pc Γ α [.ref a0]) (hp_Qi Γ (fun r β => cw w_X3_stray α β ∧ (r = 0 ∨ r = 1))) 0 0 (hp_A Γ) := by
  refine hp_start (by decide) ?_
  intro p e s m below meth c C hr hlk B0 hnm
  have C : hp_C Γ p m c cX3_stray 1 s ([.ref a0] : List Value).toArray RX3 := C
  have hx := C.1.1
  have hb := C.1.2.1
  have hown := C.1.2.2.2.1
  have hts := C.1.2.2.2.2
  have B : hp_B Γ (cw w_X3_stray) s α α s.heap [] := ⟨B0.1, B0.2.1, cw_rf g⟩
  have lit1 : (1 : Int32).toInt = 1 := by decide
  have lit2 : (2 : Int32).toInt = 2 := by decide
  have lit4 : (4 : Int32).toInt = 4 := by decide
  have hl := lv_entry ([.ref a0]) (n := 1) (Nat.le_of_ble_eq_true rfl)
  show W p l e (hp_rm 1 0 0) s m ([.ref a0] : List Value).toArray below meth c s.heap [] 0 0 (MQ below (hp_Qi Γ (fun r β => cw w_X3_stray α β ∧ (r = 0 ∨ r = 1))) ([.ref a0] : List Value).toArray s 0 0 (hp_A Γ)) (entryFrame m ([.ref a0] : List Value).toArray 1)
  rw [lg_entry_eq]
  generalize (lg_sl ([.ref a0]) ++ List.replicate (1 - (lg_sl ([.ref a0])).length) Slot.unset).toArray = ls at hl ⊢
  have hl : lv_has ls 1 [(0, .ref a0)] := hl
  refine lv_aload_n hx hb dX3_stray_0 rfl (lv_at hl 0 rfl) (hp_n (n := 1) rfl ?_)
  refine lv_aload_n hx hb dX3_stray_1 rfl (lv_at hl 0 rfl) (hp_n (n := 2) rfl ?_)
  refine q_getr (κ := 4) (k := 0) (φ := 200) (pc' := 5) C B (cw_k B.2.2 k0) fl_X3_12 rfl rfl rfl (cw_r B.2.2 k0 rfl rfl (by decide) (by decide)) dX3_stray_2 rfl (fun b_1 eb_1 kb_1 => ?_)
  refine q_geti (κ := 7) (k := 3) (φ := 353) (pc' := 8) C B (cw_k B.2.2 kb_1) fl_X3_66 rfl rfl rfl dX3_stray_5 rfl (fun x_2 ex_2 => ?_)
  refine lv_iconst (v := 4) hx hb dX3_stray_8 (by decide) (hp_n (n := 9) rfl ?_)
  refine lv_icmp_ne (tgt := 16) hx hb dX3_stray_9 (by decide) (fun c_3 => ?_) (fun c_3 => hp_n (n := 12) rfl ?_)
  ·
    have jc_3 := il_ne c_3
    refine lv_iconst (v := 2) hx hb dX3_stray_16 (by decide) (hp_n (n := 17) rfl ?_)
    refine q_ci (pc' := 20) B (hp_runV (As := [.int 2]) (rest := []) C B (t_X3_fail Γ l α B.2.2.1 a0 (cw_k B.2.2 k0) 2) lb_X3_fail lv_X3_fail lk_X3_145 (cw_k B.2.2 k0) rfl (by decide) rfl hl.1 rfl (Nat.le_of_ble_eq_true rfl) dX3_stray_17 ⟨Nat.le_refl _, Nat.le_refl _⟩) (fun _ _ h => cw_tr B.2.2 h.1 (by decide)) rfl (fun rh_4 αh_4 Hh_4 Lh_4 ph_4 Bh_4 => ?_)
    have zh_4 := ph_4.2
    exact q_zret C Bh_4 hr hlk (nz_z zh_4) ⟨Bh_4.2.2, zh_4⟩ dX3_stray_20
  ·
    have jc_3 := il_eq c_3
    refine lv_iconst (v := 1) hx hb dX3_stray_12 (by decide) (hp_n (n := 13) rfl ?_)
    refine lv_goto (tgt := 17) hx hb dX3_stray_13 (by decide) ?_
    refine q_ci (pc' := 20) B (hp_runV (As := [.int 1]) (rest := []) C B (t_X3_fail Γ l α B.2.2.1 a0 (cw_k B.2.2 k0) 1) lb_X3_fail lv_X3_fail lk_X3_145 (cw_k B.2.2 k0) rfl (by decide) rfl hl.1 rfl (Nat.le_of_ble_eq_true rfl) dX3_stray_17 ⟨Nat.le_refl _, Nat.le_refl _⟩) (fun _ _ h => cw_tr B.2.2 h.1 (by decide)) rfl (fun rh_5 αh_5 Hh_5 Lh_5 ph_5 Bh_5 => ?_)
    have zh_5 := ph_5.2
    exact q_zret C Bh_5 hr hlk (nz_z zh_5) ⟨Bh_5.2.2, zh_5⟩ dX3_stray_20
abbrev w_X3_hasRoom : cw_W := ([204, 205], [], [], [])
set_option maxRecDepth 100000 in
set_option maxHeartbeats 4000000 in
theorem t_X3_hasRoom (Γ : hp_G) (l : Launch) (α : hp_T) (g : GC α) (a0 : Nat) (k0 : hp_K α a0 = 4) (a1 : Int32) (a2 : Int32) : Met l yX3_hasRoom (hp_ws yX3_hasRoom cX3_hasRoom 3 (some .boolean)) (hp_rm 1 0 0) (hp_Pc Γ α [.ref a0, .int a1, .int a2]) (hp_Qi Γ (fun r β => cw w_X3_hasRoom α β ∧ (r = 0 ∨ r = 1))) 0 0 (hp_A Γ) := by
  refine hp_start (by decide) ?_
  intro p e s m below meth c C hr hlk B0 hnm
  have C : hp_C Γ p m c cX3_hasRoom 3 s ([.ref a0, .int a1, .int a2] : List Value).toArray RX3 := C
  have hx := C.1.1
  have hb := C.1.2.1
  have hown := C.1.2.2.2.1
  have hts := C.1.2.2.2.2
  have B : hp_B Γ (cw w_X3_hasRoom) s α α s.heap [] := ⟨B0.1, B0.2.1, cw_rf g⟩
  have lit0 : (0 : Int32).toInt = 0 := by decide
  have lit1 : (1 : Int32).toInt = 1 := by decide
  have lit6 : (6 : Int32).toInt = 6 := by decide
  have hl := lv_entry ([.ref a0, .int a1, .int a2]) (n := 3) (Nat.le_of_ble_eq_true rfl)
  show W p l e (hp_rm 1 0 0) s m ([.ref a0, .int a1, .int a2] : List Value).toArray below meth c s.heap [] 0 0 (MQ below (hp_Qi Γ (fun r β => cw w_X3_hasRoom α β ∧ (r = 0 ∨ r = 1))) ([.ref a0, .int a1, .int a2] : List Value).toArray s 0 0 (hp_A Γ)) (entryFrame m ([.ref a0, .int a1, .int a2] : List Value).toArray 3)
  rw [lg_entry_eq]
  generalize (lg_sl ([.ref a0, .int a1, .int a2]) ++ List.replicate (3 - (lg_sl ([.ref a0, .int a1, .int a2])).length) Slot.unset).toArray = ls at hl ⊢
  have hl : lv_has ls 3 [(0, .ref a0), (1, .int a1), (2, .int a2)] := hl
  refine lv_iload_n hx hb dX3_hasRoom_0 rfl (lv_at hl 1 rfl) (hp_n (n := 1) rfl ?_)
  refine lv_iload_n hx hb dX3_hasRoom_1 rfl (lv_at hl 2 rfl) (hp_n (n := 2) rfl ?_)
  refine lv_icmp_lt (tgt := 14) hx hb dX3_hasRoom_2 (by decide) (fun c_1 => ?_) (fun c_1 => hp_n (n := 5) rfl ?_)
  ·
    have jc_1 := il_lt c_1
    refine lv_iconst (v := 1) hx hb dX3_hasRoom_14 (by decide) (hp_n (n := 15) rfl ?_)
    refine lv_goto (tgt := 19) hx hb dX3_hasRoom_15 (by decide) ?_
    exact q_zret C B hr hlk (by decide) ⟨B.2.2, (Or.inr rfl)⟩ dX3_hasRoom_19
  ·
    have jc_1 := il_nlt c_1
    refine lv_aload_n hx hb dX3_hasRoom_5 rfl (lv_at hl 0 rfl) (hp_n (n := 6) rfl ?_)
    refine lv_bipush (v := 6) hx hb dX3_hasRoom_6 (by decide) (hp_n (n := 8) rfl ?_)
    refine q_ci (pc' := 11) B (hp_runV (As := [.int 6]) (rest := []) C B (t_X3_fail Γ l α B.2.2.1 a0 (cw_k B.2.2 k0) 6) lb_X3_fail lv_X3_fail lk_X3_145 (cw_k B.2.2 k0) rfl (by decide) rfl hl.1 rfl (Nat.le_of_ble_eq_true rfl) dX3_hasRoom_8 ⟨Nat.le_refl _, Nat.le_refl _⟩) (fun _ _ h => cw_tr B.2.2 h.1 (by decide)) rfl (fun rh_2 αh_2 Hh_2 Lh_2 ph_2 Bh_2 => ?_)
    have zh_2 := ph_2.2
    refine lv_if_eq (tgt := 18) hx hb dX3_hasRoom_11 (by decide) (fun c_3 => ?_) (fun c_3 => hp_n (n := 14) rfl ?_)
    ·
      have jc_3 := il_eq c_3
      refine lv_iconst (v := 0) hx hb dX3_hasRoom_18 (by decide) (hp_n (n := 19) rfl ?_)
      exact q_zret C Bh_2 hr hlk (by decide) ⟨Bh_2.2.2, (Or.inl rfl)⟩ dX3_hasRoom_19
    ·
      have jc_3 := il_ne c_3
      refine lv_iconst (v := 1) hx hb dX3_hasRoom_14 (by decide) (hp_n (n := 15) rfl ?_)
      refine lv_goto (tgt := 19) hx hb dX3_hasRoom_15 (by decide) ?_
      exact q_zret C Bh_2 hr hlk (by decide) ⟨Bh_2.2.2, (Or.inr rfl)⟩ dX3_hasRoom_19
abbrev w_X3_begin : cw_W := ([204, 205, 351, 352, 353, 354, 355, 356], [350], [], [])
set_option maxRecDepth 100000 in
set_option maxHeartbeats 4000000 in
theorem t_X3_begin (Γ : hp_G) (l : Launch) (α : hp_T) (g : GC α) (a0 : Nat) (k0 : hp_K α a0 = 4) (a1 : Nat) (k1 : hp_K α a1 = 24) (a2 : Int32) : Met l yX3_begin (hp_ws yX3_begin cX3_begin 3 none) (hp_rm 2 0 0) (hp_Pc Γ α [.ref a0, .ref a1, .int a2]) (hp_Qv Γ (fun β => cw w_X3_begin α β)) 0 0 (hp_A Γ) := by
  refine hp_start (by decide) ?_
  intro p e s m below meth c C hr hlk B0 hnm
  have C : hp_C Γ p m c cX3_begin 3 s ([.ref a0, .ref a1, .int a2] : List Value).toArray RX3 := C
  have hx := C.1.1
  have hb := C.1.2.1
  have hown := C.1.2.2.2.1
  have hts := C.1.2.2.2.2
  have B : hp_B Γ (cw w_X3_begin) s α α s.heap [] := ⟨B0.1, B0.2.1, cw_rf g⟩
  have litm1 : ((-1) : Int32).toInt = (-1) := by decide
  have lit0 : (0 : Int32).toInt = 0 := by decide
  have hl := lv_entry ([.ref a0, .ref a1, .int a2]) (n := 3) (Nat.le_of_ble_eq_true rfl)
  show W p l e (hp_rm 2 0 0) s m ([.ref a0, .ref a1, .int a2] : List Value).toArray below meth c s.heap [] 0 0 (MQ below (hp_Qv Γ (fun β => cw w_X3_begin α β)) ([.ref a0, .ref a1, .int a2] : List Value).toArray s 0 0 (hp_A Γ)) (entryFrame m ([.ref a0, .ref a1, .int a2] : List Value).toArray 3)
  rw [lg_entry_eq]
  generalize (lg_sl ([.ref a0, .ref a1, .int a2]) ++ List.replicate (3 - (lg_sl ([.ref a0, .ref a1, .int a2])).length) Slot.unset).toArray = ls at hl ⊢
  have hl : lv_has ls 3 [(0, .ref a0), (1, .ref a1), (2, .int a2)] := hl
  refine lv_aload_n hx hb dX3_begin_0 rfl (lv_at hl 0 rfl) (hp_n (n := 1) rfl ?_)
  refine lv_iconst (v := 0) hx hb dX3_begin_1 (by decide) (hp_n (n := 2) rfl ?_)
  refine q_puti (κ := 4) (k := 4) (φ := 204) (pc' := 5) C B (cw_k B.2.2 k0) fl_X3_37 rfl rfl rfl rfl rfl rfl (cw_sI B.2.2 (by decide) (fun h => absurd h (by decide))) dX3_begin_2 rfl (fun αh_1 Hh_1 Lh_1 eh_1 Bh_1 => ?_)
  refine lv_aload_n hx hb dX3_begin_5 rfl (lv_at hl 0 rfl) (hp_n (n := 6) rfl ?_)
  refine lv_iconst (v := (-1)) hx hb dX3_begin_6 (by decide) (hp_n (n := 7) rfl ?_)
  refine q_puti (κ := 4) (k := 5) (φ := 205) (pc' := 10) C Bh_1 (cw_k Bh_1.2.2 k0) fl_X3_40 rfl rfl rfl rfl rfl rfl (cw_sI Bh_1.2.2 (by decide) (fun h => absurd h (by decide))) dX3_begin_7 rfl (fun αh_2 Hh_2 Lh_2 eh_2 Bh_2 => ?_)
  refine lv_aload_n hx hb dX3_begin_10 rfl (lv_at hl 0 rfl) (hp_n (n := 11) rfl ?_)
  refine q_getr (κ := 4) (k := 0) (φ := 200) (pc' := 14) C Bh_2 (cw_k Bh_2.2.2 k0) fl_X3_12 rfl rfl rfl (cw_r Bh_2.2.2 k0 rfl rfl (by decide) (by decide)) dX3_begin_11 rfl (fun b_3 eb_3 kb_3 => ?_)
  refine lv_aload_n hx hb dX3_begin_14 rfl (lv_at hl 1 rfl) (hp_n (n := 15) rfl ?_)
  refine lv_iload_n hx hb dX3_begin_15 rfl (lv_at hl 2 rfl) (hp_n (n := 16) rfl ?_)
  refine q_cv (pc' := 19) Bh_2 (hp_runV (As := [.ref a1, .int a2]) (rest := []) C Bh_2 (t_X6_begin Γ l αh_2 Bh_2.2.2.1 b_3 (cw_k Bh_2.2.2 kb_3) a1 (cw_k Bh_2.2.2 k1) a2) lb_X6_begin lv_X6_begin lk_X3_59 (cw_k Bh_2.2.2 kb_3) rfl (by decide) rfl hl.1 rfl (Nat.le_of_ble_eq_true rfl) dX3_begin_16 ⟨Nat.le_refl _, Nat.le_refl _⟩) (fun _ h => cw_tr Bh_2.2.2 h (by decide)) rfl (fun αh_4 Hh_4 Lh_4 ph_4 Bh_4 => ?_)
  refine lv_aload_n hx hb dX3_begin_19 rfl (lv_at hl 0 rfl) (hp_n (n := 20) rfl ?_)
  have t_5 : b_3 = hp_R αh_4 200 a0 := by rw [cw_R ph_4 a0 (by decide)]; exact eb_3
  refine q_gets (κ := 4) (k := 0) (φ := 200) (pc' := 23) C Bh_4 (cw_k Bh_4.2.2 k0) fl_X3_12 rfl rfl rfl t_5 dX3_begin_20 rfl ?_
  refine q_cv (pc' := 26) Bh_4 (hp_runV (As := []) (rest := []) C Bh_4 (t_X6_advance Γ l αh_4 Bh_4.2.2.1 b_3 (cw_k Bh_4.2.2 kb_3)) lb_X6_advance lv_X6_advance lk_X3_63 (cw_k Bh_4.2.2 kb_3) rfl (by decide) rfl hl.1 rfl (Nat.le_of_ble_eq_true rfl) dX3_begin_23 ⟨Nat.le_refl _, Nat.le_refl _⟩) (fun _ h => cw_tr Bh_4.2.2 h (by decide)) rfl (fun αh_6 Hh_6 Lh_6 ph_6 Bh_6 => ?_)
  exact q_vret C Bh_6 hr hlk Bh_6.2.2 dX3_begin_26
abbrev w_X3_isAtEnd : cw_W := ([], [], [], [])
set_option maxRecDepth 100000 in
set_option maxHeartbeats 4000000 in
theorem t_X3_isAtEnd (Γ : hp_G) (l : Launch) (α : hp_T) (g : GC α) (a0 : Nat) (k0 : hp_K α a0 = 4) : Met l yX3_isAtEnd (hp_ws yX3_isAtEnd cX3_isAtEnd 1 (some .boolean)) (hp_rm 0 0 0) (hp_Pc Γ α [.ref a0]) (hp_Qi Γ (fun r β => β = α ∧ (r = 0 ∨ r = 1))) 0 0 (hp_A Γ) := by
  refine hp_start (by decide) ?_
  intro p e s m below meth c C hr hlk B0 hnm
  have C : hp_C Γ p m c cX3_isAtEnd 1 s ([.ref a0] : List Value).toArray RX3 := C
  have hx := C.1.1
  have hb := C.1.2.1
  have hown := C.1.2.2.2.1
  have hts := C.1.2.2.2.2
  have B : hp_B Γ (cw w_X3_isAtEnd) s α α s.heap [] := ⟨B0.1, B0.2.1, cw_rf g⟩
  have lit0 : (0 : Int32).toInt = 0 := by decide
  have lit1 : (1 : Int32).toInt = 1 := by decide
  have hl := lv_entry ([.ref a0]) (n := 1) (Nat.le_of_ble_eq_true rfl)
  show W p l e (hp_rm 0 0 0) s m ([.ref a0] : List Value).toArray below meth c s.heap [] 0 0 (MQ below (hp_Qi Γ (fun r β => β = α ∧ (r = 0 ∨ r = 1))) ([.ref a0] : List Value).toArray s 0 0 (hp_A Γ)) (entryFrame m ([.ref a0] : List Value).toArray 1)
  rw [lg_entry_eq]
  generalize (lg_sl ([.ref a0]) ++ List.replicate (1 - (lg_sl ([.ref a0])).length) Slot.unset).toArray = ls at hl ⊢
  have hl : lv_has ls 1 [(0, .ref a0)] := hl
  refine lv_aload_n hx hb dX3_isAtEnd_0 rfl (lv_at hl 0 rfl) (hp_n (n := 1) rfl ?_)
  refine q_getr (κ := 4) (k := 0) (φ := 200) (pc' := 4) C B (cw_k B.2.2 k0) fl_X3_12 rfl rfl rfl (cw_r B.2.2 k0 rfl rfl (by decide) (by decide)) dX3_isAtEnd_1 rfl (fun b_1 eb_1 kb_1 => ?_)
  refine q_geti (κ := 7) (k := 3) (φ := 353) (pc' := 7) C B (cw_k B.2.2 kb_1) fl_X3_66 rfl rfl rfl dX3_isAtEnd_4 rfl (fun x_2 ex_2 => ?_)
  refine lv_if_ne (tgt := 14) hx hb dX3_isAtEnd_7 (by decide) (fun c_3 => ?_) (fun c_3 => hp_n (n := 10) rfl ?_)
  ·
    have jc_3 := il_ne c_3
    refine lv_iconst (v := 0) hx hb dX3_isAtEnd_14 (by decide) (hp_n (n := 15) rfl ?_)
    exact q_zret C B hr hlk (by decide) ⟨rfl, (Or.inl rfl)⟩ dX3_isAtEnd_15
  ·
    have jc_3 := il_eq c_3
    refine lv_iconst (v := 1) hx hb dX3_isAtEnd_10 (by decide) (hp_n (n := 11) rfl ?_)
    refine lv_goto (tgt := 15) hx hb dX3_isAtEnd_11 (by decide) ?_
    exact q_zret C B hr hlk (by decide) ⟨rfl, (Or.inr rfl)⟩ dX3_isAtEnd_15
abbrev w_X3_readNumber : cw_W := ([204, 205, 209, 352, 353, 354, 355, 356], [], [], [])
set_option maxRecDepth 100000 in
set_option maxHeartbeats 4000000 in
theorem t_X3_readNumber (Γ : hp_G) (l : Launch) (α : hp_T) (g : GC α) (a0 : Nat) (k0 : hp_K α a0 = 4) (a1 : Int32) (a2 : Int32) : Met l yX3_readNumber (hp_ws yX3_readNumber cX3_readNumber 3 (some .boolean)) (hp_rm 2 0 0) (hp_Pc Γ α [.ref a0, .int a1, .int a2]) (hp_Qi Γ (fun r β => cw w_X3_readNumber α β ∧ (r = 0 ∨ r = 1))) 0 0 (hp_A Γ) := by
  refine hp_start (by decide) ?_
  intro p e s m below meth c C hr hlk B0 hnm
  have C : hp_C Γ p m c cX3_readNumber 3 s ([.ref a0, .int a1, .int a2] : List Value).toArray RX3 := C
  have hx := C.1.1
  have hb := C.1.2.1
  have hown := C.1.2.2.2.1
  have hts := C.1.2.2.2.2
  have B : hp_B Γ (cw w_X3_readNumber) s α α s.heap [] := ⟨B0.1, B0.2.1, cw_rf g⟩
  have lit0 : (0 : Int32).toInt = 0 := by decide
  have lit1 : (1 : Int32).toInt = 1 := by decide
  have lit2 : (2 : Int32).toInt = 2 := by decide
  have lit3 : (3 : Int32).toInt = 3 := by decide
  have hl := lv_entry ([.ref a0, .int a1, .int a2]) (n := 3) (Nat.le_of_ble_eq_true rfl)
  show W p l e (hp_rm 2 0 0) s m ([.ref a0, .int a1, .int a2] : List Value).toArray below meth c s.heap [] 0 0 (MQ below (hp_Qi Γ (fun r β => cw w_X3_readNumber α β ∧ (r = 0 ∨ r = 1))) ([.ref a0, .int a1, .int a2] : List Value).toArray s 0 0 (hp_A Γ)) (entryFrame m ([.ref a0, .int a1, .int a2] : List Value).toArray 3)
  rw [lg_entry_eq]
  generalize (lg_sl ([.ref a0, .int a1, .int a2]) ++ List.replicate (3 - (lg_sl ([.ref a0, .int a1, .int a2])).length) Slot.unset).toArray = ls at hl ⊢
  have hl : lv_has ls 3 [(0, .ref a0), (1, .int a1), (2, .int a2)] := hl
  refine lv_aload_n hx hb dX3_readNumber_0 rfl (lv_at hl 0 rfl) (hp_n (n := 1) rfl ?_)
  refine q_getr (κ := 4) (k := 0) (φ := 200) (pc' := 4) C B (cw_k B.2.2 k0) fl_X3_12 rfl rfl rfl (cw_r B.2.2 k0 rfl rfl (by decide) (by decide)) dX3_readNumber_1 rfl (fun b_1 eb_1 kb_1 => ?_)
  refine q_cv (pc' := 7) B (hp_runV (As := []) (rest := []) C B (t_X6_advance Γ l α B.2.2.1 b_1 (cw_k B.2.2 kb_1)) lb_X6_advance lv_X6_advance lk_X3_63 (cw_k B.2.2 kb_1) rfl (by decide) rfl hl.1 rfl (Nat.le_of_ble_eq_true rfl) dX3_readNumber_4 ⟨Nat.le_refl _, Nat.le_refl _⟩) (fun _ h => cw_tr B.2.2 h (by decide)) rfl (fun αh_2 Hh_2 Lh_2 ph_2 Bh_2 => ?_)
  refine lv_aload_n hx hb dX3_readNumber_7 rfl (lv_at hl 0 rfl) (hp_n (n := 8) rfl ?_)
  have t_3 : b_1 = hp_R αh_2 200 a0 := by rw [cw_R ph_2 a0 (by decide)]; exact eb_1
  refine q_gets (κ := 4) (k := 0) (φ := 200) (pc' := 11) C Bh_2 (cw_k Bh_2.2.2 k0) fl_X3_12 rfl rfl rfl t_3 dX3_readNumber_8 rfl ?_
  refine q_geti (κ := 7) (k := 3) (φ := 353) (pc' := 14) C Bh_2 (cw_k Bh_2.2.2 kb_1) fl_X3_66 rfl rfl rfl dX3_readNumber_11 rfl (fun x_4 ex_4 => ?_)
  refine lv_iconst (v := 2) hx hb dX3_readNumber_14 (by decide) (hp_n (n := 15) rfl ?_)
  refine lv_icmp_eq (tgt := 23) hx hb dX3_readNumber_15 (by decide) (fun c_5 => ?_) (fun c_5 => hp_n (n := 18) rfl ?_)
  ·
    have jc_5 := il_eq c_5
    refine lv_aload_n hx hb dX3_readNumber_23 rfl (lv_at hl 0 rfl) (hp_n (n := 24) rfl ?_)
    refine lv_aload_n hx hb dX3_readNumber_24 rfl (lv_at hl 0 rfl) (hp_n (n := 25) rfl ?_)
    refine q_gets (κ := 4) (k := 0) (φ := 200) (pc' := 28) C Bh_2 (cw_k Bh_2.2.2 k0) fl_X3_12 rfl rfl rfl t_3 dX3_readNumber_25 rfl ?_
    refine q_geti (κ := 7) (k := 6) (φ := 356) (pc' := 31) C Bh_2 (cw_k Bh_2.2.2 kb_1) fl_X3_188 rfl rfl rfl dX3_readNumber_28 rfl (fun x_6 ex_6 => ?_)
    refine q_puti (κ := 4) (k := 9) (φ := 209) (pc' := 34) C Bh_2 (cw_k Bh_2.2.2 k0) fl_X3_56 rfl rfl rfl rfl rfl rfl (cw_sI Bh_2.2.2 (by decide) (fun h => absurd h (by decide))) dX3_readNumber_31 rfl (fun αh_7 Hh_7 Lh_7 eh_7 Bh_7 => ?_)
    refine lv_aload_n hx hb dX3_readNumber_34 rfl (lv_at hl 0 rfl) (hp_n (n := 35) rfl ?_)
    have t_8 : x_6 = hp_I αh_7 209 a0 := by rw [eh_7]; exact hp_I_at.symm
    refine q_getj (κ := 4) (k := 9) (φ := 209) (pc' := 38) C Bh_7 (cw_k Bh_7.2.2 k0) fl_X3_56 rfl rfl rfl t_8 dX3_readNumber_35 rfl ?_
    refine lv_iload_n hx hb dX3_readNumber_38 rfl (lv_at hl 1 rfl) (hp_n (n := 39) rfl ?_)
    have J50 : ∀ (Hh_9 : Heap) (Lh_9 : List Loc) (Bh_9 : hp_B Γ (cw w_X3_readNumber) s α αh_7 Hh_9 Lh_9) (ls : Array Slot) (hl : lv_has ls 3 [(0, .ref a0)]), W p l e (hp_rm 2 0 0) s m ([.ref a0, .int a1, .int a2] : List Value).toArray below meth c Hh_9 Lh_9 0 0 (MQ below (hp_Qi Γ (fun r β => cw w_X3_readNumber α β ∧ (r = 0 ∨ r = 1))) ([.ref a0, .int a1, .int a2] : List Value).toArray s 0 0 (hp_A Γ)) (F0 m 50 ls []) := by
      intro Hh_9 Lh_9 Bh_9 ls hl
      refine lv_aload_n hx hb dX3_readNumber_50 rfl (lv_at hl 0 rfl) (hp_n (n := 51) rfl ?_)
      refine lv_iconst (v := 3) hx hb dX3_readNumber_51 (by decide) (hp_n (n := 52) rfl ?_)
      refine q_ci (pc' := 55) Bh_9 (hp_runV (As := [.int 3]) (rest := []) C Bh_9 (t_X3_fail Γ l αh_7 Bh_9.2.2.1 a0 (cw_k Bh_9.2.2 k0) 3) lb_X3_fail lv_X3_fail lk_X3_145 (cw_k Bh_9.2.2 k0) rfl (by decide) rfl hl.1 rfl (Nat.le_of_ble_eq_true rfl) dX3_readNumber_52 ⟨Nat.le_refl _, Nat.le_refl _⟩) (fun _ _ h => cw_tr Bh_9.2.2 h.1 (by decide)) rfl (fun rh_10 αh_10 Hh_10 Lh_10 ph_10 Bh_10 => ?_)
      have zh_10 := ph_10.2
      refine lv_if_eq (tgt := 62) hx hb dX3_readNumber_55 (by decide) (fun c_11 => ?_) (fun c_11 => hp_n (n := 58) rfl ?_)
      ·
        have jc_11 := il_eq c_11
        refine lv_iconst (v := 0) hx hb dX3_readNumber_62 (by decide) (hp_n (n := 63) rfl ?_)
        exact q_zret C Bh_10 hr hlk (by decide) ⟨Bh_10.2.2, (Or.inl rfl)⟩ dX3_readNumber_63
      ·
        have jc_11 := il_ne c_11
        refine lv_iconst (v := 1) hx hb dX3_readNumber_58 (by decide) (hp_n (n := 59) rfl ?_)
        refine lv_goto (tgt := 63) hx hb dX3_readNumber_59 (by decide) ?_
        exact q_zret C Bh_10 hr hlk (by decide) ⟨Bh_10.2.2, (Or.inr rfl)⟩ dX3_readNumber_63
    refine lv_icmp_lt (tgt := 50) hx hb dX3_readNumber_39 (by decide) (fun c_12 => ?_) (fun c_12 => hp_n (n := 42) rfl ?_)
    ·
      have jc_12 := il_lt c_12
      exact J50 Hh_7 Lh_7 Bh_7 ls (lv_sub hl [0] rfl)
    ·
      have jc_12 := il_nlt c_12
      refine lv_aload_n hx hb dX3_readNumber_42 rfl (lv_at hl 0 rfl) (hp_n (n := 43) rfl ?_)
      refine q_getj (κ := 4) (k := 9) (φ := 209) (pc' := 46) C Bh_7 (cw_k Bh_7.2.2 k0) fl_X3_56 rfl rfl rfl t_8 dX3_readNumber_43 rfl ?_
      refine lv_iload_n hx hb dX3_readNumber_46 rfl (lv_at hl 2 rfl) (hp_n (n := 47) rfl ?_)
      refine lv_icmp_le (tgt := 58) hx hb dX3_readNumber_47 (by decide) (fun c_13 => ?_) (fun c_13 => hp_n (n := 50) rfl ?_)
      ·
        have jc_13 := il_le c_13
        refine lv_iconst (v := 1) hx hb dX3_readNumber_58 (by decide) (hp_n (n := 59) rfl ?_)
        refine lv_goto (tgt := 63) hx hb dX3_readNumber_59 (by decide) ?_
        exact q_zret C Bh_7 hr hlk (by decide) ⟨Bh_7.2.2, (Or.inr rfl)⟩ dX3_readNumber_63
      ·
        have jc_13 := il_nle c_13
        exact J50 Hh_7 Lh_7 Bh_7 ls (lv_sub hl [0] rfl)
  ·
    have jc_5 := il_ne c_5
    refine lv_aload_n hx hb dX3_readNumber_18 rfl (lv_at hl 0 rfl) (hp_n (n := 19) rfl ?_)
    refine q_ci (pc' := 22) Bh_2 (hp_runV (As := []) (rest := []) C Bh_2 (t_X3_stray Γ l αh_2 Bh_2.2.2.1 a0 (cw_k Bh_2.2.2 k0)) lb_X3_stray lv_X3_stray lk_X3_117 (cw_k Bh_2.2.2 k0) rfl (by decide) rfl hl.1 rfl (Nat.le_of_ble_eq_true rfl) dX3_readNumber_19 ⟨Nat.le_refl _, Nat.le_refl _⟩) (fun _ _ h => cw_tr Bh_2.2.2 h.1 (by decide)) rfl (fun rh_14 αh_14 Hh_14 Lh_14 ph_14 Bh_14 => ?_)
    have zh_14 := ph_14.2
    exact q_zret C Bh_14 hr hlk (nz_z zh_14) ⟨Bh_14.2.2, zh_14⟩ dX3_readNumber_22
abbrev w_X3_readSign : cw_W := ([204, 205, 352, 353, 354, 355, 356], [], [], [])
abbrev w_X3_readWord : cw_W := ([204, 205, 352, 353, 354, 355, 356], [], [], [])
set_option maxRecDepth 100000 in
set_option maxHeartbeats 4000000 in
theorem t_X3_readWord (Γ : hp_G) (l : Launch) (α : hp_T) (g : GC α) (a0 : Nat) (k0 : hp_K α a0 = 4) (i1 : Nat) (h1 : i1 < 21) : Met l yX3_readWord (hp_ws yX3_readWord cX3_readWord 2 (some .boolean)) (hp_rm 5 0 0) (hp_Pc Γ α [.ref a0, .ref (Γ.2.2.2.2.1 i1)]) (hp_Qi Γ (fun r β => cw w_X3_readWord α β ∧ (r = 0 ∨ r = 1))) 0 0 (hp_A Γ) := by
  refine hp_start (by decide) ?_
  intro p e s m below meth c C hr hlk B0 hnm
  have C : hp_C Γ p m c cX3_readWord 2 s ([.ref a0, .ref (Γ.2.2.2.2.1 i1)] : List Value).toArray RX3 := C
  have hx := C.1.1
  have hb := C.1.2.1
  have hown := C.1.2.2.2.1
  have hts := C.1.2.2.2.2
  have B : hp_B Γ (cw w_X3_readWord) s α α s.heap [] := ⟨B0.1, B0.2.1, cw_rf g⟩
  have lit0 : (0 : Int32).toInt = 0 := by decide
  have lit1 : (1 : Int32).toInt = 1 := by decide
  have hl := lv_entry ([.ref a0, .ref (Γ.2.2.2.2.1 i1)]) (n := 2) (Nat.le_of_ble_eq_true rfl)
  show W p l e (hp_rm 5 0 0) s m ([.ref a0, .ref (Γ.2.2.2.2.1 i1)] : List Value).toArray below meth c s.heap [] 0 0 (MQ below (hp_Qi Γ (fun r β => cw w_X3_readWord α β ∧ (r = 0 ∨ r = 1))) ([.ref a0, .ref (Γ.2.2.2.2.1 i1)] : List Value).toArray s 0 0 (hp_A Γ)) (entryFrame m ([.ref a0, .ref (Γ.2.2.2.2.1 i1)] : List Value).toArray 2)
  rw [lg_entry_eq]
  generalize (lg_sl ([.ref a0, .ref (Γ.2.2.2.2.1 i1)]) ++ List.replicate (2 - (lg_sl ([.ref a0, .ref (Γ.2.2.2.2.1 i1)])).length) Slot.unset).toArray = ls at hl ⊢
  have hl : lv_has ls 2 [(0, .ref a0), (1, .ref (Γ.2.2.2.2.1 i1))] := hl
  refine lv_aload_n hx hb dX3_readWord_0 rfl (lv_at hl 0 rfl) (hp_n (n := 1) rfl ?_)
  refine q_getr (κ := 4) (k := 0) (φ := 200) (pc' := 4) C B (cw_k B.2.2 k0) fl_X3_12 rfl rfl rfl (cw_r B.2.2 k0 rfl rfl (by decide) (by decide)) dX3_readWord_1 rfl (fun b_1 eb_1 kb_1 => ?_)
  refine q_cv (pc' := 7) B (hp_runV (As := []) (rest := []) C B (t_X6_advance Γ l α B.2.2.1 b_1 (cw_k B.2.2 kb_1)) lb_X6_advance lv_X6_advance lk_X3_63 (cw_k B.2.2 kb_1) rfl (by decide) rfl hl.1 rfl (Nat.le_of_ble_eq_true rfl) dX3_readWord_4 ⟨Nat.le_refl _, Nat.le_refl _⟩) (fun _ h => cw_tr B.2.2 h (by decide)) rfl (fun αh_2 Hh_2 Lh_2 ph_2 Bh_2 => ?_)
  refine lv_aload_n hx hb dX3_readWord_7 rfl (lv_at hl 0 rfl) (hp_n (n := 8) rfl ?_)
  have t_3 : b_1 = hp_R αh_2 200 a0 := by rw [cw_R ph_2 a0 (by decide)]; exact eb_1
  refine q_gets (κ := 4) (k := 0) (φ := 200) (pc' := 11) C Bh_2 (cw_k Bh_2.2.2 k0) fl_X3_12 rfl rfl rfl t_3 dX3_readWord_8 rfl ?_
  refine lv_aload_n hx hb dX3_readWord_11 rfl (lv_at hl 1 rfl) (hp_n (n := 12) rfl ?_)
  refine q_ci (pc' := 15) Bh_2 (hp_runV (As := [.ref (Γ.2.2.2.2.1 i1)]) (rest := []) C Bh_2 (t_X6_spells Γ l αh_2 Bh_2.2.2.1 b_1 (cw_k Bh_2.2.2 kb_1) i1 h1) lb_X6_spells lv_X6_spells lk_X3_71 (cw_k Bh_2.2.2 kb_1) rfl (by decide) rfl hl.1 rfl (Nat.le_of_ble_eq_true rfl) dX3_readWord_12 ⟨Nat.le_refl _, Nat.le_refl _⟩) (fun _ _ h => by rw [h.1]; exact Bh_2.2.2) rfl (fun rh_4 αh_4 Hh_4 Lh_4 ph_4 Bh_4 => ?_)
  rw [ph_4.1] at Bh_4
  have zh_4 := ph_4.2
  refine lv_if_ne (tgt := 25) hx hb dX3_readWord_15 (by decide) (fun c_5 => ?_) (fun c_5 => hp_n (n := 18) rfl ?_)
  ·
    have jc_5 := il_ne c_5
    refine lv_iconst (v := 1) hx hb dX3_readWord_25 (by decide) (hp_n (n := 26) rfl ?_)
    refine lv_goto (tgt := 30) hx hb dX3_readWord_26 (by decide) ?_
    exact q_zret C Bh_4 hr hlk (by decide) ⟨Bh_4.2.2, (Or.inr rfl)⟩ dX3_readWord_30
  ·
    have jc_5 := il_eq c_5
    refine lv_aload_n hx hb dX3_readWord_18 rfl (lv_at hl 0 rfl) (hp_n (n := 19) rfl ?_)
    refine q_ci (pc' := 22) Bh_4 (hp_runV (As := []) (rest := []) C Bh_4 (t_X3_stray Γ l αh_2 Bh_4.2.2.1 a0 (cw_k Bh_4.2.2 k0)) lb_X3_stray lv_X3_stray lk_X3_117 (cw_k Bh_4.2.2 k0) rfl (by decide) rfl hl.1 rfl (Nat.le_of_ble_eq_true rfl) dX3_readWord_19 ⟨Nat.le_refl _, Nat.le_refl _⟩) (fun _ _ h => cw_tr Bh_4.2.2 h.1 (by decide)) rfl (fun rh_6 αh_6 Hh_6 Lh_6 ph_6 Bh_6 => ?_)
    have zh_6 := ph_6.2
    refine lv_if_eq (tgt := 29) hx hb dX3_readWord_22 (by decide) (fun c_7 => ?_) (fun c_7 => hp_n (n := 25) rfl ?_)
    ·
      have jc_7 := il_eq c_7
      refine lv_iconst (v := 0) hx hb dX3_readWord_29 (by decide) (hp_n (n := 30) rfl ?_)
      exact q_zret C Bh_6 hr hlk (by decide) ⟨Bh_6.2.2, (Or.inl rfl)⟩ dX3_readWord_30
    ·
      have jc_7 := il_ne c_7
      refine lv_iconst (v := 1) hx hb dX3_readWord_25 (by decide) (hp_n (n := 26) rfl ?_)
      refine lv_goto (tgt := 30) hx hb dX3_readWord_26 (by decide) ?_
      exact q_zret C Bh_6 hr hlk (by decide) ⟨Bh_6.2.2, (Or.inr rfl)⟩ dX3_readWord_30
abbrev w_X3_readMark : cw_W := ([204, 205, 209, 352, 353, 354, 355, 356], [], [], [])
set_option maxRecDepth 100000 in
set_option maxHeartbeats 4000000 in
theorem t_X3_readMark (Γ : hp_G) (l : Launch) (α : hp_T) (g : GC α) (a0 : Nat) (k0 : hp_K α a0 = 4) (i1 : Nat) (h1 : i1 < 21) : Met l yX3_readMark (hp_ws yX3_readMark cX3_readMark 2 (some .boolean)) (hp_rm 6 0 0) (hp_Pc Γ α [.ref a0, .ref (Γ.2.2.2.2.1 i1)]) (hp_Qi Γ (fun r β => cw w_X3_readMark α β ∧ (r = 0 ∨ r = 1))) 0 0 (hp_A Γ) := by
  refine hp_start (by decide) ?_
  intro p e s m below meth c C hr hlk B0 hnm
  have C : hp_C Γ p m c cX3_readMark 2 s ([.ref a0, .ref (Γ.2.2.2.2.1 i1)] : List Value).toArray RX3 := C
  have hx := C.1.1
  have hb := C.1.2.1
  have hown := C.1.2.2.2.1
  have hts := C.1.2.2.2.2
  have B : hp_B Γ (cw w_X3_readMark) s α α s.heap [] := ⟨B0.1, B0.2.1, cw_rf g⟩
  have lit0 : (0 : Int32).toInt = 0 := by decide
  have lit1 : (1 : Int32).toInt = 1 := by decide
  have hl := lv_entry ([.ref a0, .ref (Γ.2.2.2.2.1 i1)]) (n := 2) (Nat.le_of_ble_eq_true rfl)
  show W p l e (hp_rm 6 0 0) s m ([.ref a0, .ref (Γ.2.2.2.2.1 i1)] : List Value).toArray below meth c s.heap [] 0 0 (MQ below (hp_Qi Γ (fun r β => cw w_X3_readMark α β ∧ (r = 0 ∨ r = 1))) ([.ref a0, .ref (Γ.2.2.2.2.1 i1)] : List Value).toArray s 0 0 (hp_A Γ)) (entryFrame m ([.ref a0, .ref (Γ.2.2.2.2.1 i1)] : List Value).toArray 2)
  rw [lg_entry_eq]
  generalize (lg_sl ([.ref a0, .ref (Γ.2.2.2.2.1 i1)]) ++ List.replicate (2 - (lg_sl ([.ref a0, .ref (Γ.2.2.2.2.1 i1)])).length) Slot.unset).toArray = ls at hl ⊢
  have hl : lv_has ls 2 [(0, .ref a0), (1, .ref (Γ.2.2.2.2.1 i1))] := hl
  refine lv_aload_n hx hb dX3_readMark_0 rfl (lv_at hl 0 rfl) (hp_n (n := 1) rfl ?_)
  refine lv_aload_n hx hb dX3_readMark_1 rfl (lv_at hl 1 rfl) (hp_n (n := 2) rfl ?_)
  refine q_ci (pc' := 5) B (hp_runV (As := [.ref (Γ.2.2.2.2.1 i1)]) (rest := []) C B (t_X3_readWord Γ l α B.2.2.1 a0 (cw_k B.2.2 k0) i1 h1) lb_X3_readWord lv_X3_readWord lk_X3_158 (cw_k B.2.2 k0) rfl (by decide) rfl hl.1 rfl (Nat.le_of_ble_eq_true rfl) dX3_readMark_2 ⟨Nat.le_refl _, Nat.le_refl _⟩) (fun _ _ h => cw_tr B.2.2 h.1 (by decide)) rfl (fun rh_1 αh_1 Hh_1 Lh_1 ph_1 Bh_1 => ?_)
  have zh_1 := ph_1.2
  refine lv_if_eq (tgt := 26) hx hb dX3_readMark_5 (by decide) (fun c_2 => ?_) (fun c_2 => hp_n (n := 8) rfl ?_)
  ·
    have jc_2 := il_eq c_2
    refine lv_iconst (v := 0) hx hb dX3_readMark_26 (by decide) (hp_n (n := 27) rfl ?_)
    exact q_zret C Bh_1 hr hlk (by decide) ⟨Bh_1.2.2, (Or.inl rfl)⟩ dX3_readMark_27
  ·
    have jc_2 := il_ne c_2
    refine lv_aload_n hx hb dX3_readMark_8 rfl (lv_at hl 0 rfl) (hp_n (n := 9) rfl ?_)
    refine lv_iconst (v := 0) hx hb dX3_readMark_9 (by decide) (hp_n (n := 10) rfl ?_)
    refine lv_aload_n hx hb dX3_readMark_10 rfl (lv_at hl 0 rfl) (hp_n (n := 11) rfl ?_)
    refine q_geti (κ := 4) (k := 3) (φ := 203) (pc' := 14) C Bh_1 (cw_k Bh_1.2.2 k0) fl_X3_33 rfl rfl rfl dX3_readMark_11 rfl (fun x_3 ex_3 => ?_)
    refine lv_iconst (v := 1) hx hb dX3_readMark_14 (by decide) (hp_n (n := 15) rfl ?_)
    refine lv_isub hx hb dX3_readMark_15 (hp_n (n := 16) rfl (lv_topi (fun x_4 ex_4 => ?_)))
    refine q_ci (pc' := 19) Bh_1 (hp_runV (As := [.int 0, .int x_4]) (rest := []) C Bh_1 (t_X3_readNumber Γ l αh_1 Bh_1.2.2.1 a0 (cw_k Bh_1.2.2 k0) 0 x_4) lb_X3_readNumber lv_X3_readNumber lk_X3_75 (cw_k Bh_1.2.2 k0) rfl (by decide) rfl hl.1 rfl (Nat.le_of_ble_eq_true rfl) dX3_readMark_16 ⟨Nat.le_refl _, Nat.le_refl _⟩) (fun _ _ h => cw_tr Bh_1.2.2 h.1 (by decide)) rfl (fun rh_5 αh_5 Hh_5 Lh_5 ph_5 Bh_5 => ?_)
    have zh_5 := ph_5.2
    refine lv_if_eq (tgt := 26) hx hb dX3_readMark_19 (by decide) (fun c_6 => ?_) (fun c_6 => hp_n (n := 22) rfl ?_)
    ·
      have jc_6 := il_eq c_6
      refine lv_iconst (v := 0) hx hb dX3_readMark_26 (by decide) (hp_n (n := 27) rfl ?_)
      exact q_zret C Bh_5 hr hlk (by decide) ⟨Bh_5.2.2, (Or.inl rfl)⟩ dX3_readMark_27
    ·
      have jc_6 := il_ne c_6
      refine lv_iconst (v := 1) hx hb dX3_readMark_22 (by decide) (hp_n (n := 23) rfl ?_)
      refine lv_goto (tgt := 27) hx hb dX3_readMark_23 (by decide) ?_
      exact q_zret C Bh_5 hr hlk (by decide) ⟨Bh_5.2.2, (Or.inr rfl)⟩ dX3_readMark_27
abbrev w_X3_readRow : cw_W := ([204, 205, 301, 352, 353, 354, 355, 356], [], [20], [])
set_option maxRecDepth 100000 in
set_option maxHeartbeats 4000000 in
theorem t_X3_readRow (Γ : hp_G) (l : Launch) (α : hp_T) (g : GC α) (a0 : Nat) (k0 : hp_K α a0 = 4) : Met l yX3_readRow (hp_ws yX3_readRow cX3_readRow 2 (some .boolean)) (hp_rm 6 0 0) (hp_Pc Γ α [.ref a0]) (hp_Qi Γ (fun r β => cw w_X3_readRow α β ∧ (r = 0 ∨ r = 1))) 0 0 (hp_A Γ) := by
  refine hp_start (by decide) ?_
  intro p e s m below meth c C hr hlk B0 hnm
  have C : hp_C Γ p m c cX3_readRow 2 s ([.ref a0] : List Value).toArray RX3 := C
  have hx := C.1.1
  have hb := C.1.2.1
  have hown := C.1.2.2.2.1
  have hts := C.1.2.2.2.2
  have B : hp_B Γ (cw w_X3_readRow) s α α s.heap [] := ⟨B0.1, B0.2.1, cw_rf g⟩
  have lit0 : (0 : Int32).toInt = 0 := by decide
  have lit1 : (1 : Int32).toInt = 1 := by decide
  have lit2 : (2 : Int32).toInt = 2 := by decide
  have lit3 : (3 : Int32).toInt = 3 := by decide
  have lit64 : (64 : Int32).toInt = 64 := by decide
  have hl := lv_entry ([.ref a0]) (n := 2) (Nat.le_of_ble_eq_true rfl)
  show W p l e (hp_rm 6 0 0) s m ([.ref a0] : List Value).toArray below meth c s.heap [] 0 0 (MQ below (hp_Qi Γ (fun r β => cw w_X3_readRow α β ∧ (r = 0 ∨ r = 1))) ([.ref a0] : List Value).toArray s 0 0 (hp_A Γ)) (entryFrame m ([.ref a0] : List Value).toArray 2)
  rw [lg_entry_eq]
  generalize (lg_sl ([.ref a0]) ++ List.replicate (2 - (lg_sl ([.ref a0])).length) Slot.unset).toArray = ls at hl ⊢
  have hl : lv_has ls 2 [(0, .ref a0)] := hl
  refine lv_aload_n hx hb dX3_readRow_0 rfl (lv_at hl 0 rfl) (hp_n (n := 1) rfl ?_)
  refine va_ldcS hx hb hown (sr_X3_186 C.2) dX3_readRow_1 (hp_n (n := 3) rfl ?_)
  refine q_ci (pc' := 6) B (hp_runV (As := [.ref (Γ.2.2.2.2.1 8)]) (rest := []) C B (t_X3_readWord Γ l α B.2.2.1 a0 (cw_k B.2.2 k0) 8 (by decide)) lb_X3_readWord lv_X3_readWord lk_X3_158 (cw_k B.2.2 k0) rfl (by decide) rfl hl.1 rfl (Nat.le_of_ble_eq_true rfl) dX3_readRow_3 ⟨Nat.le_refl _, Nat.le_refl _⟩) (fun _ _ h => cw_tr B.2.2 h.1 (by decide)) rfl (fun rh_1 αh_1 Hh_1 Lh_1 ph_1 Bh_1 => ?_)
  have zh_1 := ph_1.2
  refine lv_if_ne (tgt := 11) hx hb dX3_readRow_6 (by decide) (fun c_2 => ?_) (fun c_2 => hp_n (n := 9) rfl ?_)
  ·
    have jc_2 := il_ne c_2
    refine lv_aload_n hx hb dX3_readRow_11 rfl (lv_at hl 0 rfl) (hp_n (n := 12) rfl ?_)
    refine q_getr (κ := 4) (k := 1) (φ := 201) (pc' := 15) C Bh_1 (cw_k Bh_1.2.2 k0) fl_X3_21 rfl rfl rfl (cw_r Bh_1.2.2 k0 rfl rfl (by decide) (by decide)) dX3_readRow_12 rfl (fun b_3 eb_3 kb_3 => ?_)
    refine lv_iconst (v := 0) hx hb dX3_readRow_15 (by decide) (hp_n (n := 16) rfl ?_)
    refine q_cv (pc' := 19) Bh_1 (hp_runV (As := [.int 0]) (rest := []) C Bh_1 (t_X5_shorten Γ l αh_1 Bh_1.2.2.1 b_3 (cw_k Bh_1.2.2 kb_3) 0) lb_X5_shorten lv_X5_shorten lk_X3_120 (cw_k Bh_1.2.2 kb_3) rfl (by decide) rfl hl.1 rfl (Nat.le_of_ble_eq_true rfl) dX3_readRow_16 ⟨Nat.le_refl _, Nat.le_refl _⟩) (fun _ h => cw_tr Bh_1.2.2 h (by decide)) rfl (fun αh_4 Hh_4 Lh_4 ph_4 Bh_4 => ?_)
    refine lv_aload_n hx hb dX3_readRow_19 rfl (lv_at hl 0 rfl) (hp_n (n := 20) rfl ?_)
    refine q_getr (κ := 4) (k := 0) (φ := 200) (pc' := 23) C Bh_4 (cw_k Bh_4.2.2 k0) fl_X3_12 rfl rfl rfl (cw_r Bh_4.2.2 k0 rfl rfl (by decide) (by decide)) dX3_readRow_20 rfl (fun b_5 eb_5 kb_5 => ?_)
    refine q_cv (pc' := 26) Bh_4 (hp_runV (As := []) (rest := []) C Bh_4 (t_X6_advance Γ l αh_4 Bh_4.2.2.1 b_5 (cw_k Bh_4.2.2 kb_5)) lb_X6_advance lv_X6_advance lk_X3_63 (cw_k Bh_4.2.2 kb_5) rfl (by decide) rfl hl.1 rfl (Nat.le_of_ble_eq_true rfl) dX3_readRow_23 ⟨Nat.le_refl _, Nat.le_refl _⟩) (fun _ h => cw_tr Bh_4.2.2 h (by decide)) rfl (fun αh_6 Hh_6 Lh_6 ph_6 Bh_6 => ?_)
    refine lv_iconst (v := 0) hx hb dX3_readRow_26 (by decide) (hp_n (n := 27) rfl ?_)
    have J28 : ∀ (nq : Nat) (αh_7 : hp_T) (Hh_7 : Heap) (Lh_7 : List Loc) (Bh_7 : hp_B Γ (cw w_X3_readRow) s α αh_7 Hh_7 Lh_7) (v1_h_7 : Int32) (ih_7_0 : 0 ≤ v1_h_7.toInt) (ls : Array Slot) (hl : lv_has ls 2 [(0, .ref a0), (1, .int v1_h_7)]) (hmu28 : (2147483647 - v1_h_7.toInt).toNat = nq), W p l e (hp_rm 6 0 0) s m ([.ref a0] : List Value).toArray below meth c Hh_7 Lh_7 0 0 (MQ below (hp_Qi Γ (fun r β => cw w_X3_readRow α β ∧ (r = 0 ∨ r = 1))) ([.ref a0] : List Value).toArray s 0 0 (hp_A Γ)) (F0 m 28 ls []) := by
      intro nq
      induction nq using Nat.strongRecOn with
      | ind nq ih28 =>
      intro αh_7 Hh_7 Lh_7 Bh_7 v1_h_7 ih_7_0 ls hl hmu28
      have inv28_0 := ih_7_0
      refine lv_iload_n hx hb dX3_readRow_28 rfl (lv_at hl 1 rfl) (hp_n (n := 29) rfl ?_)
      refine lv_bipush (v := 64) hx hb dX3_readRow_29 (by decide) (hp_n (n := 31) rfl ?_)
      have J110 : ∀ (Hh_8 : Heap) (Lh_8 : List Loc) (Bh_8 : hp_B Γ (cw w_X3_readRow) s α αh_7 Hh_8 Lh_8) (ls : Array Slot) (hl : lv_has ls 2 [(0, .ref a0)]), W p l e (hp_rm 6 0 0) s m ([.ref a0] : List Value).toArray below meth c Hh_8 Lh_8 0 0 (MQ below (hp_Qi Γ (fun r β => cw w_X3_readRow α β ∧ (r = 0 ∨ r = 1))) ([.ref a0] : List Value).toArray s 0 0 (hp_A Γ)) (F0 m 110 ls []) := by
        intro Hh_8 Lh_8 Bh_8 ls hl
        refine lv_aload_n hx hb dX3_readRow_110 rfl (lv_at hl 0 rfl) (hp_n (n := 111) rfl ?_)
        refine q_getr (κ := 4) (k := 0) (φ := 200) (pc' := 114) C Bh_8 (cw_k Bh_8.2.2 k0) fl_X3_12 rfl rfl rfl (cw_r Bh_8.2.2 k0 rfl rfl (by decide) (by decide)) dX3_readRow_111 rfl (fun b_9 eb_9 kb_9 => ?_)
        refine q_geti (κ := 7) (k := 3) (φ := 353) (pc' := 117) C Bh_8 (cw_k Bh_8.2.2 kb_9) fl_X3_66 rfl rfl rfl dX3_readRow_114 rfl (fun x_10 ex_10 => ?_)
        refine lv_iconst (v := 3) hx hb dX3_readRow_117 (by decide) (hp_n (n := 118) rfl ?_)
        refine lv_icmp_eq (tgt := 128) hx hb dX3_readRow_118 (by decide) (fun c_11 => ?_) (fun c_11 => hp_n (n := 121) rfl ?_)
        ·
          have jc_11 := il_eq c_11
          refine lv_iconst (v := 1) hx hb dX3_readRow_128 (by decide) (hp_n (n := 129) rfl ?_)
          refine lv_goto (tgt := 133) hx hb dX3_readRow_129 (by decide) ?_
          exact q_zret C Bh_8 hr hlk (by decide) ⟨Bh_8.2.2, (Or.inr rfl)⟩ dX3_readRow_133
        ·
          have jc_11 := il_ne c_11
          refine lv_aload_n hx hb dX3_readRow_121 rfl (lv_at hl 0 rfl) (hp_n (n := 122) rfl ?_)
          refine q_ci (pc' := 125) Bh_8 (hp_runV (As := []) (rest := []) C Bh_8 (t_X3_stray Γ l αh_7 Bh_8.2.2.1 a0 (cw_k Bh_8.2.2 k0)) lb_X3_stray lv_X3_stray lk_X3_117 (cw_k Bh_8.2.2 k0) rfl (by decide) rfl hl.1 rfl (Nat.le_of_ble_eq_true rfl) dX3_readRow_122 ⟨Nat.le_refl _, Nat.le_refl _⟩) (fun _ _ h => cw_tr Bh_8.2.2 h.1 (by decide)) rfl (fun rh_12 αh_12 Hh_12 Lh_12 ph_12 Bh_12 => ?_)
          have zh_12 := ph_12.2
          refine lv_if_eq (tgt := 132) hx hb dX3_readRow_125 (by decide) (fun c_13 => ?_) (fun c_13 => hp_n (n := 128) rfl ?_)
          ·
            have jc_13 := il_eq c_13
            refine lv_iconst (v := 0) hx hb dX3_readRow_132 (by decide) (hp_n (n := 133) rfl ?_)
            exact q_zret C Bh_12 hr hlk (by decide) ⟨Bh_12.2.2, (Or.inl rfl)⟩ dX3_readRow_133
          ·
            have jc_13 := il_ne c_13
            refine lv_iconst (v := 1) hx hb dX3_readRow_128 (by decide) (hp_n (n := 129) rfl ?_)
            refine lv_goto (tgt := 133) hx hb dX3_readRow_129 (by decide) ?_
            exact q_zret C Bh_12 hr hlk (by decide) ⟨Bh_12.2.2, (Or.inr rfl)⟩ dX3_readRow_133
      refine lv_icmp_gt (tgt := 110) hx hb dX3_readRow_31 (by decide) (fun c_14 => ?_) (fun c_14 => hp_n (n := 34) rfl ?_)
      ·
        have jc_14 := il_lt c_14
        exact J110 Hh_7 Lh_7 Bh_7 ls (lv_sub hl [0] rfl)
      ·
        have jc_14 := il_nlt c_14
        refine lv_aload_n hx hb dX3_readRow_34 rfl (lv_at hl 0 rfl) (hp_n (n := 35) rfl ?_)
        refine q_getr (κ := 4) (k := 0) (φ := 200) (pc' := 38) C Bh_7 (cw_k Bh_7.2.2 k0) fl_X3_12 rfl rfl rfl (cw_r Bh_7.2.2 k0 rfl rfl (by decide) (by decide)) dX3_readRow_35 rfl (fun b_15 eb_15 kb_15 => ?_)
        refine q_geti (κ := 7) (k := 3) (φ := 353) (pc' := 41) C Bh_7 (cw_k Bh_7.2.2 kb_15) fl_X3_66 rfl rfl rfl dX3_readRow_38 rfl (fun x_16 ex_16 => ?_)
        refine lv_iconst (v := 2) hx hb dX3_readRow_41 (by decide) (hp_n (n := 42) rfl ?_)
        refine lv_icmp_ne (tgt := 110) hx hb dX3_readRow_42 (by decide) (fun c_17 => ?_) (fun c_17 => hp_n (n := 45) rfl ?_)
        ·
          have jc_17 := il_ne c_17
          exact J110 Hh_7 Lh_7 Bh_7 ls (lv_sub hl [0] rfl)
        ·
          have jc_17 := il_eq c_17
          refine lv_aload_n hx hb dX3_readRow_45 rfl (lv_at hl 0 rfl) (hp_n (n := 46) rfl ?_)
          refine q_gets (κ := 4) (k := 0) (φ := 200) (pc' := 49) C Bh_7 (cw_k Bh_7.2.2 k0) fl_X3_12 rfl rfl rfl eb_15 dX3_readRow_46 rfl ?_
          refine q_geti (κ := 7) (k := 6) (φ := 356) (pc' := 52) C Bh_7 (cw_k Bh_7.2.2 kb_15) fl_X3_188 rfl rfl rfl dX3_readRow_49 rfl (fun x_18 ex_18 => ?_)
          refine lv_aload_n hx hb dX3_readRow_52 rfl (lv_at hl 0 rfl) (hp_n (n := 53) rfl ?_)
          refine q_geti (κ := 4) (k := 3) (φ := 203) (pc' := 56) C Bh_7 (cw_k Bh_7.2.2 k0) fl_X3_33 rfl rfl rfl dX3_readRow_53 rfl (fun x_19 ex_19 => ?_)
          refine lv_icmp_lt (tgt := 65) hx hb dX3_readRow_56 (by decide) (fun c_20 => ?_) (fun c_20 => hp_n (n := 59) rfl ?_)
          ·
            have jc_20 := il_lt c_20
            refine lv_aload_n hx hb dX3_readRow_65 rfl (lv_at hl 0 rfl) (hp_n (n := 66) rfl ?_)
            refine lv_aload_n hx hb dX3_readRow_66 rfl (lv_at hl 0 rfl) (hp_n (n := 67) rfl ?_)
            refine q_getr (κ := 4) (k := 1) (φ := 201) (pc' := 70) C Bh_7 (cw_k Bh_7.2.2 k0) fl_X3_21 rfl rfl rfl (cw_r Bh_7.2.2 k0 rfl rfl (by decide) (by decide)) dX3_readRow_67 rfl (fun b_21 eb_21 kb_21 => ?_)
            refine q_geti (κ := 6) (k := 1) (φ := 301) (pc' := 73) C Bh_7 (cw_k Bh_7.2.2 kb_21) fl_X3_131 rfl rfl rfl dX3_readRow_70 rfl (fun x_22 ex_22 => ?_)
            refine lv_bipush (v := 64) hx hb dX3_readRow_73 (by decide) (hp_n (n := 75) rfl ?_)
            refine q_ci (pc' := 78) Bh_7 (hp_runV (As := [.int x_22, .int 64]) (rest := []) C Bh_7 (t_X3_hasRoom Γ l αh_7 Bh_7.2.2.1 a0 (cw_k Bh_7.2.2 k0) x_22 64) lb_X3_hasRoom lv_X3_hasRoom lk_X3_99 (cw_k Bh_7.2.2 k0) rfl (by decide) rfl hl.1 rfl (Nat.le_of_ble_eq_true rfl) dX3_readRow_75 ⟨Nat.le_refl _, Nat.le_refl _⟩) (fun _ _ h => cw_tr Bh_7.2.2 h.1 (by decide)) rfl (fun rh_23 αh_23 Hh_23 Lh_23 ph_23 Bh_23 => ?_)
            have zh_23 := ph_23.2
            refine lv_if_ne (tgt := 83) hx hb dX3_readRow_78 (by decide) (fun c_24 => ?_) (fun c_24 => hp_n (n := 81) rfl ?_)
            ·
              have jc_24 := il_ne c_24
              refine lv_aload_n hx hb dX3_readRow_83 rfl (lv_at hl 0 rfl) (hp_n (n := 84) rfl ?_)
              have t_25 : b_21 = hp_R αh_23 201 a0 := by rw [cw_R ph_23.1 a0 (by decide)]; exact eb_21
              refine q_gets (κ := 4) (k := 1) (φ := 201) (pc' := 87) C Bh_23 (cw_k Bh_23.2.2 k0) fl_X3_21 rfl rfl rfl t_25 dX3_readRow_84 rfl ?_
              refine lv_aload_n hx hb dX3_readRow_87 rfl (lv_at hl 0 rfl) (hp_n (n := 88) rfl ?_)
              have t_26 : b_15 = hp_R αh_23 200 a0 := by rw [cw_R ph_23.1 a0 (by decide)]; exact eb_15
              refine q_gets (κ := 4) (k := 0) (φ := 200) (pc' := 91) C Bh_23 (cw_k Bh_23.2.2 k0) fl_X3_12 rfl rfl rfl t_26 dX3_readRow_88 rfl ?_
              have t_27 : x_18 = hp_I αh_23 356 b_15 := by rw [cw_I ph_23.1 b_15 (by decide)]; exact ex_18
              refine q_getj (κ := 7) (k := 6) (φ := 356) (pc' := 94) C Bh_23 (cw_k Bh_23.2.2 kb_15) fl_X3_188 rfl rfl rfl t_27 dX3_readRow_91 rfl ?_
              refine q_cv (pc' := 97) Bh_23 (hp_runV (As := [.int x_18]) (rest := []) C Bh_23 (t_X5_put Γ l αh_23 Bh_23.2.2.1 b_21 (cw_k Bh_23.2.2 kb_21) x_18) lb_X5_put lv_X5_put lk_X3_179 (cw_k Bh_23.2.2 kb_21) rfl (by decide) rfl hl.1 rfl (Nat.le_of_ble_eq_true rfl) dX3_readRow_94 ⟨Nat.le_refl _, Nat.le_refl _⟩) (fun _ h => cw_tr Bh_23.2.2 h (by decide)) rfl (fun αh_28 Hh_28 Lh_28 ph_28 Bh_28 => ?_)
              refine lv_aload_n hx hb dX3_readRow_97 rfl (lv_at hl 0 rfl) (hp_n (n := 98) rfl ?_)
              have t_29 : b_15 = hp_R αh_28 200 a0 := by rw [cw_R ph_28 a0 (by decide)]; exact t_26
              refine q_gets (κ := 4) (k := 0) (φ := 200) (pc' := 101) C Bh_28 (cw_k Bh_28.2.2 k0) fl_X3_12 rfl rfl rfl t_29 dX3_readRow_98 rfl ?_
              refine q_cv (pc' := 104) Bh_28 (hp_runV (As := []) (rest := []) C Bh_28 (t_X6_advance Γ l αh_28 Bh_28.2.2.1 b_15 (cw_k Bh_28.2.2 kb_15)) lb_X6_advance lv_X6_advance lk_X3_63 (cw_k Bh_28.2.2 kb_15) rfl (by decide) rfl hl.1 rfl (Nat.le_of_ble_eq_true rfl) dX3_readRow_101 ⟨Nat.le_refl _, Nat.le_refl _⟩) (fun _ h => cw_tr Bh_28.2.2 h (by decide)) rfl (fun αh_30 Hh_30 Lh_30 ph_30 Bh_30 => ?_)
              obtain ⟨x_31, ex_31⟩ : ∃ y : Int32, y = v1_h_7 + 1 := ⟨_, rfl⟩
              have qx_31 : x_31.toInt = v1_h_7.toInt + 1 := by have qa := ib_lo v1_h_7; rw [ex_31]; exact ii_add (by omega) (by omega)
              refine lv_iinc (v := x_31) (lv' := [(1, .int x_31), (0, .ref a0)]) hx hb dX3_readRow_104 hl (k := 1) rfl (by rw [ex_31]; rfl) (by decide) rfl (fun ls hl => hp_n (n := 107) rfl ?_)
              refine lv_goto (tgt := 28) hx hb dX3_readRow_107 (by decide) ?_
              exact ih28 _ (by have qa := ib_hi v1_h_7; have qb := ib_lo v1_h_7; have qc : (v1_h_7 + 1).toInt = v1_h_7.toInt + (1 : Int32).toInt := ii_add (by omega) (by omega); rw [ex_31]; omega) αh_30 Hh_30 Lh_30 Bh_30 x_31 (by omega) ls (lv_sub hl [1, 0] rfl) rfl
            ·
              have jc_24 := il_eq c_24
              refine lv_iconst (v := 0) hx hb dX3_readRow_81 (by decide) (hp_n (n := 82) rfl ?_)
              exact q_zret C Bh_23 hr hlk (by decide) ⟨Bh_23.2.2, (Or.inl rfl)⟩ dX3_readRow_82
          ·
            have jc_20 := il_nlt c_20
            refine lv_aload_n hx hb dX3_readRow_59 rfl (lv_at hl 0 rfl) (hp_n (n := 60) rfl ?_)
            refine lv_iconst (v := 3) hx hb dX3_readRow_60 (by decide) (hp_n (n := 61) rfl ?_)
            refine q_ci (pc' := 64) Bh_7 (hp_runV (As := [.int 3]) (rest := []) C Bh_7 (t_X3_fail Γ l αh_7 Bh_7.2.2.1 a0 (cw_k Bh_7.2.2 k0) 3) lb_X3_fail lv_X3_fail lk_X3_145 (cw_k Bh_7.2.2 k0) rfl (by decide) rfl hl.1 rfl (Nat.le_of_ble_eq_true rfl) dX3_readRow_61 ⟨Nat.le_refl _, Nat.le_refl _⟩) (fun _ _ h => cw_tr Bh_7.2.2 h.1 (by decide)) rfl (fun rh_32 αh_32 Hh_32 Lh_32 ph_32 Bh_32 => ?_)
            have zh_32 := ph_32.2
            exact q_zret C Bh_32 hr hlk (nz_z zh_32) ⟨Bh_32.2.2, zh_32⟩ dX3_readRow_64
    refine lv_istore_n (lv' := [(1, .int 0), (0, .ref a0)]) hx hb dX3_readRow_27 rfl hl (by decide) rfl (fun ls hl => hp_n (n := 28) rfl ?_)
    exact J28 _ αh_6 Hh_6 Lh_6 Bh_6 0 (by omega) ls (lv_sub hl [1, 0] rfl) rfl
  ·
    have jc_2 := il_eq c_2
    refine lv_iconst (v := 0) hx hb dX3_readRow_9 (by decide) (hp_n (n := 10) rfl ?_)
    exact q_zret C Bh_1 hr hlk (by decide) ⟨Bh_1.2.2, (Or.inl rfl)⟩ dX3_readRow_10
abbrev w_X3_readModulus : cw_W := ([204, 205, 209, 352, 353, 354, 355, 356, 550], [], [], [])
abbrev w_X3_readAdd : cw_W := ([204, 205, 206, 352, 353, 354, 355, 356, 501], [], [27], [])
abbrev w_X3_readShow : cw_W := ([204, 205, 206, 208, 209, 352, 353, 354, 355, 356], [], [], [])
abbrev w_X3_readLine : cw_W := ([204, 205, 206, 208, 209, 352, 353, 354, 355, 356, 501], [], [27], [])
abbrev w_X3_readInclusion : cw_W := ([204, 205, 209, 301, 352, 353, 354, 355, 356, 453, 454], [], [20, 21, 22, 23], [])
set_option maxRecDepth 100000 in
set_option maxHeartbeats 4000000 in
theorem t_X3_readInclusion (Γ : hp_G) (l : Launch) (α : hp_T) (g : GC α) (a0 : Nat) (k0 : hp_K α a0 = 4) (a1 : Nat) (k1 : hp_K α a1 = 6) : Met l yX3_readInclusion (hp_ws yX3_readInclusion cX3_readInclusion 5 (some .boolean)) (hp_rm 7 0 0) (hp_Pc Γ α [.ref a0, .ref a1]) (hp_Qi Γ (fun r β => cw w_X3_readInclusion α β ∧ (r = 0 ∨ r = 1))) 0 0 (hp_A Γ) := by
  refine hp_start (by decide) ?_
  intro p e s m below meth c C hr hlk B0 hnm
  have C : hp_C Γ p m c cX3_readInclusion 5 s ([.ref a0, .ref a1] : List Value).toArray RX3 := C
  have hx := C.1.1
  have hb := C.1.2.1
  have hown := C.1.2.2.2.1
  have hts := C.1.2.2.2.2
  have B : hp_B Γ (cw w_X3_readInclusion) s α α s.heap [] := ⟨B0.1, B0.2.1, cw_rf g⟩
  have lit0 : (0 : Int32).toInt = 0 := by decide
  have lit1 : (1 : Int32).toInt = 1 := by decide
  have lit2147483647 : (2147483647 : Int32).toInt = 2147483647 := by decide
  have hl := lv_entry ([.ref a0, .ref a1]) (n := 5) (Nat.le_of_ble_eq_true rfl)
  show W p l e (hp_rm 7 0 0) s m ([.ref a0, .ref a1] : List Value).toArray below meth c s.heap [] 0 0 (MQ below (hp_Qi Γ (fun r β => cw w_X3_readInclusion α β ∧ (r = 0 ∨ r = 1))) ([.ref a0, .ref a1] : List Value).toArray s 0 0 (hp_A Γ)) (entryFrame m ([.ref a0, .ref a1] : List Value).toArray 5)
  rw [lg_entry_eq]
  generalize (lg_sl ([.ref a0, .ref a1]) ++ List.replicate (5 - (lg_sl ([.ref a0, .ref a1])).length) Slot.unset).toArray = ls at hl ⊢
  have hl : lv_has ls 5 [(0, .ref a0), (1, .ref a1)] := hl
  refine lv_aload_n hx hb dX3_readInclusion_0 rfl (lv_at hl 0 rfl) (hp_n (n := 1) rfl ?_)
  refine lv_iconst (v := 0) hx hb dX3_readInclusion_1 (by decide) (hp_n (n := 2) rfl ?_)
  refine lv_ldc hx hb hown (hts _ kc_X3_155) dX3_readInclusion_2 (hp_n (n := 4) rfl ?_)
  refine q_ci (pc' := 7) B (hp_runV (As := [.int 0, .int 2147483647]) (rest := []) C B (t_X3_readNumber Γ l α B.2.2.1 a0 (cw_k B.2.2 k0) 0 2147483647) lb_X3_readNumber lv_X3_readNumber lk_X3_75 (cw_k B.2.2 k0) rfl (by decide) rfl hl.1 rfl (Nat.le_of_ble_eq_true rfl) dX3_readInclusion_4 ⟨Nat.le_refl _, Nat.le_refl _⟩) (fun _ _ h => cw_tr B.2.2 h.1 (by decide)) rfl (fun rh_1 αh_1 Hh_1 Lh_1 ph_1 Bh_1 => ?_)
  have zh_1 := ph_1.2
  refine lv_if_ne (tgt := 12) hx hb dX3_readInclusion_7 (by decide) (fun c_2 => ?_) (fun c_2 => hp_n (n := 10) rfl ?_)
  ·
    have jc_2 := il_ne c_2
    refine lv_aload_n hx hb dX3_readInclusion_12 rfl (lv_at hl 0 rfl) (hp_n (n := 13) rfl ?_)
    refine q_geti (κ := 4) (k := 9) (φ := 209) (pc' := 16) C Bh_1 (cw_k Bh_1.2.2 k0) fl_X3_56 rfl rfl rfl dX3_readInclusion_13 rfl (fun x_3 ex_3 => ?_)
    refine lv_istore_n (lv' := [(2, .int x_3), (0, .ref a0), (1, .ref a1)]) hx hb dX3_readInclusion_16 rfl hl (by decide) rfl (fun ls hl => hp_n (n := 17) rfl ?_)
    refine lv_aload_n hx hb dX3_readInclusion_17 rfl (lv_at hl 1 rfl) (hp_n (n := 18) rfl ?_)
    refine va_ldcS hx hb hown (sr_X3_156 C.2) dX3_readInclusion_18 (hp_n (n := 20) rfl ?_)
    refine q_ci (pc' := 23) Bh_1 (hp_runV (As := [.ref (Γ.2.2.2.2.1 18)]) (rest := []) C Bh_1 (t_X3_readWord Γ l αh_1 Bh_1.2.2.1 a0 (cw_k Bh_1.2.2 k0) 18 (by decide)) lb_X3_readWord lv_X3_readWord lk_X3_158 (cw_k Bh_1.2.2 k0) rfl (by decide) rfl hl.1 rfl (Nat.le_of_ble_eq_true rfl) dX3_readInclusion_20 ⟨Nat.le_refl _, Nat.le_refl _⟩) (fun _ _ h => cw_tr Bh_1.2.2 h.1 (by decide)) rfl (fun rh_4 αh_4 Hh_4 Lh_4 ph_4 Bh_4 => ?_)
    have zh_4 := ph_4.2
    refine lv_if_eq (tgt := 38) hx hb dX3_readInclusion_23 (by decide) (fun c_5 => ?_) (fun c_5 => hp_n (n := 26) rfl ?_)
    ·
      have jc_5 := il_eq c_5
      refine lv_iconst (v := 0) hx hb dX3_readInclusion_38 (by decide) (hp_n (n := 39) rfl ?_)
      exact q_zret C Bh_4 hr hlk (by decide) ⟨Bh_4.2.2, (Or.inl rfl)⟩ dX3_readInclusion_39
    ·
      have jc_5 := il_ne c_5
      refine lv_aload_n hx hb dX3_readInclusion_26 rfl (lv_at hl 1 rfl) (hp_n (n := 27) rfl ?_)
      refine lv_iload_n hx hb dX3_readInclusion_27 rfl (lv_at hl 0 rfl) (hp_n (n := 28) rfl ?_)
      refine lv_iconst (v := 1) hx hb dX3_readInclusion_28 (by decide) (hp_n (n := 29) rfl ?_)
      refine lv_iadd hx hb dX3_readInclusion_29 (hp_n (n := 30) rfl (lv_topi (fun x_6 ex_6 => ?_)))
      refine lv_ldc hx hb hown (hts _ kc_X3_155) dX3_readInclusion_30 (hp_n (n := 32) rfl ?_)
      refine q_ci (pc' := 35) Bh_4 (hp_runV (As := [.int x_6, .int 2147483647]) (rest := []) C Bh_4 (t_X3_readNumber Γ l αh_4 Bh_4.2.2.1 a0 (cw_k Bh_4.2.2 k0) x_6 2147483647) lb_X3_readNumber lv_X3_readNumber lk_X3_75 (cw_k Bh_4.2.2 k0) rfl (by decide) rfl hl.1 rfl (Nat.le_of_ble_eq_true rfl) dX3_readInclusion_32 ⟨Nat.le_refl _, Nat.le_refl _⟩) (fun _ _ h => cw_tr Bh_4.2.2 h.1 (by decide)) rfl (fun rh_7 αh_7 Hh_7 Lh_7 ph_7 Bh_7 => ?_)
      have zh_7 := ph_7.2
      refine lv_if_ne (tgt := 40) hx hb dX3_readInclusion_35 (by decide) (fun c_8 => ?_) (fun c_8 => hp_n (n := 38) rfl ?_)
      ·
        have jc_8 := il_ne c_8
        refine lv_aload_n hx hb dX3_readInclusion_40 rfl (lv_at hl 1 rfl) (hp_n (n := 41) rfl ?_)
        refine q_geti (κ := 4) (k := 9) (φ := 209) (pc' := 44) C Bh_7 (cw_k Bh_7.2.2 k0) fl_X3_56 rfl rfl rfl dX3_readInclusion_41 rfl (fun x_9 ex_9 => ?_)
        refine lv_istore_n (lv' := [(3, .int x_9), (2, .int x_3), (0, .ref a0), (1, .ref a1)]) hx hb dX3_readInclusion_44 rfl hl (by decide) rfl (fun ls hl => hp_n (n := 45) rfl ?_)
        refine lv_aload_n hx hb dX3_readInclusion_45 rfl (lv_at hl 2 rfl) (hp_n (n := 46) rfl ?_)
        refine va_ldcS hx hb hown (sr_X3_161 C.2) dX3_readInclusion_46 (hp_n (n := 48) rfl ?_)
        refine q_ci (pc' := 51) Bh_7 (hp_runV (As := [.ref (Γ.2.2.2.2.1 16)]) (rest := []) C Bh_7 (t_X3_readMark Γ l αh_7 Bh_7.2.2.1 a0 (cw_k Bh_7.2.2 k0) 16 (by decide)) lb_X3_readMark lv_X3_readMark lk_X3_163 (cw_k Bh_7.2.2 k0) rfl (by decide) rfl hl.1 rfl (Nat.le_of_ble_eq_true rfl) dX3_readInclusion_48 ⟨Nat.le_refl _, Nat.le_refl _⟩) (fun _ _ h => cw_tr Bh_7.2.2 h.1 (by decide)) rfl (fun rh_10 αh_10 Hh_10 Lh_10 ph_10 Bh_10 => ?_)
        have zh_10 := ph_10.2
        refine lv_if_ne (tgt := 56) hx hb dX3_readInclusion_51 (by decide) (fun c_11 => ?_) (fun c_11 => hp_n (n := 54) rfl ?_)
        ·
          have jc_11 := il_ne c_11
          refine lv_aload_n hx hb dX3_readInclusion_56 rfl (lv_at hl 2 rfl) (hp_n (n := 57) rfl ?_)
          refine q_geti (κ := 4) (k := 9) (φ := 209) (pc' := 60) C Bh_10 (cw_k Bh_10.2.2 k0) fl_X3_56 rfl rfl rfl dX3_readInclusion_57 rfl (fun x_12 ex_12 => ?_)
          refine lv_istore (lv' := [(4, .int x_12), (3, .int x_9), (2, .int x_3), (0, .ref a0), (1, .ref a1)]) hx hb dX3_readInclusion_60 hl (by decide) rfl (fun ls hl => hp_n (n := 62) rfl ?_)
          refine lv_aload_n hx hb dX3_readInclusion_62 rfl (lv_at hl 3 rfl) (hp_n (n := 63) rfl ?_)
          refine va_ldcS hx hb hown (sr_X3_166 C.2) dX3_readInclusion_63 (hp_n (n := 65) rfl ?_)
          refine q_ci (pc' := 68) Bh_10 (hp_runV (As := [.ref (Γ.2.2.2.2.1 13)]) (rest := []) C Bh_10 (t_X3_readMark Γ l αh_10 Bh_10.2.2.1 a0 (cw_k Bh_10.2.2 k0) 13 (by decide)) lb_X3_readMark lv_X3_readMark lk_X3_163 (cw_k Bh_10.2.2 k0) rfl (by decide) rfl hl.1 rfl (Nat.le_of_ble_eq_true rfl) dX3_readInclusion_65 ⟨Nat.le_refl _, Nat.le_refl _⟩) (fun _ _ h => cw_tr Bh_10.2.2 h.1 (by decide)) rfl (fun rh_13 αh_13 Hh_13 Lh_13 ph_13 Bh_13 => ?_)
          have zh_13 := ph_13.2
          refine lv_if_eq (tgt := 78) hx hb dX3_readInclusion_68 (by decide) (fun c_14 => ?_) (fun c_14 => hp_n (n := 71) rfl ?_)
          ·
            have jc_14 := il_eq c_14
            refine lv_iconst (v := 0) hx hb dX3_readInclusion_78 (by decide) (hp_n (n := 79) rfl ?_)
            exact q_zret C Bh_13 hr hlk (by decide) ⟨Bh_13.2.2, (Or.inl rfl)⟩ dX3_readInclusion_79
          ·
            have jc_14 := il_ne c_14
            refine lv_aload_n hx hb dX3_readInclusion_71 rfl (lv_at hl 3 rfl) (hp_n (n := 72) rfl ?_)
            refine q_ci (pc' := 75) Bh_13 (hp_runV (As := []) (rest := []) C Bh_13 (t_X3_readRow Γ l αh_13 Bh_13.2.2.1 a0 (cw_k Bh_13.2.2 k0)) lb_X3_readRow lv_X3_readRow lk_X3_168 (cw_k Bh_13.2.2 k0) rfl (by decide) rfl hl.1 rfl (Nat.le_of_ble_eq_true rfl) dX3_readInclusion_72 ⟨Nat.le_refl _, Nat.le_refl _⟩) (fun _ _ h => cw_tr Bh_13.2.2 h.1 (by decide)) rfl (fun rh_15 αh_15 Hh_15 Lh_15 ph_15 Bh_15 => ?_)
            have zh_15 := ph_15.2
            refine lv_if_ne (tgt := 80) hx hb dX3_readInclusion_75 (by decide) (fun c_16 => ?_) (fun c_16 => hp_n (n := 78) rfl ?_)
            ·
              have jc_16 := il_ne c_16
              refine lv_aload_n hx hb dX3_readInclusion_80 rfl (lv_at hl 3 rfl) (hp_n (n := 81) rfl ?_)
              refine q_getr (κ := 4) (k := 2) (φ := 202) (pc' := 84) C Bh_15 (cw_k Bh_15.2.2 k0) fl_X3_28 rfl rfl rfl (cw_r Bh_15.2.2 k0 rfl rfl (by decide) (by decide)) dX3_readInclusion_81 rfl (fun b_17 eb_17 kb_17 => ?_)
              refine lv_iload_n hx hb dX3_readInclusion_84 rfl (lv_at hl 2 rfl) (hp_n (n := 85) rfl ?_)
              refine lv_iload_n hx hb dX3_readInclusion_85 rfl (lv_at hl 1 rfl) (hp_n (n := 86) rfl ?_)
              refine q_cv (pc' := 89) Bh_15 (hp_runV (As := [.int x_3, .int x_9]) (rest := []) C Bh_15 (t_X8_toThing Γ l αh_15 Bh_15.2.2.1 b_17 (cw_k Bh_15.2.2 kb_17) x_3 x_9) lb_X8_toThing lv_X8_toThing lk_X3_171 (cw_k Bh_15.2.2 kb_17) rfl (by decide) rfl hl.1 rfl (Nat.le_of_ble_eq_true rfl) dX3_readInclusion_86 ⟨Nat.le_refl _, Nat.le_refl _⟩) (fun _ h => cw_tr Bh_15.2.2 h (by decide)) rfl (fun αh_18 Hh_18 Lh_18 ph_18 Bh_18 => ?_)
              refine lv_aload_n hx hb dX3_readInclusion_89 rfl (lv_at hl 4 rfl) (hp_n (n := 90) rfl ?_)
              refine lv_aload_n hx hb dX3_readInclusion_90 rfl (lv_at hl 3 rfl) (hp_n (n := 91) rfl ?_)
              have t_19 : b_17 = hp_R αh_18 202 a0 := by rw [cw_R ph_18 a0 (by decide)]; exact eb_17
              refine q_gets (κ := 4) (k := 2) (φ := 202) (pc' := 94) C Bh_18 (cw_k Bh_18.2.2 k0) fl_X3_28 rfl rfl rfl t_19 dX3_readInclusion_91 rfl ?_
              refine lv_aload_n hx hb dX3_readInclusion_94 rfl (lv_at hl 3 rfl) (hp_n (n := 95) rfl ?_)
              refine q_geti (κ := 4) (k := 3) (φ := 203) (pc' := 98) C Bh_18 (cw_k Bh_18.2.2 k0) fl_X3_33 rfl rfl rfl dX3_readInclusion_95 rfl (fun x_20 ex_20 => ?_)
              refine lv_aload_n hx hb dX3_readInclusion_98 rfl (lv_at hl 3 rfl) (hp_n (n := 99) rfl ?_)
              refine q_getr (κ := 4) (k := 1) (φ := 201) (pc' := 102) C Bh_18 (cw_k Bh_18.2.2 k0) fl_X3_21 rfl rfl rfl (cw_r Bh_18.2.2 k0 rfl rfl (by decide) (by decide)) dX3_readInclusion_99 rfl (fun b_21 eb_21 kb_21 => ?_)
              refine lv_iload hx hb dX3_readInclusion_102 (lv_at hl 0 rfl) (hp_n (n := 104) rfl ?_)
              refine lv_aload_n hx hb dX3_readInclusion_104 rfl (lv_at hl 3 rfl) (hp_n (n := 105) rfl ?_)
              refine q_geti (κ := 4) (k := 9) (φ := 209) (pc' := 108) C Bh_18 (cw_k Bh_18.2.2 k0) fl_X3_56 rfl rfl rfl dX3_readInclusion_105 rfl (fun x_22 ex_22 => ?_)
              refine q_ci (pc' := 111) Bh_18 (hp_runV (As := [.int x_20, .ref b_21, .int x_12, .int x_22]) (rest := [.ref a1]) C Bh_18 (t_X8_whyInclusion Γ l αh_18 Bh_18.2.2.1 b_17 (cw_k Bh_18.2.2 kb_17) x_20 b_21 (cw_k Bh_18.2.2 kb_21) x_12 x_22) lb_X8_whyInclusion lv_X8_whyInclusion lk_X3_175 (cw_k Bh_18.2.2 kb_17) rfl (by decide) rfl hl.1 rfl (Nat.le_of_ble_eq_true rfl) dX3_readInclusion_108 ⟨Nat.le_refl _, Nat.le_refl _⟩) (fun _ _ h => by rw [h]; exact Bh_18.2.2) rfl (fun rh_23 αh_23 Hh_23 Lh_23 ph_23 Bh_23 => ?_)
              rw [ph_23] at Bh_23
              refine q_cv (pc' := 114) Bh_23 (hp_runV (As := [.int rh_23]) (rest := []) C Bh_23 (t_X5_put Γ l αh_18 Bh_23.2.2.1 a1 (cw_k Bh_23.2.2 k1) rh_23) lb_X5_put lv_X5_put lk_X3_179 (cw_k Bh_23.2.2 k1) rfl (by decide) rfl hl.1 rfl (Nat.le_of_ble_eq_true rfl) dX3_readInclusion_111 ⟨Nat.le_refl _, Nat.le_refl _⟩) (fun _ h => cw_tr Bh_23.2.2 h (by decide)) rfl (fun αh_24 Hh_24 Lh_24 ph_24 Bh_24 => ?_)
              refine lv_iconst (v := 1) hx hb dX3_readInclusion_114 (by decide) (hp_n (n := 115) rfl ?_)
              exact q_zret C Bh_24 hr hlk (by decide) ⟨Bh_24.2.2, (Or.inr rfl)⟩ dX3_readInclusion_115
            ·
              have jc_16 := il_eq c_16
              refine lv_iconst (v := 0) hx hb dX3_readInclusion_78 (by decide) (hp_n (n := 79) rfl ?_)
              exact q_zret C Bh_15 hr hlk (by decide) ⟨Bh_15.2.2, (Or.inl rfl)⟩ dX3_readInclusion_79
        ·
          have jc_11 := il_eq c_11
          refine lv_iconst (v := 0) hx hb dX3_readInclusion_54 (by decide) (hp_n (n := 55) rfl ?_)
          exact q_zret C Bh_10 hr hlk (by decide) ⟨Bh_10.2.2, (Or.inl rfl)⟩ dX3_readInclusion_55
      ·
        have jc_8 := il_eq c_8
        refine lv_iconst (v := 0) hx hb dX3_readInclusion_38 (by decide) (hp_n (n := 39) rfl ?_)
        exact q_zret C Bh_7 hr hlk (by decide) ⟨Bh_7.2.2, (Or.inl rfl)⟩ dX3_readInclusion_39
  ·
    have jc_2 := il_eq c_2
    refine lv_iconst (v := 0) hx hb dX3_readInclusion_10 (by decide) (hp_n (n := 11) rfl ?_)
    exact q_zret C Bh_1 hr hlk (by decide) ⟨Bh_1.2.2, (Or.inl rfl)⟩ dX3_readInclusion_11
abbrev w_X3_readGrowth : cw_W := ([204, 205, 209, 301, 352, 353, 354, 355, 356, 453, 454], [], [20, 21, 22, 23], [])
set_option maxRecDepth 100000 in
set_option maxHeartbeats 4000000 in
theorem t_X3_readGrowth (Γ : hp_G) (l : Launch) (α : hp_T) (g : GC α) (a0 : Nat) (k0 : hp_K α a0 = 4) (a1 : Nat) (k1 : hp_K α a1 = 6) : Met l yX3_readGrowth (hp_ws yX3_readGrowth cX3_readGrowth 5 (some .boolean)) (hp_rm 7 0 0) (hp_Pc Γ α [.ref a0, .ref a1]) (hp_Qi Γ (fun r β => cw w_X3_readGrowth α β ∧ (r = 0 ∨ r = 1))) 0 0 (hp_A Γ) := by
  refine hp_start (by decide) ?_
  intro p e s m below meth c C hr hlk B0 hnm
  have C : hp_C Γ p m c cX3_readGrowth 5 s ([.ref a0, .ref a1] : List Value).toArray RX3 := C
  have hx := C.1.1
  have hb := C.1.2.1
  have hown := C.1.2.2.2.1
  have hts := C.1.2.2.2.2
  have B : hp_B Γ (cw w_X3_readGrowth) s α α s.heap [] := ⟨B0.1, B0.2.1, cw_rf g⟩
  have lit0 : (0 : Int32).toInt = 0 := by decide
  have lit1 : (1 : Int32).toInt = 1 := by decide
  have lit2147483647 : (2147483647 : Int32).toInt = 2147483647 := by decide
  have hl := lv_entry ([.ref a0, .ref a1]) (n := 5) (Nat.le_of_ble_eq_true rfl)
  show W p l e (hp_rm 7 0 0) s m ([.ref a0, .ref a1] : List Value).toArray below meth c s.heap [] 0 0 (MQ below (hp_Qi Γ (fun r β => cw w_X3_readGrowth α β ∧ (r = 0 ∨ r = 1))) ([.ref a0, .ref a1] : List Value).toArray s 0 0 (hp_A Γ)) (entryFrame m ([.ref a0, .ref a1] : List Value).toArray 5)
  rw [lg_entry_eq]
  generalize (lg_sl ([.ref a0, .ref a1]) ++ List.replicate (5 - (lg_sl ([.ref a0, .ref a1])).length) Slot.unset).toArray = ls at hl ⊢
  have hl : lv_has ls 5 [(0, .ref a0), (1, .ref a1)] := hl
  refine lv_aload_n hx hb dX3_readGrowth_0 rfl (lv_at hl 0 rfl) (hp_n (n := 1) rfl ?_)
  refine lv_iconst (v := 0) hx hb dX3_readGrowth_1 (by decide) (hp_n (n := 2) rfl ?_)
  refine lv_ldc hx hb hown (hts _ kc_X3_155) dX3_readGrowth_2 (hp_n (n := 4) rfl ?_)
  refine q_ci (pc' := 7) B (hp_runV (As := [.int 0, .int 2147483647]) (rest := []) C B (t_X3_readNumber Γ l α B.2.2.1 a0 (cw_k B.2.2 k0) 0 2147483647) lb_X3_readNumber lv_X3_readNumber lk_X3_75 (cw_k B.2.2 k0) rfl (by decide) rfl hl.1 rfl (Nat.le_of_ble_eq_true rfl) dX3_readGrowth_4 ⟨Nat.le_refl _, Nat.le_refl _⟩) (fun _ _ h => cw_tr B.2.2 h.1 (by decide)) rfl (fun rh_1 αh_1 Hh_1 Lh_1 ph_1 Bh_1 => ?_)
  have zh_1 := ph_1.2
  refine lv_if_ne (tgt := 12) hx hb dX3_readGrowth_7 (by decide) (fun c_2 => ?_) (fun c_2 => hp_n (n := 10) rfl ?_)
  ·
    have jc_2 := il_ne c_2
    refine lv_aload_n hx hb dX3_readGrowth_12 rfl (lv_at hl 0 rfl) (hp_n (n := 13) rfl ?_)
    refine q_geti (κ := 4) (k := 9) (φ := 209) (pc' := 16) C Bh_1 (cw_k Bh_1.2.2 k0) fl_X3_56 rfl rfl rfl dX3_readGrowth_13 rfl (fun x_3 ex_3 => ?_)
    refine lv_istore_n (lv' := [(2, .int x_3), (0, .ref a0), (1, .ref a1)]) hx hb dX3_readGrowth_16 rfl hl (by decide) rfl (fun ls hl => hp_n (n := 17) rfl ?_)
    refine lv_aload_n hx hb dX3_readGrowth_17 rfl (lv_at hl 1 rfl) (hp_n (n := 18) rfl ?_)
    refine va_ldcS hx hb hown (sr_X3_161 C.2) dX3_readGrowth_18 (hp_n (n := 20) rfl ?_)
    refine q_ci (pc' := 23) Bh_1 (hp_runV (As := [.ref (Γ.2.2.2.2.1 16)]) (rest := []) C Bh_1 (t_X3_readMark Γ l αh_1 Bh_1.2.2.1 a0 (cw_k Bh_1.2.2 k0) 16 (by decide)) lb_X3_readMark lv_X3_readMark lk_X3_163 (cw_k Bh_1.2.2 k0) rfl (by decide) rfl hl.1 rfl (Nat.le_of_ble_eq_true rfl) dX3_readGrowth_20 ⟨Nat.le_refl _, Nat.le_refl _⟩) (fun _ _ h => cw_tr Bh_1.2.2 h.1 (by decide)) rfl (fun rh_4 αh_4 Hh_4 Lh_4 ph_4 Bh_4 => ?_)
    have zh_4 := ph_4.2
    refine lv_if_ne (tgt := 28) hx hb dX3_readGrowth_23 (by decide) (fun c_5 => ?_) (fun c_5 => hp_n (n := 26) rfl ?_)
    ·
      have jc_5 := il_ne c_5
      refine lv_aload_n hx hb dX3_readGrowth_28 rfl (lv_at hl 1 rfl) (hp_n (n := 29) rfl ?_)
      refine q_geti (κ := 4) (k := 9) (φ := 209) (pc' := 32) C Bh_4 (cw_k Bh_4.2.2 k0) fl_X3_56 rfl rfl rfl dX3_readGrowth_29 rfl (fun x_6 ex_6 => ?_)
      refine lv_istore_n (lv' := [(3, .int x_6), (2, .int x_3), (0, .ref a0), (1, .ref a1)]) hx hb dX3_readGrowth_32 rfl hl (by decide) rfl (fun ls hl => hp_n (n := 33) rfl ?_)
      refine lv_aload_n hx hb dX3_readGrowth_33 rfl (lv_at hl 2 rfl) (hp_n (n := 34) rfl ?_)
      refine va_ldcS hx hb hown (sr_X3_92 C.2) dX3_readGrowth_34 (hp_n (n := 36) rfl ?_)
      refine q_ci (pc' := 39) Bh_4 (hp_runV (As := [.ref (Γ.2.2.2.2.1 20)]) (rest := []) C Bh_4 (t_X3_readWord Γ l αh_4 Bh_4.2.2.1 a0 (cw_k Bh_4.2.2 k0) 20 (by decide)) lb_X3_readWord lv_X3_readWord lk_X3_158 (cw_k Bh_4.2.2 k0) rfl (by decide) rfl hl.1 rfl (Nat.le_of_ble_eq_true rfl) dX3_readGrowth_36 ⟨Nat.le_refl _, Nat.le_refl _⟩) (fun _ _ h => cw_tr Bh_4.2.2 h.1 (by decide)) rfl (fun rh_7 αh_7 Hh_7 Lh_7 ph_7 Bh_7 => ?_)
      have zh_7 := ph_7.2
      refine lv_if_eq (tgt := 52) hx hb dX3_readGrowth_39 (by decide) (fun c_8 => ?_) (fun c_8 => hp_n (n := 42) rfl ?_)
      ·
        have jc_8 := il_eq c_8
        refine lv_iconst (v := 0) hx hb dX3_readGrowth_52 (by decide) (hp_n (n := 53) rfl ?_)
        exact q_zret C Bh_7 hr hlk (by decide) ⟨Bh_7.2.2, (Or.inl rfl)⟩ dX3_readGrowth_53
      ·
        have jc_8 := il_ne c_8
        refine lv_aload_n hx hb dX3_readGrowth_42 rfl (lv_at hl 2 rfl) (hp_n (n := 43) rfl ?_)
        refine lv_iload_n hx hb dX3_readGrowth_43 rfl (lv_at hl 1 rfl) (hp_n (n := 44) rfl ?_)
        refine lv_ldc hx hb hown (hts _ kc_X3_155) dX3_readGrowth_44 (hp_n (n := 46) rfl ?_)
        refine q_ci (pc' := 49) Bh_7 (hp_runV (As := [.int x_3, .int 2147483647]) (rest := []) C Bh_7 (t_X3_readNumber Γ l αh_7 Bh_7.2.2.1 a0 (cw_k Bh_7.2.2 k0) x_3 2147483647) lb_X3_readNumber lv_X3_readNumber lk_X3_75 (cw_k Bh_7.2.2 k0) rfl (by decide) rfl hl.1 rfl (Nat.le_of_ble_eq_true rfl) dX3_readGrowth_46 ⟨Nat.le_refl _, Nat.le_refl _⟩) (fun _ _ h => cw_tr Bh_7.2.2 h.1 (by decide)) rfl (fun rh_9 αh_9 Hh_9 Lh_9 ph_9 Bh_9 => ?_)
        have zh_9 := ph_9.2
        refine lv_if_ne (tgt := 54) hx hb dX3_readGrowth_49 (by decide) (fun c_10 => ?_) (fun c_10 => hp_n (n := 52) rfl ?_)
        ·
          have jc_10 := il_ne c_10
          refine lv_aload_n hx hb dX3_readGrowth_54 rfl (lv_at hl 2 rfl) (hp_n (n := 55) rfl ?_)
          refine q_geti (κ := 4) (k := 9) (φ := 209) (pc' := 58) C Bh_9 (cw_k Bh_9.2.2 k0) fl_X3_56 rfl rfl rfl dX3_readGrowth_55 rfl (fun x_11 ex_11 => ?_)
          refine lv_istore (lv' := [(4, .int x_11), (3, .int x_6), (2, .int x_3), (0, .ref a0), (1, .ref a1)]) hx hb dX3_readGrowth_58 hl (by decide) rfl (fun ls hl => hp_n (n := 60) rfl ?_)
          refine lv_aload_n hx hb dX3_readGrowth_60 rfl (lv_at hl 3 rfl) (hp_n (n := 61) rfl ?_)
          refine va_ldcS hx hb hown (sr_X3_166 C.2) dX3_readGrowth_61 (hp_n (n := 63) rfl ?_)
          refine q_ci (pc' := 66) Bh_9 (hp_runV (As := [.ref (Γ.2.2.2.2.1 13)]) (rest := []) C Bh_9 (t_X3_readMark Γ l αh_9 Bh_9.2.2.1 a0 (cw_k Bh_9.2.2 k0) 13 (by decide)) lb_X3_readMark lv_X3_readMark lk_X3_163 (cw_k Bh_9.2.2 k0) rfl (by decide) rfl hl.1 rfl (Nat.le_of_ble_eq_true rfl) dX3_readGrowth_63 ⟨Nat.le_refl _, Nat.le_refl _⟩) (fun _ _ h => cw_tr Bh_9.2.2 h.1 (by decide)) rfl (fun rh_12 αh_12 Hh_12 Lh_12 ph_12 Bh_12 => ?_)
          have zh_12 := ph_12.2
          refine lv_if_eq (tgt := 76) hx hb dX3_readGrowth_66 (by decide) (fun c_13 => ?_) (fun c_13 => hp_n (n := 69) rfl ?_)
          ·
            have jc_13 := il_eq c_13
            refine lv_iconst (v := 0) hx hb dX3_readGrowth_76 (by decide) (hp_n (n := 77) rfl ?_)
            exact q_zret C Bh_12 hr hlk (by decide) ⟨Bh_12.2.2, (Or.inl rfl)⟩ dX3_readGrowth_77
          ·
            have jc_13 := il_ne c_13
            refine lv_aload_n hx hb dX3_readGrowth_69 rfl (lv_at hl 3 rfl) (hp_n (n := 70) rfl ?_)
            refine q_ci (pc' := 73) Bh_12 (hp_runV (As := []) (rest := []) C Bh_12 (t_X3_readRow Γ l αh_12 Bh_12.2.2.1 a0 (cw_k Bh_12.2.2 k0)) lb_X3_readRow lv_X3_readRow lk_X3_168 (cw_k Bh_12.2.2 k0) rfl (by decide) rfl hl.1 rfl (Nat.le_of_ble_eq_true rfl) dX3_readGrowth_70 ⟨Nat.le_refl _, Nat.le_refl _⟩) (fun _ _ h => cw_tr Bh_12.2.2 h.1 (by decide)) rfl (fun rh_14 αh_14 Hh_14 Lh_14 ph_14 Bh_14 => ?_)
            have zh_14 := ph_14.2
            refine lv_if_ne (tgt := 78) hx hb dX3_readGrowth_73 (by decide) (fun c_15 => ?_) (fun c_15 => hp_n (n := 76) rfl ?_)
            ·
              have jc_15 := il_ne c_15
              refine lv_aload_n hx hb dX3_readGrowth_78 rfl (lv_at hl 4 rfl) (hp_n (n := 79) rfl ?_)
              refine lv_aload_n hx hb dX3_readGrowth_79 rfl (lv_at hl 3 rfl) (hp_n (n := 80) rfl ?_)
              refine q_getr (κ := 4) (k := 2) (φ := 202) (pc' := 83) C Bh_14 (cw_k Bh_14.2.2 k0) fl_X3_28 rfl rfl rfl (cw_r Bh_14.2.2 k0 rfl rfl (by decide) (by decide)) dX3_readGrowth_80 rfl (fun b_16 eb_16 kb_16 => ?_)
              refine lv_aload_n hx hb dX3_readGrowth_83 rfl (lv_at hl 3 rfl) (hp_n (n := 84) rfl ?_)
              refine q_geti (κ := 4) (k := 3) (φ := 203) (pc' := 87) C Bh_14 (cw_k Bh_14.2.2 k0) fl_X3_33 rfl rfl rfl dX3_readGrowth_84 rfl (fun x_17 ex_17 => ?_)
              refine lv_aload_n hx hb dX3_readGrowth_87 rfl (lv_at hl 3 rfl) (hp_n (n := 88) rfl ?_)
              refine q_getr (κ := 4) (k := 1) (φ := 201) (pc' := 91) C Bh_14 (cw_k Bh_14.2.2 k0) fl_X3_21 rfl rfl rfl (cw_r Bh_14.2.2 k0 rfl rfl (by decide) (by decide)) dX3_readGrowth_88 rfl (fun b_18 eb_18 kb_18 => ?_)
              refine lv_iload_n hx hb dX3_readGrowth_91 rfl (lv_at hl 2 rfl) (hp_n (n := 92) rfl ?_)
              refine lv_iload_n hx hb dX3_readGrowth_92 rfl (lv_at hl 1 rfl) (hp_n (n := 93) rfl ?_)
              refine lv_iload hx hb dX3_readGrowth_93 (lv_at hl 0 rfl) (hp_n (n := 95) rfl ?_)
              refine lv_aload_n hx hb dX3_readGrowth_95 rfl (lv_at hl 3 rfl) (hp_n (n := 96) rfl ?_)
              refine q_geti (κ := 4) (k := 9) (φ := 209) (pc' := 99) C Bh_14 (cw_k Bh_14.2.2 k0) fl_X3_56 rfl rfl rfl dX3_readGrowth_96 rfl (fun x_19 ex_19 => ?_)
              refine q_ci (pc' := 102) Bh_14 (hp_runV (As := [.int x_17, .ref b_18, .int x_3, .int x_6, .int x_11, .int x_19]) (rest := [.ref a1]) C Bh_14 (t_X8_whyGrowth Γ l αh_14 Bh_14.2.2.1 b_16 (cw_k Bh_14.2.2 kb_16) x_17 b_18 (cw_k Bh_14.2.2 kb_18) x_3 x_6 x_11 x_19) lb_X8_whyGrowth lv_X8_whyGrowth lk_X3_182 (cw_k Bh_14.2.2 kb_16) rfl (by decide) rfl hl.1 rfl (Nat.le_of_ble_eq_true rfl) dX3_readGrowth_99 ⟨Nat.le_refl _, Nat.le_refl _⟩) (fun _ _ h => cw_tr Bh_14.2.2 h (by decide)) rfl (fun rh_20 αh_20 Hh_20 Lh_20 ph_20 Bh_20 => ?_)
              refine q_cv (pc' := 105) Bh_20 (hp_runV (As := [.int rh_20]) (rest := []) C Bh_20 (t_X5_put Γ l αh_20 Bh_20.2.2.1 a1 (cw_k Bh_20.2.2 k1) rh_20) lb_X5_put lv_X5_put lk_X3_179 (cw_k Bh_20.2.2 k1) rfl (by decide) rfl hl.1 rfl (Nat.le_of_ble_eq_true rfl) dX3_readGrowth_102 ⟨Nat.le_refl _, Nat.le_refl _⟩) (fun _ h => cw_tr Bh_20.2.2 h (by decide)) rfl (fun αh_21 Hh_21 Lh_21 ph_21 Bh_21 => ?_)
              refine lv_iconst (v := 1) hx hb dX3_readGrowth_105 (by decide) (hp_n (n := 106) rfl ?_)
              exact q_zret C Bh_21 hr hlk (by decide) ⟨Bh_21.2.2, (Or.inr rfl)⟩ dX3_readGrowth_106
            ·
              have jc_15 := il_eq c_15
              refine lv_iconst (v := 0) hx hb dX3_readGrowth_76 (by decide) (hp_n (n := 77) rfl ?_)
              exact q_zret C Bh_14 hr hlk (by decide) ⟨Bh_14.2.2, (Or.inl rfl)⟩ dX3_readGrowth_77
        ·
          have jc_10 := il_eq c_10
          refine lv_iconst (v := 0) hx hb dX3_readGrowth_52 (by decide) (hp_n (n := 53) rfl ?_)
          exact q_zret C Bh_9 hr hlk (by decide) ⟨Bh_9.2.2, (Or.inl rfl)⟩ dX3_readGrowth_53
    ·
      have jc_5 := il_eq c_5
      refine lv_iconst (v := 0) hx hb dX3_readGrowth_26 (by decide) (hp_n (n := 27) rfl ?_)
      exact q_zret C Bh_4 hr hlk (by decide) ⟨Bh_4.2.2, (Or.inl rfl)⟩ dX3_readGrowth_27
  ·
    have jc_2 := il_eq c_2
    refine lv_iconst (v := 0) hx hb dX3_readGrowth_10 (by decide) (hp_n (n := 11) rfl ?_)
    exact q_zret C Bh_1 hr hlk (by decide) ⟨Bh_1.2.2, (Or.inl rfl)⟩ dX3_readGrowth_11
abbrev w_X3_readProofs : cw_W := ([203, 204, 205, 209, 301, 352, 353, 354, 355, 356, 453, 454], [], [20, 21, 22, 23], [])
set_option maxRecDepth 100000 in
set_option maxHeartbeats 4000000 in
theorem t_X3_readProofs (Γ : hp_G) (l : Launch) (α : hp_T) (g : GC α) (a0 : Nat) (k0 : hp_K α a0 = 4) (a1 : Int32) (a2 : Nat) (k2 : hp_K α a2 = 6) : Met l yX3_readProofs (hp_ws yX3_readProofs cX3_readProofs 5 (some .boolean)) (hp_rm 8 0 0) (hp_Pc Γ α [.ref a0, .int a1, .ref a2]) (hp_Qi Γ (fun r β => cw w_X3_readProofs α β ∧ (r = 0 ∨ r = 1))) 0 0 (hp_A Γ) := by
  refine hp_start (by decide) ?_
  intro p e s m below meth c C hr hlk B0 hnm
  have C : hp_C Γ p m c cX3_readProofs 5 s ([.ref a0, .int a1, .ref a2] : List Value).toArray RX3 := C
  have hx := C.1.1
  have hb := C.1.2.1
  have hown := C.1.2.2.2.1
  have hts := C.1.2.2.2.2
  have B : hp_B Γ (cw w_X3_readProofs) s α α s.heap [] := ⟨B0.1, B0.2.1, cw_rf g⟩
  have lit0 : (0 : Int32).toInt = 0 := by decide
  have lit1 : (1 : Int32).toInt = 1 := by decide
  have lit20 : (20 : Int32).toInt = 20 := by decide
  have lit900 : (900 : Int32).toInt = 900 := by decide
  have hl := lv_entry ([.ref a0, .int a1, .ref a2]) (n := 5) (Nat.le_of_ble_eq_true rfl)
  show W p l e (hp_rm 8 0 0) s m ([.ref a0, .int a1, .ref a2] : List Value).toArray below meth c s.heap [] 0 0 (MQ below (hp_Qi Γ (fun r β => cw w_X3_readProofs α β ∧ (r = 0 ∨ r = 1))) ([.ref a0, .int a1, .ref a2] : List Value).toArray s 0 0 (hp_A Γ)) (entryFrame m ([.ref a0, .int a1, .ref a2] : List Value).toArray 5)
  rw [lg_entry_eq]
  generalize (lg_sl ([.ref a0, .int a1, .ref a2]) ++ List.replicate (5 - (lg_sl ([.ref a0, .int a1, .ref a2])).length) Slot.unset).toArray = ls at hl ⊢
  have hl : lv_has ls 5 [(0, .ref a0), (1, .int a1), (2, .ref a2)] := hl
  refine lv_aload_n hx hb dX3_readProofs_0 rfl (lv_at hl 0 rfl) (hp_n (n := 1) rfl ?_)
  refine lv_iload_n hx hb dX3_readProofs_1 rfl (lv_at hl 1 rfl) (hp_n (n := 2) rfl ?_)
  refine q_puti (κ := 4) (k := 3) (φ := 203) (pc' := 5) C B (cw_k B.2.2 k0) fl_X3_33 rfl rfl rfl rfl rfl rfl (cw_sI B.2.2 (by decide) (fun h => absurd h (by decide))) dX3_readProofs_2 rfl (fun αh_1 Hh_1 Lh_1 eh_1 Bh_1 => ?_)
  refine lv_aload_n hx hb dX3_readProofs_5 rfl (lv_at hl 2 rfl) (hp_n (n := 6) rfl ?_)
  refine lv_iconst (v := 0) hx hb dX3_readProofs_6 (by decide) (hp_n (n := 7) rfl ?_)
  refine q_cv (pc' := 10) Bh_1 (hp_runV (As := [.int 0]) (rest := []) C Bh_1 (t_X5_shorten Γ l αh_1 Bh_1.2.2.1 a2 (cw_k Bh_1.2.2 k2) 0) lb_X5_shorten lv_X5_shorten lk_X3_120 (cw_k Bh_1.2.2 k2) rfl (by decide) rfl hl.1 rfl (Nat.le_of_ble_eq_true rfl) dX3_readProofs_7 ⟨Nat.le_refl _, Nat.le_refl _⟩) (fun _ h => cw_tr Bh_1.2.2 h (by decide)) rfl (fun αh_2 Hh_2 Lh_2 ph_2 Bh_2 => ?_)
  refine lv_iconst (v := 0) hx hb dX3_readProofs_10 (by decide) (hp_n (n := 11) rfl ?_)
  have J12 : ∀ (nq : Nat) (αh_3 : hp_T) (Hh_3 : Heap) (Lh_3 : List Loc) (Bh_3 : hp_B Γ (cw w_X3_readProofs) s α αh_3 Hh_3 Lh_3) (v3_h_3 : Int32) (ih_3_0 : 0 ≤ v3_h_3.toInt) (ls : Array Slot) (hl : lv_has ls 5 [(0, .ref a0), (2, .ref a2), (3, .int v3_h_3)]) (hmu12 : (2147483647 - v3_h_3.toInt).toNat = nq), W p l e (hp_rm 8 0 0) s m ([.ref a0, .int a1, .ref a2] : List Value).toArray below meth c Hh_3 Lh_3 0 0 (MQ below (hp_Qi Γ (fun r β => cw w_X3_readProofs α β ∧ (r = 0 ∨ r = 1))) ([.ref a0, .int a1, .ref a2] : List Value).toArray s 0 0 (hp_A Γ)) (F0 m 12 ls []) := by
    intro nq
    induction nq using Nat.strongRecOn with
    | ind nq ih12 =>
    intro αh_3 Hh_3 Lh_3 Bh_3 v3_h_3 ih_3_0 ls hl hmu12
    have inv12_0 := ih_3_0
    refine lv_iload_n hx hb dX3_readProofs_12 rfl (lv_at hl 2 rfl) (hp_n (n := 13) rfl ?_)
    refine lv_sipush (v := 900) hx hb dX3_readProofs_13 (by decide) (hp_n (n := 16) rfl ?_)
    refine lv_icmp_ge (tgt := 111) hx hb dX3_readProofs_16 (by decide) (fun c_4 => ?_) (fun c_4 => hp_n (n := 19) rfl ?_)
    ·
      have jc_4 := il_le c_4
      refine lv_iconst (v := 1) hx hb dX3_readProofs_111 (by decide) (hp_n (n := 112) rfl ?_)
      exact q_zret C Bh_3 hr hlk (by decide) ⟨Bh_3.2.2, (Or.inr rfl)⟩ dX3_readProofs_112
    ·
      have jc_4 := il_nle c_4
      refine lv_aload_n hx hb dX3_readProofs_19 rfl (lv_at hl 0 rfl) (hp_n (n := 20) rfl ?_)
      refine q_ci (pc' := 23) Bh_3 (hp_runV (As := []) (rest := []) C Bh_3 (t_X3_isAtEnd Γ l αh_3 Bh_3.2.2.1 a0 (cw_k Bh_3.2.2 k0)) lb_X3_isAtEnd lv_X3_isAtEnd lk_X3_124 (cw_k Bh_3.2.2 k0) rfl (by decide) rfl hl.1 rfl (Nat.le_of_ble_eq_true rfl) dX3_readProofs_20 ⟨Nat.le_refl _, Nat.le_refl _⟩) (fun _ _ h => by rw [h.1]; exact Bh_3.2.2) rfl (fun rh_5 αh_5 Hh_5 Lh_5 ph_5 Bh_5 => ?_)
      rw [ph_5.1] at Bh_5
      have zh_5 := ph_5.2
      refine lv_if_ne (tgt := 111) hx hb dX3_readProofs_23 (by decide) (fun c_6 => ?_) (fun c_6 => hp_n (n := 26) rfl ?_)
      ·
        have jc_6 := il_ne c_6
        refine lv_iconst (v := 1) hx hb dX3_readProofs_111 (by decide) (hp_n (n := 112) rfl ?_)
        exact q_zret C Bh_5 hr hlk (by decide) ⟨Bh_5.2.2, (Or.inr rfl)⟩ dX3_readProofs_112
      ·
        have jc_6 := il_eq c_6
        refine lv_aload_n hx hb dX3_readProofs_26 rfl (lv_at hl 0 rfl) (hp_n (n := 27) rfl ?_)
        refine q_getr (κ := 4) (k := 0) (φ := 200) (pc' := 30) C Bh_5 (cw_k Bh_5.2.2 k0) fl_X3_12 rfl rfl rfl (cw_r Bh_5.2.2 k0 rfl rfl (by decide) (by decide)) dX3_readProofs_27 rfl (fun b_7 eb_7 kb_7 => ?_)
        refine va_ldcS hx hb hown (sr_X3_127 C.2) dX3_readProofs_30 (hp_n (n := 32) rfl ?_)
        refine q_ci (pc' := 35) Bh_5 (hp_runV (As := [.ref (Γ.2.2.2.2.1 14)]) (rest := []) C Bh_5 (t_X6_spells Γ l αh_3 Bh_5.2.2.1 b_7 (cw_k Bh_5.2.2 kb_7) 14 (by decide)) lb_X6_spells lv_X6_spells lk_X3_71 (cw_k Bh_5.2.2 kb_7) rfl (by decide) rfl hl.1 rfl (Nat.le_of_ble_eq_true rfl) dX3_readProofs_32 ⟨Nat.le_refl _, Nat.le_refl _⟩) (fun _ _ h => by rw [h.1]; exact Bh_5.2.2) rfl (fun rh_8 αh_8 Hh_8 Lh_8 ph_8 Bh_8 => ?_)
        rw [ph_8.1] at Bh_8
        have zh_8 := ph_8.2
        refine lv_istore (lv' := [(4, .int rh_8), (0, .ref a0), (2, .ref a2), (3, .int v3_h_3)]) hx hb dX3_readProofs_35 hl (by decide) rfl (fun ls hl => hp_n (n := 37) rfl ?_)
        refine lv_iload hx hb dX3_readProofs_37 (lv_at hl 0 rfl) (hp_n (n := 39) rfl ?_)
        have J59 : ∀ (Hh_9 : Heap) (Lh_9 : List Loc) (Bh_9 : hp_B Γ (cw w_X3_readProofs) s α αh_3 Hh_9 Lh_9) (ls : Array Slot) (hl : lv_has ls 5 [(0, .ref a0), (2, .ref a2), (3, .int v3_h_3), (4, .int rh_8)]), W p l e (hp_rm 8 0 0) s m ([.ref a0, .int a1, .ref a2] : List Value).toArray below meth c Hh_9 Lh_9 0 0 (MQ below (hp_Qi Γ (fun r β => cw w_X3_readProofs α β ∧ (r = 0 ∨ r = 1))) ([.ref a0, .int a1, .ref a2] : List Value).toArray s 0 0 (hp_A Γ)) (F0 m 59 ls []) := by
          intro Hh_9 Lh_9 Bh_9 ls hl
          refine lv_aload_n hx hb dX3_readProofs_59 rfl (lv_at hl 0 rfl) (hp_n (n := 60) rfl ?_)
          refine lv_aload_n hx hb dX3_readProofs_60 rfl (lv_at hl 1 rfl) (hp_n (n := 61) rfl ?_)
          refine q_geti (κ := 6) (k := 1) (φ := 301) (pc' := 64) C Bh_9 (cw_k Bh_9.2.2 k2) fl_X3_131 rfl rfl rfl dX3_readProofs_61 rfl (fun x_10 ex_10 => ?_)
          refine lv_bipush (v := 20) hx hb dX3_readProofs_64 (by decide) (hp_n (n := 66) rfl ?_)
          refine q_ci (pc' := 69) Bh_9 (hp_runV (As := [.int x_10, .int 20]) (rest := []) C Bh_9 (t_X3_hasRoom Γ l αh_3 Bh_9.2.2.1 a0 (cw_k Bh_9.2.2 k0) x_10 20) lb_X3_hasRoom lv_X3_hasRoom lk_X3_99 (cw_k Bh_9.2.2 k0) rfl (by decide) rfl hl.1 rfl (Nat.le_of_ble_eq_true rfl) dX3_readProofs_66 ⟨Nat.le_refl _, Nat.le_refl _⟩) (fun _ _ h => cw_tr Bh_9.2.2 h.1 (by decide)) rfl (fun rh_11 αh_11 Hh_11 Lh_11 ph_11 Bh_11 => ?_)
          have zh_11 := ph_11.2
          refine lv_if_eq (tgt := 96) hx hb dX3_readProofs_69 (by decide) (fun c_12 => ?_) (fun c_12 => hp_n (n := 72) rfl ?_)
          ·
            have jc_12 := il_eq c_12
            refine lv_iconst (v := 0) hx hb dX3_readProofs_96 (by decide) (hp_n (n := 97) rfl ?_)
            exact q_zret C Bh_11 hr hlk (by decide) ⟨Bh_11.2.2, (Or.inl rfl)⟩ dX3_readProofs_97
          ·
            have jc_12 := il_ne c_12
            refine lv_iload hx hb dX3_readProofs_72 (lv_at hl 3 rfl) (hp_n (n := 74) rfl ?_)
            have J98 : ∀ (αh_13 : hp_T) (Hh_13 : Heap) (Lh_13 : List Loc) (Bh_13 : hp_B Γ (cw w_X3_readProofs) s α αh_13 Hh_13 Lh_13) (ls : Array Slot) (hl : lv_has ls 5 [(0, .ref a0), (2, .ref a2), (3, .int v3_h_3)]), W p l e (hp_rm 8 0 0) s m ([.ref a0, .int a1, .ref a2] : List Value).toArray below meth c Hh_13 Lh_13 0 0 (MQ below (hp_Qi Γ (fun r β => cw w_X3_readProofs α β ∧ (r = 0 ∨ r = 1))) ([.ref a0, .int a1, .ref a2] : List Value).toArray s 0 0 (hp_A Γ)) (F0 m 98 ls []) := by
              intro αh_13 Hh_13 Lh_13 Bh_13 ls hl
              refine lv_aload_n hx hb dX3_readProofs_98 rfl (lv_at hl 0 rfl) (hp_n (n := 99) rfl ?_)
              refine q_getr (κ := 4) (k := 0) (φ := 200) (pc' := 102) C Bh_13 (cw_k Bh_13.2.2 k0) fl_X3_12 rfl rfl rfl (cw_r Bh_13.2.2 k0 rfl rfl (by decide) (by decide)) dX3_readProofs_99 rfl (fun b_14 eb_14 kb_14 => ?_)
              refine q_cv (pc' := 105) Bh_13 (hp_runV (As := []) (rest := []) C Bh_13 (t_X6_advance Γ l αh_13 Bh_13.2.2.1 b_14 (cw_k Bh_13.2.2 kb_14)) lb_X6_advance lv_X6_advance lk_X3_63 (cw_k Bh_13.2.2 kb_14) rfl (by decide) rfl hl.1 rfl (Nat.le_of_ble_eq_true rfl) dX3_readProofs_102 ⟨Nat.le_refl _, Nat.le_refl _⟩) (fun _ h => cw_tr Bh_13.2.2 h (by decide)) rfl (fun αh_15 Hh_15 Lh_15 ph_15 Bh_15 => ?_)
              obtain ⟨x_16, ex_16⟩ : ∃ y : Int32, y = v3_h_3 + 1 := ⟨_, rfl⟩
              have qx_16 : x_16.toInt = v3_h_3.toInt + 1 := by have qa := ib_lo v3_h_3; rw [ex_16]; exact ii_add (by omega) (by omega)
              refine lv_iinc (v := x_16) (lv' := [(3, .int x_16), (0, .ref a0), (2, .ref a2)]) hx hb dX3_readProofs_105 hl (k := 2) rfl (by rw [ex_16]; rfl) (by decide) rfl (fun ls hl => hp_n (n := 108) rfl ?_)
              refine lv_goto (tgt := 12) hx hb dX3_readProofs_108 (by decide) ?_
              exact ih12 _ (by have qa := ib_hi v3_h_3; have qb := ib_lo v3_h_3; have qc : (v3_h_3 + 1).toInt = v3_h_3.toInt + (1 : Int32).toInt := ii_add (by omega) (by omega); rw [ex_16]; omega) αh_15 Hh_15 Lh_15 Bh_15 x_16 (by omega) ls (lv_sub hl [1, 2, 0] rfl) rfl
            refine lv_if_eq (tgt := 88) hx hb dX3_readProofs_74 (by decide) (fun c_17 => ?_) (fun c_17 => hp_n (n := 77) rfl ?_)
            ·
              have jc_17 := il_eq c_17
              refine lv_aload_n hx hb dX3_readProofs_88 rfl (lv_at hl 0 rfl) (hp_n (n := 89) rfl ?_)
              refine lv_aload_n hx hb dX3_readProofs_89 rfl (lv_at hl 1 rfl) (hp_n (n := 90) rfl ?_)
              refine q_ci (pc' := 93) Bh_11 (hp_runV (As := [.ref a2]) (rest := []) C Bh_11 (t_X3_readGrowth Γ l αh_11 Bh_11.2.2.1 a0 (cw_k Bh_11.2.2 k0) a2 (cw_k Bh_11.2.2 k2)) lb_X3_readGrowth lv_X3_readGrowth lk_X3_138 (cw_k Bh_11.2.2 k0) rfl (by decide) rfl hl.1 rfl (Nat.le_of_ble_eq_true rfl) dX3_readProofs_90 ⟨Nat.le_refl _, Nat.le_refl _⟩) (fun _ _ h => cw_tr Bh_11.2.2 h.1 (by decide)) rfl (fun rh_18 αh_18 Hh_18 Lh_18 ph_18 Bh_18 => ?_)
              have zh_18 := ph_18.2
              refine lv_if_ne (tgt := 98) hx hb dX3_readProofs_93 (by decide) (fun c_19 => ?_) (fun c_19 => hp_n (n := 96) rfl ?_)
              ·
                have jc_19 := il_ne c_19
                exact J98 αh_18 Hh_18 Lh_18 Bh_18 ls (lv_sub hl [0, 1, 2] rfl)
              ·
                have jc_19 := il_eq c_19
                refine lv_iconst (v := 0) hx hb dX3_readProofs_96 (by decide) (hp_n (n := 97) rfl ?_)
                exact q_zret C Bh_18 hr hlk (by decide) ⟨Bh_18.2.2, (Or.inl rfl)⟩ dX3_readProofs_97
            ·
              have jc_17 := il_ne c_17
              refine lv_aload_n hx hb dX3_readProofs_77 rfl (lv_at hl 0 rfl) (hp_n (n := 78) rfl ?_)
              refine lv_aload_n hx hb dX3_readProofs_78 rfl (lv_at hl 1 rfl) (hp_n (n := 79) rfl ?_)
              refine q_ci (pc' := 82) Bh_11 (hp_runV (As := [.ref a2]) (rest := []) C Bh_11 (t_X3_readInclusion Γ l αh_11 Bh_11.2.2.1 a0 (cw_k Bh_11.2.2 k0) a2 (cw_k Bh_11.2.2 k2)) lb_X3_readInclusion lv_X3_readInclusion lk_X3_134 (cw_k Bh_11.2.2 k0) rfl (by decide) rfl hl.1 rfl (Nat.le_of_ble_eq_true rfl) dX3_readProofs_79 ⟨Nat.le_refl _, Nat.le_refl _⟩) (fun _ _ h => cw_tr Bh_11.2.2 h.1 (by decide)) rfl (fun rh_20 αh_20 Hh_20 Lh_20 ph_20 Bh_20 => ?_)
              have zh_20 := ph_20.2
              refine lv_if_eq (tgt := 96) hx hb dX3_readProofs_82 (by decide) (fun c_21 => ?_) (fun c_21 => hp_n (n := 85) rfl ?_)
              ·
                have jc_21 := il_eq c_21
                refine lv_iconst (v := 0) hx hb dX3_readProofs_96 (by decide) (hp_n (n := 97) rfl ?_)
                exact q_zret C Bh_20 hr hlk (by decide) ⟨Bh_20.2.2, (Or.inl rfl)⟩ dX3_readProofs_97
              ·
                have jc_21 := il_ne c_21
                refine lv_goto (tgt := 98) hx hb dX3_readProofs_85 (by decide) ?_
                exact J98 αh_20 Hh_20 Lh_20 Bh_20 ls (lv_sub hl [0, 1, 2] rfl)
        refine lv_if_ne (tgt := 59) hx hb dX3_readProofs_39 (by decide) (fun c_22 => ?_) (fun c_22 => hp_n (n := 42) rfl ?_)
        ·
          have jc_22 := il_ne c_22
          exact J59 Hh_8 Lh_8 Bh_8 ls (lv_sub hl [1, 2, 3, 0] rfl)
        ·
          have jc_22 := il_eq c_22
          refine lv_aload_n hx hb dX3_readProofs_42 rfl (lv_at hl 1 rfl) (hp_n (n := 43) rfl ?_)
          refine q_gets (κ := 4) (k := 0) (φ := 200) (pc' := 46) C Bh_8 (cw_k Bh_8.2.2 k0) fl_X3_12 rfl rfl rfl eb_7 dX3_readProofs_43 rfl ?_
          refine va_ldcS hx hb hown (sr_X3_129 C.2) dX3_readProofs_46 (hp_n (n := 48) rfl ?_)
          refine q_ci (pc' := 51) Bh_8 (hp_runV (As := [.ref (Γ.2.2.2.2.1 11)]) (rest := []) C Bh_8 (t_X6_spells Γ l αh_3 Bh_8.2.2.1 b_7 (cw_k Bh_8.2.2 kb_7) 11 (by decide)) lb_X6_spells lv_X6_spells lk_X3_71 (cw_k Bh_8.2.2 kb_7) rfl (by decide) rfl hl.1 rfl (Nat.le_of_ble_eq_true rfl) dX3_readProofs_48 ⟨Nat.le_refl _, Nat.le_refl _⟩) (fun _ _ h => by rw [h.1]; exact Bh_8.2.2) rfl (fun rh_23 αh_23 Hh_23 Lh_23 ph_23 Bh_23 => ?_)
          rw [ph_23.1] at Bh_23
          have zh_23 := ph_23.2
          refine lv_if_ne (tgt := 59) hx hb dX3_readProofs_51 (by decide) (fun c_24 => ?_) (fun c_24 => hp_n (n := 54) rfl ?_)
          ·
            have jc_24 := il_ne c_24
            exact J59 Hh_23 Lh_23 Bh_23 ls (lv_sub hl [1, 2, 3, 0] rfl)
          ·
            have jc_24 := il_eq c_24
            refine lv_aload_n hx hb dX3_readProofs_54 rfl (lv_at hl 1 rfl) (hp_n (n := 55) rfl ?_)
            refine q_ci (pc' := 58) Bh_23 (hp_runV (As := []) (rest := []) C Bh_23 (t_X3_stray Γ l αh_3 Bh_23.2.2.1 a0 (cw_k Bh_23.2.2 k0)) lb_X3_stray lv_X3_stray lk_X3_117 (cw_k Bh_23.2.2 k0) rfl (by decide) rfl hl.1 rfl (Nat.le_of_ble_eq_true rfl) dX3_readProofs_55 ⟨Nat.le_refl _, Nat.le_refl _⟩) (fun _ _ h => cw_tr Bh_23.2.2 h.1 (by decide)) rfl (fun rh_25 αh_25 Hh_25 Lh_25 ph_25 Bh_25 => ?_)
            have zh_25 := ph_25.2
            exact q_zret C Bh_25 hr hlk (nz_z zh_25) ⟨Bh_25.2.2, zh_25⟩ dX3_readProofs_58
  refine lv_istore_n (lv' := [(3, .int 0), (0, .ref a0), (1, .int a1), (2, .ref a2)]) hx hb dX3_readProofs_11 rfl hl (by decide) rfl (fun ls hl => hp_n (n := 12) rfl ?_)
  exact J12 _ αh_2 Hh_2 Lh_2 Bh_2 0 (by omega) ls (lv_sub hl [1, 3, 0] rfl) rfl
end JN3_6
section JN3_7
abbrev w_X11_status : cw_W := ([], [], [], [])
set_option maxRecDepth 100000 in
set_option maxHeartbeats 4000000 in
theorem t_X11_status (Γ : hp_G) (l : Launch) (α : hp_T) (g : GC α) (a0 : Nat) (k0 : hp_K α a0 = 12) : Met l yX11_status (hp_ws yX11_status cX11_status 1 (some .int)) (hp_rm 0 0 0) (hp_Pc Γ α [.ref a0]) (hp_Qi Γ (fun r β => β = α)) 0 0 (hp_A Γ) := by
  refine hp_start (by decide) ?_
  intro p e s m below meth c C hr hlk B0 hnm
  have C : hp_C Γ p m c cX11_status 1 s ([.ref a0] : List Value).toArray RX11 := C
  have hx := C.1.1
  have hb := C.1.2.1
  have hown := C.1.2.2.2.1
  have hts := C.1.2.2.2.2
  have B : hp_B Γ (cw w_X11_status) s α α s.heap [] := ⟨B0.1, B0.2.1, cw_rf g⟩
  have hl := lv_entry ([.ref a0]) (n := 1) (Nat.le_of_ble_eq_true rfl)
  show W p l e (hp_rm 0 0 0) s m ([.ref a0] : List Value).toArray below meth c s.heap [] 0 0 (MQ below (hp_Qi Γ (fun r β => β = α)) ([.ref a0] : List Value).toArray s 0 0 (hp_A Γ)) (entryFrame m ([.ref a0] : List Value).toArray 1)
  rw [lg_entry_eq]
  generalize (lg_sl ([.ref a0]) ++ List.replicate (1 - (lg_sl ([.ref a0])).length) Slot.unset).toArray = ls at hl ⊢
  have hl : lv_has ls 1 [(0, .ref a0)] := hl
  refine lv_aload_n hx hb dX11_status_0 rfl (lv_at hl 0 rfl) (hp_n (n := 1) rfl ?_)
  refine q_geti (κ := 12) (k := 0) (φ := 600) (pc' := 4) C B (cw_k B.2.2 k0) fl_X11_9 rfl rfl rfl dX11_status_1 rfl (fun x_1 ex_1 => ?_)
  exact q_iret C B hr hlk rfl dX11_status_4
abbrev w_X11_answer : cw_W := ([600], [], [], [])
set_option maxRecDepth 100000 in
set_option maxHeartbeats 4000000 in
theorem t_X11_answer (Γ : hp_G) (l : Launch) (α : hp_T) (g : GC α) (a0 : Nat) (k0 : hp_K α a0 = 12) (a1 : Int32) : Met l yX11_answer (hp_ws yX11_answer cX11_answer 2 (some .int)) (hp_rm 0 0 0) (hp_Pc Γ α [.ref a0, .int a1]) (hp_Qi Γ (fun r β => cw w_X11_answer α β)) 0 0 (hp_A Γ) := by
  refine hp_start (by decide) ?_
  intro p e s m below meth c C hr hlk B0 hnm
  have C : hp_C Γ p m c cX11_answer 2 s ([.ref a0, .int a1] : List Value).toArray RX11 := C
  have hx := C.1.1
  have hb := C.1.2.1
  have hown := C.1.2.2.2.1
  have hts := C.1.2.2.2.2
  have B : hp_B Γ (cw w_X11_answer) s α α s.heap [] := ⟨B0.1, B0.2.1, cw_rf g⟩
  have lit0 : (0 : Int32).toInt = 0 := by decide
  have hl := lv_entry ([.ref a0, .int a1]) (n := 2) (Nat.le_of_ble_eq_true rfl)
  show W p l e (hp_rm 0 0 0) s m ([.ref a0, .int a1] : List Value).toArray below meth c s.heap [] 0 0 (MQ below (hp_Qi Γ (fun r β => cw w_X11_answer α β)) ([.ref a0, .int a1] : List Value).toArray s 0 0 (hp_A Γ)) (entryFrame m ([.ref a0, .int a1] : List Value).toArray 2)
  rw [lg_entry_eq]
  generalize (lg_sl ([.ref a0, .int a1]) ++ List.replicate (2 - (lg_sl ([.ref a0, .int a1])).length) Slot.unset).toArray = ls at hl ⊢
  have hl : lv_has ls 2 [(0, .ref a0), (1, .int a1)] := hl
  refine lv_aload_n hx hb dX11_answer_0 rfl (lv_at hl 0 rfl) (hp_n (n := 1) rfl ?_)
  refine lv_iconst (v := 0) hx hb dX11_answer_1 (by decide) (hp_n (n := 2) rfl ?_)
  refine q_puti (κ := 12) (k := 0) (φ := 600) (pc' := 5) C B (cw_k B.2.2 k0) fl_X11_9 rfl rfl rfl rfl rfl rfl (cw_sI B.2.2 (by decide) (fun h => absurd h (by decide))) dX11_answer_2 rfl (fun αh_1 Hh_1 Lh_1 eh_1 Bh_1 => ?_)
  refine lv_iload_n hx hb dX11_answer_5 rfl (lv_at hl 1 rfl) (hp_n (n := 6) rfl ?_)
  exact q_iret C Bh_1 hr hlk Bh_1.2.2 dX11_answer_6
abbrev w_X11_refuse : cw_W := ([600], [], [], [])
set_option maxRecDepth 100000 in
set_option maxHeartbeats 4000000 in
theorem t_X11_refuse (Γ : hp_G) (l : Launch) (α : hp_T) (g : GC α) (a0 : Nat) (k0 : hp_K α a0 = 12) (a1 : Int32) : Met l yX11_refuse (hp_ws yX11_refuse cX11_refuse 2 (some .int)) (hp_rm 0 0 0) (hp_Pc Γ α [.ref a0, .int a1]) (hp_Qi Γ (fun r β => cw w_X11_refuse α β)) 0 0 (hp_A Γ) := by
  refine hp_start (by decide) ?_
  intro p e s m below meth c C hr hlk B0 hnm
  have C : hp_C Γ p m c cX11_refuse 2 s ([.ref a0, .int a1] : List Value).toArray RX11 := C
  have hx := C.1.1
  have hb := C.1.2.1
  have hown := C.1.2.2.2.1
  have hts := C.1.2.2.2.2
  have B : hp_B Γ (cw w_X11_refuse) s α α s.heap [] := ⟨B0.1, B0.2.1, cw_rf g⟩
  have litm1 : ((-1) : Int32).toInt = (-1) := by decide
  have hl := lv_entry ([.ref a0, .int a1]) (n := 2) (Nat.le_of_ble_eq_true rfl)
  show W p l e (hp_rm 0 0 0) s m ([.ref a0, .int a1] : List Value).toArray below meth c s.heap [] 0 0 (MQ below (hp_Qi Γ (fun r β => cw w_X11_refuse α β)) ([.ref a0, .int a1] : List Value).toArray s 0 0 (hp_A Γ)) (entryFrame m ([.ref a0, .int a1] : List Value).toArray 2)
  rw [lg_entry_eq]
  generalize (lg_sl ([.ref a0, .int a1]) ++ List.replicate (2 - (lg_sl ([.ref a0, .int a1])).length) Slot.unset).toArray = ls at hl ⊢
  have hl : lv_has ls 2 [(0, .ref a0), (1, .int a1)] := hl
  refine lv_aload_n hx hb dX11_refuse_0 rfl (lv_at hl 0 rfl) (hp_n (n := 1) rfl ?_)
  refine lv_iload_n hx hb dX11_refuse_1 rfl (lv_at hl 1 rfl) (hp_n (n := 2) rfl ?_)
  refine q_puti (κ := 12) (k := 0) (φ := 600) (pc' := 5) C B (cw_k B.2.2 k0) fl_X11_9 rfl rfl rfl rfl rfl rfl (cw_sI B.2.2 (by decide) (fun h => absurd h (by decide))) dX11_refuse_2 rfl (fun αh_1 Hh_1 Lh_1 eh_1 Bh_1 => ?_)
  refine lv_iconst (v := (-1)) hx hb dX11_refuse_5 (by decide) (hp_n (n := 6) rfl ?_)
  exact q_iret C Bh_1 hr hlk Bh_1.2.2 dX11_refuse_6
abbrev w_X11_putOnTape : cw_W := ([605], [], [24], [])
abbrev w_X11_feed : cw_W := ([605], [], [24], [])
abbrev w_X11_isMark : cw_W := ([], [], [], [])
set_option maxRecDepth 100000 in
set_option maxHeartbeats 4000000 in
theorem t_X11_isMark (Γ : hp_G) (l : Launch) (α : hp_T) (g : GC α) (a0 : Nat) (k0 : hp_K α a0 = 12) (a1 : Int32) : Met l yX11_isMark (hp_ws yX11_isMark cX11_isMark 2 (some .boolean)) (hp_rm 0 0 0) (hp_Pc Γ α [.ref a0, .int a1]) (hp_Qi Γ (fun r β => β = α ∧ (r = 0 ∨ r = 1))) 0 0 (hp_A Γ) := by
  refine hp_start (by decide) ?_
  intro p e s m below meth c C hr hlk B0 hnm
  have C : hp_C Γ p m c cX11_isMark 2 s ([.ref a0, .int a1] : List Value).toArray RX11 := C
  have hx := C.1.1
  have hb := C.1.2.1
  have hown := C.1.2.2.2.1
  have hts := C.1.2.2.2.2
  have B : hp_B Γ (cw w_X11_isMark) s α α s.heap [] := ⟨B0.1, B0.2.1, cw_rf g⟩
  have lit0 : (0 : Int32).toInt = 0 := by decide
  have lit1 : (1 : Int32).toInt = 1 := by decide
  have hl := lv_entry ([.ref a0, .int a1]) (n := 2) (Nat.le_of_ble_eq_true rfl)
  show W p l e (hp_rm 0 0 0) s m ([.ref a0, .int a1] : List Value).toArray below meth c s.heap [] 0 0 (MQ below (hp_Qi Γ (fun r β => β = α ∧ (r = 0 ∨ r = 1))) ([.ref a0, .int a1] : List Value).toArray s 0 0 (hp_A Γ)) (entryFrame m ([.ref a0, .int a1] : List Value).toArray 2)
  rw [lg_entry_eq]
  generalize (lg_sl ([.ref a0, .int a1]) ++ List.replicate (2 - (lg_sl ([.ref a0, .int a1])).length) Slot.unset).toArray = ls at hl ⊢
  have hl : lv_has ls 2 [(0, .ref a0), (1, .int a1)] := hl
  refine lv_iload_n hx hb dX11_isMark_0 rfl (lv_at hl 1 rfl) (hp_n (n := 1) rfl ?_)
  refine lv_if_lt (tgt := 19) hx hb dX11_isMark_1 (by decide) (fun c_1 => ?_) (fun c_1 => hp_n (n := 4) rfl ?_)
  ·
    have jc_1 := il_lt c_1
    refine lv_iconst (v := 0) hx hb dX11_isMark_19 (by decide) (hp_n (n := 20) rfl ?_)
    exact q_zret C B hr hlk (by decide) ⟨rfl, (Or.inl rfl)⟩ dX11_isMark_20
  ·
    have jc_1 := il_nlt c_1
    refine lv_iload_n hx hb dX11_isMark_4 rfl (lv_at hl 1 rfl) (hp_n (n := 5) rfl ?_)
    refine lv_aload_n hx hb dX11_isMark_5 rfl (lv_at hl 0 rfl) (hp_n (n := 6) rfl ?_)
    refine q_getr (κ := 12) (k := 1) (φ := 601) (pc' := 9) C B (cw_k B.2.2 k0) fl_X11_16 rfl rfl rfl (cw_r B.2.2 k0 rfl rfl (by decide) (by decide)) dX11_isMark_6 rfl (fun b_2 eb_2 kb_2 => ?_)
    refine q_geti (κ := 11) (k := 0) (φ := 550) (pc' := 12) C B (cw_k B.2.2 kb_2) fl_X11_122 rfl rfl rfl dX11_isMark_9 rfl (fun x_3 ex_3 => ?_)
    refine lv_icmp_ge (tgt := 19) hx hb dX11_isMark_12 (by decide) (fun c_4 => ?_) (fun c_4 => hp_n (n := 15) rfl ?_)
    ·
      have jc_4 := il_le c_4
      refine lv_iconst (v := 0) hx hb dX11_isMark_19 (by decide) (hp_n (n := 20) rfl ?_)
      exact q_zret C B hr hlk (by decide) ⟨rfl, (Or.inl rfl)⟩ dX11_isMark_20
    ·
      have jc_4 := il_nle c_4
      refine lv_iconst (v := 1) hx hb dX11_isMark_15 (by decide) (hp_n (n := 16) rfl ?_)
      refine lv_goto (tgt := 20) hx hb dX11_isMark_16 (by decide) ?_
      exact q_zret C B hr hlk (by decide) ⟨rfl, (Or.inr rfl)⟩ dX11_isMark_20
abbrev w_X11_isThing : cw_W := ([], [], [], [])
set_option maxRecDepth 100000 in
set_option maxHeartbeats 4000000 in
theorem t_X11_isThing (Γ : hp_G) (l : Launch) (α : hp_T) (g : GC α) (a0 : Int32) (a1 : Int32) : Met l yX11_isThing (hp_ws yX11_isThing cX11_isThing 2 (some .boolean)) (hp_rm 0 0 0) (hp_Pc Γ α [.int a0, .int a1]) (hp_Qi Γ (fun r β => β = α ∧ (r = 0 ∨ r = 1))) 0 0 (hp_A Γ) := by
  refine hp_start (by decide) ?_
  intro p e s m below meth c C hr hlk B0 hnm
  have C : hp_C Γ p m c cX11_isThing 2 s ([.int a0, .int a1] : List Value).toArray RX11 := C
  have hx := C.1.1
  have hb := C.1.2.1
  have hown := C.1.2.2.2.1
  have hts := C.1.2.2.2.2
  have B : hp_B Γ (cw w_X11_isThing) s α α s.heap [] := ⟨B0.1, B0.2.1, cw_rf g⟩
  have lit0 : (0 : Int32).toInt = 0 := by decide
  have lit1 : (1 : Int32).toInt = 1 := by decide
  have hl := lv_entry ([.int a0, .int a1]) (n := 2) (Nat.le_of_ble_eq_true rfl)
  show W p l e (hp_rm 0 0 0) s m ([.int a0, .int a1] : List Value).toArray below meth c s.heap [] 0 0 (MQ below (hp_Qi Γ (fun r β => β = α ∧ (r = 0 ∨ r = 1))) ([.int a0, .int a1] : List Value).toArray s 0 0 (hp_A Γ)) (entryFrame m ([.int a0, .int a1] : List Value).toArray 2)
  rw [lg_entry_eq]
  generalize (lg_sl ([.int a0, .int a1]) ++ List.replicate (2 - (lg_sl ([.int a0, .int a1])).length) Slot.unset).toArray = ls at hl ⊢
  have hl : lv_has ls 2 [(0, .int a0), (1, .int a1)] := hl
  refine lv_iload_n hx hb dX11_isThing_0 rfl (lv_at hl 0 rfl) (hp_n (n := 1) rfl ?_)
  refine lv_if_lt (tgt := 13) hx hb dX11_isThing_1 (by decide) (fun c_1 => ?_) (fun c_1 => hp_n (n := 4) rfl ?_)
  ·
    have jc_1 := il_lt c_1
    refine lv_iconst (v := 0) hx hb dX11_isThing_13 (by decide) (hp_n (n := 14) rfl ?_)
    exact q_zret C B hr hlk (by decide) ⟨rfl, (Or.inl rfl)⟩ dX11_isThing_14
  ·
    have jc_1 := il_nlt c_1
    refine lv_iload_n hx hb dX11_isThing_4 rfl (lv_at hl 0 rfl) (hp_n (n := 5) rfl ?_)
    refine lv_iload_n hx hb dX11_isThing_5 rfl (lv_at hl 1 rfl) (hp_n (n := 6) rfl ?_)
    refine lv_icmp_ge (tgt := 13) hx hb dX11_isThing_6 (by decide) (fun c_2 => ?_) (fun c_2 => hp_n (n := 9) rfl ?_)
    ·
      have jc_2 := il_le c_2
      refine lv_iconst (v := 0) hx hb dX11_isThing_13 (by decide) (hp_n (n := 14) rfl ?_)
      exact q_zret C B hr hlk (by decide) ⟨rfl, (Or.inl rfl)⟩ dX11_isThing_14
    ·
      have jc_2 := il_nle c_2
      refine lv_iconst (v := 1) hx hb dX11_isThing_9 (by decide) (hp_n (n := 10) rfl ?_)
      refine lv_goto (tgt := 14) hx hb dX11_isThing_10 (by decide) ?_
      exact q_zret C B hr hlk (by decide) ⟨rfl, (Or.inr rfl)⟩ dX11_isThing_14
abbrev w_X11_isSet : cw_W := ([], [], [], [])
set_option maxRecDepth 100000 in
set_option maxHeartbeats 4000000 in
theorem t_X11_isSet (Γ : hp_G) (l : Launch) (α : hp_T) (g : GC α) (a0 : Int32) : Met l yX11_isSet (hp_ws yX11_isSet cX11_isSet 1 (some .boolean)) (hp_rm 0 0 0) (hp_Pc Γ α [.int a0]) (hp_Qi Γ (fun r β => β = α ∧ (r = 0 ∨ r = 1))) 0 0 (hp_A Γ) := by
  refine hp_start (by decide) ?_
  intro p e s m below meth c C hr hlk B0 hnm
  have C : hp_C Γ p m c cX11_isSet 1 s ([.int a0] : List Value).toArray RX11 := C
  have hx := C.1.1
  have hb := C.1.2.1
  have hown := C.1.2.2.2.1
  have hts := C.1.2.2.2.2
  have B : hp_B Γ (cw w_X11_isSet) s α α s.heap [] := ⟨B0.1, B0.2.1, cw_rf g⟩
  have lit0 : (0 : Int32).toInt = 0 := by decide
  have lit1 : (1 : Int32).toInt = 1 := by decide
  have hl := lv_entry ([.int a0]) (n := 1) (Nat.le_of_ble_eq_true rfl)
  show W p l e (hp_rm 0 0 0) s m ([.int a0] : List Value).toArray below meth c s.heap [] 0 0 (MQ below (hp_Qi Γ (fun r β => β = α ∧ (r = 0 ∨ r = 1))) ([.int a0] : List Value).toArray s 0 0 (hp_A Γ)) (entryFrame m ([.int a0] : List Value).toArray 1)
  rw [lg_entry_eq]
  generalize (lg_sl ([.int a0]) ++ List.replicate (1 - (lg_sl ([.int a0])).length) Slot.unset).toArray = ls at hl ⊢
  have hl : lv_has ls 1 [(0, .int a0)] := hl
  refine lv_iload_n hx hb dX11_isSet_0 rfl (lv_at hl 0 rfl) (hp_n (n := 1) rfl ?_)
  refine lv_if_le (tgt := 8) hx hb dX11_isSet_1 (by decide) (fun c_1 => ?_) (fun c_1 => hp_n (n := 4) rfl ?_)
  ·
    have jc_1 := il_le c_1
    refine lv_iconst (v := 0) hx hb dX11_isSet_8 (by decide) (hp_n (n := 9) rfl ?_)
    exact q_zret C B hr hlk (by decide) ⟨rfl, (Or.inl rfl)⟩ dX11_isSet_9
  ·
    have jc_1 := il_nle c_1
    refine lv_iconst (v := 1) hx hb dX11_isSet_4 (by decide) (hp_n (n := 5) rfl ?_)
    refine lv_goto (tgt := 9) hx hb dX11_isSet_5 (by decide) ?_
    exact q_zret C B hr hlk (by decide) ⟨rfl, (Or.inr rfl)⟩ dX11_isSet_9
abbrev w_X11_lieBelow : cw_W := ([], [], [], [])
set_option maxRecDepth 100000 in
set_option maxHeartbeats 4000000 in
theorem t_X11_lieBelow (Γ : hp_G) (l : Launch) (α : hp_T) (g : GC α) (a0 : Int32) (a1 : Int32) : Met l yX11_lieBelow (hp_ws yX11_lieBelow cX11_lieBelow 2 (some .boolean)) (hp_rm 2 0 0) (hp_Pc Γ α [.int a0, .int a1]) (hp_Qi Γ (fun r β => β = α ∧ (r = 0 ∨ r = 1))) 0 0 (hp_A Γ) := by
  refine hp_start (by decide) ?_
  intro p e s m below meth c C hr hlk B0 hnm
  have C : hp_C Γ p m c cX11_lieBelow 2 s ([.int a0, .int a1] : List Value).toArray RX11 := C
  have hx := C.1.1
  have hb := C.1.2.1
  have hown := C.1.2.2.2.1
  have hts := C.1.2.2.2.2
  have B : hp_B Γ (cw w_X11_lieBelow) s α α s.heap [] := ⟨B0.1, B0.2.1, cw_rf g⟩
  have lit0 : (0 : Int32).toInt = 0 := by decide
  have lit1 : (1 : Int32).toInt = 1 := by decide
  have lit30 : (30 : Int32).toInt = 30 := by decide
  have hl := lv_entry ([.int a0, .int a1]) (n := 2) (Nat.le_of_ble_eq_true rfl)
  show W p l e (hp_rm 2 0 0) s m ([.int a0, .int a1] : List Value).toArray below meth c s.heap [] 0 0 (MQ below (hp_Qi Γ (fun r β => β = α ∧ (r = 0 ∨ r = 1))) ([.int a0, .int a1] : List Value).toArray s 0 0 (hp_A Γ)) (entryFrame m ([.int a0, .int a1] : List Value).toArray 2)
  rw [lg_entry_eq]
  generalize (lg_sl ([.int a0, .int a1]) ++ List.replicate (2 - (lg_sl ([.int a0, .int a1])).length) Slot.unset).toArray = ls at hl ⊢
  have hl : lv_has ls 2 [(0, .int a0), (1, .int a1)] := hl
  refine lv_iload_n hx hb dX11_lieBelow_0 rfl (lv_at hl 0 rfl) (hp_n (n := 1) rfl ?_)
  refine q_ci (pc' := 4) B (hp_runS (As := [.int a0]) (rest := []) C B (t_J6_highestOneBit_0f7a4 Γ l α B.2.2.1 a0) lb_J6_highestOneBit_0f7a4 ls_J6_highestOneBit_0f7a4 lk_X11_463 rfl (by decide) rfl hl.1 rfl (Nat.le_of_ble_eq_true rfl) dX11_lieBelow_1 ⟨Nat.le_refl _, Nat.le_refl _⟩) (fun _ _ h => by rw [h]; exact B.2.2) rfl (fun rh_1 αh_1 Hh_1 Lh_1 ph_1 Bh_1 => ?_)
  rw [ph_1] at Bh_1
  refine lv_iconst (v := 1) hx hb dX11_lieBelow_4 (by decide) (hp_n (n := 5) rfl ?_)
  refine lv_iconst (v := 0) hx hb dX11_lieBelow_5 (by decide) (hp_n (n := 6) rfl ?_)
  refine lv_iload_n hx hb dX11_lieBelow_6 rfl (lv_at hl 1 rfl) (hp_n (n := 7) rfl ?_)
  refine lv_bipush (v := 30) hx hb dX11_lieBelow_7 (by decide) (hp_n (n := 9) rfl ?_)
  refine q_ci (pc' := 12) Bh_1 (hp_runS (As := [.int a1, .int 30]) (rest := [.int 0, .int 1, .int rh_1]) C Bh_1 (t_J9_min_7cf53 Γ l α Bh_1.2.2.1 a1 30) lb_J9_min_7cf53 ls_J9_min_7cf53 lk_X11_466 rfl (by decide) rfl hl.1 rfl (Nat.le_of_ble_eq_true rfl) dX11_lieBelow_9 ⟨Nat.le_refl _, Nat.le_refl _⟩) (fun _ _ h => by rw [h.1]; exact Bh_1.2.2) rfl (fun rh_2 αh_2 Hh_2 Lh_2 ph_2 Bh_2 => ?_)
  rw [ph_2.1] at Bh_2
  obtain ⟨ph_2a, ph_2b, ph_2c⟩ := ph_2.2
  refine q_ci (pc' := 15) Bh_2 (hp_runS (As := [.int 0, .int rh_2]) (rest := [.int 1, .int rh_1]) C Bh_2 (t_J9_max_7cf53 Γ l α Bh_2.2.2.1 0 rh_2) lb_J9_max_7cf53 ls_J9_max_7cf53 lk_X11_471 rfl (by decide) rfl hl.1 rfl (Nat.le_of_ble_eq_true rfl) dX11_lieBelow_12 ⟨Nat.le_refl _, Nat.le_refl _⟩) (fun _ _ h => by rw [h.1]; exact Bh_2.2.2) rfl (fun rh_3 αh_3 Hh_3 Lh_3 ph_3 Bh_3 => ?_)
  rw [ph_3.1] at Bh_3
  obtain ⟨ph_3a, ph_3b, ph_3c⟩ := ph_3.2
  refine lv_ishl hx hb dX11_lieBelow_15 (hp_n (n := 16) rfl (lv_topi (fun x_4 ex_4 => ?_)))
  refine lv_icmp_ge (tgt := 23) hx hb dX11_lieBelow_16 (by decide) (fun c_5 => ?_) (fun c_5 => hp_n (n := 19) rfl ?_)
  ·
    have jc_5 := il_le c_5
    refine lv_iconst (v := 0) hx hb dX11_lieBelow_23 (by decide) (hp_n (n := 24) rfl ?_)
    exact q_zret C Bh_3 hr hlk (by decide) ⟨rfl, (Or.inl rfl)⟩ dX11_lieBelow_24
  ·
    have jc_5 := il_nle c_5
    refine lv_iconst (v := 1) hx hb dX11_lieBelow_19 (by decide) (hp_n (n := 20) rfl ?_)
    refine lv_goto (tgt := 24) hx hb dX11_lieBelow_20 (by decide) ?_
    exact q_zret C Bh_3 hr hlk (by decide) ⟨rfl, (Or.inr rfl)⟩ dX11_lieBelow_24
abbrev w_X11_wrongInclusion : cw_W := ([], [], [], [])
set_option maxRecDepth 100000 in
set_option maxHeartbeats 4000000 in
theorem t_X11_wrongInclusion (Γ : hp_G) (l : Launch) (α : hp_T) (g : GC α) (o0 : Option Nat) (k0 : ∀ b, o0 = some b → hp_K α b = 3) (a1 : Int32) (a2 : Int32) : Met l yX11_wrongInclusion (hp_ws yX11_wrongInclusion cX11_wrongInclusion 3 (some .int)) (hp_rm 0 0 0) (hp_Pc Γ α [va_rf o0, .int a1, .int a2]) (hp_Qi Γ (fun r β => β = α)) 0 0 (hp_A Γ) := by
  refine hp_start (by decide) ?_
  intro p e s m below meth c C hr hlk B0 hnm
  have C : hp_C Γ p m c cX11_wrongInclusion 3 s ([va_rf o0, .int a1, .int a2] : List Value).toArray RX11 := C
  have hx := C.1.1
  have hb := C.1.2.1
  have hown := C.1.2.2.2.1
  have hts := C.1.2.2.2.2
  have B : hp_B Γ (cw w_X11_wrongInclusion) s α α s.heap [] := ⟨B0.1, B0.2.1, cw_rf g⟩
  have lit0 : (0 : Int32).toInt = 0 := by decide
  have lit1 : (1 : Int32).toInt = 1 := by decide
  have lit2 : (2 : Int32).toInt = 2 := by decide
  have lit5 : (5 : Int32).toInt = 5 := by decide
  rcases o0 with _ | a0
  ·
    have hl := lv_entry ([.null, .int a1, .int a2]) (n := 3) (Nat.le_of_ble_eq_true rfl)
    show W p l e (hp_rm 0 0 0) s m ([.null, .int a1, .int a2] : List Value).toArray below meth c s.heap [] 0 0 (MQ below (hp_Qi Γ (fun r β => β = α)) ([.null, .int a1, .int a2] : List Value).toArray s 0 0 (hp_A Γ)) (entryFrame m ([.null, .int a1, .int a2] : List Value).toArray 3)
    rw [lg_entry_eq]
    generalize (lg_sl ([.null, .int a1, .int a2]) ++ List.replicate (3 - (lg_sl ([.null, .int a1, .int a2])).length) Slot.unset).toArray = ls at hl ⊢
    have hl : lv_has ls 3 [(0, .null), (1, .int a1), (2, .int a2)] := hl
    refine lv_iload_n hx hb dX11_wrongInclusion_0 rfl (lv_at hl 1 rfl) (hp_n (n := 1) rfl ?_)
    refine lv_if_lt (tgt := 8) hx hb dX11_wrongInclusion_1 (by decide) (fun c_1 => ?_) (fun c_1 => hp_n (n := 4) rfl ?_)
    ·
      have jc_1 := il_lt c_1
      refine lv_iconst (v := 1) hx hb dX11_wrongInclusion_8 (by decide) (hp_n (n := 9) rfl ?_)
      exact q_iret C B hr hlk rfl dX11_wrongInclusion_9
    ·
      have jc_1 := il_nlt c_1
      refine lv_iload_n hx hb dX11_wrongInclusion_4 rfl (lv_at hl 2 rfl) (hp_n (n := 5) rfl ?_)
      refine lv_if_ge (tgt := 10) hx hb dX11_wrongInclusion_5 (by decide) (fun c_2 => ?_) (fun c_2 => hp_n (n := 8) rfl ?_)
      ·
        have jc_2 := il_le c_2
        refine lv_aload_nN hx hb dX11_wrongInclusion_10 rfl (lv_at hl 0 rfl) (hp_n (n := 11) rfl ?_)
        refine lv_ifnonnullN hx hb dX11_wrongInclusion_11 (hp_n (n := 14) rfl ?_)
        refine lv_iconst (v := 2) hx hb dX11_wrongInclusion_14 (by decide) (hp_n (n := 15) rfl ?_)
        exact q_iret C B hr hlk rfl dX11_wrongInclusion_15
      ·
        have jc_2 := il_nle c_2
        refine lv_iconst (v := 1) hx hb dX11_wrongInclusion_8 (by decide) (hp_n (n := 9) rfl ?_)
        exact q_iret C B hr hlk rfl dX11_wrongInclusion_9
  ·
    have ka0 := k0 a0 rfl
    have hl := lv_entry ([.ref a0, .int a1, .int a2]) (n := 3) (Nat.le_of_ble_eq_true rfl)
    show W p l e (hp_rm 0 0 0) s m ([.ref a0, .int a1, .int a2] : List Value).toArray below meth c s.heap [] 0 0 (MQ below (hp_Qi Γ (fun r β => β = α)) ([.ref a0, .int a1, .int a2] : List Value).toArray s 0 0 (hp_A Γ)) (entryFrame m ([.ref a0, .int a1, .int a2] : List Value).toArray 3)
    rw [lg_entry_eq]
    generalize (lg_sl ([.ref a0, .int a1, .int a2]) ++ List.replicate (3 - (lg_sl ([.ref a0, .int a1, .int a2])).length) Slot.unset).toArray = ls at hl ⊢
    have hl : lv_has ls 3 [(0, .ref a0), (1, .int a1), (2, .int a2)] := hl
    refine lv_iload_n hx hb dX11_wrongInclusion_0 rfl (lv_at hl 1 rfl) (hp_n (n := 1) rfl ?_)
    refine lv_if_lt (tgt := 8) hx hb dX11_wrongInclusion_1 (by decide) (fun c_3 => ?_) (fun c_3 => hp_n (n := 4) rfl ?_)
    ·
      have jc_3 := il_lt c_3
      refine lv_iconst (v := 1) hx hb dX11_wrongInclusion_8 (by decide) (hp_n (n := 9) rfl ?_)
      exact q_iret C B hr hlk rfl dX11_wrongInclusion_9
    ·
      have jc_3 := il_nlt c_3
      refine lv_iload_n hx hb dX11_wrongInclusion_4 rfl (lv_at hl 2 rfl) (hp_n (n := 5) rfl ?_)
      refine lv_if_ge (tgt := 10) hx hb dX11_wrongInclusion_5 (by decide) (fun c_4 => ?_) (fun c_4 => hp_n (n := 8) rfl ?_)
      ·
        have jc_4 := il_le c_4
        refine lv_aload_n hx hb dX11_wrongInclusion_10 rfl (lv_at hl 0 rfl) (hp_n (n := 11) rfl ?_)
        refine lv_ifnonnull (tgt := 16) hx hb dX11_wrongInclusion_11 (by decide) ?_
        refine lv_iload_n hx hb dX11_wrongInclusion_16 rfl (lv_at hl 2 rfl) (hp_n (n := 17) rfl ?_)
        refine lv_aload_n hx hb dX11_wrongInclusion_17 rfl (lv_at hl 0 rfl) (hp_n (n := 18) rfl ?_)
        refine q_geti (κ := 3) (k := 2) (φ := 152) (pc' := 21) C B (cw_k B.2.2 ka0) fl_X11_167 rfl rfl rfl dX11_wrongInclusion_18 rfl (fun x_5 ex_5 => ?_)
        refine lv_icmp_gt (tgt := 29) hx hb dX11_wrongInclusion_21 (by decide) (fun c_6 => ?_) (fun c_6 => hp_n (n := 24) rfl ?_)
        ·
          have jc_6 := il_lt c_6
          refine lv_iconst (v := 5) hx hb dX11_wrongInclusion_29 (by decide) (hp_n (n := 30) rfl ?_)
          refine lv_goto (tgt := 34) hx hb dX11_wrongInclusion_30 (by decide) ?_
          exact q_iret C B hr hlk rfl dX11_wrongInclusion_34
        ·
          have jc_6 := il_nlt c_6
          refine lv_iload_n hx hb dX11_wrongInclusion_24 rfl (lv_at hl 1 rfl) (hp_n (n := 25) rfl ?_)
          refine lv_iload_n hx hb dX11_wrongInclusion_25 rfl (lv_at hl 2 rfl) (hp_n (n := 26) rfl ?_)
          refine lv_icmp_lt (tgt := 33) hx hb dX11_wrongInclusion_26 (by decide) (fun c_7 => ?_) (fun c_7 => hp_n (n := 29) rfl ?_)
          ·
            have jc_7 := il_lt c_7
            refine lv_iconst (v := 0) hx hb dX11_wrongInclusion_33 (by decide) (hp_n (n := 34) rfl ?_)
            exact q_iret C B hr hlk rfl dX11_wrongInclusion_34
          ·
            have jc_7 := il_nlt c_7
            refine lv_iconst (v := 5) hx hb dX11_wrongInclusion_29 (by decide) (hp_n (n := 30) rfl ?_)
            refine lv_goto (tgt := 34) hx hb dX11_wrongInclusion_30 (by decide) ?_
            exact q_iret C B hr hlk rfl dX11_wrongInclusion_34
      ·
        have jc_4 := il_nle c_4
        refine lv_iconst (v := 1) hx hb dX11_wrongInclusion_8 (by decide) (hp_n (n := 9) rfl ?_)
        exact q_iret C B hr hlk rfl dX11_wrongInclusion_9
abbrev w_X11_wrongGrowth : cw_W := ([], [], [], [])
set_option maxRecDepth 100000 in
set_option maxHeartbeats 4000000 in
theorem t_X11_wrongGrowth (Γ : hp_G) (l : Launch) (α : hp_T) (g : GC α) (o0 : Option Nat) (k0 : ∀ b, o0 = some b → hp_K α b = 3) (a1 : Int32) (a2 : Int32) : Met l yX11_wrongGrowth (hp_ws yX11_wrongGrowth cX11_wrongGrowth 3 (some .int)) (hp_rm 0 0 0) (hp_Pc Γ α [va_rf o0, .int a1, .int a2]) (hp_Qi Γ (fun r β => β = α)) 0 0 (hp_A Γ) := by
  refine hp_start (by decide) ?_
  intro p e s m below meth c C hr hlk B0 hnm
  have C : hp_C Γ p m c cX11_wrongGrowth 3 s ([va_rf o0, .int a1, .int a2] : List Value).toArray RX11 := C
  have hx := C.1.1
  have hb := C.1.2.1
  have hown := C.1.2.2.2.1
  have hts := C.1.2.2.2.2
  have B : hp_B Γ (cw w_X11_wrongGrowth) s α α s.heap [] := ⟨B0.1, B0.2.1, cw_rf g⟩
  have lit0 : (0 : Int32).toInt = 0 := by decide
  have lit1 : (1 : Int32).toInt = 1 := by decide
  have lit2 : (2 : Int32).toInt = 2 := by decide
  have lit5 : (5 : Int32).toInt = 5 := by decide
  rcases o0 with _ | a0
  ·
    have hl := lv_entry ([.null, .int a1, .int a2]) (n := 3) (Nat.le_of_ble_eq_true rfl)
    show W p l e (hp_rm 0 0 0) s m ([.null, .int a1, .int a2] : List Value).toArray below meth c s.heap [] 0 0 (MQ below (hp_Qi Γ (fun r β => β = α)) ([.null, .int a1, .int a2] : List Value).toArray s 0 0 (hp_A Γ)) (entryFrame m ([.null, .int a1, .int a2] : List Value).toArray 3)
    rw [lg_entry_eq]
    generalize (lg_sl ([.null, .int a1, .int a2]) ++ List.replicate (3 - (lg_sl ([.null, .int a1, .int a2])).length) Slot.unset).toArray = ls at hl ⊢
    have hl : lv_has ls 3 [(0, .null), (1, .int a1), (2, .int a2)] := hl
    refine lv_iload_n hx hb dX11_wrongGrowth_0 rfl (lv_at hl 1 rfl) (hp_n (n := 1) rfl ?_)
    refine lv_if_lt (tgt := 9) hx hb dX11_wrongGrowth_1 (by decide) (fun c_1 => ?_) (fun c_1 => hp_n (n := 4) rfl ?_)
    ·
      have jc_1 := il_lt c_1
      refine lv_iconst (v := 1) hx hb dX11_wrongGrowth_9 (by decide) (hp_n (n := 10) rfl ?_)
      exact q_iret C B hr hlk rfl dX11_wrongGrowth_10
    ·
      have jc_1 := il_nlt c_1
      refine lv_iload_n hx hb dX11_wrongGrowth_4 rfl (lv_at hl 1 rfl) (hp_n (n := 5) rfl ?_)
      refine lv_iload_n hx hb dX11_wrongGrowth_5 rfl (lv_at hl 2 rfl) (hp_n (n := 6) rfl ?_)
      refine lv_icmp_le (tgt := 11) hx hb dX11_wrongGrowth_6 (by decide) (fun c_2 => ?_) (fun c_2 => hp_n (n := 9) rfl ?_)
      ·
        have jc_2 := il_le c_2
        refine lv_aload_nN hx hb dX11_wrongGrowth_11 rfl (lv_at hl 0 rfl) (hp_n (n := 12) rfl ?_)
        refine lv_ifnonnullN hx hb dX11_wrongGrowth_12 (hp_n (n := 15) rfl ?_)
        refine lv_iconst (v := 2) hx hb dX11_wrongGrowth_15 (by decide) (hp_n (n := 16) rfl ?_)
        exact q_iret C B hr hlk rfl dX11_wrongGrowth_16
      ·
        have jc_2 := il_nle c_2
        refine lv_iconst (v := 1) hx hb dX11_wrongGrowth_9 (by decide) (hp_n (n := 10) rfl ?_)
        exact q_iret C B hr hlk rfl dX11_wrongGrowth_10
  ·
    have ka0 := k0 a0 rfl
    have hl := lv_entry ([.ref a0, .int a1, .int a2]) (n := 3) (Nat.le_of_ble_eq_true rfl)
    show W p l e (hp_rm 0 0 0) s m ([.ref a0, .int a1, .int a2] : List Value).toArray below meth c s.heap [] 0 0 (MQ below (hp_Qi Γ (fun r β => β = α)) ([.ref a0, .int a1, .int a2] : List Value).toArray s 0 0 (hp_A Γ)) (entryFrame m ([.ref a0, .int a1, .int a2] : List Value).toArray 3)
    rw [lg_entry_eq]
    generalize (lg_sl ([.ref a0, .int a1, .int a2]) ++ List.replicate (3 - (lg_sl ([.ref a0, .int a1, .int a2])).length) Slot.unset).toArray = ls at hl ⊢
    have hl : lv_has ls 3 [(0, .ref a0), (1, .int a1), (2, .int a2)] := hl
    refine lv_iload_n hx hb dX11_wrongGrowth_0 rfl (lv_at hl 1 rfl) (hp_n (n := 1) rfl ?_)
    refine lv_if_lt (tgt := 9) hx hb dX11_wrongGrowth_1 (by decide) (fun c_3 => ?_) (fun c_3 => hp_n (n := 4) rfl ?_)
    ·
      have jc_3 := il_lt c_3
      refine lv_iconst (v := 1) hx hb dX11_wrongGrowth_9 (by decide) (hp_n (n := 10) rfl ?_)
      exact q_iret C B hr hlk rfl dX11_wrongGrowth_10
    ·
      have jc_3 := il_nlt c_3
      refine lv_iload_n hx hb dX11_wrongGrowth_4 rfl (lv_at hl 1 rfl) (hp_n (n := 5) rfl ?_)
      refine lv_iload_n hx hb dX11_wrongGrowth_5 rfl (lv_at hl 2 rfl) (hp_n (n := 6) rfl ?_)
      refine lv_icmp_le (tgt := 11) hx hb dX11_wrongGrowth_6 (by decide) (fun c_4 => ?_) (fun c_4 => hp_n (n := 9) rfl ?_)
      ·
        have jc_4 := il_le c_4
        refine lv_aload_n hx hb dX11_wrongGrowth_11 rfl (lv_at hl 0 rfl) (hp_n (n := 12) rfl ?_)
        refine lv_ifnonnull (tgt := 17) hx hb dX11_wrongGrowth_12 (by decide) ?_
        refine lv_iload_n hx hb dX11_wrongGrowth_17 rfl (lv_at hl 2 rfl) (hp_n (n := 18) rfl ?_)
        refine lv_aload_n hx hb dX11_wrongGrowth_18 rfl (lv_at hl 0 rfl) (hp_n (n := 19) rfl ?_)
        refine q_geti (κ := 3) (k := 2) (φ := 152) (pc' := 22) C B (cw_k B.2.2 ka0) fl_X11_167 rfl rfl rfl dX11_wrongGrowth_19 rfl (fun x_5 ex_5 => ?_)
        refine lv_icmp_le (tgt := 29) hx hb dX11_wrongGrowth_22 (by decide) (fun c_6 => ?_) (fun c_6 => hp_n (n := 25) rfl ?_)
        ·
          have jc_6 := il_le c_6
          refine lv_iconst (v := 0) hx hb dX11_wrongGrowth_29 (by decide) (hp_n (n := 30) rfl ?_)
          exact q_iret C B hr hlk rfl dX11_wrongGrowth_30
        ·
          have jc_6 := il_nle c_6
          refine lv_iconst (v := 5) hx hb dX11_wrongGrowth_25 (by decide) (hp_n (n := 26) rfl ?_)
          refine lv_goto (tgt := 30) hx hb dX11_wrongGrowth_26 (by decide) ?_
          exact q_iret C B hr hlk rfl dX11_wrongGrowth_30
      ·
        have jc_4 := il_nle c_4
        refine lv_iconst (v := 1) hx hb dX11_wrongGrowth_9 (by decide) (hp_n (n := 10) rfl ?_)
        exact q_iret C B hr hlk rfl dX11_wrongGrowth_10
abbrev w_X11_loadLines : cw_W := ([100, 101, 102, 103, 152, 204, 205, 206, 208, 209, 301, 351, 352, 353, 354, 355, 356, 400, 401, 402, 403, 453, 454, 501, 550, 552, 554, 556], [350], [20, 21, 22, 23, 27, 29, 33], [])
abbrev w_X11_load : cw_W := ([100, 101, 102, 103, 152, 204, 205, 206, 208, 209, 301, 351, 352, 353, 354, 355, 356, 400, 401, 402, 403, 453, 454, 501, 550, 552, 554, 556, 600, 605], [350, 601, 602], [20, 21, 22, 23, 27, 29, 33], [])
abbrev w_X11_heard : cw_W := ([600], [], [], [])
set_option maxRecDepth 100000 in
set_option maxHeartbeats 4000000 in
theorem t_X11_heard (Γ : hp_G) (l : Launch) (α : hp_T) (g : GC α) (a0 : Nat) (k0 : hp_K α a0 = 12) (a1 : Int32) : Met l yX11_heard (hp_ws yX11_heard cX11_heard 2 (some .int)) (hp_rm 1 0 0) (hp_Pc Γ α [.ref a0, .int a1]) (hp_Qi Γ (fun r β => cw w_X11_heard α β)) 0 0 (hp_A Γ) := by
  refine hp_start (by decide) ?_
  intro p e s m below meth c C hr hlk B0 hnm
  have C : hp_C Γ p m c cX11_heard 2 s ([.ref a0, .int a1] : List Value).toArray RX11 := C
  have hx := C.1.1
  have hb := C.1.2.1
  have hown := C.1.2.2.2.1
  have hts := C.1.2.2.2.2
  have B : hp_B Γ (cw w_X11_heard) s α α s.heap [] := ⟨B0.1, B0.2.1, cw_rf g⟩
  have lit0 : (0 : Int32).toInt = 0 := by decide
  have lit1 : (1 : Int32).toInt = 1 := by decide
  have lit5 : (5 : Int32).toInt = 5 := by decide
  have hl := lv_entry ([.ref a0, .int a1]) (n := 2) (Nat.le_of_ble_eq_true rfl)
  show W p l e (hp_rm 1 0 0) s m ([.ref a0, .int a1] : List Value).toArray below meth c s.heap [] 0 0 (MQ below (hp_Qi Γ (fun r β => cw w_X11_heard α β)) ([.ref a0, .int a1] : List Value).toArray s 0 0 (hp_A Γ)) (entryFrame m ([.ref a0, .int a1] : List Value).toArray 2)
  rw [lg_entry_eq]
  generalize (lg_sl ([.ref a0, .int a1]) ++ List.replicate (2 - (lg_sl ([.ref a0, .int a1])).length) Slot.unset).toArray = ls at hl ⊢
  have hl : lv_has ls 2 [(0, .ref a0), (1, .int a1)] := hl
  refine lv_iload_n hx hb dX11_heard_0 rfl (lv_at hl 1 rfl) (hp_n (n := 1) rfl ?_)
  refine lv_if_ge (tgt := 10) hx hb dX11_heard_1 (by decide) (fun c_1 => ?_) (fun c_1 => hp_n (n := 4) rfl ?_)
  ·
    have jc_1 := il_le c_1
    refine lv_iload_n hx hb dX11_heard_10 rfl (lv_at hl 1 rfl) (hp_n (n := 11) rfl ?_)
    refine lv_aload_n hx hb dX11_heard_11 rfl (lv_at hl 0 rfl) (hp_n (n := 12) rfl ?_)
    refine q_getr (κ := 12) (k := 8) (φ := 608) (pc' := 15) C B (cw_k B.2.2 k0) fl_X11_47 rfl rfl rfl (cw_r B.2.2 k0 rfl rfl (by decide) (by decide)) dX11_heard_12 rfl (fun b_2 eb_2 kb_2 => ?_)
    refine q_geti (κ := 6) (k := 1) (φ := 301) (pc' := 18) C B (cw_k B.2.2 kb_2) fl_X11_132 rfl rfl rfl dX11_heard_15 rfl (fun x_3 ex_3 => ?_)
    refine lv_icmp_lt (tgt := 27) hx hb dX11_heard_18 (by decide) (fun c_4 => ?_) (fun c_4 => hp_n (n := 21) rfl ?_)
    ·
      have jc_4 := il_lt c_4
      refine lv_aload_n hx hb dX11_heard_27 rfl (lv_at hl 0 rfl) (hp_n (n := 28) rfl ?_)
      refine lv_aload_n hx hb dX11_heard_28 rfl (lv_at hl 0 rfl) (hp_n (n := 29) rfl ?_)
      refine q_gets (κ := 12) (k := 8) (φ := 608) (pc' := 32) C B (cw_k B.2.2 k0) fl_X11_47 rfl rfl rfl eb_2 dX11_heard_29 rfl ?_
      refine lv_iload_n hx hb dX11_heard_32 rfl (lv_at hl 1 rfl) (hp_n (n := 33) rfl ?_)
      refine q_ci (pc' := 36) B (hp_runV (As := [.int a1]) (rest := [.ref a0]) C B (t_X5_at Γ l α B.2.2.1 b_2 (cw_k B.2.2 kb_2) a1) lb_X5_at lv_X5_at lk_X11_135 (cw_k B.2.2 kb_2) rfl (by decide) rfl hl.1 rfl (Nat.le_of_ble_eq_true rfl) dX11_heard_33 ⟨Nat.le_refl _, Nat.le_refl _⟩) (fun _ _ h => by rw [h]; exact B.2.2) rfl (fun rh_5 αh_5 Hh_5 Lh_5 ph_5 Bh_5 => ?_)
      rw [ph_5] at Bh_5
      refine q_ci (pc' := 39) Bh_5 (hp_runV (As := [.int rh_5]) (rest := []) C Bh_5 (t_X11_answer Γ l α Bh_5.2.2.1 a0 (cw_k Bh_5.2.2 k0) rh_5) lb_X11_answer lv_X11_answer lk_X11_115 (cw_k Bh_5.2.2 k0) rfl (by decide) rfl hl.1 rfl (Nat.le_of_ble_eq_true rfl) dX11_heard_36 ⟨Nat.le_refl _, Nat.le_refl _⟩) (fun _ _ h => cw_tr Bh_5.2.2 h (by decide)) rfl (fun rh_6 αh_6 Hh_6 Lh_6 ph_6 Bh_6 => ?_)
      exact q_iret C Bh_6 hr hlk Bh_6.2.2 dX11_heard_39
    ·
      have jc_4 := il_nlt c_4
      refine lv_aload_n hx hb dX11_heard_21 rfl (lv_at hl 0 rfl) (hp_n (n := 22) rfl ?_)
      refine lv_iconst (v := 5) hx hb dX11_heard_22 (by decide) (hp_n (n := 23) rfl ?_)
      refine q_ci (pc' := 26) B (hp_runV (As := [.int 5]) (rest := []) C B (t_X11_refuse Γ l α B.2.2.1 a0 (cw_k B.2.2 k0) 5) lb_X11_refuse lv_X11_refuse lk_X11_98 (cw_k B.2.2 k0) rfl (by decide) rfl hl.1 rfl (Nat.le_of_ble_eq_true rfl) dX11_heard_23 ⟨Nat.le_refl _, Nat.le_refl _⟩) (fun _ _ h => cw_tr B.2.2 h (by decide)) rfl (fun rh_7 αh_7 Hh_7 Lh_7 ph_7 Bh_7 => ?_)
      exact q_iret C Bh_7 hr hlk Bh_7.2.2 dX11_heard_26
  ·
    have jc_1 := il_nle c_1
    refine lv_aload_n hx hb dX11_heard_4 rfl (lv_at hl 0 rfl) (hp_n (n := 5) rfl ?_)
    refine lv_iconst (v := 1) hx hb dX11_heard_5 (by decide) (hp_n (n := 6) rfl ?_)
    refine q_ci (pc' := 9) B (hp_runV (As := [.int 1]) (rest := []) C B (t_X11_refuse Γ l α B.2.2.1 a0 (cw_k B.2.2 k0) 1) lb_X11_refuse lv_X11_refuse lk_X11_98 (cw_k B.2.2 k0) rfl (by decide) rfl hl.1 rfl (Nat.le_of_ble_eq_true rfl) dX11_heard_6 ⟨Nat.le_refl _, Nat.le_refl _⟩) (fun _ _ h => cw_tr B.2.2 h (by decide)) rfl (fun rh_8 αh_8 Hh_8 Lh_8 ph_8 Bh_8 => ?_)
    exact q_iret C Bh_8 hr hlk Bh_8.2.2 dX11_heard_9
abbrev w_X11_fault : cw_W := ([], [], [], [])
set_option maxRecDepth 100000 in
set_option maxHeartbeats 4000000 in
theorem t_X11_fault (Γ : hp_G) (l : Launch) (α : hp_T) (g : GC α) (a0 : Nat) (k0 : hp_K α a0 = 12) (a1 : Int32) : Met l yX11_fault (hp_ws yX11_fault cX11_fault 2 (some .int)) (hp_rm 0 0 0) (hp_Pc Γ α [.ref a0, .int a1]) (hp_Qi Γ (fun r β => β = α)) 0 0 (hp_A Γ) := by
  refine hp_start (by decide) ?_
  intro p e s m below meth c C hr hlk B0 hnm
  have C : hp_C Γ p m c cX11_fault 2 s ([.ref a0, .int a1] : List Value).toArray RX11 := C
  have hx := C.1.1
  have hb := C.1.2.1
  have hown := C.1.2.2.2.1
  have hts := C.1.2.2.2.2
  have B : hp_B Γ (cw w_X11_fault) s α α s.heap [] := ⟨B0.1, B0.2.1, cw_rf g⟩
  have litm1 : ((-1) : Int32).toInt = (-1) := by decide
  have lit0 : (0 : Int32).toInt = 0 := by decide
  have lit1 : (1 : Int32).toInt = 1 := by decide
  have hl := lv_entry ([.ref a0, .int a1]) (n := 2) (Nat.le_of_ble_eq_true rfl)
  show W p l e (hp_rm 0 0 0) s m ([.ref a0, .int a1] : List Value).toArray below meth c s.heap [] 0 0 (MQ below (hp_Qi Γ (fun r β => β = α)) ([.ref a0, .int a1] : List Value).toArray s 0 0 (hp_A Γ)) (entryFrame m ([.ref a0, .int a1] : List Value).toArray 2)
  rw [lg_entry_eq]
  generalize (lg_sl ([.ref a0, .int a1]) ++ List.replicate (2 - (lg_sl ([.ref a0, .int a1])).length) Slot.unset).toArray = ls at hl ⊢
  have hl : lv_has ls 2 [(0, .ref a0), (1, .int a1)] := hl
  refine lv_iload_n hx hb dX11_fault_0 rfl (lv_at hl 1 rfl) (hp_n (n := 1) rfl ?_)
  refine lv_if_ne (tgt := 12) hx hb dX11_fault_1 (by decide) (fun c_1 => ?_) (fun c_1 => hp_n (n := 4) rfl ?_)
  ·
    have jc_1 := il_ne c_1
    refine lv_iload_n hx hb dX11_fault_12 rfl (lv_at hl 1 rfl) (hp_n (n := 13) rfl ?_)
    refine lv_iconst (v := 1) hx hb dX11_fault_13 (by decide) (hp_n (n := 14) rfl ?_)
    refine lv_icmp_ne (tgt := 27) hx hb dX11_fault_14 (by decide) (fun c_2 => ?_) (fun c_2 => hp_n (n := 17) rfl ?_)
    ·
      have jc_2 := il_ne c_2
      refine lv_iconst (v := (-1)) hx hb dX11_fault_27 (by decide) (hp_n (n := 28) rfl ?_)
      exact q_iret C B hr hlk rfl dX11_fault_28
    ·
      have jc_2 := il_eq c_2
      refine lv_aload_n hx hb dX11_fault_17 rfl (lv_at hl 0 rfl) (hp_n (n := 18) rfl ?_)
      refine q_getr (κ := 12) (k := 16) (φ := 616) (pc' := 21) C B (cw_k B.2.2 k0) fl_X11_82 rfl rfl rfl (cw_r B.2.2 k0 rfl rfl (by decide) (by decide)) dX11_fault_18 rfl (fun b_3 eb_3 kb_3 => ?_)
      refine q_geti (κ := 4) (k := 5) (φ := 205) (pc' := 24) C B (cw_k B.2.2 kb_3) fl_X11_141 rfl rfl rfl dX11_fault_21 rfl (fun x_4 ex_4 => ?_)
      refine lv_goto (tgt := 28) hx hb dX11_fault_24 (by decide) ?_
      exact q_iret C B hr hlk rfl dX11_fault_28
  ·
    have jc_1 := il_eq c_1
    refine lv_aload_n hx hb dX11_fault_4 rfl (lv_at hl 0 rfl) (hp_n (n := 5) rfl ?_)
    refine q_getr (κ := 12) (k := 16) (φ := 616) (pc' := 8) C B (cw_k B.2.2 k0) fl_X11_82 rfl rfl rfl (cw_r B.2.2 k0 rfl rfl (by decide) (by decide)) dX11_fault_5 rfl (fun b_5 eb_5 kb_5 => ?_)
    refine q_geti (κ := 4) (k := 4) (φ := 204) (pc' := 11) C B (cw_k B.2.2 kb_5) fl_X11_138 rfl rfl rfl dX11_fault_8 rfl (fun x_6 ex_6 => ?_)
    exact q_iret C B hr hlk rfl dX11_fault_11
abbrev w_X11_type : cw_W := ([501], [606, 607], [27], [])
abbrev w_X11_many : cw_W := ([600], [], [], [])
set_option maxRecDepth 100000 in
set_option maxHeartbeats 4000000 in
theorem t_X11_many (Γ : hp_G) (l : Launch) (α : hp_T) (g : GC α) (a0 : Nat) (k0 : hp_K α a0 = 12) (a1 : Int32) : Met l yX11_many (hp_ws yX11_many cX11_many 2 (some .int)) (hp_rm 2 0 0) (hp_Pc Γ α [.ref a0, .int a1]) (hp_Qi Γ (fun r β => cw w_X11_many α β)) 0 0 (hp_A Γ) := by
  refine hp_start (by decide) ?_
  intro p e s m below meth c C hr hlk B0 hnm
  have C : hp_C Γ p m c cX11_many 2 s ([.ref a0, .int a1] : List Value).toArray RX11 := C
  have hx := C.1.1
  have hb := C.1.2.1
  have hown := C.1.2.2.2.1
  have hts := C.1.2.2.2.2
  have B : hp_B Γ (cw w_X11_many) s α α s.heap [] := ⟨B0.1, B0.2.1, cw_rf g⟩
  have lit0 : (0 : Int32).toInt = 0 := by decide
  have lit1 : (1 : Int32).toInt = 1 := by decide
  have lit2 : (2 : Int32).toInt = 2 := by decide
  have lit3 : (3 : Int32).toInt = 3 := by decide
  have lit4 : (4 : Int32).toInt = 4 := by decide
  have lit5 : (5 : Int32).toInt = 5 := by decide
  have hl := lv_entry ([.ref a0, .int a1]) (n := 2) (Nat.le_of_ble_eq_true rfl)
  show W p l e (hp_rm 2 0 0) s m ([.ref a0, .int a1] : List Value).toArray below meth c s.heap [] 0 0 (MQ below (hp_Qi Γ (fun r β => cw w_X11_many α β)) ([.ref a0, .int a1] : List Value).toArray s 0 0 (hp_A Γ)) (entryFrame m ([.ref a0, .int a1] : List Value).toArray 2)
  rw [lg_entry_eq]
  generalize (lg_sl ([.ref a0, .int a1]) ++ List.replicate (2 - (lg_sl ([.ref a0, .int a1])).length) Slot.unset).toArray = ls at hl ⊢
  have hl : lv_has ls 2 [(0, .ref a0), (1, .int a1)] := hl
  refine lv_iload_n hx hb dX11_many_0 rfl (lv_at hl 1 rfl) (hp_n (n := 1) rfl ?_)
  by_cases c_1 : a1 = 0
  · have jc_1 := il_eq c_1
    refine lv_tableIn (off := 39) (tgt := 40) hx hb dX11_many_1 (by omega) (by omega) (by rw [jc_1, lit0]; rfl) (by decide) ?_
    refine lv_aload_n hx hb dX11_many_40 rfl (lv_at hl 0 rfl) (hp_n (n := 41) rfl ?_)
    refine lv_aload_n hx hb dX11_many_41 rfl (lv_at hl 0 rfl) (hp_n (n := 42) rfl ?_)
    refine q_getr (κ := 12) (k := 1) (φ := 601) (pc' := 45) C B (cw_k B.2.2 k0) fl_X11_16 rfl rfl rfl (cw_r B.2.2 k0 rfl rfl (by decide) (by decide)) dX11_many_42 rfl (fun b_2 eb_2 kb_2 => ?_)
    refine q_geti (κ := 11) (k := 2) (φ := 552) (pc' := 48) C B (cw_k B.2.2 kb_2) fl_X11_112 rfl rfl rfl dX11_many_45 rfl (fun x_3 ex_3 => ?_)
    refine q_ci (pc' := 51) B (hp_runV (As := [.int x_3]) (rest := []) C B (t_X11_answer Γ l α B.2.2.1 a0 (cw_k B.2.2 k0) x_3) lb_X11_answer lv_X11_answer lk_X11_115 (cw_k B.2.2 k0) rfl (by decide) rfl hl.1 rfl (Nat.le_of_ble_eq_true rfl) dX11_many_48 ⟨Nat.le_refl _, Nat.le_refl _⟩) (fun _ _ h => cw_tr B.2.2 h (by decide)) rfl (fun rh_4 αh_4 Hh_4 Lh_4 ph_4 Bh_4 => ?_)
    exact q_iret C Bh_4 hr hlk Bh_4.2.2 dX11_many_51
  have jc_1 := il_ne c_1
  by_cases c_5 : a1 = 1
  · have jc_5 := il_eq c_5
    refine lv_tableIn (off := 51) (tgt := 52) hx hb dX11_many_1 (by omega) (by omega) (by rw [jc_5, lit1]; rfl) (by decide) ?_
    refine lv_aload_n hx hb dX11_many_52 rfl (lv_at hl 0 rfl) (hp_n (n := 53) rfl ?_)
    refine lv_aload_n hx hb dX11_many_53 rfl (lv_at hl 0 rfl) (hp_n (n := 54) rfl ?_)
    refine q_getr (κ := 12) (k := 1) (φ := 601) (pc' := 57) C B (cw_k B.2.2 k0) fl_X11_16 rfl rfl rfl (cw_r B.2.2 k0 rfl rfl (by decide) (by decide)) dX11_many_54 rfl (fun b_6 eb_6 kb_6 => ?_)
    refine q_geti (κ := 11) (k := 0) (φ := 550) (pc' := 60) C B (cw_k B.2.2 kb_6) fl_X11_122 rfl rfl rfl dX11_many_57 rfl (fun x_7 ex_7 => ?_)
    refine q_ci (pc' := 63) B (hp_runV (As := [.int x_7]) (rest := []) C B (t_X11_answer Γ l α B.2.2.1 a0 (cw_k B.2.2 k0) x_7) lb_X11_answer lv_X11_answer lk_X11_115 (cw_k B.2.2 k0) rfl (by decide) rfl hl.1 rfl (Nat.le_of_ble_eq_true rfl) dX11_many_60 ⟨Nat.le_refl _, Nat.le_refl _⟩) (fun _ _ h => cw_tr B.2.2 h (by decide)) rfl (fun rh_8 αh_8 Hh_8 Lh_8 ph_8 Bh_8 => ?_)
    exact q_iret C Bh_8 hr hlk Bh_8.2.2 dX11_many_63
  have jc_5 := il_ne c_5
  by_cases c_9 : a1 = 2
  · have jc_9 := il_eq c_9
    refine lv_tableIn (off := 63) (tgt := 64) hx hb dX11_many_1 (by omega) (by omega) (by rw [jc_9, lit2]; rfl) (by decide) ?_
    refine lv_aload_n hx hb dX11_many_64 rfl (lv_at hl 0 rfl) (hp_n (n := 65) rfl ?_)
    refine lv_aload_n hx hb dX11_many_65 rfl (lv_at hl 0 rfl) (hp_n (n := 66) rfl ?_)
    refine q_getr (κ := 12) (k := 3) (φ := 603) (pc' := 69) C B (cw_k B.2.2 k0) fl_X11_26 rfl rfl rfl (cw_r B.2.2 k0 rfl rfl (by decide) (by decide)) dX11_many_66 rfl (fun b_10 eb_10 kb_10 => ?_)
    refine q_geti (κ := 6) (k := 1) (φ := 301) (pc' := 72) C B (cw_k B.2.2 kb_10) fl_X11_132 rfl rfl rfl dX11_many_69 rfl (fun x_11 ex_11 => ?_)
    refine q_ci (pc' := 75) B (hp_runV (As := [.int x_11]) (rest := []) C B (t_X11_answer Γ l α B.2.2.1 a0 (cw_k B.2.2 k0) x_11) lb_X11_answer lv_X11_answer lk_X11_115 (cw_k B.2.2 k0) rfl (by decide) rfl hl.1 rfl (Nat.le_of_ble_eq_true rfl) dX11_many_72 ⟨Nat.le_refl _, Nat.le_refl _⟩) (fun _ _ h => cw_tr B.2.2 h (by decide)) rfl (fun rh_12 αh_12 Hh_12 Lh_12 ph_12 Bh_12 => ?_)
    exact q_iret C Bh_12 hr hlk Bh_12.2.2 dX11_many_75
  have jc_9 := il_ne c_9
  by_cases c_13 : a1 = 3
  · have jc_13 := il_eq c_13
    refine lv_tableIn (off := 75) (tgt := 76) hx hb dX11_many_1 (by omega) (by omega) (by rw [jc_13, lit3]; rfl) (by decide) ?_
    refine lv_aload_n hx hb dX11_many_76 rfl (lv_at hl 0 rfl) (hp_n (n := 77) rfl ?_)
    refine lv_aload_n hx hb dX11_many_77 rfl (lv_at hl 0 rfl) (hp_n (n := 78) rfl ?_)
    refine q_getr (κ := 12) (k := 1) (φ := 601) (pc' := 81) C B (cw_k B.2.2 k0) fl_X11_16 rfl rfl rfl (cw_r B.2.2 k0 rfl rfl (by decide) (by decide)) dX11_many_78 rfl (fun b_14 eb_14 kb_14 => ?_)
    refine q_geti (κ := 11) (k := 4) (φ := 554) (pc' := 84) C B (cw_k B.2.2 kb_14) fl_X11_153 rfl rfl rfl dX11_many_81 rfl (fun x_15 ex_15 => ?_)
    refine q_ci (pc' := 87) B (hp_runV (As := [.int x_15]) (rest := []) C B (t_X11_answer Γ l α B.2.2.1 a0 (cw_k B.2.2 k0) x_15) lb_X11_answer lv_X11_answer lk_X11_115 (cw_k B.2.2 k0) rfl (by decide) rfl hl.1 rfl (Nat.le_of_ble_eq_true rfl) dX11_many_84 ⟨Nat.le_refl _, Nat.le_refl _⟩) (fun _ _ h => cw_tr B.2.2 h (by decide)) rfl (fun rh_16 αh_16 Hh_16 Lh_16 ph_16 Bh_16 => ?_)
    exact q_iret C Bh_16 hr hlk Bh_16.2.2 dX11_many_87
  have jc_13 := il_ne c_13
  by_cases c_17 : a1 = 4
  · have jc_17 := il_eq c_17
    refine lv_tableIn (off := 87) (tgt := 88) hx hb dX11_many_1 (by omega) (by omega) (by rw [jc_17, lit4]; rfl) (by decide) ?_
    refine lv_aload_n hx hb dX11_many_88 rfl (lv_at hl 0 rfl) (hp_n (n := 89) rfl ?_)
    refine lv_aload_n hx hb dX11_many_89 rfl (lv_at hl 0 rfl) (hp_n (n := 90) rfl ?_)
    refine q_getr (κ := 12) (k := 1) (φ := 601) (pc' := 93) C B (cw_k B.2.2 k0) fl_X11_16 rfl rfl rfl (cw_r B.2.2 k0 rfl rfl (by decide) (by decide)) dX11_many_90 rfl (fun b_18 eb_18 kb_18 => ?_)
    refine q_geti (κ := 11) (k := 6) (φ := 556) (pc' := 96) C B (cw_k B.2.2 kb_18) fl_X11_156 rfl rfl rfl dX11_many_93 rfl (fun x_19 ex_19 => ?_)
    refine q_ci (pc' := 99) B (hp_runV (As := [.int x_19]) (rest := []) C B (t_X11_answer Γ l α B.2.2.1 a0 (cw_k B.2.2 k0) x_19) lb_X11_answer lv_X11_answer lk_X11_115 (cw_k B.2.2 k0) rfl (by decide) rfl hl.1 rfl (Nat.le_of_ble_eq_true rfl) dX11_many_96 ⟨Nat.le_refl _, Nat.le_refl _⟩) (fun _ _ h => cw_tr B.2.2 h (by decide)) rfl (fun rh_20 αh_20 Hh_20 Lh_20 ph_20 Bh_20 => ?_)
    exact q_iret C Bh_20 hr hlk Bh_20.2.2 dX11_many_99
  have jc_17 := il_ne c_17
  by_cases c_21 : a1 = 5
  · have jc_21 := il_eq c_21
    refine lv_tableIn (off := 99) (tgt := 100) hx hb dX11_many_1 (by omega) (by omega) (by rw [jc_21, lit5]; rfl) (by decide) ?_
    refine lv_aload_n hx hb dX11_many_100 rfl (lv_at hl 0 rfl) (hp_n (n := 101) rfl ?_)
    refine lv_aload_n hx hb dX11_many_101 rfl (lv_at hl 0 rfl) (hp_n (n := 102) rfl ?_)
    refine q_getr (κ := 12) (k := 1) (φ := 601) (pc' := 105) C B (cw_k B.2.2 k0) fl_X11_16 rfl rfl rfl (cw_r B.2.2 k0 rfl rfl (by decide) (by decide)) dX11_many_102 rfl (fun b_22 eb_22 kb_22 => ?_)
    refine q_ci (pc' := 108) B (hp_runV (As := []) (rest := [.ref a0]) C B (t_X10_alarmedBits Γ l α B.2.2.1 b_22 (cw_k B.2.2 kb_22)) lb_X10_alarmedBits lv_X10_alarmedBits lk_X11_159 (cw_k B.2.2 kb_22) rfl (by decide) rfl hl.1 rfl (Nat.le_of_ble_eq_true rfl) dX11_many_105 ⟨Nat.le_refl _, Nat.le_refl _⟩) (fun _ _ h => by rw [h]; exact B.2.2) rfl (fun rh_23 αh_23 Hh_23 Lh_23 ph_23 Bh_23 => ?_)
    rw [ph_23] at Bh_23
    refine q_ci (pc' := 111) Bh_23 (hp_runV (As := [.int rh_23]) (rest := []) C Bh_23 (t_X11_answer Γ l α Bh_23.2.2.1 a0 (cw_k Bh_23.2.2 k0) rh_23) lb_X11_answer lv_X11_answer lk_X11_115 (cw_k Bh_23.2.2 k0) rfl (by decide) rfl hl.1 rfl (Nat.le_of_ble_eq_true rfl) dX11_many_108 ⟨Nat.le_refl _, Nat.le_refl _⟩) (fun _ _ h => cw_tr Bh_23.2.2 h (by decide)) rfl (fun rh_24 αh_24 Hh_24 Lh_24 ph_24 Bh_24 => ?_)
    exact q_iret C Bh_24 hr hlk Bh_24.2.2 dX11_many_111
  have jc_21 := il_ne c_21
  refine lv_tableOut (tgt := 112) hx hb dX11_many_1 (by omega) (by decide) ?_
  refine lv_aload_n hx hb dX11_many_112 rfl (lv_at hl 0 rfl) (hp_n (n := 113) rfl ?_)
  refine lv_iconst (v := 1) hx hb dX11_many_113 (by decide) (hp_n (n := 114) rfl ?_)
  refine q_ci (pc' := 117) B (hp_runV (As := [.int 1]) (rest := []) C B (t_X11_refuse Γ l α B.2.2.1 a0 (cw_k B.2.2 k0) 1) lb_X11_refuse lv_X11_refuse lk_X11_98 (cw_k B.2.2 k0) rfl (by decide) rfl hl.1 rfl (Nat.le_of_ble_eq_true rfl) dX11_many_114 ⟨Nat.le_refl _, Nat.le_refl _⟩) (fun _ _ h => cw_tr B.2.2 h (by decide)) rfl (fun rh_25 αh_25 Hh_25 Lh_25 ph_25 Bh_25 => ?_)
  exact q_iret C Bh_25 hr hlk Bh_25.2.2 dX11_many_117
abbrev w_X11_size : cw_W := ([600], [], [], [])
set_option maxRecDepth 100000 in
set_option maxHeartbeats 4000000 in
theorem t_X11_size (Γ : hp_G) (l : Launch) (α : hp_T) (g : GC α) (a0 : Nat) (k0 : hp_K α a0 = 12) (a1 : Int32) : Met l yX11_size (hp_ws yX11_size cX11_size 3 (some .int)) (hp_rm 1 0 0) (hp_Pc Γ α [.ref a0, .int a1]) (hp_Qi Γ (fun r β => cw w_X11_size α β)) 0 0 (hp_A Γ) := by
  refine hp_start (by decide) ?_
  intro p e s m below meth c C hr hlk B0 hnm
  have C : hp_C Γ p m c cX11_size 3 s ([.ref a0, .int a1] : List Value).toArray RX11 := C
  have hx := C.1.1
  have hb := C.1.2.1
  have hown := C.1.2.2.2.1
  have hts := C.1.2.2.2.2
  have B : hp_B Γ (cw w_X11_size) s α α s.heap [] := ⟨B0.1, B0.2.1, cw_rf g⟩
  have lit2 : (2 : Int32).toInt = 2 := by decide
  have hl := lv_entry ([.ref a0, .int a1]) (n := 3) (Nat.le_of_ble_eq_true rfl)
  show W p l e (hp_rm 1 0 0) s m ([.ref a0, .int a1] : List Value).toArray below meth c s.heap [] 0 0 (MQ below (hp_Qi Γ (fun r β => cw w_X11_size α β)) ([.ref a0, .int a1] : List Value).toArray s 0 0 (hp_A Γ)) (entryFrame m ([.ref a0, .int a1] : List Value).toArray 3)
  rw [lg_entry_eq]
  generalize (lg_sl ([.ref a0, .int a1]) ++ List.replicate (3 - (lg_sl ([.ref a0, .int a1])).length) Slot.unset).toArray = ls at hl ⊢
  have hl : lv_has ls 3 [(0, .ref a0), (1, .int a1)] := hl
  refine lv_aload_n hx hb dX11_size_0 rfl (lv_at hl 0 rfl) (hp_n (n := 1) rfl ?_)
  refine q_getr (κ := 12) (k := 1) (φ := 601) (pc' := 4) C B (cw_k B.2.2 k0) fl_X11_16 rfl rfl rfl (cw_r B.2.2 k0 rfl rfl (by decide) (by decide)) dX11_size_1 rfl (fun b_1 eb_1 kb_1 => ?_)
  refine lv_iload_n hx hb dX11_size_4 rfl (lv_at hl 1 rfl) (hp_n (n := 5) rfl ?_)
  refine q_cq (pc' := 8) B (hp_runV (As := [.int a1]) (rest := []) C B (t_X10_logAt Γ l α B.2.2.1 b_1 (cw_k B.2.2 kb_1) a1) lb_X10_logAt lv_X10_logAt lk_X11_163 (cw_k B.2.2 kb_1) rfl (by decide) rfl hl.1 rfl (Nat.le_of_ble_eq_true rfl) dX11_size_5 ⟨Nat.le_refl _, Nat.le_refl _⟩) (fun _ _ h => by rw [h.1]; exact B.2.2) rfl (fun rh_2 αh_2 Hh_2 Lh_2 ph_2 Bh_2 => ?_)
  rw [ph_2.1] at Bh_2
  rcases rh_2 with _ | bh_2
  ·
    refine lv_astore_nN (lv' := [(2, .null), (0, .ref a0), (1, .int a1)]) hx hb dX11_size_8 rfl hl (by decide) rfl (fun ls hl => hp_n (n := 9) rfl ?_)
    refine lv_aload_nN hx hb dX11_size_9 rfl (lv_at hl 0 rfl) (hp_n (n := 10) rfl ?_)
    refine lv_ifnonnullN hx hb dX11_size_10 (hp_n (n := 13) rfl ?_)
    refine lv_aload_n hx hb dX11_size_13 rfl (lv_at hl 1 rfl) (hp_n (n := 14) rfl ?_)
    refine lv_iconst (v := 2) hx hb dX11_size_14 (by decide) (hp_n (n := 15) rfl ?_)
    refine q_ci (pc' := 18) Bh_2 (hp_runV (As := [.int 2]) (rest := []) C Bh_2 (t_X11_refuse Γ l α Bh_2.2.2.1 a0 (cw_k Bh_2.2.2 k0) 2) lb_X11_refuse lv_X11_refuse lk_X11_98 (cw_k Bh_2.2.2 k0) rfl (by decide) rfl hl.1 rfl (Nat.le_of_ble_eq_true rfl) dX11_size_15 ⟨Nat.le_refl _, Nat.le_refl _⟩) (fun _ _ h => cw_tr Bh_2.2.2 h (by decide)) rfl (fun rh_3 αh_3 Hh_3 Lh_3 ph_3 Bh_3 => ?_)
    refine lv_goto (tgt := 29) hx hb dX11_size_18 (by decide) ?_
    exact q_iret C Bh_3 hr hlk Bh_3.2.2 dX11_size_29
  ·
    have kbh_2 : hp_K α bh_2 = 3 := cw_k' Bh_2.2.2 (ph_2.2 bh_2 rfl)
    refine lv_astore_n (lv' := [(2, .ref bh_2), (0, .ref a0), (1, .int a1)]) hx hb dX11_size_8 rfl hl (by decide) rfl (fun ls hl => hp_n (n := 9) rfl ?_)
    refine lv_aload_n hx hb dX11_size_9 rfl (lv_at hl 0 rfl) (hp_n (n := 10) rfl ?_)
    refine lv_ifnonnull (tgt := 21) hx hb dX11_size_10 (by decide) ?_
    refine lv_aload_n hx hb dX11_size_21 rfl (lv_at hl 1 rfl) (hp_n (n := 22) rfl ?_)
    refine lv_aload_n hx hb dX11_size_22 rfl (lv_at hl 0 rfl) (hp_n (n := 23) rfl ?_)
    refine q_geti (κ := 3) (k := 2) (φ := 152) (pc' := 26) C Bh_2 (cw_k Bh_2.2.2 kbh_2) fl_X11_167 rfl rfl rfl dX11_size_23 rfl (fun x_4 ex_4 => ?_)
    refine q_ci (pc' := 29) Bh_2 (hp_runV (As := [.int x_4]) (rest := []) C Bh_2 (t_X11_answer Γ l α Bh_2.2.2.1 a0 (cw_k Bh_2.2.2 k0) x_4) lb_X11_answer lv_X11_answer lk_X11_115 (cw_k Bh_2.2.2 k0) rfl (by decide) rfl hl.1 rfl (Nat.le_of_ble_eq_true rfl) dX11_size_26 ⟨Nat.le_refl _, Nat.le_refl _⟩) (fun _ _ h => cw_tr Bh_2.2.2 h (by decide)) rfl (fun rh_5 αh_5 Hh_5 Lh_5 ph_5 Bh_5 => ?_)
    exact q_iret C Bh_5 hr hlk Bh_5.2.2 dX11_size_29
abbrev w_X11_entry : cw_W := ([600], [], [], [])
set_option maxRecDepth 100000 in
set_option maxHeartbeats 4000000 in
theorem t_X11_entry (Γ : hp_G) (l : Launch) (α : hp_T) (g : GC α) (a0 : Nat) (k0 : hp_K α a0 = 12) (a1 : Int32) (a2 : Int32) (a3 : Int32) : Met l yX11_entry (hp_ws yX11_entry cX11_entry 6 (some .int)) (hp_rm 1 0 0) (hp_Pc Γ α [.ref a0, .int a1, .int a2, .int a3]) (hp_Qi Γ (fun r β => cw w_X11_entry α β)) 0 0 (hp_A Γ) := by
  refine hp_start (by decide) ?_
  intro p e s m below meth c C hr hlk B0 hnm
  have C : hp_C Γ p m c cX11_entry 6 s ([.ref a0, .int a1, .int a2, .int a3] : List Value).toArray RX11 := C
  have hx := C.1.1
  have hb := C.1.2.1
  have hown := C.1.2.2.2.1
  have hts := C.1.2.2.2.2
  have B : hp_B Γ (cw w_X11_entry) s α α s.heap [] := ⟨B0.1, B0.2.1, cw_rf g⟩
  have lit0 : (0 : Int32).toInt = 0 := by decide
  have lit1 : (1 : Int32).toInt = 1 := by decide
  have lit2 : (2 : Int32).toInt = 2 := by decide
  have lit5 : (5 : Int32).toInt = 5 := by decide
  have hl := lv_entry ([.ref a0, .int a1, .int a2, .int a3]) (n := 6) (Nat.le_of_ble_eq_true rfl)
  show W p l e (hp_rm 1 0 0) s m ([.ref a0, .int a1, .int a2, .int a3] : List Value).toArray below meth c s.heap [] 0 0 (MQ below (hp_Qi Γ (fun r β => cw w_X11_entry α β)) ([.ref a0, .int a1, .int a2, .int a3] : List Value).toArray s 0 0 (hp_A Γ)) (entryFrame m ([.ref a0, .int a1, .int a2, .int a3] : List Value).toArray 6)
  rw [lg_entry_eq]
  generalize (lg_sl ([.ref a0, .int a1, .int a2, .int a3]) ++ List.replicate (6 - (lg_sl ([.ref a0, .int a1, .int a2, .int a3])).length) Slot.unset).toArray = ls at hl ⊢
  have hl : lv_has ls 6 [(0, .ref a0), (1, .int a1), (2, .int a2), (3, .int a3)] := hl
  refine lv_iload_n hx hb dX11_entry_0 rfl (lv_at hl 2 rfl) (hp_n (n := 1) rfl ?_)
  have J8 : ∀ (Hh_1 : Heap) (Lh_1 : List Loc) (Bh_1 : hp_B Γ (cw w_X11_entry) s α α Hh_1 Lh_1) (ls : Array Slot) (hl : lv_has ls 6 [(0, .ref a0)]), W p l e (hp_rm 1 0 0) s m ([.ref a0, .int a1, .int a2, .int a3] : List Value).toArray below meth c Hh_1 Lh_1 0 0 (MQ below (hp_Qi Γ (fun r β => cw w_X11_entry α β)) ([.ref a0, .int a1, .int a2, .int a3] : List Value).toArray s 0 0 (hp_A Γ)) (F0 m 8 ls []) := by
    intro Hh_1 Lh_1 Bh_1 ls hl
    refine lv_aload_n hx hb dX11_entry_8 rfl (lv_at hl 0 rfl) (hp_n (n := 9) rfl ?_)
    refine lv_iconst (v := 1) hx hb dX11_entry_9 (by decide) (hp_n (n := 10) rfl ?_)
    refine q_ci (pc' := 13) Bh_1 (hp_runV (As := [.int 1]) (rest := []) C Bh_1 (t_X11_refuse Γ l α Bh_1.2.2.1 a0 (cw_k Bh_1.2.2 k0) 1) lb_X11_refuse lv_X11_refuse lk_X11_98 (cw_k Bh_1.2.2 k0) rfl (by decide) rfl hl.1 rfl (Nat.le_of_ble_eq_true rfl) dX11_entry_10 ⟨Nat.le_refl _, Nat.le_refl _⟩) (fun _ _ h => cw_tr Bh_1.2.2 h (by decide)) rfl (fun rh_2 αh_2 Hh_2 Lh_2 ph_2 Bh_2 => ?_)
    exact q_iret C Bh_2 hr hlk Bh_2.2.2 dX11_entry_13
  refine lv_if_lt (tgt := 8) hx hb dX11_entry_1 (by decide) (fun c_3 => ?_) (fun c_3 => hp_n (n := 4) rfl ?_)
  ·
    have jc_3 := il_lt c_3
    exact J8 s.heap [] B ls (lv_sub hl [0] rfl)
  ·
    have jc_3 := il_nlt c_3
    refine lv_iload_n hx hb dX11_entry_4 rfl (lv_at hl 3 rfl) (hp_n (n := 5) rfl ?_)
    refine lv_if_ge (tgt := 14) hx hb dX11_entry_5 (by decide) (fun c_4 => ?_) (fun c_4 => hp_n (n := 8) rfl ?_)
    ·
      have jc_4 := il_le c_4
      refine lv_aload_n hx hb dX11_entry_14 rfl (lv_at hl 0 rfl) (hp_n (n := 15) rfl ?_)
      refine q_getr (κ := 12) (k := 1) (φ := 601) (pc' := 18) C B (cw_k B.2.2 k0) fl_X11_16 rfl rfl rfl (cw_r B.2.2 k0 rfl rfl (by decide) (by decide)) dX11_entry_15 rfl (fun b_5 eb_5 kb_5 => ?_)
      refine lv_iload_n hx hb dX11_entry_18 rfl (lv_at hl 1 rfl) (hp_n (n := 19) rfl ?_)
      refine q_cq (pc' := 22) B (hp_runV (As := [.int a1]) (rest := []) C B (t_X10_logAt Γ l α B.2.2.1 b_5 (cw_k B.2.2 kb_5) a1) lb_X10_logAt lv_X10_logAt lk_X11_163 (cw_k B.2.2 kb_5) rfl (by decide) rfl hl.1 rfl (Nat.le_of_ble_eq_true rfl) dX11_entry_19 ⟨Nat.le_refl _, Nat.le_refl _⟩) (fun _ _ h => by rw [h.1]; exact B.2.2) rfl (fun rh_6 αh_6 Hh_6 Lh_6 ph_6 Bh_6 => ?_)
      rw [ph_6.1] at Bh_6
      rcases rh_6 with _ | bh_6
      ·
        refine lv_astoreN (lv' := [(4, .null), (0, .ref a0), (1, .int a1), (2, .int a2), (3, .int a3)]) hx hb dX11_entry_22 hl (by decide) rfl (fun ls hl => hp_n (n := 24) rfl ?_)
        refine lv_aloadN hx hb dX11_entry_24 (lv_at hl 0 rfl) (hp_n (n := 26) rfl ?_)
        refine lv_ifnonnullN hx hb dX11_entry_26 (hp_n (n := 29) rfl ?_)
        refine lv_aload_n hx hb dX11_entry_29 rfl (lv_at hl 1 rfl) (hp_n (n := 30) rfl ?_)
        refine lv_iconst (v := 2) hx hb dX11_entry_30 (by decide) (hp_n (n := 31) rfl ?_)
        refine q_ci (pc' := 34) Bh_6 (hp_runV (As := [.int 2]) (rest := []) C Bh_6 (t_X11_refuse Γ l α Bh_6.2.2.1 a0 (cw_k Bh_6.2.2 k0) 2) lb_X11_refuse lv_X11_refuse lk_X11_98 (cw_k Bh_6.2.2 k0) rfl (by decide) rfl hl.1 rfl (Nat.le_of_ble_eq_true rfl) dX11_entry_31 ⟨Nat.le_refl _, Nat.le_refl _⟩) (fun _ _ h => cw_tr Bh_6.2.2 h (by decide)) rfl (fun rh_7 αh_7 Hh_7 Lh_7 ph_7 Bh_7 => ?_)
        exact q_iret C Bh_7 hr hlk Bh_7.2.2 dX11_entry_34
      ·
        have kbh_6 : hp_K α bh_6 = 3 := cw_k' Bh_6.2.2 (ph_6.2 bh_6 rfl)
        refine lv_astore (lv' := [(4, .ref bh_6), (0, .ref a0), (1, .int a1), (2, .int a2), (3, .int a3)]) hx hb dX11_entry_22 hl (by decide) rfl (fun ls hl => hp_n (n := 24) rfl ?_)
        refine lv_aload hx hb dX11_entry_24 (lv_at hl 0 rfl) (hp_n (n := 26) rfl ?_)
        refine lv_ifnonnull (tgt := 35) hx hb dX11_entry_26 (by decide) ?_
        refine lv_aload hx hb dX11_entry_35 (lv_at hl 0 rfl) (hp_n (n := 37) rfl ?_)
        refine lv_iload_n hx hb dX11_entry_37 rfl (lv_at hl 3 rfl) (hp_n (n := 38) rfl ?_)
        refine q_cq (pc' := 41) Bh_6 (hp_runV (As := [.int a2]) (rest := []) C Bh_6 (t_X2_wordAt Γ l α Bh_6.2.2.1 bh_6 (cw_k Bh_6.2.2 kbh_6) a2) lb_X2_wordAt lv_X2_wordAt lk_X11_170 (cw_k Bh_6.2.2 kbh_6) rfl (by decide) rfl hl.1 rfl (Nat.le_of_ble_eq_true rfl) dX11_entry_38 ⟨Nat.le_refl _, Nat.le_refl _⟩) (fun _ _ h => by rw [h.1]; exact Bh_6.2.2) rfl (fun rh_8 αh_8 Hh_8 Lh_8 ph_8 Bh_8 => ?_)
        rw [ph_8.1] at Bh_8
        rcases rh_8 with _ | bh_8
        ·
          refine lv_astoreN (lv' := [(5, .null), (4, .ref bh_6), (0, .ref a0), (1, .int a1), (2, .int a2), (3, .int a3)]) hx hb dX11_entry_41 hl (by decide) rfl (fun ls hl => hp_n (n := 43) rfl ?_)
          refine lv_aloadN hx hb dX11_entry_43 (lv_at hl 0 rfl) (hp_n (n := 45) rfl ?_)
          refine lv_ifnonnullN hx hb dX11_entry_45 (hp_n (n := 48) rfl ?_)
          refine lv_aload_n hx hb dX11_entry_48 rfl (lv_at hl 2 rfl) (hp_n (n := 49) rfl ?_)
          refine lv_iconst (v := 5) hx hb dX11_entry_49 (by decide) (hp_n (n := 50) rfl ?_)
          refine q_ci (pc' := 53) Bh_8 (hp_runV (As := [.int 5]) (rest := []) C Bh_8 (t_X11_refuse Γ l α Bh_8.2.2.1 a0 (cw_k Bh_8.2.2 k0) 5) lb_X11_refuse lv_X11_refuse lk_X11_98 (cw_k Bh_8.2.2 k0) rfl (by decide) rfl hl.1 rfl (Nat.le_of_ble_eq_true rfl) dX11_entry_50 ⟨Nat.le_refl _, Nat.le_refl _⟩) (fun _ _ h => cw_tr Bh_8.2.2 h (by decide)) rfl (fun rh_9 αh_9 Hh_9 Lh_9 ph_9 Bh_9 => ?_)
          exact q_iret C Bh_9 hr hlk Bh_9.2.2 dX11_entry_53
        ·
          have kbh_8 : hp_K α bh_8 = 10 := cw_k' Bh_8.2.2 (ph_8.2 bh_8 rfl).1
          have nxh_8 := (ph_8.2 bh_8 rfl).2
          refine lv_astore (lv' := [(5, .ref bh_8), (4, .ref bh_6), (0, .ref a0), (1, .int a1), (2, .int a2), (3, .int a3)]) hx hb dX11_entry_41 hl (by decide) rfl (fun ls hl => hp_n (n := 43) rfl ?_)
          refine lv_aload hx hb dX11_entry_43 (lv_at hl 0 rfl) (hp_n (n := 45) rfl ?_)
          refine lv_ifnonnull (tgt := 54) hx hb dX11_entry_45 (by decide) ?_
          refine lv_iload_n hx hb dX11_entry_54 rfl (lv_at hl 5 rfl) (hp_n (n := 55) rfl ?_)
          refine lv_if_ne (tgt := 68) hx hb dX11_entry_55 (by decide) (fun c_10 => ?_) (fun c_10 => hp_n (n := 58) rfl ?_)
          ·
            have jc_10 := il_ne c_10
            refine lv_iload_n hx hb dX11_entry_68 rfl (lv_at hl 5 rfl) (hp_n (n := 69) rfl ?_)
            refine lv_iconst (v := 1) hx hb dX11_entry_69 (by decide) (hp_n (n := 70) rfl ?_)
            refine lv_icmp_ne (tgt := 84) hx hb dX11_entry_70 (by decide) (fun c_11 => ?_) (fun c_11 => hp_n (n := 73) rfl ?_)
            ·
              have jc_11 := il_ne c_11
              refine lv_iload_n hx hb dX11_entry_84 rfl (lv_at hl 5 rfl) (hp_n (n := 85) rfl ?_)
              refine lv_iconst (v := 2) hx hb dX11_entry_85 (by decide) (hp_n (n := 86) rfl ?_)
              refine lv_isub hx hb dX11_entry_86 (hp_n (n := 87) rfl (lv_topi (fun x_12 ex_12 => ?_)))
              refine lv_aload hx hb dX11_entry_87 (lv_at hl 0 rfl) (hp_n (n := 89) rfl ?_)
              refine q_geti (κ := 10) (k := 1) (φ := 501) (pc' := 92) C Bh_8 (cw_k Bh_8.2.2 kbh_8) fl_X11_150 rfl rfl rfl dX11_entry_89 rfl (fun x_13 ex_13 => ?_)
              refine lv_icmp_ge (tgt := 110) hx hb dX11_entry_92 (by decide) (fun c_14 => ?_) (fun c_14 => hp_n (n := 95) rfl ?_)
              ·
                have jc_14 := il_le c_14
                refine lv_aload_n hx hb dX11_entry_110 rfl (lv_at hl 2 rfl) (hp_n (n := 111) rfl ?_)
                refine lv_iconst (v := 5) hx hb dX11_entry_111 (by decide) (hp_n (n := 112) rfl ?_)
                refine q_ci (pc' := 115) Bh_8 (hp_runV (As := [.int 5]) (rest := []) C Bh_8 (t_X11_refuse Γ l α Bh_8.2.2.1 a0 (cw_k Bh_8.2.2 k0) 5) lb_X11_refuse lv_X11_refuse lk_X11_98 (cw_k Bh_8.2.2 k0) rfl (by decide) rfl hl.1 rfl (Nat.le_of_ble_eq_true rfl) dX11_entry_112 ⟨Nat.le_refl _, Nat.le_refl _⟩) (fun _ _ h => cw_tr Bh_8.2.2 h (by decide)) rfl (fun rh_15 αh_15 Hh_15 Lh_15 ph_15 Bh_15 => ?_)
                exact q_iret C Bh_15 hr hlk Bh_15.2.2 dX11_entry_115
              ·
                have jc_14 := il_nle c_14
                refine lv_aload_n hx hb dX11_entry_95 rfl (lv_at hl 2 rfl) (hp_n (n := 96) rfl ?_)
                refine lv_aload hx hb dX11_entry_96 (lv_at hl 0 rfl) (hp_n (n := 98) rfl ?_)
                refine lv_iload_n hx hb dX11_entry_98 rfl (lv_at hl 5 rfl) (hp_n (n := 99) rfl ?_)
                refine lv_iconst (v := 2) hx hb dX11_entry_99 (by decide) (hp_n (n := 100) rfl ?_)
                refine lv_isub hx hb dX11_entry_100 (hp_n (n := 101) rfl (lv_topi (fun x_16 ex_16 => ?_)))
                refine q_ci (pc' := 104) Bh_8 (hp_runV (As := [.int x_16]) (rest := [.ref a0]) C Bh_8 (t_X9_letterAt Γ l α Bh_8.2.2.1 bh_8 (cw_k Bh_8.2.2 kbh_8) x_16) lb_X9_letterAt lv_X9_letterAt lk_X11_177 (cw_k Bh_8.2.2 kbh_8) rfl (by decide) rfl hl.1 rfl (Nat.le_of_ble_eq_true rfl) dX11_entry_101 ⟨Nat.le_refl _, Nat.le_refl _⟩) (fun _ _ h => by rw [h]; exact Bh_8.2.2) rfl (fun rh_17 αh_17 Hh_17 Lh_17 ph_17 Bh_17 => ?_)
                rw [ph_17] at Bh_17
                refine q_ci (pc' := 107) Bh_17 (hp_runV (As := [.int rh_17]) (rest := []) C Bh_17 (t_X11_answer Γ l α Bh_17.2.2.1 a0 (cw_k Bh_17.2.2 k0) rh_17) lb_X11_answer lv_X11_answer lk_X11_115 (cw_k Bh_17.2.2 k0) rfl (by decide) rfl hl.1 rfl (Nat.le_of_ble_eq_true rfl) dX11_entry_104 ⟨Nat.le_refl _, Nat.le_refl _⟩) (fun _ _ h => cw_tr Bh_17.2.2 h (by decide)) rfl (fun rh_18 αh_18 Hh_18 Lh_18 ph_18 Bh_18 => ?_)
                refine lv_goto (tgt := 115) hx hb dX11_entry_107 (by decide) ?_
                exact q_iret C Bh_18 hr hlk Bh_18.2.2 dX11_entry_115
            ·
              have jc_11 := il_eq c_11
              refine lv_aload_n hx hb dX11_entry_73 rfl (lv_at hl 2 rfl) (hp_n (n := 74) rfl ?_)
              refine lv_aload hx hb dX11_entry_74 (lv_at hl 1 rfl) (hp_n (n := 76) rfl ?_)
              refine lv_iload_n hx hb dX11_entry_76 rfl (lv_at hl 4 rfl) (hp_n (n := 77) rfl ?_)
              refine q_ci (pc' := 80) Bh_8 (hp_runV (As := [.int a2]) (rest := [.ref a0]) C Bh_8 (t_X2_markAt Γ l α Bh_8.2.2.1 bh_6 (cw_k Bh_8.2.2 kbh_6) a2) lb_X2_markAt lv_X2_markAt lk_X11_174 (cw_k Bh_8.2.2 kbh_6) rfl (by decide) rfl hl.1 rfl (Nat.le_of_ble_eq_true rfl) dX11_entry_77 ⟨Nat.le_refl _, Nat.le_refl _⟩) (fun _ _ h => by rw [h]; exact Bh_8.2.2) rfl (fun rh_19 αh_19 Hh_19 Lh_19 ph_19 Bh_19 => ?_)
              rw [ph_19] at Bh_19
              refine q_ci (pc' := 83) Bh_19 (hp_runV (As := [.int rh_19]) (rest := []) C Bh_19 (t_X11_answer Γ l α Bh_19.2.2.1 a0 (cw_k Bh_19.2.2 k0) rh_19) lb_X11_answer lv_X11_answer lk_X11_115 (cw_k Bh_19.2.2 k0) rfl (by decide) rfl hl.1 rfl (Nat.le_of_ble_eq_true rfl) dX11_entry_80 ⟨Nat.le_refl _, Nat.le_refl _⟩) (fun _ _ h => cw_tr Bh_19.2.2 h (by decide)) rfl (fun rh_20 αh_20 Hh_20 Lh_20 ph_20 Bh_20 => ?_)
              exact q_iret C Bh_20 hr hlk Bh_20.2.2 dX11_entry_83
          ·
            have jc_10 := il_eq c_10
            refine lv_aload_n hx hb dX11_entry_58 rfl (lv_at hl 2 rfl) (hp_n (n := 59) rfl ?_)
            refine lv_aload hx hb dX11_entry_59 (lv_at hl 0 rfl) (hp_n (n := 61) rfl ?_)
            refine q_geti (κ := 10) (k := 1) (φ := 501) (pc' := 64) C Bh_8 (cw_k Bh_8.2.2 kbh_8) fl_X11_150 rfl rfl rfl dX11_entry_61 rfl (fun x_21 ex_21 => ?_)
            refine q_ci (pc' := 67) Bh_8 (hp_runV (As := [.int x_21]) (rest := []) C Bh_8 (t_X11_answer Γ l α Bh_8.2.2.1 a0 (cw_k Bh_8.2.2 k0) x_21) lb_X11_answer lv_X11_answer lk_X11_115 (cw_k Bh_8.2.2 k0) rfl (by decide) rfl hl.1 rfl (Nat.le_of_ble_eq_true rfl) dX11_entry_64 ⟨Nat.le_refl _, Nat.le_refl _⟩) (fun _ _ h => cw_tr Bh_8.2.2 h (by decide)) rfl (fun rh_22 αh_22 Hh_22 Lh_22 ph_22 Bh_22 => ?_)
            exact q_iret C Bh_22 hr hlk Bh_22.2.2 dX11_entry_67
    ·
      have jc_4 := il_nle c_4
      exact J8 s.heap [] B ls (lv_sub hl [0] rfl)
abbrev w_X11_head : cw_W := ([600], [], [33], [])
set_option maxRecDepth 100000 in
set_option maxHeartbeats 4000000 in
theorem t_X11_head (Γ : hp_G) (l : Launch) (α : hp_T) (g : GC α) (a0 : Nat) (k0 : hp_K α a0 = 12) (a1 : Int32) (a2 : Int32) : Met l yX11_head (hp_ws yX11_head cX11_head 5 (some .int)) (hp_rm 3 0 0) (hp_Pc Γ α [.ref a0, .int a1, .int a2]) (hp_Qi Γ (fun r β => cw w_X11_head α β)) 0 0 (hp_A Γ) := by
  refine hp_start (by decide) ?_
  intro p e s m below meth c C hr hlk B0 hnm
  have C : hp_C Γ p m c cX11_head 5 s ([.ref a0, .int a1, .int a2] : List Value).toArray RX11 := C
  have hx := C.1.1
  have hb := C.1.2.1
  have hown := C.1.2.2.2.1
  have hts := C.1.2.2.2.2
  have B : hp_B Γ (cw w_X11_head) s α α s.heap [] := ⟨B0.1, B0.2.1, cw_rf g⟩
  have lit0 : (0 : Int32).toInt = 0 := by decide
  have hl := lv_entry ([.ref a0, .int a1, .int a2]) (n := 5) (Nat.le_of_ble_eq_true rfl)
  show W p l e (hp_rm 3 0 0) s m ([.ref a0, .int a1, .int a2] : List Value).toArray below meth c s.heap [] 0 0 (MQ below (hp_Qi Γ (fun r β => cw w_X11_head α β)) ([.ref a0, .int a1, .int a2] : List Value).toArray s 0 0 (hp_A Γ)) (entryFrame m ([.ref a0, .int a1, .int a2] : List Value).toArray 5)
  rw [lg_entry_eq]
  generalize (lg_sl ([.ref a0, .int a1, .int a2]) ++ List.replicate (5 - (lg_sl ([.ref a0, .int a1, .int a2])).length) Slot.unset).toArray = ls at hl ⊢
  have hl : lv_has ls 5 [(0, .ref a0), (1, .int a1), (2, .int a2)] := hl
  refine lv_aload_n hx hb dX11_head_0 rfl (lv_at hl 0 rfl) (hp_n (n := 1) rfl ?_)
  refine q_getr (κ := 12) (k := 1) (φ := 601) (pc' := 4) C B (cw_k B.2.2 k0) fl_X11_16 rfl rfl rfl (cw_r B.2.2 k0 rfl rfl (by decide) (by decide)) dX11_head_1 rfl (fun b_1 eb_1 kb_1 => ?_)
  refine lv_iload_n hx hb dX11_head_4 rfl (lv_at hl 1 rfl) (hp_n (n := 5) rfl ?_)
  refine q_cq (pc' := 8) B (hp_runV (As := [.int a1]) (rest := []) C B (t_X10_logAt Γ l α B.2.2.1 b_1 (cw_k B.2.2 kb_1) a1) lb_X10_logAt lv_X10_logAt lk_X11_163 (cw_k B.2.2 kb_1) rfl (by decide) rfl hl.1 rfl (Nat.le_of_ble_eq_true rfl) dX11_head_5 ⟨Nat.le_refl _, Nat.le_refl _⟩) (fun _ _ h => by rw [h.1]; exact B.2.2) rfl (fun rh_2 αh_2 Hh_2 Lh_2 ph_2 Bh_2 => ?_)
  rw [ph_2.1] at Bh_2
  rcases rh_2 with _ | bh_2
  ·
    refine lv_astore_nN (lv' := [(3, .null), (0, .ref a0), (1, .int a1), (2, .int a2)]) hx hb dX11_head_8 rfl hl (by decide) rfl (fun ls hl => hp_n (n := 9) rfl ?_)
    refine lv_aload_nN hx hb dX11_head_9 rfl (lv_at hl 0 rfl) (hp_n (n := 10) rfl ?_)
    refine lv_iconst (v := 0) hx hb dX11_head_10 (by decide) (hp_n (n := 11) rfl ?_)
    refine lv_iload_n hx hb dX11_head_11 rfl (lv_at hl 3 rfl) (hp_n (n := 12) rfl ?_)
    refine q_ci (pc' := 15) Bh_2 (hp_runS (As := [va_rf none, .int 0, .int a2]) (rest := []) C Bh_2 (t_X11_wrongGrowth Γ l α Bh_2.2.2.1 none (fun b h => by cases h) 0 a2) lb_X11_wrongGrowth ls_X11_wrongGrowth lk_X11_180 rfl (by decide) rfl hl.1 rfl (Nat.le_of_ble_eq_true rfl) dX11_head_12 ⟨Nat.le_refl _, Nat.le_refl _⟩) (fun _ _ h => by rw [h]; exact Bh_2.2.2) rfl (fun rh_3 αh_3 Hh_3 Lh_3 ph_3 Bh_3 => ?_)
    rw [ph_3] at Bh_3
    refine lv_istore (lv' := [(4, .int rh_3), (3, .null), (0, .ref a0), (1, .int a1), (2, .int a2)]) hx hb dX11_head_15 hl (by decide) rfl (fun ls hl => hp_n (n := 17) rfl ?_)
    refine lv_iload hx hb dX11_head_17 (lv_at hl 0 rfl) (hp_n (n := 19) rfl ?_)
    refine lv_if_eq (tgt := 31) hx hb dX11_head_19 (by decide) (fun c_4 => ?_) (fun c_4 => hp_n (n := 22) rfl ?_)
    ·
      have jc_4 := il_eq c_4
      refine lv_aload_n hx hb dX11_head_31 rfl (lv_at hl 2 rfl) (hp_n (n := 32) rfl ?_)
      refine lv_aload_n hx hb dX11_head_32 rfl (lv_at hl 2 rfl) (hp_n (n := 33) rfl ?_)
      refine q_gets (κ := 12) (k := 1) (φ := 601) (pc' := 36) C Bh_3 (cw_k Bh_3.2.2 k0) fl_X11_16 rfl rfl rfl eb_1 dX11_head_33 rfl ?_
      refine lv_aload_nN hx hb dX11_head_36 rfl (lv_at hl 1 rfl) (hp_n (n := 37) rfl ?_)
      refine lv_iload_n hx hb dX11_head_37 rfl (lv_at hl 4 rfl) (hp_n (n := 38) rfl ?_)
      refine q_ci (pc' := 41) Bh_3 (hp_runV (As := [va_rf none, .int a2]) (rest := [.ref a0]) C Bh_3 (t_X10_headOf Γ l α Bh_3.2.2.1 b_1 (cw_k Bh_3.2.2 kb_1) none (fun b h => by cases h) a2) lb_X10_headOf lv_X10_headOf lk_X11_184 (cw_k Bh_3.2.2 kb_1) rfl (by decide) rfl hl.1 rfl (Nat.le_of_ble_eq_true rfl) dX11_head_38 ⟨Nat.le_refl _, Nat.le_refl _⟩) (fun _ _ h => cw_tr Bh_3.2.2 h (by decide)) rfl (fun rh_5 αh_5 Hh_5 Lh_5 ph_5 Bh_5 => ?_)
      refine q_ci (pc' := 44) Bh_5 (hp_runV (As := [.int rh_5]) (rest := []) C Bh_5 (t_X11_answer Γ l αh_5 Bh_5.2.2.1 a0 (cw_k Bh_5.2.2 k0) rh_5) lb_X11_answer lv_X11_answer lk_X11_115 (cw_k Bh_5.2.2 k0) rfl (by decide) rfl hl.1 rfl (Nat.le_of_ble_eq_true rfl) dX11_head_41 ⟨Nat.le_refl _, Nat.le_refl _⟩) (fun _ _ h => cw_tr Bh_5.2.2 h (by decide)) rfl (fun rh_6 αh_6 Hh_6 Lh_6 ph_6 Bh_6 => ?_)
      exact q_iret C Bh_6 hr hlk Bh_6.2.2 dX11_head_44
    ·
      have jc_4 := il_ne c_4
      refine lv_aload_n hx hb dX11_head_22 rfl (lv_at hl 2 rfl) (hp_n (n := 23) rfl ?_)
      refine lv_iload hx hb dX11_head_23 (lv_at hl 0 rfl) (hp_n (n := 25) rfl ?_)
      refine q_ci (pc' := 28) Bh_3 (hp_runV (As := [.int rh_3]) (rest := []) C Bh_3 (t_X11_refuse Γ l α Bh_3.2.2.1 a0 (cw_k Bh_3.2.2 k0) rh_3) lb_X11_refuse lv_X11_refuse lk_X11_98 (cw_k Bh_3.2.2 k0) rfl (by decide) rfl hl.1 rfl (Nat.le_of_ble_eq_true rfl) dX11_head_25 ⟨Nat.le_refl _, Nat.le_refl _⟩) (fun _ _ h => cw_tr Bh_3.2.2 h (by decide)) rfl (fun rh_7 αh_7 Hh_7 Lh_7 ph_7 Bh_7 => ?_)
      refine lv_goto (tgt := 44) hx hb dX11_head_28 (by decide) ?_
      exact q_iret C Bh_7 hr hlk Bh_7.2.2 dX11_head_44
  ·
    have kbh_2 : hp_K α bh_2 = 3 := cw_k' Bh_2.2.2 (ph_2.2 bh_2 rfl)
    refine lv_astore_n (lv' := [(3, .ref bh_2), (0, .ref a0), (1, .int a1), (2, .int a2)]) hx hb dX11_head_8 rfl hl (by decide) rfl (fun ls hl => hp_n (n := 9) rfl ?_)
    refine lv_aload_n hx hb dX11_head_9 rfl (lv_at hl 0 rfl) (hp_n (n := 10) rfl ?_)
    refine lv_iconst (v := 0) hx hb dX11_head_10 (by decide) (hp_n (n := 11) rfl ?_)
    refine lv_iload_n hx hb dX11_head_11 rfl (lv_at hl 3 rfl) (hp_n (n := 12) rfl ?_)
    refine q_ci (pc' := 15) Bh_2 (hp_runS (As := [va_rf (some bh_2), .int 0, .int a2]) (rest := []) C Bh_2 (t_X11_wrongGrowth Γ l α Bh_2.2.2.1 (some bh_2) (fun b h => by cases h; exact (cw_k Bh_2.2.2 kbh_2)) 0 a2) lb_X11_wrongGrowth ls_X11_wrongGrowth lk_X11_180 rfl (by decide) rfl hl.1 rfl (Nat.le_of_ble_eq_true rfl) dX11_head_12 ⟨Nat.le_refl _, Nat.le_refl _⟩) (fun _ _ h => by rw [h]; exact Bh_2.2.2) rfl (fun rh_8 αh_8 Hh_8 Lh_8 ph_8 Bh_8 => ?_)
    rw [ph_8] at Bh_8
    refine lv_istore (lv' := [(4, .int rh_8), (3, .ref bh_2), (0, .ref a0), (1, .int a1), (2, .int a2)]) hx hb dX11_head_15 hl (by decide) rfl (fun ls hl => hp_n (n := 17) rfl ?_)
    refine lv_iload hx hb dX11_head_17 (lv_at hl 0 rfl) (hp_n (n := 19) rfl ?_)
    refine lv_if_eq (tgt := 31) hx hb dX11_head_19 (by decide) (fun c_9 => ?_) (fun c_9 => hp_n (n := 22) rfl ?_)
    ·
      have jc_9 := il_eq c_9
      refine lv_aload_n hx hb dX11_head_31 rfl (lv_at hl 2 rfl) (hp_n (n := 32) rfl ?_)
      refine lv_aload_n hx hb dX11_head_32 rfl (lv_at hl 2 rfl) (hp_n (n := 33) rfl ?_)
      refine q_gets (κ := 12) (k := 1) (φ := 601) (pc' := 36) C Bh_8 (cw_k Bh_8.2.2 k0) fl_X11_16 rfl rfl rfl eb_1 dX11_head_33 rfl ?_
      refine lv_aload_n hx hb dX11_head_36 rfl (lv_at hl 1 rfl) (hp_n (n := 37) rfl ?_)
      refine lv_iload_n hx hb dX11_head_37 rfl (lv_at hl 4 rfl) (hp_n (n := 38) rfl ?_)
      refine q_ci (pc' := 41) Bh_8 (hp_runV (As := [va_rf (some bh_2), .int a2]) (rest := [.ref a0]) C Bh_8 (t_X10_headOf Γ l α Bh_8.2.2.1 b_1 (cw_k Bh_8.2.2 kb_1) (some bh_2) (fun b h => by cases h; exact (cw_k Bh_8.2.2 kbh_2)) a2) lb_X10_headOf lv_X10_headOf lk_X11_184 (cw_k Bh_8.2.2 kb_1) rfl (by decide) rfl hl.1 rfl (Nat.le_of_ble_eq_true rfl) dX11_head_38 ⟨Nat.le_refl _, Nat.le_refl _⟩) (fun _ _ h => cw_tr Bh_8.2.2 h (by decide)) rfl (fun rh_10 αh_10 Hh_10 Lh_10 ph_10 Bh_10 => ?_)
      refine q_ci (pc' := 44) Bh_10 (hp_runV (As := [.int rh_10]) (rest := []) C Bh_10 (t_X11_answer Γ l αh_10 Bh_10.2.2.1 a0 (cw_k Bh_10.2.2 k0) rh_10) lb_X11_answer lv_X11_answer lk_X11_115 (cw_k Bh_10.2.2 k0) rfl (by decide) rfl hl.1 rfl (Nat.le_of_ble_eq_true rfl) dX11_head_41 ⟨Nat.le_refl _, Nat.le_refl _⟩) (fun _ _ h => cw_tr Bh_10.2.2 h (by decide)) rfl (fun rh_11 αh_11 Hh_11 Lh_11 ph_11 Bh_11 => ?_)
      exact q_iret C Bh_11 hr hlk Bh_11.2.2 dX11_head_44
    ·
      have jc_9 := il_ne c_9
      refine lv_aload_n hx hb dX11_head_22 rfl (lv_at hl 2 rfl) (hp_n (n := 23) rfl ?_)
      refine lv_iload hx hb dX11_head_23 (lv_at hl 0 rfl) (hp_n (n := 25) rfl ?_)
      refine q_ci (pc' := 28) Bh_8 (hp_runV (As := [.int rh_8]) (rest := []) C Bh_8 (t_X11_refuse Γ l α Bh_8.2.2.1 a0 (cw_k Bh_8.2.2 k0) rh_8) lb_X11_refuse lv_X11_refuse lk_X11_98 (cw_k Bh_8.2.2 k0) rfl (by decide) rfl hl.1 rfl (Nat.le_of_ble_eq_true rfl) dX11_head_25 ⟨Nat.le_refl _, Nat.le_refl _⟩) (fun _ _ h => cw_tr Bh_8.2.2 h (by decide)) rfl (fun rh_12 αh_12 Hh_12 Lh_12 ph_12 Bh_12 => ?_)
      refine lv_goto (tgt := 44) hx hb dX11_head_28 (by decide) ?_
      exact q_iret C Bh_12 hr hlk Bh_12.2.2 dX11_head_44
abbrev w_X11_join : cw_W := ([600], [], [], [])
set_option maxRecDepth 100000 in
set_option maxHeartbeats 4000000 in
theorem t_X11_join (Γ : hp_G) (l : Launch) (α : hp_T) (g : GC α) (a0 : Nat) (k0 : hp_K α a0 = 12) (a1 : Int32) (a2 : Int32) : Met l yX11_join (hp_ws yX11_join cX11_join 3 (some .int)) (hp_rm 1 0 0) (hp_Pc Γ α [.ref a0, .int a1, .int a2]) (hp_Qi Γ (fun r β => cw w_X11_join α β)) 0 0 (hp_A Γ) := by
  refine hp_start (by decide) ?_
  intro p e s m below meth c C hr hlk B0 hnm
  have C : hp_C Γ p m c cX11_join 3 s ([.ref a0, .int a1, .int a2] : List Value).toArray RX11 := C
  have hx := C.1.1
  have hb := C.1.2.1
  have hown := C.1.2.2.2.1
  have hts := C.1.2.2.2.2
  have B : hp_B Γ (cw w_X11_join) s α α s.heap [] := ⟨B0.1, B0.2.1, cw_rf g⟩
  have lit0 : (0 : Int32).toInt = 0 := by decide
  have lit1 : (1 : Int32).toInt = 1 := by decide
  have hl := lv_entry ([.ref a0, .int a1, .int a2]) (n := 3) (Nat.le_of_ble_eq_true rfl)
  show W p l e (hp_rm 1 0 0) s m ([.ref a0, .int a1, .int a2] : List Value).toArray below meth c s.heap [] 0 0 (MQ below (hp_Qi Γ (fun r β => cw w_X11_join α β)) ([.ref a0, .int a1, .int a2] : List Value).toArray s 0 0 (hp_A Γ)) (entryFrame m ([.ref a0, .int a1, .int a2] : List Value).toArray 3)
  rw [lg_entry_eq]
  generalize (lg_sl ([.ref a0, .int a1, .int a2]) ++ List.replicate (3 - (lg_sl ([.ref a0, .int a1, .int a2])).length) Slot.unset).toArray = ls at hl ⊢
  have hl : lv_has ls 3 [(0, .ref a0), (1, .int a1), (2, .int a2)] := hl
  refine lv_aload_n hx hb dX11_join_0 rfl (lv_at hl 0 rfl) (hp_n (n := 1) rfl ?_)
  refine lv_iload_n hx hb dX11_join_1 rfl (lv_at hl 1 rfl) (hp_n (n := 2) rfl ?_)
  refine q_ci (pc' := 5) B (hp_runV (As := [.int a1]) (rest := []) C B (t_X11_isMark Γ l α B.2.2.1 a0 (cw_k B.2.2 k0) a1) lb_X11_isMark lv_X11_isMark lk_X11_188 (cw_k B.2.2 k0) rfl (by decide) rfl hl.1 rfl (Nat.le_of_ble_eq_true rfl) dX11_join_2 ⟨Nat.le_refl _, Nat.le_refl _⟩) (fun _ _ h => by rw [h.1]; exact B.2.2) rfl (fun rh_1 αh_1 Hh_1 Lh_1 ph_1 Bh_1 => ?_)
  rw [ph_1.1] at Bh_1
  have zh_1 := ph_1.2
  have J16 : ∀ (Hh_2 : Heap) (Lh_2 : List Loc) (Bh_2 : hp_B Γ (cw w_X11_join) s α α Hh_2 Lh_2) (ls : Array Slot) (hl : lv_has ls 3 [(0, .ref a0)]), W p l e (hp_rm 1 0 0) s m ([.ref a0, .int a1, .int a2] : List Value).toArray below meth c Hh_2 Lh_2 0 0 (MQ below (hp_Qi Γ (fun r β => cw w_X11_join α β)) ([.ref a0, .int a1, .int a2] : List Value).toArray s 0 0 (hp_A Γ)) (F0 m 16 ls []) := by
    intro Hh_2 Lh_2 Bh_2 ls hl
    refine lv_aload_n hx hb dX11_join_16 rfl (lv_at hl 0 rfl) (hp_n (n := 17) rfl ?_)
    refine lv_iconst (v := 1) hx hb dX11_join_17 (by decide) (hp_n (n := 18) rfl ?_)
    refine q_ci (pc' := 21) Bh_2 (hp_runV (As := [.int 1]) (rest := []) C Bh_2 (t_X11_refuse Γ l α Bh_2.2.2.1 a0 (cw_k Bh_2.2.2 k0) 1) lb_X11_refuse lv_X11_refuse lk_X11_98 (cw_k Bh_2.2.2 k0) rfl (by decide) rfl hl.1 rfl (Nat.le_of_ble_eq_true rfl) dX11_join_18 ⟨Nat.le_refl _, Nat.le_refl _⟩) (fun _ _ h => cw_tr Bh_2.2.2 h (by decide)) rfl (fun rh_3 αh_3 Hh_3 Lh_3 ph_3 Bh_3 => ?_)
    exact q_iret C Bh_3 hr hlk Bh_3.2.2 dX11_join_21
  refine lv_if_eq (tgt := 16) hx hb dX11_join_5 (by decide) (fun c_4 => ?_) (fun c_4 => hp_n (n := 8) rfl ?_)
  ·
    have jc_4 := il_eq c_4
    exact J16 Hh_1 Lh_1 Bh_1 ls (lv_sub hl [0] rfl)
  ·
    have jc_4 := il_ne c_4
    refine lv_aload_n hx hb dX11_join_8 rfl (lv_at hl 0 rfl) (hp_n (n := 9) rfl ?_)
    refine lv_iload_n hx hb dX11_join_9 rfl (lv_at hl 2 rfl) (hp_n (n := 10) rfl ?_)
    refine q_ci (pc' := 13) Bh_1 (hp_runV (As := [.int a2]) (rest := []) C Bh_1 (t_X11_isMark Γ l α Bh_1.2.2.1 a0 (cw_k Bh_1.2.2 k0) a2) lb_X11_isMark lv_X11_isMark lk_X11_188 (cw_k Bh_1.2.2 k0) rfl (by decide) rfl hl.1 rfl (Nat.le_of_ble_eq_true rfl) dX11_join_10 ⟨Nat.le_refl _, Nat.le_refl _⟩) (fun _ _ h => by rw [h.1]; exact Bh_1.2.2) rfl (fun rh_5 αh_5 Hh_5 Lh_5 ph_5 Bh_5 => ?_)
    rw [ph_5.1] at Bh_5
    have zh_5 := ph_5.2
    refine lv_if_ne (tgt := 22) hx hb dX11_join_13 (by decide) (fun c_6 => ?_) (fun c_6 => hp_n (n := 16) rfl ?_)
    ·
      have jc_6 := il_ne c_6
      refine lv_aload_n hx hb dX11_join_22 rfl (lv_at hl 0 rfl) (hp_n (n := 23) rfl ?_)
      refine lv_aload_n hx hb dX11_join_23 rfl (lv_at hl 0 rfl) (hp_n (n := 24) rfl ?_)
      refine q_getr (κ := 12) (k := 1) (φ := 601) (pc' := 27) C Bh_5 (cw_k Bh_5.2.2 k0) fl_X11_16 rfl rfl rfl (cw_r Bh_5.2.2 k0 rfl rfl (by decide) (by decide)) dX11_join_24 rfl (fun b_7 eb_7 kb_7 => ?_)
      refine q_geti (κ := 11) (k := 0) (φ := 550) (pc' := 30) C Bh_5 (cw_k Bh_5.2.2 kb_7) fl_X11_122 rfl rfl rfl dX11_join_27 rfl (fun x_8 ex_8 => ?_)
      refine lv_iload_n hx hb dX11_join_30 rfl (lv_at hl 1 rfl) (hp_n (n := 31) rfl ?_)
      refine lv_iload_n hx hb dX11_join_31 rfl (lv_at hl 2 rfl) (hp_n (n := 32) rfl ?_)
      refine q_ci (pc' := 35) Bh_5 (hp_runS (As := [.int x_8, .int a1, .int a2]) (rest := [.ref a0]) C Bh_5 (t_X11_markOfTwo Γ l α Bh_5.2.2.1 x_8 a1 a2) lb_X11_markOfTwo ls_X11_markOfTwo lk_X11_191 rfl (by decide) rfl hl.1 rfl (Nat.le_of_ble_eq_true rfl) dX11_join_32 ⟨Nat.le_refl _, Nat.le_refl _⟩) (fun _ _ h => by rw [h]; exact Bh_5.2.2) rfl (fun rh_9 αh_9 Hh_9 Lh_9 ph_9 Bh_9 => ?_)
      rw [ph_9] at Bh_9
      refine q_ci (pc' := 38) Bh_9 (hp_runV (As := [.int rh_9]) (rest := []) C Bh_9 (t_X11_answer Γ l α Bh_9.2.2.1 a0 (cw_k Bh_9.2.2 k0) rh_9) lb_X11_answer lv_X11_answer lk_X11_115 (cw_k Bh_9.2.2 k0) rfl (by decide) rfl hl.1 rfl (Nat.le_of_ble_eq_true rfl) dX11_join_35 ⟨Nat.le_refl _, Nat.le_refl _⟩) (fun _ _ h => cw_tr Bh_9.2.2 h (by decide)) rfl (fun rh_10 αh_10 Hh_10 Lh_10 ph_10 Bh_10 => ?_)
      exact q_iret C Bh_10 hr hlk Bh_10.2.2 dX11_join_38
    ·
      have jc_6 := il_eq c_6
      exact J16 Hh_5 Lh_5 Bh_5 ls (lv_sub hl [0] rfl)
abbrev w_X11_mark : cw_W := ([600], [], [], [])
set_option maxRecDepth 100000 in
set_option maxHeartbeats 4000000 in
theorem t_X11_mark (Γ : hp_G) (l : Launch) (α : hp_T) (g : GC α) (a0 : Nat) (k0 : hp_K α a0 = 12) : Met l yX11_mark (hp_ws yX11_mark cX11_mark 1 (some .int)) (hp_rm 2 0 0) (hp_Pc Γ α [.ref a0]) (hp_Qi Γ (fun r β => cw w_X11_mark α β)) 0 0 (hp_A Γ) := by
  refine hp_start (by decide) ?_
  intro p e s m below meth c C hr hlk B0 hnm
  have C : hp_C Γ p m c cX11_mark 1 s ([.ref a0] : List Value).toArray RX11 := C
  have hx := C.1.1
  have hb := C.1.2.1
  have hown := C.1.2.2.2.1
  have hts := C.1.2.2.2.2
  have B : hp_B Γ (cw w_X11_mark) s α α s.heap [] := ⟨B0.1, B0.2.1, cw_rf g⟩
  have hl := lv_entry ([.ref a0]) (n := 1) (Nat.le_of_ble_eq_true rfl)
  show W p l e (hp_rm 2 0 0) s m ([.ref a0] : List Value).toArray below meth c s.heap [] 0 0 (MQ below (hp_Qi Γ (fun r β => cw w_X11_mark α β)) ([.ref a0] : List Value).toArray s 0 0 (hp_A Γ)) (entryFrame m ([.ref a0] : List Value).toArray 1)
  rw [lg_entry_eq]
  generalize (lg_sl ([.ref a0]) ++ List.replicate (1 - (lg_sl ([.ref a0])).length) Slot.unset).toArray = ls at hl ⊢
  have hl : lv_has ls 1 [(0, .ref a0)] := hl
  refine lv_aload_n hx hb dX11_mark_0 rfl (lv_at hl 0 rfl) (hp_n (n := 1) rfl ?_)
  refine lv_aload_n hx hb dX11_mark_1 rfl (lv_at hl 0 rfl) (hp_n (n := 2) rfl ?_)
  refine q_getr (κ := 12) (k := 6) (φ := 606) (pc' := 5) C B (cw_k B.2.2 k0) fl_X11_40 rfl rfl rfl (cw_r B.2.2 k0 rfl rfl (by decide) (by decide)) dX11_mark_2 rfl (fun b_1 eb_1 kb_1 => ?_)
  refine lv_aload_n hx hb dX11_mark_5 rfl (lv_at hl 0 rfl) (hp_n (n := 6) rfl ?_)
  refine q_getr (κ := 12) (k := 1) (φ := 601) (pc' := 9) C B (cw_k B.2.2 k0) fl_X11_16 rfl rfl rfl (cw_r B.2.2 k0 rfl rfl (by decide) (by decide)) dX11_mark_6 rfl (fun b_2 eb_2 kb_2 => ?_)
  refine q_geti (κ := 11) (k := 0) (φ := 550) (pc' := 12) C B (cw_k B.2.2 kb_2) fl_X11_122 rfl rfl rfl dX11_mark_9 rfl (fun x_3 ex_3 => ?_)
  refine q_ci (pc' := 15) B (hp_runV (As := [.int x_3]) (rest := [.ref a0]) C B (t_X9_markBy Γ l α B.2.2.1 b_1 (cw_k B.2.2 kb_1) x_3) lb_X9_markBy lv_X9_markBy lk_X11_195 (cw_k B.2.2 kb_1) rfl (by decide) rfl hl.1 rfl (Nat.le_of_ble_eq_true rfl) dX11_mark_12 ⟨Nat.le_refl _, Nat.le_refl _⟩) (fun _ _ h => by rw [h]; exact B.2.2) rfl (fun rh_4 αh_4 Hh_4 Lh_4 ph_4 Bh_4 => ?_)
  rw [ph_4] at Bh_4
  refine q_ci (pc' := 18) Bh_4 (hp_runV (As := [.int rh_4]) (rest := []) C Bh_4 (t_X11_answer Γ l α Bh_4.2.2.1 a0 (cw_k Bh_4.2.2 k0) rh_4) lb_X11_answer lv_X11_answer lk_X11_115 (cw_k Bh_4.2.2 k0) rfl (by decide) rfl hl.1 rfl (Nat.le_of_ble_eq_true rfl) dX11_mark_15 ⟨Nat.le_refl _, Nat.le_refl _⟩) (fun _ _ h => cw_tr Bh_4.2.2 h (by decide)) rfl (fun rh_5 αh_5 Hh_5 Lh_5 ph_5 Bh_5 => ?_)
  exact q_iret C Bh_5 hr hlk Bh_5.2.2 dX11_mark_18
abbrev w_X11_frozen : cw_W := ([600], [], [33], [])
set_option maxRecDepth 100000 in
set_option maxHeartbeats 4000000 in
theorem t_X11_frozen (Γ : hp_G) (l : Launch) (α : hp_T) (g : GC α) (a0 : Nat) (k0 : hp_K α a0 = 12) (a1 : Int32) (a2 : Int32) : Met l yX11_frozen (hp_ws yX11_frozen cX11_frozen 4 (some .int)) (hp_rm 5 0 0) (hp_Pc Γ α [.ref a0, .int a1, .int a2]) (hp_Qi Γ (fun r β => cw w_X11_frozen α β)) 0 0 (hp_A Γ) := by
  refine hp_start (by decide) ?_
  intro p e s m below meth c C hr hlk B0 hnm
  have C : hp_C Γ p m c cX11_frozen 4 s ([.ref a0, .int a1, .int a2] : List Value).toArray RX11 := C
  have hx := C.1.1
  have hb := C.1.2.1
  have hown := C.1.2.2.2.1
  have hts := C.1.2.2.2.2
  have B : hp_B Γ (cw w_X11_frozen) s α α s.heap [] := ⟨B0.1, B0.2.1, cw_rf g⟩
  have lit0 : (0 : Int32).toInt = 0 := by decide
  have lit1 : (1 : Int32).toInt = 1 := by decide
  have lit2 : (2 : Int32).toInt = 2 := by decide
  have lit3 : (3 : Int32).toInt = 3 := by decide
  have lit4 : (4 : Int32).toInt = 4 := by decide
  have lit5 : (5 : Int32).toInt = 5 := by decide
  have hl := lv_entry ([.ref a0, .int a1, .int a2]) (n := 4) (Nat.le_of_ble_eq_true rfl)
  show W p l e (hp_rm 5 0 0) s m ([.ref a0, .int a1, .int a2] : List Value).toArray below meth c s.heap [] 0 0 (MQ below (hp_Qi Γ (fun r β => cw w_X11_frozen α β)) ([.ref a0, .int a1, .int a2] : List Value).toArray s 0 0 (hp_A Γ)) (entryFrame m ([.ref a0, .int a1, .int a2] : List Value).toArray 4)
  rw [lg_entry_eq]
  generalize (lg_sl ([.ref a0, .int a1, .int a2]) ++ List.replicate (4 - (lg_sl ([.ref a0, .int a1, .int a2])).length) Slot.unset).toArray = ls at hl ⊢
  have hl : lv_has ls 4 [(0, .ref a0), (1, .int a1), (2, .int a2)] := hl
  refine lv_iload_n hx hb dX11_frozen_0 rfl (lv_at hl 1 rfl) (hp_n (n := 1) rfl ?_)
  have J13 : ∀ (Hh_1 : Heap) (Lh_1 : List Loc) (Bh_1 : hp_B Γ (cw w_X11_frozen) s α α Hh_1 Lh_1) (ls : Array Slot) (hl : lv_has ls 4 [(0, .ref a0)]), W p l e (hp_rm 5 0 0) s m ([.ref a0, .int a1, .int a2] : List Value).toArray below meth c Hh_1 Lh_1 0 0 (MQ below (hp_Qi Γ (fun r β => cw w_X11_frozen α β)) ([.ref a0, .int a1, .int a2] : List Value).toArray s 0 0 (hp_A Γ)) (F0 m 13 ls []) := by
    intro Hh_1 Lh_1 Bh_1 ls hl
    refine lv_aload_n hx hb dX11_frozen_13 rfl (lv_at hl 0 rfl) (hp_n (n := 14) rfl ?_)
    refine lv_iconst (v := 1) hx hb dX11_frozen_14 (by decide) (hp_n (n := 15) rfl ?_)
    refine q_ci (pc' := 18) Bh_1 (hp_runV (As := [.int 1]) (rest := []) C Bh_1 (t_X11_refuse Γ l α Bh_1.2.2.1 a0 (cw_k Bh_1.2.2 k0) 1) lb_X11_refuse lv_X11_refuse lk_X11_98 (cw_k Bh_1.2.2 k0) rfl (by decide) rfl hl.1 rfl (Nat.le_of_ble_eq_true rfl) dX11_frozen_15 ⟨Nat.le_refl _, Nat.le_refl _⟩) (fun _ _ h => cw_tr Bh_1.2.2 h (by decide)) rfl (fun rh_2 αh_2 Hh_2 Lh_2 ph_2 Bh_2 => ?_)
    exact q_iret C Bh_2 hr hlk Bh_2.2.2 dX11_frozen_18
  refine lv_if_lt (tgt := 13) hx hb dX11_frozen_1 (by decide) (fun c_3 => ?_) (fun c_3 => hp_n (n := 4) rfl ?_)
  ·
    have jc_3 := il_lt c_3
    exact J13 s.heap [] B ls (lv_sub hl [0] rfl)
  ·
    have jc_3 := il_nlt c_3
    refine lv_iload_n hx hb dX11_frozen_4 rfl (lv_at hl 2 rfl) (hp_n (n := 5) rfl ?_)
    refine lv_if_lt (tgt := 13) hx hb dX11_frozen_5 (by decide) (fun c_4 => ?_) (fun c_4 => hp_n (n := 8) rfl ?_)
    ·
      have jc_4 := il_lt c_4
      exact J13 s.heap [] B ls (lv_sub hl [0] rfl)
    ·
      have jc_4 := il_nlt c_4
      refine lv_iload_n hx hb dX11_frozen_8 rfl (lv_at hl 2 rfl) (hp_n (n := 9) rfl ?_)
      refine lv_iconst (v := 4) hx hb dX11_frozen_9 (by decide) (hp_n (n := 10) rfl ?_)
      refine lv_icmp_le (tgt := 19) hx hb dX11_frozen_10 (by decide) (fun c_5 => ?_) (fun c_5 => hp_n (n := 13) rfl ?_)
      ·
        have jc_5 := il_le c_5
        refine lv_aload_n hx hb dX11_frozen_19 rfl (lv_at hl 0 rfl) (hp_n (n := 20) rfl ?_)
        refine q_getr (κ := 12) (k := 1) (φ := 601) (pc' := 23) C B (cw_k B.2.2 k0) fl_X11_16 rfl rfl rfl (cw_r B.2.2 k0 rfl rfl (by decide) (by decide)) dX11_frozen_20 rfl (fun b_6 eb_6 kb_6 => ?_)
        refine lv_iload_n hx hb dX11_frozen_23 rfl (lv_at hl 1 rfl) (hp_n (n := 24) rfl ?_)
        refine q_cq (pc' := 27) B (hp_runV (As := [.int a1]) (rest := []) C B (t_X10_frozenAt Γ l α B.2.2.1 b_6 (cw_k B.2.2 kb_6) a1) lb_X10_frozenAt lv_X10_frozenAt lk_X11_198 (cw_k B.2.2 kb_6) rfl (by decide) rfl hl.1 rfl (Nat.le_of_ble_eq_true rfl) dX11_frozen_24 ⟨Nat.le_refl _, Nat.le_refl _⟩) (fun _ _ h => by rw [h.1]; exact B.2.2) rfl (fun rh_7 αh_7 Hh_7 Lh_7 ph_7 Bh_7 => ?_)
        rw [ph_7.1] at Bh_7
        rcases rh_7 with _ | bh_7
        ·
          refine lv_astore_nN (lv' := [(3, .null), (0, .ref a0), (1, .int a1), (2, .int a2)]) hx hb dX11_frozen_27 rfl hl (by decide) rfl (fun ls hl => hp_n (n := 28) rfl ?_)
          refine lv_aload_nN hx hb dX11_frozen_28 rfl (lv_at hl 0 rfl) (hp_n (n := 29) rfl ?_)
          refine lv_ifnonnullN hx hb dX11_frozen_29 (hp_n (n := 32) rfl ?_)
          refine lv_aload_n hx hb dX11_frozen_32 rfl (lv_at hl 1 rfl) (hp_n (n := 33) rfl ?_)
          refine lv_iconst (v := 5) hx hb dX11_frozen_33 (by decide) (hp_n (n := 34) rfl ?_)
          refine q_ci (pc' := 37) Bh_7 (hp_runV (As := [.int 5]) (rest := []) C Bh_7 (t_X11_refuse Γ l α Bh_7.2.2.1 a0 (cw_k Bh_7.2.2 k0) 5) lb_X11_refuse lv_X11_refuse lk_X11_98 (cw_k Bh_7.2.2 k0) rfl (by decide) rfl hl.1 rfl (Nat.le_of_ble_eq_true rfl) dX11_frozen_34 ⟨Nat.le_refl _, Nat.le_refl _⟩) (fun _ _ h => cw_tr Bh_7.2.2 h (by decide)) rfl (fun rh_8 αh_8 Hh_8 Lh_8 ph_8 Bh_8 => ?_)
          exact q_iret C Bh_8 hr hlk Bh_8.2.2 dX11_frozen_37
        ·
          have kbh_7 : hp_K α bh_7 = 2 := cw_k' Bh_7.2.2 (ph_7.2 bh_7 rfl)
          refine lv_astore_n (lv' := [(3, .ref bh_7), (0, .ref a0), (1, .int a1), (2, .int a2)]) hx hb dX11_frozen_27 rfl hl (by decide) rfl (fun ls hl => hp_n (n := 28) rfl ?_)
          refine lv_aload_n hx hb dX11_frozen_28 rfl (lv_at hl 0 rfl) (hp_n (n := 29) rfl ?_)
          refine lv_ifnonnull (tgt := 38) hx hb dX11_frozen_29 (by decide) ?_
          refine lv_iload_n hx hb dX11_frozen_38 rfl (lv_at hl 3 rfl) (hp_n (n := 39) rfl ?_)
          by_cases c_9 : a2 = 0
          · have jc_9 := il_eq c_9
            refine lv_tableIn (off := 29) (tgt := 68) hx hb dX11_frozen_39 (by omega) (by omega) (by rw [jc_9, lit0]; rfl) (by decide) ?_
            refine lv_aload_n hx hb dX11_frozen_68 rfl (lv_at hl 1 rfl) (hp_n (n := 69) rfl ?_)
            refine lv_aload_n hx hb dX11_frozen_69 rfl (lv_at hl 0 rfl) (hp_n (n := 70) rfl ?_)
            refine q_geti (κ := 2) (k := 0) (φ := 100) (pc' := 73) C Bh_7 (cw_k Bh_7.2.2 kbh_7) fl_X11_202 rfl rfl rfl dX11_frozen_70 rfl (fun x_10 ex_10 => ?_)
            refine q_ci (pc' := 76) Bh_7 (hp_runV (As := [.int x_10]) (rest := []) C Bh_7 (t_X11_answer Γ l α Bh_7.2.2.1 a0 (cw_k Bh_7.2.2 k0) x_10) lb_X11_answer lv_X11_answer lk_X11_115 (cw_k Bh_7.2.2 k0) rfl (by decide) rfl hl.1 rfl (Nat.le_of_ble_eq_true rfl) dX11_frozen_73 ⟨Nat.le_refl _, Nat.le_refl _⟩) (fun _ _ h => cw_tr Bh_7.2.2 h (by decide)) rfl (fun rh_11 αh_11 Hh_11 Lh_11 ph_11 Bh_11 => ?_)
            exact q_iret C Bh_11 hr hlk Bh_11.2.2 dX11_frozen_76
          have jc_9 := il_ne c_9
          by_cases c_12 : a2 = 1
          · have jc_12 := il_eq c_12
            refine lv_tableIn (off := 38) (tgt := 77) hx hb dX11_frozen_39 (by omega) (by omega) (by rw [jc_12, lit1]; rfl) (by decide) ?_
            refine lv_aload_n hx hb dX11_frozen_77 rfl (lv_at hl 1 rfl) (hp_n (n := 78) rfl ?_)
            refine lv_aload_n hx hb dX11_frozen_78 rfl (lv_at hl 0 rfl) (hp_n (n := 79) rfl ?_)
            refine q_geti (κ := 2) (k := 1) (φ := 101) (pc' := 82) C Bh_7 (cw_k Bh_7.2.2 kbh_7) fl_X11_207 rfl rfl rfl dX11_frozen_79 rfl (fun x_13 ex_13 => ?_)
            refine q_ci (pc' := 85) Bh_7 (hp_runV (As := [.int x_13]) (rest := []) C Bh_7 (t_X11_answer Γ l α Bh_7.2.2.1 a0 (cw_k Bh_7.2.2 k0) x_13) lb_X11_answer lv_X11_answer lk_X11_115 (cw_k Bh_7.2.2 k0) rfl (by decide) rfl hl.1 rfl (Nat.le_of_ble_eq_true rfl) dX11_frozen_82 ⟨Nat.le_refl _, Nat.le_refl _⟩) (fun _ _ h => cw_tr Bh_7.2.2 h (by decide)) rfl (fun rh_14 αh_14 Hh_14 Lh_14 ph_14 Bh_14 => ?_)
            exact q_iret C Bh_14 hr hlk Bh_14.2.2 dX11_frozen_85
          have jc_12 := il_ne c_12
          by_cases c_15 : a2 = 2
          · have jc_15 := il_eq c_15
            refine lv_tableIn (off := 47) (tgt := 86) hx hb dX11_frozen_39 (by omega) (by omega) (by rw [jc_15, lit2]; rfl) (by decide) ?_
            refine lv_aload_n hx hb dX11_frozen_86 rfl (lv_at hl 1 rfl) (hp_n (n := 87) rfl ?_)
            refine lv_aload_n hx hb dX11_frozen_87 rfl (lv_at hl 0 rfl) (hp_n (n := 88) rfl ?_)
            refine q_geti (κ := 2) (k := 2) (φ := 102) (pc' := 91) C Bh_7 (cw_k Bh_7.2.2 kbh_7) fl_X11_210 rfl rfl rfl dX11_frozen_88 rfl (fun x_16 ex_16 => ?_)
            refine q_ci (pc' := 94) Bh_7 (hp_runV (As := [.int x_16]) (rest := []) C Bh_7 (t_X11_answer Γ l α Bh_7.2.2.1 a0 (cw_k Bh_7.2.2 k0) x_16) lb_X11_answer lv_X11_answer lk_X11_115 (cw_k Bh_7.2.2 k0) rfl (by decide) rfl hl.1 rfl (Nat.le_of_ble_eq_true rfl) dX11_frozen_91 ⟨Nat.le_refl _, Nat.le_refl _⟩) (fun _ _ h => cw_tr Bh_7.2.2 h (by decide)) rfl (fun rh_17 αh_17 Hh_17 Lh_17 ph_17 Bh_17 => ?_)
            exact q_iret C Bh_17 hr hlk Bh_17.2.2 dX11_frozen_94
          have jc_15 := il_ne c_15
          by_cases c_18 : a2 = 3
          · have jc_18 := il_eq c_18
            refine lv_tableIn (off := 56) (tgt := 95) hx hb dX11_frozen_39 (by omega) (by omega) (by rw [jc_18, lit3]; rfl) (by decide) ?_
            refine lv_aload_n hx hb dX11_frozen_95 rfl (lv_at hl 1 rfl) (hp_n (n := 96) rfl ?_)
            refine lv_aload_n hx hb dX11_frozen_96 rfl (lv_at hl 0 rfl) (hp_n (n := 97) rfl ?_)
            refine q_geti (κ := 2) (k := 3) (φ := 103) (pc' := 100) C Bh_7 (cw_k Bh_7.2.2 kbh_7) fl_X11_213 rfl rfl rfl dX11_frozen_97 rfl (fun x_19 ex_19 => ?_)
            refine q_ci (pc' := 103) Bh_7 (hp_runV (As := [.int x_19]) (rest := []) C Bh_7 (t_X11_answer Γ l α Bh_7.2.2.1 a0 (cw_k Bh_7.2.2 k0) x_19) lb_X11_answer lv_X11_answer lk_X11_115 (cw_k Bh_7.2.2 k0) rfl (by decide) rfl hl.1 rfl (Nat.le_of_ble_eq_true rfl) dX11_frozen_100 ⟨Nat.le_refl _, Nat.le_refl _⟩) (fun _ _ h => cw_tr Bh_7.2.2 h (by decide)) rfl (fun rh_20 αh_20 Hh_20 Lh_20 ph_20 Bh_20 => ?_)
            exact q_iret C Bh_20 hr hlk Bh_20.2.2 dX11_frozen_103
          have jc_18 := il_ne c_18
          refine lv_tableOut (tgt := 104) hx hb dX11_frozen_39 (by omega) (by decide) ?_
          refine lv_aload_n hx hb dX11_frozen_104 rfl (lv_at hl 1 rfl) (hp_n (n := 105) rfl ?_)
          refine lv_aload_n hx hb dX11_frozen_105 rfl (lv_at hl 1 rfl) (hp_n (n := 106) rfl ?_)
          refine q_gets (κ := 12) (k := 1) (φ := 601) (pc' := 109) C Bh_7 (cw_k Bh_7.2.2 k0) fl_X11_16 rfl rfl rfl eb_6 dX11_frozen_106 rfl ?_
          refine lv_aload_n hx hb dX11_frozen_109 rfl (lv_at hl 0 rfl) (hp_n (n := 110) rfl ?_)
          refine q_ci (pc' := 113) Bh_7 (hp_runV (As := [.ref bh_7]) (rest := [.ref a0]) C Bh_7 (t_X10_isSound Γ l α Bh_7.2.2.1 b_6 (cw_k Bh_7.2.2 kb_6) bh_7 (cw_k Bh_7.2.2 kbh_7)) lb_X10_isSound lv_X10_isSound lk_X11_216 (cw_k Bh_7.2.2 kb_6) rfl (by decide) rfl hl.1 rfl (Nat.le_of_ble_eq_true rfl) dX11_frozen_110 ⟨Nat.le_refl _, Nat.le_refl _⟩) (fun _ _ h => cw_tr Bh_7.2.2 h.1 (by decide)) rfl (fun rh_21 αh_21 Hh_21 Lh_21 ph_21 Bh_21 => ?_)
          have zh_21 := ph_21.2
          refine lv_if_eq (tgt := 120) hx hb dX11_frozen_113 (by decide) (fun c_22 => ?_) (fun c_22 => hp_n (n := 116) rfl ?_)
          ·
            have jc_22 := il_eq c_22
            refine lv_iconst (v := 0) hx hb dX11_frozen_120 (by decide) (hp_n (n := 121) rfl ?_)
            refine q_ci (pc' := 124) Bh_21 (hp_runV (As := [.int 0]) (rest := []) C Bh_21 (t_X11_answer Γ l αh_21 Bh_21.2.2.1 a0 (cw_k Bh_21.2.2 k0) 0) lb_X11_answer lv_X11_answer lk_X11_115 (cw_k Bh_21.2.2 k0) rfl (by decide) rfl hl.1 rfl (Nat.le_of_ble_eq_true rfl) dX11_frozen_121 ⟨Nat.le_refl _, Nat.le_refl _⟩) (fun _ _ h => cw_tr Bh_21.2.2 h (by decide)) rfl (fun rh_23 αh_23 Hh_23 Lh_23 ph_23 Bh_23 => ?_)
            exact q_iret C Bh_23 hr hlk Bh_23.2.2 dX11_frozen_124
          ·
            have jc_22 := il_ne c_22
            refine lv_iconst (v := 1) hx hb dX11_frozen_116 (by decide) (hp_n (n := 117) rfl ?_)
            refine lv_goto (tgt := 121) hx hb dX11_frozen_117 (by decide) ?_
            refine q_ci (pc' := 124) Bh_21 (hp_runV (As := [.int 1]) (rest := []) C Bh_21 (t_X11_answer Γ l αh_21 Bh_21.2.2.1 a0 (cw_k Bh_21.2.2 k0) 1) lb_X11_answer lv_X11_answer lk_X11_115 (cw_k Bh_21.2.2 k0) rfl (by decide) rfl hl.1 rfl (Nat.le_of_ble_eq_true rfl) dX11_frozen_121 ⟨Nat.le_refl _, Nat.le_refl _⟩) (fun _ _ h => cw_tr Bh_21.2.2 h (by decide)) rfl (fun rh_24 αh_24 Hh_24 Lh_24 ph_24 Bh_24 => ?_)
            exact q_iret C Bh_24 hr hlk Bh_24.2.2 dX11_frozen_124
      ·
        have jc_5 := il_nle c_5
        exact J13 s.heap [] B ls (lv_sub hl [0] rfl)
abbrev w_X11_watcher : cw_W := ([600], [], [], [])
set_option maxRecDepth 100000 in
set_option maxHeartbeats 4000000 in
theorem t_X11_watcher (Γ : hp_G) (l : Launch) (α : hp_T) (g : GC α) (a0 : Nat) (k0 : hp_K α a0 = 12) (a1 : Int32) (a2 : Int32) : Met l yX11_watcher (hp_ws yX11_watcher cX11_watcher 4 (some .int)) (hp_rm 1 0 0) (hp_Pc Γ α [.ref a0, .int a1, .int a2]) (hp_Qi Γ (fun r β => cw w_X11_watcher α β)) 0 0 (hp_A Γ) := by
  refine hp_start (by decide) ?_
  intro p e s m below meth c C hr hlk B0 hnm
  have C : hp_C Γ p m c cX11_watcher 4 s ([.ref a0, .int a1, .int a2] : List Value).toArray RX11 := C
  have hx := C.1.1
  have hb := C.1.2.1
  have hown := C.1.2.2.2.1
  have hts := C.1.2.2.2.2
  have B : hp_B Γ (cw w_X11_watcher) s α α s.heap [] := ⟨B0.1, B0.2.1, cw_rf g⟩
  have lit0 : (0 : Int32).toInt = 0 := by decide
  have lit1 : (1 : Int32).toInt = 1 := by decide
  have lit2 : (2 : Int32).toInt = 2 := by decide
  have lit3 : (3 : Int32).toInt = 3 := by decide
  have hl := lv_entry ([.ref a0, .int a1, .int a2]) (n := 4) (Nat.le_of_ble_eq_true rfl)
  show W p l e (hp_rm 1 0 0) s m ([.ref a0, .int a1, .int a2] : List Value).toArray below meth c s.heap [] 0 0 (MQ below (hp_Qi Γ (fun r β => cw w_X11_watcher α β)) ([.ref a0, .int a1, .int a2] : List Value).toArray s 0 0 (hp_A Γ)) (entryFrame m ([.ref a0, .int a1, .int a2] : List Value).toArray 4)
  rw [lg_entry_eq]
  generalize (lg_sl ([.ref a0, .int a1, .int a2]) ++ List.replicate (4 - (lg_sl ([.ref a0, .int a1, .int a2])).length) Slot.unset).toArray = ls at hl ⊢
  have hl : lv_has ls 4 [(0, .ref a0), (1, .int a1), (2, .int a2)] := hl
  refine lv_iload_n hx hb dX11_watcher_0 rfl (lv_at hl 2 rfl) (hp_n (n := 1) rfl ?_)
  have J9 : ∀ (Hh_1 : Heap) (Lh_1 : List Loc) (Bh_1 : hp_B Γ (cw w_X11_watcher) s α α Hh_1 Lh_1) (ls : Array Slot) (hl : lv_has ls 4 [(0, .ref a0)]), W p l e (hp_rm 1 0 0) s m ([.ref a0, .int a1, .int a2] : List Value).toArray below meth c Hh_1 Lh_1 0 0 (MQ below (hp_Qi Γ (fun r β => cw w_X11_watcher α β)) ([.ref a0, .int a1, .int a2] : List Value).toArray s 0 0 (hp_A Γ)) (F0 m 9 ls []) := by
    intro Hh_1 Lh_1 Bh_1 ls hl
    refine lv_aload_n hx hb dX11_watcher_9 rfl (lv_at hl 0 rfl) (hp_n (n := 10) rfl ?_)
    refine lv_iconst (v := 1) hx hb dX11_watcher_10 (by decide) (hp_n (n := 11) rfl ?_)
    refine q_ci (pc' := 14) Bh_1 (hp_runV (As := [.int 1]) (rest := []) C Bh_1 (t_X11_refuse Γ l α Bh_1.2.2.1 a0 (cw_k Bh_1.2.2 k0) 1) lb_X11_refuse lv_X11_refuse lk_X11_98 (cw_k Bh_1.2.2 k0) rfl (by decide) rfl hl.1 rfl (Nat.le_of_ble_eq_true rfl) dX11_watcher_11 ⟨Nat.le_refl _, Nat.le_refl _⟩) (fun _ _ h => cw_tr Bh_1.2.2 h (by decide)) rfl (fun rh_2 αh_2 Hh_2 Lh_2 ph_2 Bh_2 => ?_)
    exact q_iret C Bh_2 hr hlk Bh_2.2.2 dX11_watcher_14
  refine lv_if_lt (tgt := 9) hx hb dX11_watcher_1 (by decide) (fun c_3 => ?_) (fun c_3 => hp_n (n := 4) rfl ?_)
  ·
    have jc_3 := il_lt c_3
    exact J9 s.heap [] B ls (lv_sub hl [0] rfl)
  ·
    have jc_3 := il_nlt c_3
    refine lv_iload_n hx hb dX11_watcher_4 rfl (lv_at hl 2 rfl) (hp_n (n := 5) rfl ?_)
    refine lv_iconst (v := 3) hx hb dX11_watcher_5 (by decide) (hp_n (n := 6) rfl ?_)
    refine lv_icmp_le (tgt := 15) hx hb dX11_watcher_6 (by decide) (fun c_4 => ?_) (fun c_4 => hp_n (n := 9) rfl ?_)
    ·
      have jc_4 := il_le c_4
      refine lv_aload_n hx hb dX11_watcher_15 rfl (lv_at hl 0 rfl) (hp_n (n := 16) rfl ?_)
      refine q_getr (κ := 12) (k := 1) (φ := 601) (pc' := 19) C B (cw_k B.2.2 k0) fl_X11_16 rfl rfl rfl (cw_r B.2.2 k0 rfl rfl (by decide) (by decide)) dX11_watcher_16 rfl (fun b_5 eb_5 kb_5 => ?_)
      refine lv_iload_n hx hb dX11_watcher_19 rfl (lv_at hl 1 rfl) (hp_n (n := 20) rfl ?_)
      refine q_cq (pc' := 23) B (hp_runV (As := [.int a1]) (rest := []) C B (t_X10_watcherAt Γ l α B.2.2.1 b_5 (cw_k B.2.2 kb_5) a1) lb_X10_watcherAt lv_X10_watcherAt lk_X11_220 (cw_k B.2.2 kb_5) rfl (by decide) rfl hl.1 rfl (Nat.le_of_ble_eq_true rfl) dX11_watcher_20 ⟨Nat.le_refl _, Nat.le_refl _⟩) (fun _ _ h => by rw [h.1]; exact B.2.2) rfl (fun rh_6 αh_6 Hh_6 Lh_6 ph_6 Bh_6 => ?_)
      rw [ph_6.1] at Bh_6
      rcases rh_6 with _ | bh_6
      ·
        refine lv_astore_nN (lv' := [(3, .null), (0, .ref a0), (1, .int a1), (2, .int a2)]) hx hb dX11_watcher_23 rfl hl (by decide) rfl (fun ls hl => hp_n (n := 24) rfl ?_)
        refine lv_aload_nN hx hb dX11_watcher_24 rfl (lv_at hl 0 rfl) (hp_n (n := 25) rfl ?_)
        refine lv_ifnonnullN hx hb dX11_watcher_25 (hp_n (n := 28) rfl ?_)
        refine lv_aload_n hx hb dX11_watcher_28 rfl (lv_at hl 1 rfl) (hp_n (n := 29) rfl ?_)
        refine lv_iconst (v := 2) hx hb dX11_watcher_29 (by decide) (hp_n (n := 30) rfl ?_)
        refine q_ci (pc' := 33) Bh_6 (hp_runV (As := [.int 2]) (rest := []) C Bh_6 (t_X11_refuse Γ l α Bh_6.2.2.1 a0 (cw_k Bh_6.2.2 k0) 2) lb_X11_refuse lv_X11_refuse lk_X11_98 (cw_k Bh_6.2.2 k0) rfl (by decide) rfl hl.1 rfl (Nat.le_of_ble_eq_true rfl) dX11_watcher_30 ⟨Nat.le_refl _, Nat.le_refl _⟩) (fun _ _ h => cw_tr Bh_6.2.2 h (by decide)) rfl (fun rh_7 αh_7 Hh_7 Lh_7 ph_7 Bh_7 => ?_)
        exact q_iret C Bh_7 hr hlk Bh_7.2.2 dX11_watcher_33
      ·
        have kbh_6 : hp_K α bh_6 = 8 := cw_k' Bh_6.2.2 (ph_6.2 bh_6 rfl)
        refine lv_astore_n (lv' := [(3, .ref bh_6), (0, .ref a0), (1, .int a1), (2, .int a2)]) hx hb dX11_watcher_23 rfl hl (by decide) rfl (fun ls hl => hp_n (n := 24) rfl ?_)
        refine lv_aload_n hx hb dX11_watcher_24 rfl (lv_at hl 0 rfl) (hp_n (n := 25) rfl ?_)
        refine lv_ifnonnull (tgt := 34) hx hb dX11_watcher_25 (by decide) ?_
        refine lv_iload_n hx hb dX11_watcher_34 rfl (lv_at hl 3 rfl) (hp_n (n := 35) rfl ?_)
        by_cases c_8 : a2 = 0
        · have jc_8 := il_eq c_8
          refine lv_tableIn (off := 25) (tgt := 60) hx hb dX11_watcher_35 (by omega) (by omega) (by rw [jc_8, lit0]; rfl) (by decide) ?_
          refine lv_aload_n hx hb dX11_watcher_60 rfl (lv_at hl 1 rfl) (hp_n (n := 61) rfl ?_)
          refine lv_aload_n hx hb dX11_watcher_61 rfl (lv_at hl 0 rfl) (hp_n (n := 62) rfl ?_)
          refine q_geti (κ := 8) (k := 0) (φ := 400) (pc' := 65) C Bh_6 (cw_k Bh_6.2.2 kbh_6) fl_X11_224 rfl rfl rfl dX11_watcher_62 rfl (fun x_9 ex_9 => ?_)
          refine q_ci (pc' := 68) Bh_6 (hp_runV (As := [.int x_9]) (rest := []) C Bh_6 (t_X11_answer Γ l α Bh_6.2.2.1 a0 (cw_k Bh_6.2.2 k0) x_9) lb_X11_answer lv_X11_answer lk_X11_115 (cw_k Bh_6.2.2 k0) rfl (by decide) rfl hl.1 rfl (Nat.le_of_ble_eq_true rfl) dX11_watcher_65 ⟨Nat.le_refl _, Nat.le_refl _⟩) (fun _ _ h => cw_tr Bh_6.2.2 h (by decide)) rfl (fun rh_10 αh_10 Hh_10 Lh_10 ph_10 Bh_10 => ?_)
          exact q_iret C Bh_10 hr hlk Bh_10.2.2 dX11_watcher_68
        have jc_8 := il_ne c_8
        by_cases c_11 : a2 = 1
        · have jc_11 := il_eq c_11
          refine lv_tableIn (off := 34) (tgt := 69) hx hb dX11_watcher_35 (by omega) (by omega) (by rw [jc_11, lit1]; rfl) (by decide) ?_
          refine lv_aload_n hx hb dX11_watcher_69 rfl (lv_at hl 1 rfl) (hp_n (n := 70) rfl ?_)
          refine lv_aload_n hx hb dX11_watcher_70 rfl (lv_at hl 0 rfl) (hp_n (n := 71) rfl ?_)
          refine q_geti (κ := 8) (k := 1) (φ := 401) (pc' := 74) C Bh_6 (cw_k Bh_6.2.2 kbh_6) fl_X11_227 rfl rfl rfl dX11_watcher_71 rfl (fun x_12 ex_12 => ?_)
          refine q_ci (pc' := 77) Bh_6 (hp_runV (As := [.int x_12]) (rest := []) C Bh_6 (t_X11_answer Γ l α Bh_6.2.2.1 a0 (cw_k Bh_6.2.2 k0) x_12) lb_X11_answer lv_X11_answer lk_X11_115 (cw_k Bh_6.2.2 k0) rfl (by decide) rfl hl.1 rfl (Nat.le_of_ble_eq_true rfl) dX11_watcher_74 ⟨Nat.le_refl _, Nat.le_refl _⟩) (fun _ _ h => cw_tr Bh_6.2.2 h (by decide)) rfl (fun rh_13 αh_13 Hh_13 Lh_13 ph_13 Bh_13 => ?_)
          exact q_iret C Bh_13 hr hlk Bh_13.2.2 dX11_watcher_77
        have jc_11 := il_ne c_11
        by_cases c_14 : a2 = 2
        · have jc_14 := il_eq c_14
          refine lv_tableIn (off := 43) (tgt := 78) hx hb dX11_watcher_35 (by omega) (by omega) (by rw [jc_14, lit2]; rfl) (by decide) ?_
          refine lv_aload_n hx hb dX11_watcher_78 rfl (lv_at hl 1 rfl) (hp_n (n := 79) rfl ?_)
          refine lv_aload_n hx hb dX11_watcher_79 rfl (lv_at hl 0 rfl) (hp_n (n := 80) rfl ?_)
          refine q_geti (κ := 8) (k := 3) (φ := 403) (pc' := 83) C Bh_6 (cw_k Bh_6.2.2 kbh_6) fl_X11_230 rfl rfl rfl dX11_watcher_80 rfl (fun x_15 ex_15 => ?_)
          refine lv_if_eq (tgt := 90) hx hb dX11_watcher_83 (by decide) (fun c_16 => ?_) (fun c_16 => hp_n (n := 86) rfl ?_)
          ·
            have jc_16 := il_eq c_16
            refine lv_iconst (v := 0) hx hb dX11_watcher_90 (by decide) (hp_n (n := 91) rfl ?_)
            refine q_ci (pc' := 94) Bh_6 (hp_runV (As := [.int 0]) (rest := []) C Bh_6 (t_X11_answer Γ l α Bh_6.2.2.1 a0 (cw_k Bh_6.2.2 k0) 0) lb_X11_answer lv_X11_answer lk_X11_115 (cw_k Bh_6.2.2 k0) rfl (by decide) rfl hl.1 rfl (Nat.le_of_ble_eq_true rfl) dX11_watcher_91 ⟨Nat.le_refl _, Nat.le_refl _⟩) (fun _ _ h => cw_tr Bh_6.2.2 h (by decide)) rfl (fun rh_17 αh_17 Hh_17 Lh_17 ph_17 Bh_17 => ?_)
            exact q_iret C Bh_17 hr hlk Bh_17.2.2 dX11_watcher_94
          ·
            have jc_16 := il_ne c_16
            refine lv_iconst (v := 1) hx hb dX11_watcher_86 (by decide) (hp_n (n := 87) rfl ?_)
            refine lv_goto (tgt := 91) hx hb dX11_watcher_87 (by decide) ?_
            refine q_ci (pc' := 94) Bh_6 (hp_runV (As := [.int 1]) (rest := []) C Bh_6 (t_X11_answer Γ l α Bh_6.2.2.1 a0 (cw_k Bh_6.2.2 k0) 1) lb_X11_answer lv_X11_answer lk_X11_115 (cw_k Bh_6.2.2 k0) rfl (by decide) rfl hl.1 rfl (Nat.le_of_ble_eq_true rfl) dX11_watcher_91 ⟨Nat.le_refl _, Nat.le_refl _⟩) (fun _ _ h => cw_tr Bh_6.2.2 h (by decide)) rfl (fun rh_18 αh_18 Hh_18 Lh_18 ph_18 Bh_18 => ?_)
            exact q_iret C Bh_18 hr hlk Bh_18.2.2 dX11_watcher_94
        have jc_14 := il_ne c_14
        refine lv_tableOut (tgt := 95) hx hb dX11_watcher_35 (by omega) (by decide) ?_
        refine lv_aload_n hx hb dX11_watcher_95 rfl (lv_at hl 1 rfl) (hp_n (n := 96) rfl ?_)
        refine lv_aload_n hx hb dX11_watcher_96 rfl (lv_at hl 0 rfl) (hp_n (n := 97) rfl ?_)
        refine q_geti (κ := 8) (k := 2) (φ := 402) (pc' := 100) C Bh_6 (cw_k Bh_6.2.2 kbh_6) fl_X11_234 rfl rfl rfl dX11_watcher_97 rfl (fun x_19 ex_19 => ?_)
        refine q_ci (pc' := 103) Bh_6 (hp_runV (As := [.int x_19]) (rest := []) C Bh_6 (t_X11_answer Γ l α Bh_6.2.2.1 a0 (cw_k Bh_6.2.2 k0) x_19) lb_X11_answer lv_X11_answer lk_X11_115 (cw_k Bh_6.2.2 k0) rfl (by decide) rfl hl.1 rfl (Nat.le_of_ble_eq_true rfl) dX11_watcher_100 ⟨Nat.le_refl _, Nat.le_refl _⟩) (fun _ _ h => cw_tr Bh_6.2.2 h (by decide)) rfl (fun rh_20 αh_20 Hh_20 Lh_20 ph_20 Bh_20 => ?_)
        exact q_iret C Bh_20 hr hlk Bh_20.2.2 dX11_watcher_103
    ·
      have jc_4 := il_nle c_4
      exact J9 s.heap [] B ls (lv_sub hl [0] rfl)
end JN3_7
