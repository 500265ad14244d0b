theorem pf_J9_min_7cf53 : plainFor yJ9_min_7cf53 = true := by decide +kernel
theorem pf_J9_max_7cf53 : plainFor yJ9_max_7cf53 = true := by decide +kernel
theorem pf_J9_floorMod_f86c9 : plainFor yJ9_floorMod_f86c9 = true := by decide +kernel
abbrev w_J9_min_7cf53 : cw_W := ([], [], [], [])
set_option maxRecDepth 100000 in
set_option maxHeartbeats 4000000 in
theorem t_J9_min_7cf53 (Γ : hp_G) (l : Launch) (α : hp_T) (g : GC α) (a0 : Int32) (a1 : Int32) : Met l yJ9_min_7cf53 (hp_ws yJ9_min_7cf53 cJ9_min_7cf53 2 (some .int)) (hp_rm 0 0 0) (hp_Pc Γ α [.int a0, .int a1]) (hp_Qi Γ (fun r β => β = α ∧ r.toInt ≤ a0.toInt ∧ r.toInt ≤ a1.toInt ∧ (r.toInt = a0.toInt ∨ r.toInt = a1.toInt))) 0 0 (hp_A Γ) := by
  refine hp_startF pf_J9_min_7cf53 ?_
  intro p e s m below meth c C hr hlk B0 hnm
  have C : hp_C Γ p m c cJ9_min_7cf53 2 s ([.int a0, .int a1] : List Value).toArray RJ9 := C
  have hx := C.1.1
  have hb := C.1.2.1
  have hown := C.1.2.2.2.1
  have hts := C.1.2.2.2.2
  have B : hp_B Γ (cw w_J9_min_7cf53) s α α s.heap [] := ⟨B0.1, B0.2.1, cw_rf g⟩
  have hl := lv_entry ([.int a0, .int a1]) (n := 2) (Nat.le_of_ble_eq_true rfl)
  show W p l e (hp_rm 0 0 0) s m ([.int a0, .int a1] : List Value).toArray below meth c s.heap [] 0 0 (MQ below (hp_Qi Γ (fun r β => β = α ∧ r.toInt ≤ a0.toInt ∧ r.toInt ≤ a1.toInt ∧ (r.toInt = a0.toInt ∨ r.toInt = a1.toInt))) ([.int a0, .int a1] : List Value).toArray s 0 0 (hp_A Γ)) (entryFrame m ([.int a0, .int a1] : List Value).toArray 2)
  rw [lg_entry_eq]
  generalize (lg_sl ([.int a0, .int a1]) ++ List.replicate (2 - (lg_sl ([.int a0, .int a1])).length) Slot.unset).toArray = ls at hl ⊢
  have hl : lv_has ls 2 [(0, .int a0), (1, .int a1)] := hl
  refine lv_iload_n hx hb dJ9_min_7cf53_0 rfl (lv_at hl 0 rfl) (hp_n (n := 1) rfl ?_)
  refine lv_iload_n hx hb dJ9_min_7cf53_1 rfl (lv_at hl 1 rfl) (hp_n (n := 2) rfl ?_)
  refine lv_icmp_gt (tgt := 9) hx hb dJ9_min_7cf53_2 (by decide) (fun c_1 => ?_) (fun c_1 => hp_n (n := 5) rfl ?_)
  ·
    have jc_1 := il_lt c_1
    refine lv_iload_n hx hb dJ9_min_7cf53_9 rfl (lv_at hl 1 rfl) (hp_n (n := 10) rfl ?_)
    exact q_iret C B hr hlk ⟨rfl, by omega, by omega, by first | exact Or.inl rfl | exact Or.inr rfl⟩ dJ9_min_7cf53_10
  ·
    have jc_1 := il_nlt c_1
    refine lv_iload_n hx hb dJ9_min_7cf53_5 rfl (lv_at hl 0 rfl) (hp_n (n := 6) rfl ?_)
    refine lv_goto (tgt := 10) hx hb dJ9_min_7cf53_6 (by decide) ?_
    exact q_iret C B hr hlk ⟨rfl, by omega, by omega, by first | exact Or.inl rfl | exact Or.inr rfl⟩ dJ9_min_7cf53_10
abbrev w_J9_max_7cf53 : cw_W := ([], [], [], [])
set_option maxRecDepth 100000 in
set_option maxHeartbeats 4000000 in
theorem t_J9_max_7cf53 (Γ : hp_G) (l : Launch) (α : hp_T) (g : GC α) (a0 : Int32) (a1 : Int32) : Met l yJ9_max_7cf53 (hp_ws yJ9_max_7cf53 cJ9_max_7cf53 2 (some .int)) (hp_rm 0 0 0) (hp_Pc Γ α [.int a0, .int a1]) (hp_Qi Γ (fun r β => β = α ∧ a0.toInt ≤ r.toInt ∧ a1.toInt ≤ r.toInt ∧ (r.toInt = a0.toInt ∨ r.toInt = a1.toInt))) 0 0 (hp_A Γ) := by
  refine hp_startF pf_J9_max_7cf53 ?_
  intro p e s m below meth c C hr hlk B0 hnm
  have C : hp_C Γ p m c cJ9_max_7cf53 2 s ([.int a0, .int a1] : List Value).toArray RJ9 := C
  have hx := C.1.1
  have hb := C.1.2.1
  have hown := C.1.2.2.2.1
  have hts := C.1.2.2.2.2
  have B : hp_B Γ (cw w_J9_max_7cf53) s α α s.heap [] := ⟨B0.1, B0.2.1, cw_rf g⟩
  have hl := lv_entry ([.int a0, .int a1]) (n := 2) (Nat.le_of_ble_eq_true rfl)
  show W p l e (hp_rm 0 0 0) s m ([.int a0, .int a1] : List Value).toArray below meth c s.heap [] 0 0 (MQ below (hp_Qi Γ (fun r β => β = α ∧ a0.toInt ≤ r.toInt ∧ a1.toInt ≤ r.toInt ∧ (r.toInt = a0.toInt ∨ r.toInt = a1.toInt))) ([.int a0, .int a1] : List Value).toArray s 0 0 (hp_A Γ)) (entryFrame m ([.int a0, .int a1] : List Value).toArray 2)
  rw [lg_entry_eq]
  generalize (lg_sl ([.int a0, .int a1]) ++ List.replicate (2 - (lg_sl ([.int a0, .int a1])).length) Slot.unset).toArray = ls at hl ⊢
  have hl : lv_has ls 2 [(0, .int a0), (1, .int a1)] := hl
  refine lv_iload_n hx hb dJ9_max_7cf53_0 rfl (lv_at hl 0 rfl) (hp_n (n := 1) rfl ?_)
  refine lv_iload_n hx hb dJ9_max_7cf53_1 rfl (lv_at hl 1 rfl) (hp_n (n := 2) rfl ?_)
  refine lv_icmp_lt (tgt := 9) hx hb dJ9_max_7cf53_2 (by decide) (fun c_1 => ?_) (fun c_1 => hp_n (n := 5) rfl ?_)
  ·
    have jc_1 := il_lt c_1
    refine lv_iload_n hx hb dJ9_max_7cf53_9 rfl (lv_at hl 1 rfl) (hp_n (n := 10) rfl ?_)
    exact q_iret C B hr hlk ⟨rfl, by omega, by omega, by first | exact Or.inl rfl | exact Or.inr rfl⟩ dJ9_max_7cf53_10
  ·
    have jc_1 := il_nlt c_1
    refine lv_iload_n hx hb dJ9_max_7cf53_5 rfl (lv_at hl 0 rfl) (hp_n (n := 6) rfl ?_)
    refine lv_goto (tgt := 10) hx hb dJ9_max_7cf53_6 (by decide) ?_
    exact q_iret C B hr hlk ⟨rfl, by omega, by omega, by first | exact Or.inl rfl | exact Or.inr rfl⟩ dJ9_max_7cf53_10
abbrev w_J6_numberOfLeadingZeros_0f7a4 : cw_W := ([], [], [], [])
set_option maxRecDepth 100000 in
set_option maxHeartbeats 4000000 in
theorem t_J6_numberOfLeadingZeros_0f7a4 (Γ : hp_G) (l : Launch) (α : hp_T) (g : GC α) (a0 : Int32) : Met l yJ6_numberOfLeadingZeros_0f7a4 (hp_ws yJ6_numberOfLeadingZeros_0f7a4 cJ6_numberOfLeadingZeros_0f7a4 2 (some .int)) (hp_rm 0 0 0) (hp_Pc Γ α [.int a0]) (hp_Qi Γ (fun r β => β = α)) 0 0 (hp_A Γ) := by
  refine hp_start (by decide) ?_
  intro p e s m below meth c C hr hlk B0 hnm
  have C : hp_C Γ p m c cJ6_numberOfLeadingZeros_0f7a4 2 s ([.int a0] : List Value).toArray RJ6 := C
  have hx := C.1.1
  have hb := C.1.2.1
  have hown := C.1.2.2.2.1
  have hts := C.1.2.2.2.2
  have B : hp_B Γ (cw w_J6_numberOfLeadingZeros_0f7a4) s α α s.heap [] := ⟨B0.1, B0.2.1, cw_rf g⟩
  have litm16 : ((-16) : Int32).toInt = (-16) := by decide
  have litm8 : ((-8) : Int32).toInt = (-8) := by decide
  have litm4 : ((-4) : Int32).toInt = (-4) := by decide
  have litm2 : ((-2) : Int32).toInt = (-2) := by decide
  have lit0 : (0 : Int32).toInt = 0 := by decide
  have lit1 : (1 : Int32).toInt = 1 := by decide
  have lit2 : (2 : Int32).toInt = 2 := by decide
  have lit4 : (4 : Int32).toInt = 4 := by decide
  have lit8 : (8 : Int32).toInt = 8 := by decide
  have lit16 : (16 : Int32).toInt = 16 := by decide
  have lit31 : (31 : Int32).toInt = 31 := by decide
  have lit32 : (32 : Int32).toInt = 32 := by decide
  have lit256 : (256 : Int32).toInt = 256 := by decide
  have lit65536 : (65536 : Int32).toInt = 65536 := by decide
  have hl := lv_entry ([.int a0]) (n := 2) (Nat.le_of_ble_eq_true rfl)
  show W p l e (hp_rm 0 0 0) s m ([.int a0] : List Value).toArray below meth c s.heap [] 0 0 (MQ below (hp_Qi Γ (fun r β => β = α)) ([.int a0] : List Value).toArray s 0 0 (hp_A Γ)) (entryFrame m ([.int a0] : List Value).toArray 2)
  rw [lg_entry_eq]
  generalize (lg_sl ([.int a0]) ++ List.replicate (2 - (lg_sl ([.int a0])).length) Slot.unset).toArray = ls at hl ⊢
  have hl : lv_has ls 2 [(0, .int a0)] := hl
  refine lv_iload_n hx hb dJ6_numberOfLeadingZeros_0f7a4_0 rfl (lv_at hl 0 rfl) (hp_n (n := 1) rfl ?_)
  refine lv_if_gt (tgt := 15) hx hb dJ6_numberOfLeadingZeros_0f7a4_1 (by decide) (fun c_1 => ?_) (fun c_1 => hp_n (n := 4) rfl ?_)
  ·
    have jc_1 := il_lt c_1
    refine lv_bipush (v := 31) hx hb dJ6_numberOfLeadingZeros_0f7a4_15 (by decide) (hp_n (n := 17) rfl ?_)
    refine lv_istore_n (lv' := [(1, .int 31), (0, .int a0)]) hx hb dJ6_numberOfLeadingZeros_0f7a4_17 rfl hl (by decide) rfl (fun ls hl => hp_n (n := 18) rfl ?_)
    refine lv_iload_n hx hb dJ6_numberOfLeadingZeros_0f7a4_18 rfl (lv_at hl 1 rfl) (hp_n (n := 19) rfl ?_)
    refine lv_ldcw hx hb hown (hts _ kc_J6_264) dJ6_numberOfLeadingZeros_0f7a4_19 (hp_n (n := 22) rfl ?_)
    have J33 : ∀ (Hh_2 : Heap) (Lh_2 : List Loc) (Bh_2 : hp_B Γ (cw w_J6_numberOfLeadingZeros_0f7a4) s α α Hh_2 Lh_2) (v0_h_2 : Int32) (v1_h_2 : Int32) (ls : Array Slot) (hl : lv_has ls 2 [(0, .int v0_h_2), (1, .int v1_h_2)]), W p l e (hp_rm 0 0 0) s m ([.int a0] : List Value).toArray below meth c Hh_2 Lh_2 0 0 (MQ below (hp_Qi Γ (fun r β => β = α)) ([.int a0] : List Value).toArray s 0 0 (hp_A Γ)) (F0 m 33 ls []) := by
      intro Hh_2 Lh_2 Bh_2 v0_h_2 v1_h_2 ls hl
      refine lv_iload_n hx hb dJ6_numberOfLeadingZeros_0f7a4_33 rfl (lv_at hl 0 rfl) (hp_n (n := 34) rfl ?_)
      refine lv_sipush (v := 256) hx hb dJ6_numberOfLeadingZeros_0f7a4_34 (by decide) (hp_n (n := 37) rfl ?_)
      have J48 : ∀ (Hh_3 : Heap) (Lh_3 : List Loc) (Bh_3 : hp_B Γ (cw w_J6_numberOfLeadingZeros_0f7a4) s α α Hh_3 Lh_3) (v0_h_3 : Int32) (v1_h_3 : Int32) (ls : Array Slot) (hl : lv_has ls 2 [(0, .int v0_h_3), (1, .int v1_h_3)]), W p l e (hp_rm 0 0 0) s m ([.int a0] : List Value).toArray below meth c Hh_3 Lh_3 0 0 (MQ below (hp_Qi Γ (fun r β => β = α)) ([.int a0] : List Value).toArray s 0 0 (hp_A Γ)) (F0 m 48 ls []) := by
        intro Hh_3 Lh_3 Bh_3 v0_h_3 v1_h_3 ls hl
        refine lv_iload_n hx hb dJ6_numberOfLeadingZeros_0f7a4_48 rfl (lv_at hl 0 rfl) (hp_n (n := 49) rfl ?_)
        refine lv_bipush (v := 16) hx hb dJ6_numberOfLeadingZeros_0f7a4_49 (by decide) (hp_n (n := 51) rfl ?_)
        have J61 : ∀ (Hh_4 : Heap) (Lh_4 : List Loc) (Bh_4 : hp_B Γ (cw w_J6_numberOfLeadingZeros_0f7a4) s α α Hh_4 Lh_4) (v0_h_4 : Int32) (v1_h_4 : Int32) (ls : Array Slot) (hl : lv_has ls 2 [(0, .int v0_h_4), (1, .int v1_h_4)]), W p l e (hp_rm 0 0 0) s m ([.int a0] : List Value).toArray below meth c Hh_4 Lh_4 0 0 (MQ below (hp_Qi Γ (fun r β => β = α)) ([.int a0] : List Value).toArray s 0 0 (hp_A Γ)) (F0 m 61 ls []) := by
          intro Hh_4 Lh_4 Bh_4 v0_h_4 v1_h_4 ls hl
          refine lv_iload_n hx hb dJ6_numberOfLeadingZeros_0f7a4_61 rfl (lv_at hl 0 rfl) (hp_n (n := 62) rfl ?_)
          refine lv_iconst (v := 4) hx hb dJ6_numberOfLeadingZeros_0f7a4_62 (by decide) (hp_n (n := 63) rfl ?_)
          have J73 : ∀ (Hh_5 : Heap) (Lh_5 : List Loc) (Bh_5 : hp_B Γ (cw w_J6_numberOfLeadingZeros_0f7a4) s α α Hh_5 Lh_5) (v0_h_5 : Int32) (v1_h_5 : Int32) (ls : Array Slot) (hl : lv_has ls 2 [(0, .int v0_h_5), (1, .int v1_h_5)]), W p l e (hp_rm 0 0 0) s m ([.int a0] : List Value).toArray below meth c Hh_5 Lh_5 0 0 (MQ below (hp_Qi Γ (fun r β => β = α)) ([.int a0] : List Value).toArray s 0 0 (hp_A Γ)) (F0 m 73 ls []) := by
            intro Hh_5 Lh_5 Bh_5 v0_h_5 v1_h_5 ls hl
            refine lv_iload_n hx hb dJ6_numberOfLeadingZeros_0f7a4_73 rfl (lv_at hl 1 rfl) (hp_n (n := 74) rfl ?_)
            refine lv_iload_n hx hb dJ6_numberOfLeadingZeros_0f7a4_74 rfl (lv_at hl 0 rfl) (hp_n (n := 75) rfl ?_)
            refine lv_iconst (v := 1) hx hb dJ6_numberOfLeadingZeros_0f7a4_75 (by decide) (hp_n (n := 76) rfl ?_)
            refine lv_iushr hx hb dJ6_numberOfLeadingZeros_0f7a4_76 rfl (hp_n (n := 77) rfl (lv_topi (fun x_6 ex_6 => ?_)))
            refine lv_isub hx hb dJ6_numberOfLeadingZeros_0f7a4_77 (hp_n (n := 78) rfl (lv_topi (fun x_7 ex_7 => ?_)))
            exact q_iret C Bh_5 hr hlk rfl dJ6_numberOfLeadingZeros_0f7a4_78
          refine lv_icmp_lt (tgt := 73) hx hb dJ6_numberOfLeadingZeros_0f7a4_63 (by decide) (fun c_8 => ?_) (fun c_8 => hp_n (n := 66) rfl ?_)
          ·
            have jc_8 := il_lt c_8
            exact J73 Hh_4 Lh_4 Bh_4 v0_h_4 v1_h_4 ls (lv_sub hl [0, 1] rfl)
          ·
            have jc_8 := il_nlt c_8
            obtain ⟨x_9, ex_9⟩ : ∃ y : Int32, y = v1_h_4 + (-2) := ⟨_, rfl⟩
            refine lv_iinc (v := x_9) (lv' := [(1, .int x_9), (0, .int v0_h_4)]) hx hb dJ6_numberOfLeadingZeros_0f7a4_66 hl (k := 1) rfl (by rw [ex_9]; rfl) (by decide) rfl (fun ls hl => hp_n (n := 69) rfl ?_)
            refine lv_iload_n hx hb dJ6_numberOfLeadingZeros_0f7a4_69 rfl (lv_at hl 1 rfl) (hp_n (n := 70) rfl ?_)
            refine lv_iconst (v := 2) hx hb dJ6_numberOfLeadingZeros_0f7a4_70 (by decide) (hp_n (n := 71) rfl ?_)
            refine lv_iushr hx hb dJ6_numberOfLeadingZeros_0f7a4_71 rfl (hp_n (n := 72) rfl (lv_topi (fun x_10 ex_10 => ?_)))
            refine lv_istore_n (lv' := [(0, .int x_10), (1, .int x_9)]) hx hb dJ6_numberOfLeadingZeros_0f7a4_72 rfl hl (by decide) rfl (fun ls hl => hp_n (n := 73) rfl ?_)
            exact J73 Hh_4 Lh_4 Bh_4 x_10 x_9 ls (lv_sub hl [0, 1] rfl)
        refine lv_icmp_lt (tgt := 61) hx hb dJ6_numberOfLeadingZeros_0f7a4_51 (by decide) (fun c_11 => ?_) (fun c_11 => hp_n (n := 54) rfl ?_)
        ·
          have jc_11 := il_lt c_11
          exact J61 Hh_3 Lh_3 Bh_3 v0_h_3 v1_h_3 ls (lv_sub hl [0, 1] rfl)
        ·
          have jc_11 := il_nlt c_11
          obtain ⟨x_12, ex_12⟩ : ∃ y : Int32, y = v1_h_3 + (-4) := ⟨_, rfl⟩
          refine lv_iinc (v := x_12) (lv' := [(1, .int x_12), (0, .int v0_h_3)]) hx hb dJ6_numberOfLeadingZeros_0f7a4_54 hl (k := 1) rfl (by rw [ex_12]; rfl) (by decide) rfl (fun ls hl => hp_n (n := 57) rfl ?_)
          refine lv_iload_n hx hb dJ6_numberOfLeadingZeros_0f7a4_57 rfl (lv_at hl 1 rfl) (hp_n (n := 58) rfl ?_)
          refine lv_iconst (v := 4) hx hb dJ6_numberOfLeadingZeros_0f7a4_58 (by decide) (hp_n (n := 59) rfl ?_)
          refine lv_iushr hx hb dJ6_numberOfLeadingZeros_0f7a4_59 rfl (hp_n (n := 60) rfl (lv_topi (fun x_13 ex_13 => ?_)))
          refine lv_istore_n (lv' := [(0, .int x_13), (1, .int x_12)]) hx hb dJ6_numberOfLeadingZeros_0f7a4_60 rfl hl (by decide) rfl (fun ls hl => hp_n (n := 61) rfl ?_)
          exact J61 Hh_3 Lh_3 Bh_3 x_13 x_12 ls (lv_sub hl [0, 1] rfl)
      refine lv_icmp_lt (tgt := 48) hx hb dJ6_numberOfLeadingZeros_0f7a4_37 (by decide) (fun c_14 => ?_) (fun c_14 => hp_n (n := 40) rfl ?_)
      ·
        have jc_14 := il_lt c_14
        exact J48 Hh_2 Lh_2 Bh_2 v0_h_2 v1_h_2 ls (lv_sub hl [0, 1] rfl)
      ·
        have jc_14 := il_nlt c_14
        obtain ⟨x_15, ex_15⟩ : ∃ y : Int32, y = v1_h_2 + (-8) := ⟨_, rfl⟩
        refine lv_iinc (v := x_15) (lv' := [(1, .int x_15), (0, .int v0_h_2)]) hx hb dJ6_numberOfLeadingZeros_0f7a4_40 hl (k := 1) rfl (by rw [ex_15]; rfl) (by decide) rfl (fun ls hl => hp_n (n := 43) rfl ?_)
        refine lv_iload_n hx hb dJ6_numberOfLeadingZeros_0f7a4_43 rfl (lv_at hl 1 rfl) (hp_n (n := 44) rfl ?_)
        refine lv_bipush (v := 8) hx hb dJ6_numberOfLeadingZeros_0f7a4_44 (by decide) (hp_n (n := 46) rfl ?_)
        refine lv_iushr hx hb dJ6_numberOfLeadingZeros_0f7a4_46 rfl (hp_n (n := 47) rfl (lv_topi (fun x_16 ex_16 => ?_)))
        refine lv_istore_n (lv' := [(0, .int x_16), (1, .int x_15)]) hx hb dJ6_numberOfLeadingZeros_0f7a4_47 rfl hl (by decide) rfl (fun ls hl => hp_n (n := 48) rfl ?_)
        exact J48 Hh_2 Lh_2 Bh_2 x_16 x_15 ls (lv_sub hl [0, 1] rfl)
    refine lv_icmp_lt (tgt := 33) hx hb dJ6_numberOfLeadingZeros_0f7a4_22 (by decide) (fun c_17 => ?_) (fun c_17 => hp_n (n := 25) rfl ?_)
    ·
      have jc_17 := il_lt c_17
      exact J33 s.heap [] B a0 31 ls (lv_sub hl [1, 0] rfl)
    ·
      have jc_17 := il_nlt c_17
      obtain ⟨x_18, ex_18⟩ : ∃ y : Int32, y = 31 + (-16) := ⟨_, rfl⟩
      refine lv_iinc (v := x_18) (lv' := [(1, .int x_18), (0, .int a0)]) hx hb dJ6_numberOfLeadingZeros_0f7a4_25 hl (k := 0) rfl (by rw [ex_18]; rfl) (by decide) rfl (fun ls hl => hp_n (n := 28) rfl ?_)
      refine lv_iload_n hx hb dJ6_numberOfLeadingZeros_0f7a4_28 rfl (lv_at hl 1 rfl) (hp_n (n := 29) rfl ?_)
      refine lv_bipush (v := 16) hx hb dJ6_numberOfLeadingZeros_0f7a4_29 (by decide) (hp_n (n := 31) rfl ?_)
      refine lv_iushr hx hb dJ6_numberOfLeadingZeros_0f7a4_31 rfl (hp_n (n := 32) rfl (lv_topi (fun x_19 ex_19 => ?_)))
      refine lv_istore_n (lv' := [(0, .int x_19), (1, .int x_18)]) hx hb dJ6_numberOfLeadingZeros_0f7a4_32 rfl hl (by decide) rfl (fun ls hl => hp_n (n := 33) rfl ?_)
      exact J33 s.heap [] B x_19 x_18 ls (lv_sub hl [0, 1] rfl)
  ·
    have jc_1 := il_nlt c_1
    refine lv_iload_n hx hb dJ6_numberOfLeadingZeros_0f7a4_4 rfl (lv_at hl 0 rfl) (hp_n (n := 5) rfl ?_)
    refine lv_if_ne (tgt := 13) hx hb dJ6_numberOfLeadingZeros_0f7a4_5 (by decide) (fun c_20 => ?_) (fun c_20 => hp_n (n := 8) rfl ?_)
    ·
      have jc_20 := il_ne c_20
      refine lv_iconst (v := 0) hx hb dJ6_numberOfLeadingZeros_0f7a4_13 (by decide) (hp_n (n := 14) rfl ?_)
      exact q_iret C B hr hlk rfl dJ6_numberOfLeadingZeros_0f7a4_14
    ·
      have jc_20 := il_eq c_20
      refine lv_bipush (v := 32) hx hb dJ6_numberOfLeadingZeros_0f7a4_8 (by decide) (hp_n (n := 10) rfl ?_)
      refine lv_goto (tgt := 14) hx hb dJ6_numberOfLeadingZeros_0f7a4_10 (by decide) ?_
      exact q_iret C B hr hlk rfl dJ6_numberOfLeadingZeros_0f7a4_14
abbrev w_J6_highestOneBit_0f7a4 : cw_W := ([], [], [], [])
set_option maxRecDepth 100000 in
set_option maxHeartbeats 4000000 in
theorem t_J6_highestOneBit_0f7a4 (Γ : hp_G) (l : Launch) (α : hp_T) (g : GC α) (a0 : Int32) : Met l yJ6_highestOneBit_0f7a4 (hp_ws yJ6_highestOneBit_0f7a4 cJ6_highestOneBit_0f7a4 1 (some .int)) (hp_rm 1 0 0) (hp_Pc Γ α [.int a0]) (hp_Qi Γ (fun r β => β = α)) 0 0 (hp_A Γ) := by
  refine hp_start (by decide) ?_
  intro p e s m below meth c C hr hlk B0 hnm
  have C : hp_C Γ p m c cJ6_highestOneBit_0f7a4 1 s ([.int a0] : List Value).toArray RJ6 := C
  have hx := C.1.1
  have hb := C.1.2.1
  have hown := C.1.2.2.2.1
  have hts := C.1.2.2.2.2
  have B : hp_B Γ (cw w_J6_highestOneBit_0f7a4) s α α s.heap [] := ⟨B0.1, B0.2.1, cw_rf g⟩
  have litm2147483648 : ((-2147483648) : Int32).toInt = (-2147483648) := by decide
  have hl := lv_entry ([.int a0]) (n := 1) (Nat.le_of_ble_eq_true rfl)
  show W p l e (hp_rm 1 0 0) s m ([.int a0] : List Value).toArray below meth c s.heap [] 0 0 (MQ below (hp_Qi Γ (fun r β => β = α)) ([.int a0] : List Value).toArray s 0 0 (hp_A Γ)) (entryFrame m ([.int a0] : List Value).toArray 1)
  rw [lg_entry_eq]
  generalize (lg_sl ([.int a0]) ++ List.replicate (1 - (lg_sl ([.int a0])).length) Slot.unset).toArray = ls at hl ⊢
  have hl : lv_has ls 1 [(0, .int a0)] := hl
  refine lv_iload_n hx hb dJ6_highestOneBit_0f7a4_0 rfl (lv_at hl 0 rfl) (hp_n (n := 1) rfl ?_)
  refine lv_ldc hx hb hown (hts _ kc_J6_127) dJ6_highestOneBit_0f7a4_1 (hp_n (n := 3) rfl ?_)
  refine lv_iload_n hx hb dJ6_highestOneBit_0f7a4_3 rfl (lv_at hl 0 rfl) (hp_n (n := 4) rfl ?_)
  refine q_ci (pc' := 7) B (hp_runS (As := [.int a0]) (rest := [.int (-2147483648), .int a0]) C B (t_J6_numberOfLeadingZeros_0f7a4 Γ l α B.2.2.1 a0) lb_J6_numberOfLeadingZeros_0f7a4 ls_J6_numberOfLeadingZeros_0f7a4 lk_J6_51 rfl (by decide) rfl hl.1 rfl (Nat.le_of_ble_eq_true rfl) dJ6_highestOneBit_0f7a4_4 ⟨Nat.le_refl _, Nat.le_refl _⟩) (fun _ _ h => by rw [h]; exact B.2.2) rfl (fun rh_1 αh_1 Hh_1 Lh_1 ph_1 Bh_1 => ?_)
  rw [ph_1] at Bh_1
  refine lv_iushr hx hb dJ6_highestOneBit_0f7a4_7 rfl (hp_n (n := 8) rfl (lv_topi (fun x_2 ex_2 => ?_)))
  refine lv_iand hx hb dJ6_highestOneBit_0f7a4_8 (hp_n (n := 9) rfl (lv_topi (fun x_3 ex_3 => ?_)))
  exact q_iret C Bh_1 hr hlk rfl dJ6_highestOneBit_0f7a4_9
abbrev w_J6_bitCount_0f7a4 : cw_W := ([], [], [], [])
set_option maxRecDepth 100000 in
set_option maxHeartbeats 4000000 in
theorem t_J6_bitCount_0f7a4 (Γ : hp_G) (l : Launch) (α : hp_T) (g : GC α) (a0 : Int32) : Met l yJ6_bitCount_0f7a4 (hp_ws yJ6_bitCount_0f7a4 cJ6_bitCount_0f7a4 1 (some .int)) (hp_rm 0 0 0) (hp_Pc Γ α [.int a0]) (hp_Qi Γ (fun r β => β = α)) 0 0 (hp_A Γ) := by
  refine hp_start (by decide) ?_
  intro p e s m below meth c C hr hlk B0 hnm
  have C : hp_C Γ p m c cJ6_bitCount_0f7a4 1 s ([.int a0] : List Value).toArray RJ6 := C
  have hx := C.1.1
  have hb := C.1.2.1
  have hown := C.1.2.2.2.1
  have hts := C.1.2.2.2.2
  have B : hp_B Γ (cw w_J6_bitCount_0f7a4) s α α s.heap [] := ⟨B0.1, B0.2.1, cw_rf g⟩
  have lit1 : (1 : Int32).toInt = 1 := by decide
  have lit2 : (2 : Int32).toInt = 2 := by decide
  have lit4 : (4 : Int32).toInt = 4 := by decide
  have lit8 : (8 : Int32).toInt = 8 := by decide
  have lit16 : (16 : Int32).toInt = 16 := by decide
  have lit63 : (63 : Int32).toInt = 63 := by decide
  have lit252645135 : (252645135 : Int32).toInt = 252645135 := by decide
  have lit858993459 : (858993459 : Int32).toInt = 858993459 := by decide
  have lit1431655765 : (1431655765 : Int32).toInt = 1431655765 := by decide
  have hl := lv_entry ([.int a0]) (n := 1) (Nat.le_of_ble_eq_true rfl)
  show W p l e (hp_rm 0 0 0) s m ([.int a0] : List Value).toArray below meth c s.heap [] 0 0 (MQ below (hp_Qi Γ (fun r β => β = α)) ([.int a0] : List Value).toArray s 0 0 (hp_A Γ)) (entryFrame m ([.int a0] : List Value).toArray 1)
  rw [lg_entry_eq]
  generalize (lg_sl ([.int a0]) ++ List.replicate (1 - (lg_sl ([.int a0])).length) Slot.unset).toArray = ls at hl ⊢
  have hl : lv_has ls 1 [(0, .int a0)] := hl
  refine lv_iload_n hx hb dJ6_bitCount_0f7a4_0 rfl (lv_at hl 0 rfl) (hp_n (n := 1) rfl ?_)
  refine lv_iload_n hx hb dJ6_bitCount_0f7a4_1 rfl (lv_at hl 0 rfl) (hp_n (n := 2) rfl ?_)
  refine lv_iconst (v := 1) hx hb dJ6_bitCount_0f7a4_2 (by decide) (hp_n (n := 3) rfl ?_)
  refine lv_iushr hx hb dJ6_bitCount_0f7a4_3 rfl (hp_n (n := 4) rfl (lv_topi (fun x_1 ex_1 => ?_)))
  refine lv_ldcw hx hb hown (hts _ kc_J6_265) dJ6_bitCount_0f7a4_4 (hp_n (n := 7) rfl ?_)
  refine lv_iand hx hb dJ6_bitCount_0f7a4_7 (hp_n (n := 8) rfl (lv_topi (fun x_2 ex_2 => ?_)))
  refine lv_isub hx hb dJ6_bitCount_0f7a4_8 (hp_n (n := 9) rfl (lv_topi (fun x_3 ex_3 => ?_)))
  refine lv_istore_n (lv' := [(0, .int x_3)]) hx hb dJ6_bitCount_0f7a4_9 rfl hl (by decide) rfl (fun ls hl => hp_n (n := 10) rfl ?_)
  refine lv_iload_n hx hb dJ6_bitCount_0f7a4_10 rfl (lv_at hl 0 rfl) (hp_n (n := 11) rfl ?_)
  refine lv_ldcw hx hb hown (hts _ kc_J6_266) dJ6_bitCount_0f7a4_11 (hp_n (n := 14) rfl ?_)
  refine lv_iand hx hb dJ6_bitCount_0f7a4_14 (hp_n (n := 15) rfl (lv_topi (fun x_4 ex_4 => ?_)))
  refine lv_iload_n hx hb dJ6_bitCount_0f7a4_15 rfl (lv_at hl 0 rfl) (hp_n (n := 16) rfl ?_)
  refine lv_iconst (v := 2) hx hb dJ6_bitCount_0f7a4_16 (by decide) (hp_n (n := 17) rfl ?_)
  refine lv_iushr hx hb dJ6_bitCount_0f7a4_17 rfl (hp_n (n := 18) rfl (lv_topi (fun x_5 ex_5 => ?_)))
  refine lv_ldcw hx hb hown (hts _ kc_J6_266) dJ6_bitCount_0f7a4_18 (hp_n (n := 21) rfl ?_)
  refine lv_iand hx hb dJ6_bitCount_0f7a4_21 (hp_n (n := 22) rfl (lv_topi (fun x_6 ex_6 => ?_)))
  refine lv_iadd hx hb dJ6_bitCount_0f7a4_22 (hp_n (n := 23) rfl (lv_topi (fun x_7 ex_7 => ?_)))
  refine lv_istore_n (lv' := [(0, .int x_7)]) hx hb dJ6_bitCount_0f7a4_23 rfl hl (by decide) rfl (fun ls hl => hp_n (n := 24) rfl ?_)
  refine lv_iload_n hx hb dJ6_bitCount_0f7a4_24 rfl (lv_at hl 0 rfl) (hp_n (n := 25) rfl ?_)
  refine lv_iload_n hx hb dJ6_bitCount_0f7a4_25 rfl (lv_at hl 0 rfl) (hp_n (n := 26) rfl ?_)
  refine lv_iconst (v := 4) hx hb dJ6_bitCount_0f7a4_26 (by decide) (hp_n (n := 27) rfl ?_)
  refine lv_iushr hx hb dJ6_bitCount_0f7a4_27 rfl (hp_n (n := 28) rfl (lv_topi (fun x_8 ex_8 => ?_)))
  refine lv_iadd hx hb dJ6_bitCount_0f7a4_28 (hp_n (n := 29) rfl (lv_topi (fun x_9 ex_9 => ?_)))
  refine lv_ldcw hx hb hown (hts _ kc_J6_267) dJ6_bitCount_0f7a4_29 (hp_n (n := 32) rfl ?_)
  refine lv_iand hx hb dJ6_bitCount_0f7a4_32 (hp_n (n := 33) rfl (lv_topi (fun x_10 ex_10 => ?_)))
  refine lv_istore_n (lv' := [(0, .int x_10)]) hx hb dJ6_bitCount_0f7a4_33 rfl hl (by decide) rfl (fun ls hl => hp_n (n := 34) rfl ?_)
  refine lv_iload_n hx hb dJ6_bitCount_0f7a4_34 rfl (lv_at hl 0 rfl) (hp_n (n := 35) rfl ?_)
  refine lv_iload_n hx hb dJ6_bitCount_0f7a4_35 rfl (lv_at hl 0 rfl) (hp_n (n := 36) rfl ?_)
  refine lv_bipush (v := 8) hx hb dJ6_bitCount_0f7a4_36 (by decide) (hp_n (n := 38) rfl ?_)
  refine lv_iushr hx hb dJ6_bitCount_0f7a4_38 rfl (hp_n (n := 39) rfl (lv_topi (fun x_11 ex_11 => ?_)))
  refine lv_iadd hx hb dJ6_bitCount_0f7a4_39 (hp_n (n := 40) rfl (lv_topi (fun x_12 ex_12 => ?_)))
  refine lv_istore_n (lv' := [(0, .int x_12)]) hx hb dJ6_bitCount_0f7a4_40 rfl hl (by decide) rfl (fun ls hl => hp_n (n := 41) rfl ?_)
  refine lv_iload_n hx hb dJ6_bitCount_0f7a4_41 rfl (lv_at hl 0 rfl) (hp_n (n := 42) rfl ?_)
  refine lv_iload_n hx hb dJ6_bitCount_0f7a4_42 rfl (lv_at hl 0 rfl) (hp_n (n := 43) rfl ?_)
  refine lv_bipush (v := 16) hx hb dJ6_bitCount_0f7a4_43 (by decide) (hp_n (n := 45) rfl ?_)
  refine lv_iushr hx hb dJ6_bitCount_0f7a4_45 rfl (hp_n (n := 46) rfl (lv_topi (fun x_13 ex_13 => ?_)))
  refine lv_iadd hx hb dJ6_bitCount_0f7a4_46 (hp_n (n := 47) rfl (lv_topi (fun x_14 ex_14 => ?_)))
  refine lv_istore_n (lv' := [(0, .int x_14)]) hx hb dJ6_bitCount_0f7a4_47 rfl hl (by decide) rfl (fun ls hl => hp_n (n := 48) rfl ?_)
  refine lv_iload_n hx hb dJ6_bitCount_0f7a4_48 rfl (lv_at hl 0 rfl) (hp_n (n := 49) rfl ?_)
  refine lv_bipush (v := 63) hx hb dJ6_bitCount_0f7a4_49 (by decide) (hp_n (n := 51) rfl ?_)
  refine lv_iand hx hb dJ6_bitCount_0f7a4_51 (hp_n (n := 52) rfl (lv_topi (fun x_15 ex_15 => ?_)))
  exact q_iret C B hr hlk rfl dJ6_bitCount_0f7a4_52
abbrev w_J9_floorMod_f86c9 : cw_W := ([], [], [], [])
set_option maxRecDepth 100000 in
set_option maxHeartbeats 4000000 in
theorem t_J9_floorMod_f86c9 (Γ : hp_G) (l : Launch) (α : hp_T) (g : GC α) (a0 : Int64) (a1 : Int64) (hz : ¬ a1 = 0) : Met l yJ9_floorMod_f86c9 (hp_ws yJ9_floorMod_f86c9 cJ9_floorMod_f86c9 6 (some .long)) (hp_rm 0 0 0) (hp_Pc Γ α [.long a0, .long a1]) (hp_Ql Γ (fun r β => β = α)) 0 0 (hp_A Γ) := by
  refine hp_startF pf_J9_floorMod_f86c9 ?_
  intro p e s m below meth c C hr hlk B0 hnm
  have C : hp_C Γ p m c cJ9_floorMod_f86c9 6 s ([.long a0, .long a1] : List Value).toArray RJ9 := C
  have hx := C.1.1
  have hb := C.1.2.1
  have hown := C.1.2.2.2.1
  have hts := C.1.2.2.2.2
  have B : hp_B Γ (cw w_J9_floorMod_f86c9) s α α s.heap [] := ⟨B0.1, B0.2.1, cw_rf g⟩
  have lit0 : (0 : Int32).toInt = 0 := by decide
  have hl := lv_entry ([.long a0, .long a1]) (n := 6) (Nat.le_of_ble_eq_true rfl)
  show W p l e (hp_rm 0 0 0) s m ([.long a0, .long a1] : List Value).toArray below meth c s.heap [] 0 0 (MQ below (hp_Ql Γ (fun r β => β = α)) ([.long a0, .long a1] : List Value).toArray s 0 0 (hp_A Γ)) (entryFrame m ([.long a0, .long a1] : List Value).toArray 6)
  rw [lg_entry_eq]
  generalize (lg_sl ([.long a0, .long a1]) ++ List.replicate (6 - (lg_sl ([.long a0, .long a1])).length) Slot.unset).toArray = ls at hl ⊢
  have hl : lv_has ls 6 [(0, .long a0), (2, .long a1)] := hl
  refine lv_lload_n hx hb dJ9_floorMod_f86c9_0 rfl (lv_at hl 0 rfl) (hp_n (n := 1) rfl ?_)
  refine lv_lload_n hx hb dJ9_floorMod_f86c9_1 rfl (lv_at hl 1 rfl) (hp_n (n := 2) rfl ?_)
  refine lv_lrem hx hb dJ9_floorMod_f86c9_2 (by exact hz) (hp_n (n := 3) rfl (lv_topl (fun x_1 ex_1 => ?_)))
  refine lv_lstore (lv' := [(4, .long x_1), (0, .long a0), (2, .long a1)]) hx hb dJ9_floorMod_f86c9_3 hl (by decide) rfl (fun ls hl => hp_n (n := 5) rfl ?_)
  refine lv_lload_n hx hb dJ9_floorMod_f86c9_5 rfl (lv_at hl 1 rfl) (hp_n (n := 6) rfl ?_)
  refine lv_lload_n hx hb dJ9_floorMod_f86c9_6 rfl (lv_at hl 2 rfl) (hp_n (n := 7) rfl ?_)
  refine lv_lxor hx hb dJ9_floorMod_f86c9_7 (hp_n (n := 8) rfl (lv_topl (fun x_2 ex_2 => ?_)))
  refine lv_lconst (v := 0) hx hb dJ9_floorMod_f86c9_8 rfl (hp_n (n := 9) rfl ?_)
  refine W.lcmp hx hb dJ9_floorMod_f86c9_9 (hp_n (n := 10) rfl (lv_topi (fun x_3 ex_3 => ?_)))
  refine lv_if_ge (tgt := 25) hx hb dJ9_floorMod_f86c9_10 (by decide) (fun c_4 => ?_) (fun c_4 => hp_n (n := 13) rfl ?_)
  ·
    have jc_4 := il_le c_4
    refine lv_lload hx hb dJ9_floorMod_f86c9_25 (lv_at hl 0 rfl) (hp_n (n := 27) rfl ?_)
    exact q_lret C B hr hlk rfl dJ9_floorMod_f86c9_27
  ·
    have jc_4 := il_nle c_4
    refine lv_lload hx hb dJ9_floorMod_f86c9_13 (lv_at hl 0 rfl) (hp_n (n := 15) rfl ?_)
    refine lv_lconst (v := 0) hx hb dJ9_floorMod_f86c9_15 rfl (hp_n (n := 16) rfl ?_)
    refine W.lcmp hx hb dJ9_floorMod_f86c9_16 (hp_n (n := 17) rfl (lv_topi (fun x_5 ex_5 => ?_)))
    refine lv_if_eq (tgt := 25) hx hb dJ9_floorMod_f86c9_17 (by decide) (fun c_6 => ?_) (fun c_6 => hp_n (n := 20) rfl ?_)
    ·
      have jc_6 := il_eq c_6
      refine lv_lload hx hb dJ9_floorMod_f86c9_25 (lv_at hl 0 rfl) (hp_n (n := 27) rfl ?_)
      exact q_lret C B hr hlk rfl dJ9_floorMod_f86c9_27
    ·
      have jc_6 := il_ne c_6
      refine lv_lload hx hb dJ9_floorMod_f86c9_20 (lv_at hl 0 rfl) (hp_n (n := 22) rfl ?_)
      refine lv_lload_n hx hb dJ9_floorMod_f86c9_22 rfl (lv_at hl 2 rfl) (hp_n (n := 23) rfl ?_)
      refine lv_ladd hx hb dJ9_floorMod_f86c9_23 (hp_n (n := 24) rfl (lv_topl (fun x_7 ex_7 => ?_)))
      exact q_lret C B hr hlk rfl dJ9_floorMod_f86c9_24
