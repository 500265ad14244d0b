def f_J6_numberOfLeadingZeros_0f7a4_J73 (n : Nat) (v0_h5 : Int32) (v1_h5 : Int32) : Option Int32 :=
  some (v1_h5 - ((v0_h5).toUInt32 >>> (((1 : Int32)).toUInt32 &&& Int32.toUInt32 31)).toInt32)
def f_J6_numberOfLeadingZeros_0f7a4_J61 (n : Nat) (v0_h4 : Int32) (v1_h4 : Int32) : Option Int32 :=
  if v0_h4 < (4 : Int32) then
    f_J6_numberOfLeadingZeros_0f7a4_J73 n v0_h4 v1_h4
  else
    ms_l (v1_h4 + (-2)) fun x7 =>
    ms_l (((v0_h4).toUInt32 >>> (((2 : Int32)).toUInt32 &&& Int32.toUInt32 31)).toInt32) fun x8 =>
    f_J6_numberOfLeadingZeros_0f7a4_J73 n x8 x7
def f_J6_numberOfLeadingZeros_0f7a4_J48 (n : Nat) (v0_h3 : Int32) (v1_h3 : Int32) : Option Int32 :=
  if v0_h3 < (16 : Int32) then
    f_J6_numberOfLeadingZeros_0f7a4_J61 n v0_h3 v1_h3
  else
    ms_l (v1_h3 + (-4)) fun x10 =>
    ms_l (((v0_h3).toUInt32 >>> (((4 : Int32)).toUInt32 &&& Int32.toUInt32 31)).toInt32) fun x11 =>
    f_J6_numberOfLeadingZeros_0f7a4_J61 n x11 x10
def f_J6_numberOfLeadingZeros_0f7a4_J33 (n : Nat) (v0_h2 : Int32) (v1_h2 : Int32) : Option Int32 :=
  if v0_h2 < (256 : Int32) then
    f_J6_numberOfLeadingZeros_0f7a4_J48 n v0_h2 v1_h2
  else
    ms_l (v1_h2 + (-8)) fun x13 =>
    ms_l (((v0_h2).toUInt32 >>> (((8 : Int32)).toUInt32 &&& Int32.toUInt32 31)).toInt32) fun x14 =>
    f_J6_numberOfLeadingZeros_0f7a4_J48 n x14 x13
def f_J6_numberOfLeadingZeros_0f7a4 (n : Nat) (a0 : Int32) : Option Int32 :=
  if 0 < a0 then
    if a0 < (65536 : Int32) then
      f_J6_numberOfLeadingZeros_0f7a4_J33 n a0 (31 : Int32)
    else
      ms_l ((31 : Int32) + (-16)) fun x16 =>
      ms_l (((a0).toUInt32 >>> (((16 : Int32)).toUInt32 &&& Int32.toUInt32 31)).toInt32) fun x17 =>
      f_J6_numberOfLeadingZeros_0f7a4_J33 n x17 x16
  else
    if a0 = 0 then
      some (32 : Int32)
    else
      some (0 : Int32)
set_option maxRecDepth 100000 in
set_option maxHeartbeats 4000000 in
theorem n_J6_numberOfLeadingZeros_0f7a4 (n : Nat) (Γ : hp_G) (l : Launch) (α : hp_T) (g : GC α) (a0 : Int32) (res : Int32) (hf : f_J6_numberOfLeadingZeros_0f7a4 n a0 = some res) : Met l yJ6_numberOfLeadingZeros_0f7a4 (hp_ws yJ6_numberOfLeadingZeros_0f7a4 cJ6_numberOfLeadingZeros_0f7a4 2 (some .int)) (hp_rm 0 0 0) (hp_Pc Γ α [.int a0]) (hp_Qi Γ (fun r β => β = α ∧ r = res)) 0 0 (hp_A Γ) := by
  unfold f_J6_numberOfLeadingZeros_0f7a4 at hf
  refine hp_start (by decide) ?_
  intro p e s m below meth c C hr hlk B0 hnm
  have C : hp_C Γ p m c cJ6_numberOfLeadingZeros_0f7a4 2 s ([.int a0] : List Value).toArray RJ6 := C
  have hx := C.1.1
  have hb := C.1.2.1
  have hown := C.1.2.2.2.1
  have hts := C.1.2.2.2.2
  have B : hp_B Γ (cw w_J6_numberOfLeadingZeros_0f7a4) s α α s.heap [] := ⟨B0.1, B0.2.1, cw_rf g⟩
  have hl := lv_entry ([.int a0]) (n := 2) (Nat.le_of_ble_eq_true rfl)
  show W p l e (hp_rm 0 0 0) s m ([.int a0] : List Value).toArray below meth c s.heap [] 0 0 (MQ below (hp_Qi Γ (fun r β => β = α ∧ r = res)) ([.int a0] : List Value).toArray s 0 0 (hp_A Γ)) (entryFrame m ([.int a0] : List Value).toArray 2)
  rw [lg_entry_eq]
  generalize (lg_sl ([.int a0]) ++ List.replicate (2 - (lg_sl ([.int a0])).length) Slot.unset).toArray = ls at hl ⊢
  have hl : lv_has ls 2 [(0, .int a0)] := hl
  refine lv_iload_n hx hb dJ6_numberOfLeadingZeros_0f7a4_0 rfl (lv_at hl 0 rfl) (hp_n (n := 1) rfl ?_)
  refine lv_if_gt (tgt := 15) hx hb dJ6_numberOfLeadingZeros_0f7a4_1 (by decide) (fun c1 => ?_) (fun c1 => hp_n (n := 4) rfl ?_)
  ·
    replace hf := ms_iT c1 hf
    refine lv_bipush (v := 31) hx hb dJ6_numberOfLeadingZeros_0f7a4_15 (by decide) (hp_n (n := 17) rfl ?_)
    refine lv_istore_n (lv' := [(1, .int (31 : Int32)), (0, .int a0)]) hx hb dJ6_numberOfLeadingZeros_0f7a4_17 rfl hl (by decide) rfl (fun ls hl => hp_n (n := 18) rfl ?_)
    refine lv_iload_n hx hb dJ6_numberOfLeadingZeros_0f7a4_18 rfl (lv_at hl 1 rfl) (hp_n (n := 19) rfl ?_)
    refine lv_ldcw hx hb hown (hts _ kc_J6_264) dJ6_numberOfLeadingZeros_0f7a4_19 (hp_n (n := 22) rfl ?_)
    have J33 : ∀ (Hh2 : Heap) (Lh2 : List Loc) (Bh2 : hp_B Γ (cw w_J6_numberOfLeadingZeros_0f7a4) s α α Hh2 Lh2) (v0_h2 : Int32) (v1_h2 : Int32) (ls : Array Slot) (hl : lv_has ls 2 [(0, .int v0_h2), (1, .int v1_h2)]) (hf : f_J6_numberOfLeadingZeros_0f7a4_J33 n v0_h2 v1_h2 = some res), W p l e (hp_rm 0 0 0) s m ([.int a0] : List Value).toArray below meth c Hh2 Lh2 0 0 (MQ below (hp_Qi Γ (fun r β => β = α ∧ r = res)) ([.int a0] : List Value).toArray s 0 0 (hp_A Γ)) (F0 m 33 ls []) := by
      intro Hh2 Lh2 Bh2 v0_h2 v1_h2 ls hl hf
      unfold f_J6_numberOfLeadingZeros_0f7a4_J33 at hf
      refine lv_iload_n hx hb dJ6_numberOfLeadingZeros_0f7a4_33 rfl (lv_at hl 0 rfl) (hp_n (n := 34) rfl ?_)
      refine lv_sipush (v := 256) hx hb dJ6_numberOfLeadingZeros_0f7a4_34 (by decide) (hp_n (n := 37) rfl ?_)
      have J48 : ∀ (Hh3 : Heap) (Lh3 : List Loc) (Bh3 : hp_B Γ (cw w_J6_numberOfLeadingZeros_0f7a4) s α α Hh3 Lh3) (v0_h3 : Int32) (v1_h3 : Int32) (ls : Array Slot) (hl : lv_has ls 2 [(0, .int v0_h3), (1, .int v1_h3)]) (hf : f_J6_numberOfLeadingZeros_0f7a4_J48 n v0_h3 v1_h3 = some res), W p l e (hp_rm 0 0 0) s m ([.int a0] : List Value).toArray below meth c Hh3 Lh3 0 0 (MQ below (hp_Qi Γ (fun r β => β = α ∧ r = res)) ([.int a0] : List Value).toArray s 0 0 (hp_A Γ)) (F0 m 48 ls []) := by
        intro Hh3 Lh3 Bh3 v0_h3 v1_h3 ls hl hf
        unfold f_J6_numberOfLeadingZeros_0f7a4_J48 at hf
        refine lv_iload_n hx hb dJ6_numberOfLeadingZeros_0f7a4_48 rfl (lv_at hl 0 rfl) (hp_n (n := 49) rfl ?_)
        refine lv_bipush (v := 16) hx hb dJ6_numberOfLeadingZeros_0f7a4_49 (by decide) (hp_n (n := 51) rfl ?_)
        have J61 : ∀ (Hh4 : Heap) (Lh4 : List Loc) (Bh4 : hp_B Γ (cw w_J6_numberOfLeadingZeros_0f7a4) s α α Hh4 Lh4) (v0_h4 : Int32) (v1_h4 : Int32) (ls : Array Slot) (hl : lv_has ls 2 [(0, .int v0_h4), (1, .int v1_h4)]) (hf : f_J6_numberOfLeadingZeros_0f7a4_J61 n v0_h4 v1_h4 = some res), W p l e (hp_rm 0 0 0) s m ([.int a0] : List Value).toArray below meth c Hh4 Lh4 0 0 (MQ below (hp_Qi Γ (fun r β => β = α ∧ r = res)) ([.int a0] : List Value).toArray s 0 0 (hp_A Γ)) (F0 m 61 ls []) := by
          intro Hh4 Lh4 Bh4 v0_h4 v1_h4 ls hl hf
          unfold f_J6_numberOfLeadingZeros_0f7a4_J61 at hf
          refine lv_iload_n hx hb dJ6_numberOfLeadingZeros_0f7a4_61 rfl (lv_at hl 0 rfl) (hp_n (n := 62) rfl ?_)
          refine lv_iconst (v := 4) hx hb dJ6_numberOfLeadingZeros_0f7a4_62 (by decide) (hp_n (n := 63) rfl ?_)
          have J73 : ∀ (Hh5 : Heap) (Lh5 : List Loc) (Bh5 : hp_B Γ (cw w_J6_numberOfLeadingZeros_0f7a4) s α α Hh5 Lh5) (v0_h5 : Int32) (v1_h5 : Int32) (ls : Array Slot) (hl : lv_has ls 2 [(0, .int v0_h5), (1, .int v1_h5)]) (hf : f_J6_numberOfLeadingZeros_0f7a4_J73 n v0_h5 v1_h5 = some res), W p l e (hp_rm 0 0 0) s m ([.int a0] : List Value).toArray below meth c Hh5 Lh5 0 0 (MQ below (hp_Qi Γ (fun r β => β = α ∧ r = res)) ([.int a0] : List Value).toArray s 0 0 (hp_A Γ)) (F0 m 73 ls []) := by
            intro Hh5 Lh5 Bh5 v0_h5 v1_h5 ls hl hf
            unfold f_J6_numberOfLeadingZeros_0f7a4_J73 at hf
            refine lv_iload_n hx hb dJ6_numberOfLeadingZeros_0f7a4_73 rfl (lv_at hl 1 rfl) (hp_n (n := 74) rfl ?_)
            refine lv_iload_n hx hb dJ6_numberOfLeadingZeros_0f7a4_74 rfl (lv_at hl 0 rfl) (hp_n (n := 75) rfl ?_)
            refine lv_iconst (v := 1) hx hb dJ6_numberOfLeadingZeros_0f7a4_75 (by decide) (hp_n (n := 76) rfl ?_)
            refine lv_iushr hx hb dJ6_numberOfLeadingZeros_0f7a4_76 rfl (hp_n (n := 77) rfl ?_)
            refine lv_isub hx hb dJ6_numberOfLeadingZeros_0f7a4_77 (hp_n (n := 78) rfl ?_)
            cases hf
            exact q_iret C Bh5 hr hlk ⟨rfl, rfl⟩ dJ6_numberOfLeadingZeros_0f7a4_78
          refine lv_icmp_lt (tgt := 73) hx hb dJ6_numberOfLeadingZeros_0f7a4_63 (by decide) (fun c6 => ?_) (fun c6 => hp_n (n := 66) rfl ?_)
          ·
            replace hf := ms_iT c6 hf
            exact J73 Hh4 Lh4 Bh4 v0_h4 v1_h4 ls (lv_sub hl [0, 1] rfl) hf
          ·
            replace hf := ms_iF c6 hf
            obtain ⟨x7, ex7⟩ : ∃ y : Int32, y = v1_h4 + (-2) := ⟨_, rfl⟩
            replace hf := ms_lE ex7 hf
            refine lv_iinc (v := x7) (lv' := [(1, .int x7), (0, .int v0_h4)]) hx hb dJ6_numberOfLeadingZeros_0f7a4_66 hl (k := 1) rfl (by rw [ex7]; rfl) (by decide) rfl (fun ls hl => hp_n (n := 69) rfl ?_)
            refine lv_iload_n hx hb dJ6_numberOfLeadingZeros_0f7a4_69 rfl (lv_at hl 1 rfl) (hp_n (n := 70) rfl ?_)
            refine lv_iconst (v := 2) hx hb dJ6_numberOfLeadingZeros_0f7a4_70 (by decide) (hp_n (n := 71) rfl ?_)
            refine lv_iushr hx hb dJ6_numberOfLeadingZeros_0f7a4_71 rfl (hp_n (n := 72) rfl ?_)
            refine lv_topi (fun x8 ex8 => ?_)
            replace hf := ms_lE ex8 hf
            refine lv_istore_n (lv' := [(0, .int x8), (1, .int x7)]) hx hb dJ6_numberOfLeadingZeros_0f7a4_72 rfl hl (by decide) rfl (fun ls hl => hp_n (n := 73) rfl ?_)
            exact J73 Hh4 Lh4 Bh4 x8 x7 ls (lv_sub hl [0, 1] rfl) hf
        refine lv_icmp_lt (tgt := 61) hx hb dJ6_numberOfLeadingZeros_0f7a4_51 (by decide) (fun c9 => ?_) (fun c9 => hp_n (n := 54) rfl ?_)
        ·
          replace hf := ms_iT c9 hf
          exact J61 Hh3 Lh3 Bh3 v0_h3 v1_h3 ls (lv_sub hl [0, 1] rfl) hf
        ·
          replace hf := ms_iF c9 hf
          obtain ⟨x10, ex10⟩ : ∃ y : Int32, y = v1_h3 + (-4) := ⟨_, rfl⟩
          replace hf := ms_lE ex10 hf
          refine lv_iinc (v := x10) (lv' := [(1, .int x10), (0, .int v0_h3)]) hx hb dJ6_numberOfLeadingZeros_0f7a4_54 hl (k := 1) rfl (by rw [ex10]; rfl) (by decide) rfl (fun ls hl => hp_n (n := 57) rfl ?_)
          refine lv_iload_n hx hb dJ6_numberOfLeadingZeros_0f7a4_57 rfl (lv_at hl 1 rfl) (hp_n (n := 58) rfl ?_)
          refine lv_iconst (v := 4) hx hb dJ6_numberOfLeadingZeros_0f7a4_58 (by decide) (hp_n (n := 59) rfl ?_)
          refine lv_iushr hx hb dJ6_numberOfLeadingZeros_0f7a4_59 rfl (hp_n (n := 60) rfl ?_)
          refine lv_topi (fun x11 ex11 => ?_)
          replace hf := ms_lE ex11 hf
          refine lv_istore_n (lv' := [(0, .int x11), (1, .int x10)]) hx hb dJ6_numberOfLeadingZeros_0f7a4_60 rfl hl (by decide) rfl (fun ls hl => hp_n (n := 61) rfl ?_)
          exact J61 Hh3 Lh3 Bh3 x11 x10 ls (lv_sub hl [0, 1] rfl) hf
      refine lv_icmp_lt (tgt := 48) hx hb dJ6_numberOfLeadingZeros_0f7a4_37 (by decide) (fun c12 => ?_) (fun c12 => hp_n (n := 40) rfl ?_)
      ·
        replace hf := ms_iT c12 hf
        exact J48 Hh2 Lh2 Bh2 v0_h2 v1_h2 ls (lv_sub hl [0, 1] rfl) hf
      ·
        replace hf := ms_iF c12 hf
        obtain ⟨x13, ex13⟩ : ∃ y : Int32, y = v1_h2 + (-8) := ⟨_, rfl⟩
        replace hf := ms_lE ex13 hf
        refine lv_iinc (v := x13) (lv' := [(1, .int x13), (0, .int v0_h2)]) hx hb dJ6_numberOfLeadingZeros_0f7a4_40 hl (k := 1) rfl (by rw [ex13]; rfl) (by decide) rfl (fun ls hl => hp_n (n := 43) rfl ?_)
        refine lv_iload_n hx hb dJ6_numberOfLeadingZeros_0f7a4_43 rfl (lv_at hl 1 rfl) (hp_n (n := 44) rfl ?_)
        refine lv_bipush (v := 8) hx hb dJ6_numberOfLeadingZeros_0f7a4_44 (by decide) (hp_n (n := 46) rfl ?_)
        refine lv_iushr hx hb dJ6_numberOfLeadingZeros_0f7a4_46 rfl (hp_n (n := 47) rfl ?_)
        refine lv_topi (fun x14 ex14 => ?_)
        replace hf := ms_lE ex14 hf
        refine lv_istore_n (lv' := [(0, .int x14), (1, .int x13)]) hx hb dJ6_numberOfLeadingZeros_0f7a4_47 rfl hl (by decide) rfl (fun ls hl => hp_n (n := 48) rfl ?_)
        exact J48 Hh2 Lh2 Bh2 x14 x13 ls (lv_sub hl [0, 1] rfl) hf
    refine lv_icmp_lt (tgt := 33) hx hb dJ6_numberOfLeadingZeros_0f7a4_22 (by decide) (fun c15 => ?_) (fun c15 => hp_n (n := 25) rfl ?_)
    ·
      replace hf := ms_iT c15 hf
      exact J33 s.heap [] B a0 (31 : Int32) ls (lv_sub hl [1, 0] rfl) hf
    ·
      replace hf := ms_iF c15 hf
      obtain ⟨x16, ex16⟩ : ∃ y : Int32, y = (31 : Int32) + (-16) := ⟨_, rfl⟩
      replace hf := ms_lE ex16 hf
      refine lv_iinc (v := x16) (lv' := [(1, .int x16), (0, .int a0)]) hx hb dJ6_numberOfLeadingZeros_0f7a4_25 hl (k := 0) rfl (by rw [ex16]; rfl) (by decide) rfl (fun ls hl => hp_n (n := 28) rfl ?_)
      refine lv_iload_n hx hb dJ6_numberOfLeadingZeros_0f7a4_28 rfl (lv_at hl 1 rfl) (hp_n (n := 29) rfl ?_)
      refine lv_bipush (v := 16) hx hb dJ6_numberOfLeadingZeros_0f7a4_29 (by decide) (hp_n (n := 31) rfl ?_)
      refine lv_iushr hx hb dJ6_numberOfLeadingZeros_0f7a4_31 rfl (hp_n (n := 32) rfl ?_)
      refine lv_topi (fun x17 ex17 => ?_)
      replace hf := ms_lE ex17 hf
      refine lv_istore_n (lv' := [(0, .int x17), (1, .int x16)]) hx hb dJ6_numberOfLeadingZeros_0f7a4_32 rfl hl (by decide) rfl (fun ls hl => hp_n (n := 33) rfl ?_)
      exact J33 s.heap [] B x17 x16 ls (lv_sub hl [0, 1] rfl) hf
  ·
    replace hf := ms_iF c1 hf
    refine lv_iload_n hx hb dJ6_numberOfLeadingZeros_0f7a4_4 rfl (lv_at hl 0 rfl) (hp_n (n := 5) rfl ?_)
    refine lv_if_ne (tgt := 13) hx hb dJ6_numberOfLeadingZeros_0f7a4_5 (by decide) (fun c18 => ?_) (fun c18 => hp_n (n := 8) rfl ?_)
    ·
      replace hf := ms_iF c18 hf
      refine lv_iconst (v := 0) hx hb dJ6_numberOfLeadingZeros_0f7a4_13 (by decide) (hp_n (n := 14) rfl ?_)
      cases hf
      exact q_iret C B hr hlk ⟨rfl, rfl⟩ dJ6_numberOfLeadingZeros_0f7a4_14
    ·
      replace hf := ms_iT c18 hf
      refine lv_bipush (v := 32) hx hb dJ6_numberOfLeadingZeros_0f7a4_8 (by decide) (hp_n (n := 10) rfl ?_)
      refine lv_goto (tgt := 14) hx hb dJ6_numberOfLeadingZeros_0f7a4_10 (by decide) ?_
      cases hf
      exact q_iret C B hr hlk ⟨rfl, rfl⟩ dJ6_numberOfLeadingZeros_0f7a4_14
def f_J6_highestOneBit_0f7a4 (n : Nat) (a0 : Int32) : Option Int32 :=
  ms_b (f_J6_numberOfLeadingZeros_0f7a4 n a0) fun rh1 =>
  some (a0 &&& (((-2147483648 : Int32)).toUInt32 >>> ((rh1).toUInt32 &&& Int32.toUInt32 31)).toInt32)
set_option maxRecDepth 100000 in
set_option maxHeartbeats 4000000 in
theorem n_J6_highestOneBit_0f7a4 (n : Nat) (Γ : hp_G) (l : Launch) (α : hp_T) (g : GC α) (a0 : Int32) (res : Int32) (hf : f_J6_highestOneBit_0f7a4 n a0 = some res) : Met l yJ6_highestOneBit_0f7a4 (hp_ws yJ6_highestOneBit_0f7a4 cJ6_highestOneBit_0f7a4 1 (some .int)) (hp_rm 1 0 0) (hp_Pc Γ α [.int a0]) (hp_Qi Γ (fun r β => β = α ∧ r = res)) 0 0 (hp_A Γ) := by
  unfold f_J6_highestOneBit_0f7a4 at hf
  refine hp_start (by decide) ?_
  intro p e s m below meth c C hr hlk B0 hnm
  have C : hp_C Γ p m c cJ6_highestOneBit_0f7a4 1 s ([.int a0] : List Value).toArray RJ6 := C
  have hx := C.1.1
  have hb := C.1.2.1
  have hown := C.1.2.2.2.1
  have hts := C.1.2.2.2.2
  have B : hp_B Γ (cw w_J6_highestOneBit_0f7a4) s α α s.heap [] := ⟨B0.1, B0.2.1, cw_rf g⟩
  have hl := lv_entry ([.int a0]) (n := 1) (Nat.le_of_ble_eq_true rfl)
  show W p l e (hp_rm 1 0 0) s m ([.int a0] : List Value).toArray below meth c s.heap [] 0 0 (MQ below (hp_Qi Γ (fun r β => β = α ∧ r = res)) ([.int a0] : List Value).toArray s 0 0 (hp_A Γ)) (entryFrame m ([.int a0] : List Value).toArray 1)
  rw [lg_entry_eq]
  generalize (lg_sl ([.int a0]) ++ List.replicate (1 - (lg_sl ([.int a0])).length) Slot.unset).toArray = ls at hl ⊢
  have hl : lv_has ls 1 [(0, .int a0)] := hl
  refine lv_iload_n hx hb dJ6_highestOneBit_0f7a4_0 rfl (lv_at hl 0 rfl) (hp_n (n := 1) rfl ?_)
  refine lv_ldc hx hb hown (hts _ kc_J6_127) dJ6_highestOneBit_0f7a4_1 (hp_n (n := 3) rfl ?_)
  refine lv_iload_n hx hb dJ6_highestOneBit_0f7a4_3 rfl (lv_at hl 0 rfl) (hp_n (n := 4) rfl ?_)
  obtain ⟨rh1, qh1, hf⟩ := ms_bE hf
  refine d_pi (pc' := 7) B (hp_runS (As := [.int a0]) (rest := [.int (-2147483648 : Int32), .int a0]) C B (n_J6_numberOfLeadingZeros_0f7a4 n Γ l α B.2.2.1 a0 rh1 qh1) lb_J6_numberOfLeadingZeros_0f7a4 ls_J6_numberOfLeadingZeros_0f7a4 lk_J6_51 rfl (by decide) rfl hl.1 rfl (Nat.le_of_ble_eq_true rfl) dJ6_highestOneBit_0f7a4_4 ⟨Nat.le_refl _, Nat.le_refl _⟩) rfl (fun Hh1 Lh1 Bh1 => ?_)
  refine lv_iushr hx hb dJ6_highestOneBit_0f7a4_7 rfl (hp_n (n := 8) rfl ?_)
  refine lv_iand hx hb dJ6_highestOneBit_0f7a4_8 (hp_n (n := 9) rfl ?_)
  cases hf
  exact q_iret C Bh1 hr hlk ⟨rfl, rfl⟩ dJ6_highestOneBit_0f7a4_9
def f_X11_firstPartOf (n : Nat) (a0 : Int32) : Option Int32 :=
  if (2 : Int32) ≤ a0 then
    ms_b (f_J6_highestOneBit_0f7a4 n (a0 - (1 : Int32))) fun rh2 =>
    some rh2
  else
    some (0 : Int32)
set_option maxRecDepth 100000 in
set_option maxHeartbeats 4000000 in
theorem n_X11_firstPartOf (n : Nat) (Γ : hp_G) (l : Launch) (α : hp_T) (g : GC α) (a0 : Int32) (res : Int32) (hf : f_X11_firstPartOf n a0 = some res) : Met l yX11_firstPartOf (hp_ws yX11_firstPartOf cX11_firstPartOf 1 (some .int)) (hp_rm 2 0 0) (hp_Pc Γ α [.int a0]) (hp_Qi Γ (fun r β => β = α ∧ r = res)) 0 0 (hp_A Γ) := by
  unfold f_X11_firstPartOf at hf
  refine hp_start (by decide) ?_
  intro p e s m below meth c C hr hlk B0 hnm
  have C : hp_C Γ p m c cX11_firstPartOf 1 s ([.int a0] : List Value).toArray RX11 := C
  have hx := C.1.1
  have hb := C.1.2.1
  have hown := C.1.2.2.2.1
  have hts := C.1.2.2.2.2
  have B : hp_B Γ (cw w_X11_firstPartOf) s α α s.heap [] := ⟨B0.1, B0.2.1, cw_rf g⟩
  have hl := lv_entry ([.int a0]) (n := 1) (Nat.le_of_ble_eq_true rfl)
  show W p l e (hp_rm 2 0 0) s m ([.int a0] : List Value).toArray below meth c s.heap [] 0 0 (MQ below (hp_Qi Γ (fun r β => β = α ∧ r = res)) ([.int a0] : List Value).toArray s 0 0 (hp_A Γ)) (entryFrame m ([.int a0] : List Value).toArray 1)
  rw [lg_entry_eq]
  generalize (lg_sl ([.int a0]) ++ List.replicate (1 - (lg_sl ([.int a0])).length) Slot.unset).toArray = ls at hl ⊢
  have hl : lv_has ls 1 [(0, .int a0)] := hl
  refine lv_iload_n hx hb dX11_firstPartOf_0 rfl (lv_at hl 0 rfl) (hp_n (n := 1) rfl ?_)
  refine lv_iconst (v := 2) hx hb dX11_firstPartOf_1 (by decide) (hp_n (n := 2) rfl ?_)
  refine lv_icmp_ge (tgt := 9) hx hb dX11_firstPartOf_2 (by decide) (fun c1 => ?_) (fun c1 => hp_n (n := 5) rfl ?_)
  ·
    replace hf := ms_iT c1 hf
    refine lv_iload_n hx hb dX11_firstPartOf_9 rfl (lv_at hl 0 rfl) (hp_n (n := 10) rfl ?_)
    refine lv_iconst (v := 1) hx hb dX11_firstPartOf_10 (by decide) (hp_n (n := 11) rfl ?_)
    refine lv_isub hx hb dX11_firstPartOf_11 (hp_n (n := 12) rfl ?_)
    obtain ⟨rh2, qh2, hf⟩ := ms_bE hf
    refine d_pi (pc' := 15) B (hp_runS (As := [.int (a0 - (1 : Int32))]) (rest := []) C B (n_J6_highestOneBit_0f7a4 n Γ l α B.2.2.1 (a0 - (1 : Int32)) rh2 qh2) lb_J6_highestOneBit_0f7a4 ls_J6_highestOneBit_0f7a4 lk_X11_463 rfl (by decide) rfl hl.1 rfl (Nat.le_of_ble_eq_true rfl) dX11_firstPartOf_12 ⟨Nat.le_refl _, Nat.le_refl _⟩) rfl (fun Hh2 Lh2 Bh2 => ?_)
    cases hf
    exact q_iret C Bh2 hr hlk ⟨rfl, rfl⟩ dX11_firstPartOf_15
  ·
    replace hf := ms_iF c1 hf
    refine lv_iconst (v := 0) hx hb dX11_firstPartOf_5 (by decide) (hp_n (n := 6) rfl ?_)
    refine lv_goto (tgt := 15) hx hb dX11_firstPartOf_6 (by decide) ?_
    cases hf
    exact q_iret C B hr hlk ⟨rfl, rfl⟩ dX11_firstPartOf_15
def f_X8_clear (n : Nat) (α : hp_T) (a0 : Nat) : Option hp_T :=
  ms_l (hp_sI α 453 a0 (0 : Int32)) fun αh1 =>
  ms_l (hp_sI αh1 454 a0 (0 : Int32)) fun αh2 =>
  some αh2
set_option maxRecDepth 100000 in
set_option maxHeartbeats 4000000 in
theorem n_X8_clear (n : Nat) (Γ : hp_G) (l : Launch) (α : hp_T) (g : GC α) (a0 : Nat) (k0 : hp_K α a0 = 9) (res : hp_T) (hf : f_X8_clear n α a0 = some res) : Met l yX8_clear (hp_ws yX8_clear cX8_clear 1 none) (hp_rm 0 0 0) (hp_Pc Γ α [.ref a0]) (hp_Qv Γ (fun β => β = res ∧ cw w_X8_clear α β)) 0 0 (hp_A Γ) := by
  unfold f_X8_clear at hf
  refine hp_start (by decide) ?_
  intro p e s m below meth c C hr hlk B0 hnm
  have C : hp_C Γ p m c cX8_clear 1 s ([.ref a0] : List Value).toArray RX8 := C
  have hx := C.1.1
  have hb := C.1.2.1
  have hown := C.1.2.2.2.1
  have hts := C.1.2.2.2.2
  have B : hp_B Γ (cw w_X8_clear) s α α s.heap [] := ⟨B0.1, B0.2.1, cw_rf g⟩
  have hl := lv_entry ([.ref a0]) (n := 1) (Nat.le_of_ble_eq_true rfl)
  show W p l e (hp_rm 0 0 0) s m ([.ref a0] : List Value).toArray below meth c s.heap [] 0 0 (MQ below (hp_Qv Γ (fun β => β = res ∧ cw w_X8_clear α β)) ([.ref a0] : List Value).toArray s 0 0 (hp_A Γ)) (entryFrame m ([.ref a0] : List Value).toArray 1)
  rw [lg_entry_eq]
  generalize (lg_sl ([.ref a0]) ++ List.replicate (1 - (lg_sl ([.ref a0])).length) Slot.unset).toArray = ls at hl ⊢
  have hl : lv_has ls 1 [(0, .ref a0)] := hl
  refine lv_aload_n hx hb dX8_clear_0 rfl (lv_at hl 0 rfl) (hp_n (n := 1) rfl ?_)
  refine lv_iconst (v := 0) hx hb dX8_clear_1 (by decide) (hp_n (n := 2) rfl ?_)
  refine q_puti (κ := 9) (k := 3) (φ := 453) (pc' := 5) C B (cw_k B.2.2 k0) fl_X8_22 rfl rfl rfl rfl rfl rfl (cw_sI B.2.2 (by decide) (fun _ => by decide)) dX8_clear_2 rfl (fun αh1 Hh1 Lh1 eh1 Bh1 => ?_)
  replace hf := ms_lE eh1 hf
  refine lv_aload_n hx hb dX8_clear_5 rfl (lv_at hl 0 rfl) (hp_n (n := 6) rfl ?_)
  refine lv_iconst (v := 0) hx hb dX8_clear_6 (by decide) (hp_n (n := 7) rfl ?_)
  refine q_puti (κ := 9) (k := 4) (φ := 454) (pc' := 10) C Bh1 (cw_k Bh1.2.2 k0) fl_X8_26 rfl rfl rfl rfl rfl rfl (cw_sI Bh1.2.2 (by decide) (fun h => absurd h (by decide))) dX8_clear_7 rfl (fun αh2 Hh2 Lh2 eh2 Bh2 => ?_)
  replace hf := ms_lE eh2 hf
  cases hf
  exact q_vret C Bh2 hr hlk ⟨rfl, Bh2.2.2⟩ dX8_clear_10
def f_X8_put (n : Nat) (α : hp_T) (a0 : Nat) (a1 : Int32) (a2 : Int32) (a3 : Int32) : Option hp_T :=
  ms_l (hp_I α 453 a0) fun x1 =>
  if x1 < 0 then
    some α
  else
    ms_l (hp_I α 453 a0) fun x3 =>
    if (64 : Int32) ≤ x3 then
      some α
    else
      ms_l (hp_R α 450 a0) fun b5 =>
      ms_l (hp_I α 453 a0) fun x6 =>
      ms_g x6 64 <|
      ms_l (hp_sE α 21 b5 (x6).toNatClampNeg a1) fun αh8 =>
      ms_l (hp_R αh8 451 a0) fun b9 =>
      ms_l (hp_I αh8 453 a0) fun x10 =>
      ms_g x10 64 <|
      ms_l (hp_sE αh8 22 b9 (x10).toNatClampNeg a2) fun αh12 =>
      ms_l (hp_R αh12 452 a0) fun b13 =>
      ms_l (hp_I αh12 453 a0) fun x14 =>
      ms_g x14 64 <|
      ms_l (hp_sE αh12 23 b13 (x14).toNatClampNeg (a3 &&& 1)) fun αh16 =>
      ms_l (hp_I αh16 453 a0) fun x17 =>
      ms_g (x17 + (1 : Int32)) 65 <|
      ms_l (hp_sI αh16 453 a0 (x17 + (1 : Int32))) fun αh18 =>
      some αh18
set_option maxRecDepth 100000 in
set_option maxHeartbeats 4000000 in
theorem n_X8_put (n : Nat) (Γ : hp_G) (l : Launch) (α : hp_T) (g : GC α) (a0 : Nat) (k0 : hp_K α a0 = 9) (a1 : Int32) (a2 : Int32) (a3 : Int32) (res : hp_T) (hf : f_X8_put n α a0 a1 a2 a3 = some res) : Met l yX8_put (hp_ws yX8_put cX8_put 4 none) (hp_rm 0 0 0) (hp_Pc Γ α [.ref a0, .int a1, .int a2, .int a3]) (hp_Qv Γ (fun β => β = res ∧ cw w_X8_put α β)) 0 0 (hp_A Γ) := by
  unfold f_X8_put at hf
  refine hp_start (by decide) ?_
  intro p e s m below meth c C hr hlk B0 hnm
  have C : hp_C Γ p m c cX8_put 4 s ([.ref a0, .int a1, .int a2, .int a3] : List Value).toArray RX8 := C
  have hx := C.1.1
  have hb := C.1.2.1
  have hown := C.1.2.2.2.1
  have hts := C.1.2.2.2.2
  have B : hp_B Γ (cw w_X8_put) s α α s.heap [] := ⟨B0.1, B0.2.1, cw_rf g⟩
  have hl := lv_entry ([.ref a0, .int a1, .int a2, .int a3]) (n := 4) (Nat.le_of_ble_eq_true rfl)
  show W p l e (hp_rm 0 0 0) s m ([.ref a0, .int a1, .int a2, .int a3] : List Value).toArray below meth c s.heap [] 0 0 (MQ below (hp_Qv Γ (fun β => β = res ∧ cw w_X8_put α β)) ([.ref a0, .int a1, .int a2, .int a3] : List Value).toArray s 0 0 (hp_A Γ)) (entryFrame m ([.ref a0, .int a1, .int a2, .int a3] : List Value).toArray 4)
  rw [lg_entry_eq]
  generalize (lg_sl ([.ref a0, .int a1, .int a2, .int a3]) ++ List.replicate (4 - (lg_sl ([.ref a0, .int a1, .int a2, .int a3])).length) Slot.unset).toArray = ls at hl ⊢
  have hl : lv_has ls 4 [(0, .ref a0), (1, .int a1), (2, .int a2), (3, .int a3)] := hl
  refine lv_aload_n hx hb dX8_put_0 rfl (lv_at hl 0 rfl) (hp_n (n := 1) rfl ?_)
  refine q_geti (κ := 9) (k := 3) (φ := 453) (pc' := 4) C B (cw_k B.2.2 k0) fl_X8_22 rfl rfl rfl dX8_put_1 rfl (fun x1 ex1 => ?_)
  replace hf := ms_lE ex1 hf
  refine lv_if_lt (tgt := 56) hx hb dX8_put_4 (by decide) (fun c2 => ?_) (fun c2 => hp_n (n := 7) rfl ?_)
  ·
    replace hf := ms_iT c2 hf
    cases hf
    exact q_vret C B hr hlk ⟨rfl, B.2.2⟩ dX8_put_56
  ·
    replace hf := ms_iF c2 hf
    refine lv_aload_n hx hb dX8_put_7 rfl (lv_at hl 0 rfl) (hp_n (n := 8) rfl ?_)
    refine q_geti (κ := 9) (k := 3) (φ := 453) (pc' := 11) C B (cw_k B.2.2 k0) fl_X8_22 rfl rfl rfl dX8_put_8 rfl (fun x3 ex3 => ?_)
    replace hf := ms_lE ex3 hf
    refine lv_bipush (v := 64) hx hb dX8_put_11 (by decide) (hp_n (n := 13) rfl ?_)
    refine lv_icmp_ge (tgt := 56) hx hb dX8_put_13 (by decide) (fun c4 => ?_) (fun c4 => hp_n (n := 16) rfl ?_)
    ·
      replace hf := ms_iT c4 hf
      cases hf
      exact q_vret C B hr hlk ⟨rfl, B.2.2⟩ dX8_put_56
    ·
      replace hf := ms_iF c4 hf
      refine lv_aload_n hx hb dX8_put_16 rfl (lv_at hl 0 rfl) (hp_n (n := 17) rfl ?_)
      refine q_getr (κ := 9) (k := 0) (φ := 450) (pc' := 20) C B (cw_k B.2.2 k0) fl_X8_9 rfl rfl rfl (cw_r B.2.2 k0 rfl rfl (by decide) (by decide)) dX8_put_17 rfl (fun b5 eb5 kb5 => ?_)
      replace hf := ms_lE eb5 hf
      refine lv_aload_n hx hb dX8_put_20 rfl (lv_at hl 0 rfl) (hp_n (n := 21) rfl ?_)
      refine q_geti (κ := 9) (k := 3) (φ := 453) (pc' := 24) C B (cw_k B.2.2 k0) fl_X8_22 rfl rfl rfl dX8_put_21 rfl (fun x6 ex6 => ?_)
      replace hf := ms_lE ex6 hf
      refine lv_iload_n hx hb dX8_put_24 rfl (lv_at hl 1 rfl) (hp_n (n := 25) rfl ?_)
      obtain ⟨g7, hf⟩ := ms_gE hf
      refine q_ias (κ := 21) (n := 64) (pc' := 26) C B (cw_k B.2.2 kb5) (by decide) rfl (vi_of g7.1 g7.2) rfl (cw_sE B.2.2 (by decide)) dX8_put_25 rfl (fun αh8 Hh8 Lh8 eh8 Bh8 => ?_)
      replace hf := ms_lE eh8 hf
      refine lv_aload_n hx hb dX8_put_26 rfl (lv_at hl 0 rfl) (hp_n (n := 27) rfl ?_)
      refine q_getr (κ := 9) (k := 1) (φ := 451) (pc' := 30) C Bh8 (cw_k Bh8.2.2 k0) fl_X8_15 rfl rfl rfl (cw_r Bh8.2.2 k0 rfl rfl (by decide) (by decide)) dX8_put_27 rfl (fun b9 eb9 kb9 => ?_)
      replace hf := ms_lE eb9 hf
      refine lv_aload_n hx hb dX8_put_30 rfl (lv_at hl 0 rfl) (hp_n (n := 31) rfl ?_)
      refine q_geti (κ := 9) (k := 3) (φ := 453) (pc' := 34) C Bh8 (cw_k Bh8.2.2 k0) fl_X8_22 rfl rfl rfl dX8_put_31 rfl (fun x10 ex10 => ?_)
      replace hf := ms_lE ex10 hf
      refine lv_iload_n hx hb dX8_put_34 rfl (lv_at hl 2 rfl) (hp_n (n := 35) rfl ?_)
      obtain ⟨g11, hf⟩ := ms_gE hf
      refine q_ias (κ := 22) (n := 64) (pc' := 36) C Bh8 (cw_k Bh8.2.2 kb9) (by decide) rfl (vi_of g11.1 g11.2) rfl (cw_sE Bh8.2.2 (by decide)) dX8_put_35 rfl (fun αh12 Hh12 Lh12 eh12 Bh12 => ?_)
      replace hf := ms_lE eh12 hf
      refine lv_aload_n hx hb dX8_put_36 rfl (lv_at hl 0 rfl) (hp_n (n := 37) rfl ?_)
      refine q_getr (κ := 9) (k := 2) (φ := 452) (pc' := 40) C Bh12 (cw_k Bh12.2.2 k0) fl_X8_18 rfl rfl rfl (cw_r Bh12.2.2 k0 rfl rfl (by decide) (by decide)) dX8_put_37 rfl (fun b13 eb13 kb13 => ?_)
      replace hf := ms_lE eb13 hf
      refine lv_aload_n hx hb dX8_put_40 rfl (lv_at hl 0 rfl) (hp_n (n := 41) rfl ?_)
      refine q_geti (κ := 9) (k := 3) (φ := 453) (pc' := 44) C Bh12 (cw_k Bh12.2.2 k0) fl_X8_22 rfl rfl rfl dX8_put_41 rfl (fun x14 ex14 => ?_)
      replace hf := ms_lE ex14 hf
      refine lv_iload_n hx hb dX8_put_44 rfl (lv_at hl 3 rfl) (hp_n (n := 45) rfl ?_)
      obtain ⟨g15, hf⟩ := ms_gE hf
      refine q_zas (κ := 23) (n := 64) (pc' := 46) (y := (a3 &&& 1)) C Bh12 (cw_k Bh12.2.2 kb13) (by decide) rfl (vi_of g15.1 g15.2) rfl rfl (cw_sE Bh12.2.2 (by decide)) dX8_put_45 rfl (fun αh16 Hh16 Lh16 eh16 Bh16 => ?_)
      replace hf := ms_lE eh16 hf
      refine lv_aload_n hx hb dX8_put_46 rfl (lv_at hl 0 rfl) (hp_n (n := 47) rfl ?_)
      refine lv_dup hx hb dX8_put_47 rfl (hp_n (n := 48) rfl ?_)
      refine q_geti (κ := 9) (k := 3) (φ := 453) (pc' := 51) C Bh16 (cw_k Bh16.2.2 k0) fl_X8_22 rfl rfl rfl dX8_put_48 rfl (fun x17 ex17 => ?_)
      replace hf := ms_lE ex17 hf
      refine lv_iconst (v := 1) hx hb dX8_put_51 (by decide) (hp_n (n := 52) rfl ?_)
      refine lv_iadd hx hb dX8_put_52 (hp_n (n := 53) rfl ?_)
      obtain ⟨g19, hf⟩ := ms_gE hf
      refine q_puti (κ := 9) (k := 3) (φ := 453) (pc' := 56) C Bh16 (cw_k Bh16.2.2 k0) fl_X8_22 rfl rfl rfl rfl rfl rfl (cw_sI Bh16.2.2 (by decide) (fun _ => ⟨g19.1, by have q9 := g19.2; omega⟩)) dX8_put_53 rfl (fun αh18 Hh18 Lh18 eh18 Bh18 => ?_)
      replace hf := ms_lE eh18 hf
      cases hf
      exact q_vret C Bh18 hr hlk ⟨rfl, Bh18.2.2⟩ dX8_put_56
def f_X8_turnRound_L2 (n : Nat) (a0 : Nat) : Nat → hp_T → Int32 → Option hp_T
  | 0, _, _ => none
  | k2 + 1, αh1, v1_h1 =>
    ms_l (hp_I αh1 453 a0) fun x2 =>
    if (x2 / (2 : Int32)) ≤ v1_h1 then
      some αh1
    else
      ms_l (hp_I αh1 453 a0) fun x4 =>
      ms_l (((x4 - (1 : Int32)) - v1_h1)) fun x5 =>
      if x5 < 0 then
        some αh1
      else
        if (64 : Int32) ≤ x5 then
          some αh1
        else
          if v1_h1 < (64 : Int32) then
            ms_l (hp_R αh1 450 a0) fun b9 =>
            ms_g v1_h1 64 <|
            ms_l ((hp_E αh1 21 b9 (v1_h1).toNatClampNeg)) fun x11 =>
            ms_l (hp_R αh1 450 a0) fun b12 =>
            ms_l (hp_R αh1 450 a0) fun b13 =>
            ms_g x5 64 <|
            ms_g v1_h1 64 <|
            ms_l (hp_sE αh1 21 b12 (v1_h1).toNatClampNeg (hp_E αh1 21 b13 (x5).toNatClampNeg)) fun αh16 =>
            ms_l (hp_R αh16 450 a0) fun b17 =>
            ms_g x5 64 <|
            ms_l (hp_sE αh16 21 b17 (x5).toNatClampNeg x11) fun αh19 =>
            ms_l (hp_R αh19 451 a0) fun b20 =>
            ms_g v1_h1 64 <|
            ms_l ((hp_E αh19 22 b20 (v1_h1).toNatClampNeg)) fun x22 =>
            ms_l (hp_R αh19 451 a0) fun b23 =>
            ms_l (hp_R αh19 451 a0) fun b24 =>
            ms_g x5 64 <|
            ms_g v1_h1 64 <|
            ms_l (hp_sE αh19 22 b23 (v1_h1).toNatClampNeg (hp_E αh19 22 b24 (x5).toNatClampNeg)) fun αh27 =>
            ms_l (hp_R αh27 451 a0) fun b28 =>
            ms_g x5 64 <|
            ms_l (hp_sE αh27 22 b28 (x5).toNatClampNeg x22) fun αh30 =>
            ms_l (hp_R αh30 452 a0) fun b31 =>
            ms_g v1_h1 64 <|
            ms_l ((hp_E αh30 23 b31 (v1_h1).toNatClampNeg)) fun x33 =>
            ms_l (hp_R αh30 452 a0) fun b34 =>
            ms_l (hp_R αh30 452 a0) fun b35 =>
            ms_g x5 64 <|
            ms_g v1_h1 64 <|
            ms_l (hp_sE αh30 23 b34 (v1_h1).toNatClampNeg ((hp_E αh30 23 b35 (x5).toNatClampNeg) &&& 1)) fun αh38 =>
            ms_l (hp_R αh38 452 a0) fun b39 =>
            ms_g x5 64 <|
            ms_l (hp_sE αh38 23 b39 (x5).toNatClampNeg (x33 &&& 1)) fun αh41 =>
            ms_l (v1_h1 + 1) fun x42 =>
            (f_X8_turnRound_L2 n a0 k2) αh41 x42
          else
            some αh1
def f_X8_turnRound (n : Nat) (α : hp_T) (a0 : Nat) : Option hp_T :=
  f_X8_turnRound_L2 n a0 n α (0 : Int32)
set_option maxRecDepth 100000 in
set_option maxHeartbeats 4000000 in
theorem n_X8_turnRound (n : Nat) (Γ : hp_G) (l : Launch) (α : hp_T) (g : GC α) (a0 : Nat) (k0 : hp_K α a0 = 9) (res : hp_T) (hf : f_X8_turnRound n α a0 = some res) : Met l yX8_turnRound (hp_ws yX8_turnRound cX8_turnRound 6 none) (hp_rm 0 0 0) (hp_Pc Γ α [.ref a0]) (hp_Qv Γ (fun β => β = res ∧ cw w_X8_turnRound α β)) 0 0 (hp_A Γ) := by
  unfold f_X8_turnRound at hf
  refine hp_start (by decide) ?_
  intro p e s m below meth c C hr hlk B0 hnm
  have C : hp_C Γ p m c cX8_turnRound 6 s ([.ref a0] : List Value).toArray RX8 := C
  have hx := C.1.1
  have hb := C.1.2.1
  have hown := C.1.2.2.2.1
  have hts := C.1.2.2.2.2
  have B : hp_B Γ (cw w_X8_turnRound) s α α s.heap [] := ⟨B0.1, B0.2.1, cw_rf g⟩
  have hl := lv_entry ([.ref a0]) (n := 6) (Nat.le_of_ble_eq_true rfl)
  show W p l e (hp_rm 0 0 0) s m ([.ref a0] : List Value).toArray below meth c s.heap [] 0 0 (MQ below (hp_Qv Γ (fun β => β = res ∧ cw w_X8_turnRound α β)) ([.ref a0] : List Value).toArray s 0 0 (hp_A Γ)) (entryFrame m ([.ref a0] : List Value).toArray 6)
  rw [lg_entry_eq]
  generalize (lg_sl ([.ref a0]) ++ List.replicate (6 - (lg_sl ([.ref a0])).length) Slot.unset).toArray = ls at hl ⊢
  have hl : lv_has ls 6 [(0, .ref a0)] := hl
  refine lv_iconst (v := 0) hx hb dX8_turnRound_0 (by decide) (hp_n (n := 1) rfl ?_)
  have J2 : ∀ (k2 : Nat) (αh1 : hp_T) (Hh1 : Heap) (Lh1 : List Loc) (Bh1 : hp_B Γ (cw w_X8_turnRound) s α αh1 Hh1 Lh1) (v1_h1 : Int32) (ls : Array Slot) (hl : lv_has ls 6 [(0, .ref a0), (1, .int v1_h1)]) (hf : f_X8_turnRound_L2 n a0 k2 αh1 v1_h1 = some res), W p l e (hp_rm 0 0 0) s m ([.ref a0] : List Value).toArray below meth c Hh1 Lh1 0 0 (MQ below (hp_Qv Γ (fun β => β = res ∧ cw w_X8_turnRound α β)) ([.ref a0] : List Value).toArray s 0 0 (hp_A Γ)) (F0 m 2 ls []) := by
    intro k2
    induction k2 with
    | zero => intro αh1 Hh1 Lh1 Bh1 v1_h1 ls hl hf; rw [f_X8_turnRound_L2.eq_1] at hf; cases hf
    | succ k2 ih2 =>
      intro αh1 Hh1 Lh1 Bh1 v1_h1 ls hl hf
      rw [f_X8_turnRound_L2.eq_2] at hf
      refine lv_iload_n hx hb dX8_turnRound_2 rfl (lv_at hl 1 rfl) (hp_n (n := 3) rfl ?_)
      refine lv_aload_n hx hb dX8_turnRound_3 rfl (lv_at hl 0 rfl) (hp_n (n := 4) rfl ?_)
      refine q_geti (κ := 9) (k := 3) (φ := 453) (pc' := 7) C Bh1 (cw_k Bh1.2.2 k0) fl_X8_22 rfl rfl rfl dX8_turnRound_4 rfl (fun x2 ex2 => ?_)
      replace hf := ms_lE ex2 hf
      refine lv_iconst (v := 2) hx hb dX8_turnRound_7 (by decide) (hp_n (n := 8) rfl ?_)
      refine lv_idiv hx hb dX8_turnRound_8 (by decide) (hp_n (n := 9) rfl ?_)
      refine lv_icmp_ge (tgt := 126) hx hb dX8_turnRound_9 (by decide) (fun c3 => ?_) (fun c3 => hp_n (n := 12) rfl ?_)
      ·
        replace hf := ms_iT c3 hf
        cases hf
        exact q_vret C Bh1 hr hlk ⟨rfl, Bh1.2.2⟩ dX8_turnRound_126
      ·
        replace hf := ms_iF c3 hf
        refine lv_aload_n hx hb dX8_turnRound_12 rfl (lv_at hl 0 rfl) (hp_n (n := 13) rfl ?_)
        refine q_geti (κ := 9) (k := 3) (φ := 453) (pc' := 16) C Bh1 (cw_k Bh1.2.2 k0) fl_X8_22 rfl rfl rfl dX8_turnRound_13 rfl (fun x4 ex4 => ?_)
        replace hf := ms_lE ex4 hf
        refine lv_iconst (v := 1) hx hb dX8_turnRound_16 (by decide) (hp_n (n := 17) rfl ?_)
        refine lv_isub hx hb dX8_turnRound_17 (hp_n (n := 18) rfl ?_)
        refine lv_iload_n hx hb dX8_turnRound_18 rfl (lv_at hl 1 rfl) (hp_n (n := 19) rfl ?_)
        refine lv_isub hx hb dX8_turnRound_19 (hp_n (n := 20) rfl ?_)
        refine lv_topi (fun x5 ex5 => ?_)
        replace hf := ms_lE ex5 hf
        refine lv_istore_n (lv' := [(2, .int x5), (0, .ref a0), (1, .int v1_h1)]) hx hb dX8_turnRound_20 rfl hl (by decide) rfl (fun ls hl => hp_n (n := 21) rfl ?_)
        refine lv_iload_n hx hb dX8_turnRound_21 rfl (lv_at hl 0 rfl) (hp_n (n := 22) rfl ?_)
        refine lv_if_lt (tgt := 37) hx hb dX8_turnRound_22 (by decide) (fun c6 => ?_) (fun c6 => hp_n (n := 25) rfl ?_)
        ·
          replace hf := ms_iT c6 hf
          cases hf
          exact q_vret C Bh1 hr hlk ⟨rfl, Bh1.2.2⟩ dX8_turnRound_37
        ·
          replace hf := ms_iF c6 hf
          refine lv_iload_n hx hb dX8_turnRound_25 rfl (lv_at hl 0 rfl) (hp_n (n := 26) rfl ?_)
          refine lv_bipush (v := 64) hx hb dX8_turnRound_26 (by decide) (hp_n (n := 28) rfl ?_)
          refine lv_icmp_ge (tgt := 37) hx hb dX8_turnRound_28 (by decide) (fun c7 => ?_) (fun c7 => hp_n (n := 31) rfl ?_)
          ·
            replace hf := ms_iT c7 hf
            cases hf
            exact q_vret C Bh1 hr hlk ⟨rfl, Bh1.2.2⟩ dX8_turnRound_37
          ·
            replace hf := ms_iF c7 hf
            refine lv_iload_n hx hb dX8_turnRound_31 rfl (lv_at hl 2 rfl) (hp_n (n := 32) rfl ?_)
            refine lv_bipush (v := 64) hx hb dX8_turnRound_32 (by decide) (hp_n (n := 34) rfl ?_)
            refine lv_icmp_lt (tgt := 38) hx hb dX8_turnRound_34 (by decide) (fun c8 => ?_) (fun c8 => hp_n (n := 37) rfl ?_)
            ·
              replace hf := ms_iT c8 hf
              refine lv_aload_n hx hb dX8_turnRound_38 rfl (lv_at hl 1 rfl) (hp_n (n := 39) rfl ?_)
              refine q_getr (κ := 9) (k := 0) (φ := 450) (pc' := 42) C Bh1 (cw_k Bh1.2.2 k0) fl_X8_9 rfl rfl rfl (cw_r Bh1.2.2 k0 rfl rfl (by decide) (by decide)) dX8_turnRound_39 rfl (fun b9 eb9 kb9 => ?_)
              replace hf := ms_lE eb9 hf
              refine lv_iload_n hx hb dX8_turnRound_42 rfl (lv_at hl 2 rfl) (hp_n (n := 43) rfl ?_)
              obtain ⟨g10, hf⟩ := ms_gE hf
              refine q_ial (κ := 21) (n := 64) (pc' := 44) C Bh1 (cw_k Bh1.2.2 kb9) (by decide) rfl (vi_of g10.1 g10.2) dX8_turnRound_43 rfl ?_
              refine lv_topi (fun x11 ex11 => ?_)
              replace hf := ms_lE ex11 hf
              refine lv_istore_n (lv' := [(3, .int x11), (2, .int x5), (0, .ref a0), (1, .int v1_h1)]) hx hb dX8_turnRound_44 rfl hl (by decide) rfl (fun ls hl => hp_n (n := 45) rfl ?_)
              refine lv_aload_n hx hb dX8_turnRound_45 rfl (lv_at hl 2 rfl) (hp_n (n := 46) rfl ?_)
              refine q_getr (κ := 9) (k := 0) (φ := 450) (pc' := 49) C Bh1 (cw_k Bh1.2.2 k0) fl_X8_9 rfl rfl rfl (cw_r Bh1.2.2 k0 rfl rfl (by decide) (by decide)) dX8_turnRound_46 rfl (fun b12 eb12 kb12 => ?_)
              replace hf := ms_lE eb12 hf
              refine lv_iload_n hx hb dX8_turnRound_49 rfl (lv_at hl 3 rfl) (hp_n (n := 50) rfl ?_)
              refine lv_aload_n hx hb dX8_turnRound_50 rfl (lv_at hl 2 rfl) (hp_n (n := 51) rfl ?_)
              refine q_getr (κ := 9) (k := 0) (φ := 450) (pc' := 54) C Bh1 (cw_k Bh1.2.2 k0) fl_X8_9 rfl rfl rfl (cw_r Bh1.2.2 k0 rfl rfl (by decide) (by decide)) dX8_turnRound_51 rfl (fun b13 eb13 kb13 => ?_)
              replace hf := ms_lE eb13 hf
              refine lv_iload_n hx hb dX8_turnRound_54 rfl (lv_at hl 1 rfl) (hp_n (n := 55) rfl ?_)
              obtain ⟨g14, hf⟩ := ms_gE hf
              refine q_ial (κ := 21) (n := 64) (pc' := 56) C Bh1 (cw_k Bh1.2.2 kb13) (by decide) rfl (vi_of g14.1 g14.2) dX8_turnRound_55 rfl ?_
              obtain ⟨g15, hf⟩ := ms_gE hf
              refine q_ias (κ := 21) (n := 64) (pc' := 57) C Bh1 (cw_k Bh1.2.2 kb12) (by decide) rfl (vi_of g15.1 g15.2) rfl (cw_sE Bh1.2.2 (by decide)) dX8_turnRound_56 rfl (fun αh16 Hh16 Lh16 eh16 Bh16 => ?_)
              replace hf := ms_lE eh16 hf
              refine lv_aload_n hx hb dX8_turnRound_57 rfl (lv_at hl 2 rfl) (hp_n (n := 58) rfl ?_)
              refine q_getr (κ := 9) (k := 0) (φ := 450) (pc' := 61) C Bh16 (cw_k Bh16.2.2 k0) fl_X8_9 rfl rfl rfl (cw_r Bh16.2.2 k0 rfl rfl (by decide) (by decide)) dX8_turnRound_58 rfl (fun b17 eb17 kb17 => ?_)
              replace hf := ms_lE eb17 hf
              refine lv_iload_n hx hb dX8_turnRound_61 rfl (lv_at hl 1 rfl) (hp_n (n := 62) rfl ?_)
              refine lv_iload_n hx hb dX8_turnRound_62 rfl (lv_at hl 0 rfl) (hp_n (n := 63) rfl ?_)
              obtain ⟨g18, hf⟩ := ms_gE hf
              refine q_ias (κ := 21) (n := 64) (pc' := 64) C Bh16 (cw_k Bh16.2.2 kb17) (by decide) rfl (vi_of g18.1 g18.2) rfl (cw_sE Bh16.2.2 (by decide)) dX8_turnRound_63 rfl (fun αh19 Hh19 Lh19 eh19 Bh19 => ?_)
              replace hf := ms_lE eh19 hf
              refine lv_aload_n hx hb dX8_turnRound_64 rfl (lv_at hl 2 rfl) (hp_n (n := 65) rfl ?_)
              refine q_getr (κ := 9) (k := 1) (φ := 451) (pc' := 68) C Bh19 (cw_k Bh19.2.2 k0) fl_X8_15 rfl rfl rfl (cw_r Bh19.2.2 k0 rfl rfl (by decide) (by decide)) dX8_turnRound_65 rfl (fun b20 eb20 kb20 => ?_)
              replace hf := ms_lE eb20 hf
              refine lv_iload_n hx hb dX8_turnRound_68 rfl (lv_at hl 3 rfl) (hp_n (n := 69) rfl ?_)
              obtain ⟨g21, hf⟩ := ms_gE hf
              refine q_ial (κ := 22) (n := 64) (pc' := 70) C Bh19 (cw_k Bh19.2.2 kb20) (by decide) rfl (vi_of g21.1 g21.2) dX8_turnRound_69 rfl ?_
              refine lv_topi (fun x22 ex22 => ?_)
              replace hf := ms_lE ex22 hf
              refine lv_istore (lv' := [(4, .int x22), (3, .int x11), (2, .int x5), (0, .ref a0), (1, .int v1_h1)]) hx hb dX8_turnRound_70 hl (by decide) rfl (fun ls hl => hp_n (n := 72) rfl ?_)
              refine lv_aload_n hx hb dX8_turnRound_72 rfl (lv_at hl 3 rfl) (hp_n (n := 73) rfl ?_)
              refine q_getr (κ := 9) (k := 1) (φ := 451) (pc' := 76) C Bh19 (cw_k Bh19.2.2 k0) fl_X8_15 rfl rfl rfl (cw_r Bh19.2.2 k0 rfl rfl (by decide) (by decide)) dX8_turnRound_73 rfl (fun b23 eb23 kb23 => ?_)
              replace hf := ms_lE eb23 hf
              refine lv_iload_n hx hb dX8_turnRound_76 rfl (lv_at hl 4 rfl) (hp_n (n := 77) rfl ?_)
              refine lv_aload_n hx hb dX8_turnRound_77 rfl (lv_at hl 3 rfl) (hp_n (n := 78) rfl ?_)
              refine q_getr (κ := 9) (k := 1) (φ := 451) (pc' := 81) C Bh19 (cw_k Bh19.2.2 k0) fl_X8_15 rfl rfl rfl (cw_r Bh19.2.2 k0 rfl rfl (by decide) (by decide)) dX8_turnRound_78 rfl (fun b24 eb24 kb24 => ?_)
              replace hf := ms_lE eb24 hf
              refine lv_iload_n hx hb dX8_turnRound_81 rfl (lv_at hl 2 rfl) (hp_n (n := 82) rfl ?_)
              obtain ⟨g25, hf⟩ := ms_gE hf
              refine q_ial (κ := 22) (n := 64) (pc' := 83) C Bh19 (cw_k Bh19.2.2 kb24) (by decide) rfl (vi_of g25.1 g25.2) dX8_turnRound_82 rfl ?_
              obtain ⟨g26, hf⟩ := ms_gE hf
              refine q_ias (κ := 22) (n := 64) (pc' := 84) C Bh19 (cw_k Bh19.2.2 kb23) (by decide) rfl (vi_of g26.1 g26.2) rfl (cw_sE Bh19.2.2 (by decide)) dX8_turnRound_83 rfl (fun αh27 Hh27 Lh27 eh27 Bh27 => ?_)
              replace hf := ms_lE eh27 hf
              refine lv_aload_n hx hb dX8_turnRound_84 rfl (lv_at hl 3 rfl) (hp_n (n := 85) rfl ?_)
              refine q_getr (κ := 9) (k := 1) (φ := 451) (pc' := 88) C Bh27 (cw_k Bh27.2.2 k0) fl_X8_15 rfl rfl rfl (cw_r Bh27.2.2 k0 rfl rfl (by decide) (by decide)) dX8_turnRound_85 rfl (fun b28 eb28 kb28 => ?_)
              replace hf := ms_lE eb28 hf
              refine lv_iload_n hx hb dX8_turnRound_88 rfl (lv_at hl 2 rfl) (hp_n (n := 89) rfl ?_)
              refine lv_iload hx hb dX8_turnRound_89 (lv_at hl 0 rfl) (hp_n (n := 91) rfl ?_)
              obtain ⟨g29, hf⟩ := ms_gE hf
              refine q_ias (κ := 22) (n := 64) (pc' := 92) C Bh27 (cw_k Bh27.2.2 kb28) (by decide) rfl (vi_of g29.1 g29.2) rfl (cw_sE Bh27.2.2 (by decide)) dX8_turnRound_91 rfl (fun αh30 Hh30 Lh30 eh30 Bh30 => ?_)
              replace hf := ms_lE eh30 hf
              refine lv_aload_n hx hb dX8_turnRound_92 rfl (lv_at hl 3 rfl) (hp_n (n := 93) rfl ?_)
              refine q_getr (κ := 9) (k := 2) (φ := 452) (pc' := 96) C Bh30 (cw_k Bh30.2.2 k0) fl_X8_18 rfl rfl rfl (cw_r Bh30.2.2 k0 rfl rfl (by decide) (by decide)) dX8_turnRound_93 rfl (fun b31 eb31 kb31 => ?_)
              replace hf := ms_lE eb31 hf
              refine lv_iload_n hx hb dX8_turnRound_96 rfl (lv_at hl 4 rfl) (hp_n (n := 97) rfl ?_)
              obtain ⟨g32, hf⟩ := ms_gE hf
              refine q_zal (κ := 23) (n := 64) (pc' := 98) C Bh30 (cw_k Bh30.2.2 kb31) (by decide) rfl (vi_of g32.1 g32.2) dX8_turnRound_97 rfl ?_
              refine lv_topi (fun x33 ex33 => ?_)
              replace hf := ms_lE ex33 hf
              refine lv_istore (lv' := [(5, .int x33), (4, .int x22), (3, .int x11), (2, .int x5), (0, .ref a0), (1, .int v1_h1)]) hx hb dX8_turnRound_98 hl (by decide) rfl (fun ls hl => hp_n (n := 100) rfl ?_)
              refine lv_aload_n hx hb dX8_turnRound_100 rfl (lv_at hl 4 rfl) (hp_n (n := 101) rfl ?_)
              refine q_getr (κ := 9) (k := 2) (φ := 452) (pc' := 104) C Bh30 (cw_k Bh30.2.2 k0) fl_X8_18 rfl rfl rfl (cw_r Bh30.2.2 k0 rfl rfl (by decide) (by decide)) dX8_turnRound_101 rfl (fun b34 eb34 kb34 => ?_)
              replace hf := ms_lE eb34 hf
              refine lv_iload_n hx hb dX8_turnRound_104 rfl (lv_at hl 5 rfl) (hp_n (n := 105) rfl ?_)
              refine lv_aload_n hx hb dX8_turnRound_105 rfl (lv_at hl 4 rfl) (hp_n (n := 106) rfl ?_)
              refine q_getr (κ := 9) (k := 2) (φ := 452) (pc' := 109) C Bh30 (cw_k Bh30.2.2 k0) fl_X8_18 rfl rfl rfl (cw_r Bh30.2.2 k0 rfl rfl (by decide) (by decide)) dX8_turnRound_106 rfl (fun b35 eb35 kb35 => ?_)
              replace hf := ms_lE eb35 hf
              refine lv_iload_n hx hb dX8_turnRound_109 rfl (lv_at hl 3 rfl) (hp_n (n := 110) rfl ?_)
              obtain ⟨g36, hf⟩ := ms_gE hf
              refine q_zal (κ := 23) (n := 64) (pc' := 111) C Bh30 (cw_k Bh30.2.2 kb35) (by decide) rfl (vi_of g36.1 g36.2) dX8_turnRound_110 rfl ?_
              obtain ⟨g37, hf⟩ := ms_gE hf
              refine q_zas (κ := 23) (n := 64) (pc' := 112) (y := ((hp_E αh30 23 b35 (x5).toNatClampNeg) &&& 1)) C Bh30 (cw_k Bh30.2.2 kb34) (by decide) rfl (vi_of g37.1 g37.2) rfl rfl (cw_sE Bh30.2.2 (by decide)) dX8_turnRound_111 rfl (fun αh38 Hh38 Lh38 eh38 Bh38 => ?_)
              replace hf := ms_lE eh38 hf
              refine lv_aload_n hx hb dX8_turnRound_112 rfl (lv_at hl 4 rfl) (hp_n (n := 113) rfl ?_)
              refine q_getr (κ := 9) (k := 2) (φ := 452) (pc' := 116) C Bh38 (cw_k Bh38.2.2 k0) fl_X8_18 rfl rfl rfl (cw_r Bh38.2.2 k0 rfl rfl (by decide) (by decide)) dX8_turnRound_113 rfl (fun b39 eb39 kb39 => ?_)
              replace hf := ms_lE eb39 hf
              refine lv_iload_n hx hb dX8_turnRound_116 rfl (lv_at hl 3 rfl) (hp_n (n := 117) rfl ?_)
              refine lv_iload hx hb dX8_turnRound_117 (lv_at hl 0 rfl) (hp_n (n := 119) rfl ?_)
              obtain ⟨g40, hf⟩ := ms_gE hf
              refine q_zas (κ := 23) (n := 64) (pc' := 120) (y := (x33 &&& 1)) C Bh38 (cw_k Bh38.2.2 kb39) (by decide) rfl (vi_of g40.1 g40.2) rfl rfl (cw_sE Bh38.2.2 (by decide)) dX8_turnRound_119 rfl (fun αh41 Hh41 Lh41 eh41 Bh41 => ?_)
              replace hf := ms_lE eh41 hf
              obtain ⟨x42, ex42⟩ : ∃ y : Int32, y = v1_h1 + 1 := ⟨_, rfl⟩
              replace hf := ms_lE ex42 hf
              refine lv_iinc (v := x42) (lv' := [(1, .int x42), (5, .int x33), (4, .int x22), (3, .int x11), (2, .int x5), (0, .ref a0)]) hx hb dX8_turnRound_120 hl (k := 5) rfl (by rw [ex42]; rfl) (by decide) rfl (fun ls hl => hp_n (n := 123) rfl ?_)
              refine lv_goto (tgt := 2) hx hb dX8_turnRound_123 (by decide) ?_
              exact ih2 αh41 Hh41 Lh41 Bh41 x42 ls (lv_sub hl [5, 0] rfl) hf
            ·
              replace hf := ms_iF c8 hf
              cases hf
              exact q_vret C Bh1 hr hlk ⟨rfl, Bh1.2.2⟩ dX8_turnRound_37
  refine lv_istore_n (lv' := [(1, .int (0 : Int32)), (0, .ref a0)]) hx hb dX8_turnRound_1 rfl hl (by decide) rfl (fun ls hl => hp_n (n := 2) rfl ?_)
  exact J2 n α s.heap [] B (0 : Int32) ls (lv_sub hl [1, 0] rfl) hf
def f_X8_toThing_J87 (n : Nat) (a0 : Nat) (αh3 : hp_T) : Option hp_T :=
  ms_b (f_X8_turnRound n αh3 a0) fun αh4 =>
  some αh4
def f_X8_toThing_J81 (n : Nat) (a0 : Nat) (rec12 : hp_T → Int32 → Int32 → Int32 → Int32 → Option hp_T) (αh8 : hp_T) (v1_h8 : Int32) (v3_h8 : Int32) (v4_h8 : Int32) (v5_h8 : Int32) : Option hp_T :=
  ms_l (v5_h8 + 1) fun x9 =>
  rec12 αh8 v1_h8 v3_h8 v4_h8 x9
def f_X8_toThing_L12 (n : Nat) (a0 : Nat) : Nat → hp_T → Int32 → Int32 → Int32 → Int32 → Option hp_T
  | 0, _, _, _, _, _ => none
  | k12 + 1, αh2, v1_h2, v3_h2, v4_h2, v5_h2 =>
    if (40 : Int32) ≤ v5_h2 then
      f_X8_toThing_J87 n a0 αh2
    else
      if v4_h2 ≤ (1 : Int32) then
        f_X8_toThing_J87 n a0 αh2
      else
        ms_b (f_X11_firstPartOf n v4_h2) fun rh7 =>
        if rh7 ≤ (v1_h2 - v3_h2) then
          ms_b (f_X8_put n αh2 a0 v3_h2 rh7 (1 : Int32)) fun αh11 =>
          ms_l ((v3_h2 + rh7)) fun x12 =>
          ms_l ((v4_h2 - rh7)) fun x13 =>
          f_X8_toThing_J81 n a0 (f_X8_toThing_L12 n a0 k12) αh11 v1_h2 x12 x13 v5_h2
        else
          ms_b (f_X8_put n αh2 a0 (v3_h2 + rh7) (v4_h2 - rh7) (0 : Int32)) fun αh14 =>
          f_X8_toThing_J81 n a0 (f_X8_toThing_L12 n a0 k12) αh14 v1_h2 v3_h2 rh7 v5_h2
def f_X8_toThing (n : Nat) (α : hp_T) (a0 : Nat) (a1 : Int32) (a2 : Int32) : Option hp_T :=
  ms_b (f_X8_clear n α a0) fun αh1 =>
  f_X8_toThing_L12 n a0 n αh1 a1 (0 : Int32) a2 (0 : Int32)
set_option maxRecDepth 100000 in
set_option maxHeartbeats 4000000 in
theorem n_X8_toThing (n : Nat) (Γ : hp_G) (l : Launch) (α : hp_T) (g : GC α) (a0 : Nat) (k0 : hp_K α a0 = 9) (a1 : Int32) (a2 : Int32) (res : hp_T) (hf : f_X8_toThing n α a0 a1 a2 = some res) : Met l yX8_toThing (hp_ws yX8_toThing cX8_toThing 7 none) (hp_rm 3 0 0) (hp_Pc Γ α [.ref a0, .int a1, .int a2]) (hp_Qv Γ (fun β => β = res ∧ cw w_X8_toThing α β)) 0 0 (hp_A Γ) := by
  unfold f_X8_toThing at hf
  refine hp_start (by decide) ?_
  intro p e s m below meth c C hr hlk B0 hnm
  have C : hp_C Γ p m c cX8_toThing 7 s ([.ref a0, .int a1, .int a2] : List Value).toArray RX8 := C
  have hx := C.1.1
  have hb := C.1.2.1
  have hown := C.1.2.2.2.1
  have hts := C.1.2.2.2.2
  have B : hp_B Γ (cw w_X8_toThing) s α α s.heap [] := ⟨B0.1, B0.2.1, cw_rf g⟩
  have hl := lv_entry ([.ref a0, .int a1, .int a2]) (n := 7) (Nat.le_of_ble_eq_true rfl)
  show W p l e (hp_rm 3 0 0) s m ([.ref a0, .int a1, .int a2] : List Value).toArray below meth c s.heap [] 0 0 (MQ below (hp_Qv Γ (fun β => β = res ∧ cw w_X8_toThing α β)) ([.ref a0, .int a1, .int a2] : List Value).toArray s 0 0 (hp_A Γ)) (entryFrame m ([.ref a0, .int a1, .int a2] : List Value).toArray 7)
  rw [lg_entry_eq]
  generalize (lg_sl ([.ref a0, .int a1, .int a2]) ++ List.replicate (7 - (lg_sl ([.ref a0, .int a1, .int a2])).length) Slot.unset).toArray = ls at hl ⊢
  have hl : lv_has ls 7 [(0, .ref a0), (1, .int a1), (2, .int a2)] := hl
  refine lv_aload_n hx hb dX8_toThing_0 rfl (lv_at hl 0 rfl) (hp_n (n := 1) rfl ?_)
  obtain ⟨αh1, qh1, hf⟩ := ms_bE hf
  refine d_cv (pc' := 4) B (hp_runV (As := []) (rest := []) C B (n_X8_clear n Γ l α B.2.2.1 a0 (cw_k B.2.2 k0) αh1 qh1) lb_X8_clear lv_X8_clear lk_X8_30 (cw_k B.2.2 k0) rfl (by decide) rfl hl.1 rfl (Nat.le_of_ble_eq_true rfl) dX8_toThing_1 ⟨Nat.le_refl _, Nat.le_refl _⟩) (by decide) rfl (fun Hh1 Lh1 Bh1 => ?_)
  refine lv_iconst (v := 0) hx hb dX8_toThing_4 (by decide) (hp_n (n := 5) rfl ?_)
  refine lv_istore_n (lv' := [(3, .int (0 : Int32)), (0, .ref a0), (1, .int a1), (2, .int a2)]) hx hb dX8_toThing_5 rfl hl (by decide) rfl (fun ls hl => hp_n (n := 6) rfl ?_)
  refine lv_iload_n hx hb dX8_toThing_6 rfl (lv_at hl 3 rfl) (hp_n (n := 7) rfl ?_)
  refine lv_istore (lv' := [(4, .int a2), (3, .int (0 : Int32)), (0, .ref a0), (1, .int a1), (2, .int a2)]) hx hb dX8_toThing_7 hl (by decide) rfl (fun ls hl => hp_n (n := 9) rfl ?_)
  refine lv_iconst (v := 0) hx hb dX8_toThing_9 (by decide) (hp_n (n := 10) rfl ?_)
  have J12 : ∀ (k12 : Nat) (αh2 : hp_T) (Hh2 : Heap) (Lh2 : List Loc) (Bh2 : hp_B Γ (cw w_X8_toThing) s α αh2 Hh2 Lh2) (v1_h2 : Int32) (v3_h2 : Int32) (v4_h2 : Int32) (v5_h2 : Int32) (ls : Array Slot) (hl : lv_has ls 7 [(0, .ref a0), (1, .int v1_h2), (3, .int v3_h2), (4, .int v4_h2), (5, .int v5_h2)]) (hf : f_X8_toThing_L12 n a0 k12 αh2 v1_h2 v3_h2 v4_h2 v5_h2 = some res), W p l e (hp_rm 3 0 0) s m ([.ref a0, .int a1, .int a2] : List Value).toArray below meth c Hh2 Lh2 0 0 (MQ below (hp_Qv Γ (fun β => β = res ∧ cw w_X8_toThing α β)) ([.ref a0, .int a1, .int a2] : List Value).toArray s 0 0 (hp_A Γ)) (F0 m 12 ls []) := by
    intro k12
    induction k12 with
    | zero => intro αh2 Hh2 Lh2 Bh2 v1_h2 v3_h2 v4_h2 v5_h2 ls hl hf; rw [f_X8_toThing_L12.eq_1] at hf; cases hf
    | succ k12 ih12 =>
      intro αh2 Hh2 Lh2 Bh2 v1_h2 v3_h2 v4_h2 v5_h2 ls hl hf
      rw [f_X8_toThing_L12.eq_2] at hf
      refine lv_iload hx hb dX8_toThing_12 (lv_at hl 4 rfl) (hp_n (n := 14) rfl ?_)
      refine lv_bipush (v := 40) hx hb dX8_toThing_14 (by decide) (hp_n (n := 16) rfl ?_)
      have J87 : ∀ (αh3 : hp_T) (Hh3 : Heap) (Lh3 : List Loc) (Bh3 : hp_B Γ (cw w_X8_toThing) s α αh3 Hh3 Lh3) (ls : Array Slot) (hl : lv_has ls 7 [(0, .ref a0)]) (hf : f_X8_toThing_J87 n a0 αh3 = some res), W p l e (hp_rm 3 0 0) s m ([.ref a0, .int a1, .int a2] : List Value).toArray below meth c Hh3 Lh3 0 0 (MQ below (hp_Qv Γ (fun β => β = res ∧ cw w_X8_toThing α β)) ([.ref a0, .int a1, .int a2] : List Value).toArray s 0 0 (hp_A Γ)) (F0 m 87 ls []) := by
        intro αh3 Hh3 Lh3 Bh3 ls hl hf
        unfold f_X8_toThing_J87 at hf
        refine lv_aload_n hx hb dX8_toThing_87 rfl (lv_at hl 0 rfl) (hp_n (n := 88) rfl ?_)
        obtain ⟨αh4, qh4, hf⟩ := ms_bE hf
        refine d_cv (pc' := 91) Bh3 (hp_runV (As := []) (rest := []) C Bh3 (n_X8_turnRound n Γ l αh3 Bh3.2.2.1 a0 (cw_k Bh3.2.2 k0) αh4 qh4) lb_X8_turnRound lv_X8_turnRound lk_X8_41 (cw_k Bh3.2.2 k0) rfl (by decide) rfl hl.1 rfl (Nat.le_of_ble_eq_true rfl) dX8_toThing_88 ⟨Nat.le_refl _, Nat.le_refl _⟩) (by decide) rfl (fun Hh4 Lh4 Bh4 => ?_)
        cases hf
        exact q_vret C Bh4 hr hlk ⟨rfl, Bh4.2.2⟩ dX8_toThing_91
      refine lv_icmp_ge (tgt := 87) hx hb dX8_toThing_16 (by decide) (fun c5 => ?_) (fun c5 => hp_n (n := 19) rfl ?_)
      ·
        replace hf := ms_iT c5 hf
        exact J87 αh2 Hh2 Lh2 Bh2 ls (lv_sub hl [0] rfl) hf
      ·
        replace hf := ms_iF c5 hf
        refine lv_iload hx hb dX8_toThing_19 (lv_at hl 3 rfl) (hp_n (n := 21) rfl ?_)
        refine lv_iconst (v := 1) hx hb dX8_toThing_21 (by decide) (hp_n (n := 22) rfl ?_)
        refine lv_icmp_le (tgt := 87) hx hb dX8_toThing_22 (by decide) (fun c6 => ?_) (fun c6 => hp_n (n := 25) rfl ?_)
        ·
          replace hf := ms_iT c6 hf
          exact J87 αh2 Hh2 Lh2 Bh2 ls (lv_sub hl [0] rfl) hf
        ·
          replace hf := ms_iF c6 hf
          refine lv_iload hx hb dX8_toThing_25 (lv_at hl 3 rfl) (hp_n (n := 27) rfl ?_)
          obtain ⟨rh7, qh7, hf⟩ := ms_bE hf
          refine d_pi (pc' := 30) Bh2 (hp_runS (As := [.int v4_h2]) (rest := []) C Bh2 (n_X11_firstPartOf n Γ l αh2 Bh2.2.2.1 v4_h2 rh7 qh7) lb_X11_firstPartOf ls_X11_firstPartOf lk_X8_33 rfl (by decide) rfl hl.1 rfl (Nat.le_of_ble_eq_true rfl) dX8_toThing_27 ⟨Nat.le_refl _, Nat.le_refl _⟩) rfl (fun Hh7 Lh7 Bh7 => ?_)
          refine lv_istore (lv' := [(6, .int rh7), (0, .ref a0), (1, .int v1_h2), (3, .int v3_h2), (4, .int v4_h2), (5, .int v5_h2)]) hx hb dX8_toThing_30 hl (by decide) rfl (fun ls hl => hp_n (n := 32) rfl ?_)
          refine lv_iload_n hx hb dX8_toThing_32 rfl (lv_at hl 2 rfl) (hp_n (n := 33) rfl ?_)
          refine lv_iload_n hx hb dX8_toThing_33 rfl (lv_at hl 3 rfl) (hp_n (n := 34) rfl ?_)
          refine lv_isub hx hb dX8_toThing_34 (hp_n (n := 35) rfl ?_)
          refine lv_iload hx hb dX8_toThing_35 (lv_at hl 0 rfl) (hp_n (n := 37) rfl ?_)
          have J81 : ∀ (αh8 : hp_T) (Hh8 : Heap) (Lh8 : List Loc) (Bh8 : hp_B Γ (cw w_X8_toThing) s α αh8 Hh8 Lh8) (v1_h8 : Int32) (v3_h8 : Int32) (v4_h8 : Int32) (v5_h8 : Int32) (ls : Array Slot) (hl : lv_has ls 7 [(0, .ref a0), (1, .int v1_h8), (3, .int v3_h8), (4, .int v4_h8), (5, .int v5_h8)]) (hf : f_X8_toThing_J81 n a0 (f_X8_toThing_L12 n a0 k12) αh8 v1_h8 v3_h8 v4_h8 v5_h8 = some res), W p l e (hp_rm 3 0 0) s m ([.ref a0, .int a1, .int a2] : List Value).toArray below meth c Hh8 Lh8 0 0 (MQ below (hp_Qv Γ (fun β => β = res ∧ cw w_X8_toThing α β)) ([.ref a0, .int a1, .int a2] : List Value).toArray s 0 0 (hp_A Γ)) (F0 m 81 ls []) := by
            intro αh8 Hh8 Lh8 Bh8 v1_h8 v3_h8 v4_h8 v5_h8 ls hl hf
            unfold f_X8_toThing_J81 at hf
            obtain ⟨x9, ex9⟩ : ∃ y : Int32, y = v5_h8 + 1 := ⟨_, rfl⟩
            replace hf := ms_lE ex9 hf
            refine lv_iinc (v := x9) (lv' := [(5, .int x9), (0, .ref a0), (1, .int v1_h8), (3, .int v3_h8), (4, .int v4_h8)]) hx hb dX8_toThing_81 hl (k := 4) rfl (by rw [ex9]; rfl) (by decide) rfl (fun ls hl => hp_n (n := 84) rfl ?_)
            refine lv_goto (tgt := 12) hx hb dX8_toThing_84 (by decide) ?_
            exact ih12 αh8 Hh8 Lh8 Bh8 v1_h8 v3_h8 v4_h8 x9 ls (lv_sub hl [1, 2, 3, 4, 0] rfl) hf
          refine lv_icmp_ge (tgt := 61) hx hb dX8_toThing_37 (by decide) (fun c10 => ?_) (fun c10 => hp_n (n := 40) rfl ?_)
          ·
            replace hf := ms_iT c10 hf
            refine lv_aload_n hx hb dX8_toThing_61 rfl (lv_at hl 1 rfl) (hp_n (n := 62) rfl ?_)
            refine lv_iload_n hx hb dX8_toThing_62 rfl (lv_at hl 3 rfl) (hp_n (n := 63) rfl ?_)
            refine lv_iload hx hb dX8_toThing_63 (lv_at hl 0 rfl) (hp_n (n := 65) rfl ?_)
            refine lv_iconst (v := 1) hx hb dX8_toThing_65 (by decide) (hp_n (n := 66) rfl ?_)
            obtain ⟨αh11, qh11, hf⟩ := ms_bE hf
            refine d_cv (pc' := 69) Bh7 (hp_runV (As := [.int v3_h2, .int rh7, .int (1 : Int32)]) (rest := []) C Bh7 (n_X8_put n Γ l αh2 Bh7.2.2.1 a0 (cw_k Bh7.2.2 k0) v3_h2 rh7 (1 : Int32) αh11 qh11) lb_X8_put lv_X8_put lk_X8_37 (cw_k Bh7.2.2 k0) rfl (by decide) rfl hl.1 rfl (Nat.le_of_ble_eq_true rfl) dX8_toThing_66 ⟨Nat.le_refl _, Nat.le_refl _⟩) (by decide) rfl (fun Hh11 Lh11 Bh11 => ?_)
            refine lv_iload_n hx hb dX8_toThing_69 rfl (lv_at hl 3 rfl) (hp_n (n := 70) rfl ?_)
            refine lv_iload hx hb dX8_toThing_70 (lv_at hl 0 rfl) (hp_n (n := 72) rfl ?_)
            refine lv_iadd hx hb dX8_toThing_72 (hp_n (n := 73) rfl ?_)
            refine lv_topi (fun x12 ex12 => ?_)
            replace hf := ms_lE ex12 hf
            refine lv_istore_n (lv' := [(3, .int x12), (6, .int rh7), (0, .ref a0), (1, .int v1_h2), (4, .int v4_h2), (5, .int v5_h2)]) hx hb dX8_toThing_73 rfl hl (by decide) rfl (fun ls hl => hp_n (n := 74) rfl ?_)
            refine lv_iload hx hb dX8_toThing_74 (lv_at hl 4 rfl) (hp_n (n := 76) rfl ?_)
            refine lv_iload hx hb dX8_toThing_76 (lv_at hl 1 rfl) (hp_n (n := 78) rfl ?_)
            refine lv_isub hx hb dX8_toThing_78 (hp_n (n := 79) rfl ?_)
            refine lv_topi (fun x13 ex13 => ?_)
            replace hf := ms_lE ex13 hf
            refine lv_istore (lv' := [(4, .int x13), (3, .int x12), (6, .int rh7), (0, .ref a0), (1, .int v1_h2), (5, .int v5_h2)]) hx hb dX8_toThing_79 hl (by decide) rfl (fun ls hl => hp_n (n := 81) rfl ?_)
            exact J81 αh11 Hh11 Lh11 Bh11 v1_h2 x12 x13 v5_h2 ls (lv_sub hl [3, 4, 1, 0, 5] rfl) hf
          ·
            replace hf := ms_iF c10 hf
            refine lv_aload_n hx hb dX8_toThing_40 rfl (lv_at hl 1 rfl) (hp_n (n := 41) rfl ?_)
            refine lv_iload_n hx hb dX8_toThing_41 rfl (lv_at hl 3 rfl) (hp_n (n := 42) rfl ?_)
            refine lv_iload hx hb dX8_toThing_42 (lv_at hl 0 rfl) (hp_n (n := 44) rfl ?_)
            refine lv_iadd hx hb dX8_toThing_44 (hp_n (n := 45) rfl ?_)
            refine lv_iload hx hb dX8_toThing_45 (lv_at hl 4 rfl) (hp_n (n := 47) rfl ?_)
            refine lv_iload hx hb dX8_toThing_47 (lv_at hl 0 rfl) (hp_n (n := 49) rfl ?_)
            refine lv_isub hx hb dX8_toThing_49 (hp_n (n := 50) rfl ?_)
            refine lv_iconst (v := 0) hx hb dX8_toThing_50 (by decide) (hp_n (n := 51) rfl ?_)
            obtain ⟨αh14, qh14, hf⟩ := ms_bE hf
            refine d_cv (pc' := 54) Bh7 (hp_runV (As := [.int (v3_h2 + rh7), .int (v4_h2 - rh7), .int (0 : Int32)]) (rest := []) C Bh7 (n_X8_put n Γ l αh2 Bh7.2.2.1 a0 (cw_k Bh7.2.2 k0) (v3_h2 + rh7) (v4_h2 - rh7) (0 : Int32) αh14 qh14) lb_X8_put lv_X8_put lk_X8_37 (cw_k Bh7.2.2 k0) rfl (by decide) rfl hl.1 rfl (Nat.le_of_ble_eq_true rfl) dX8_toThing_51 ⟨Nat.le_refl _, Nat.le_refl _⟩) (by decide) rfl (fun Hh14 Lh14 Bh14 => ?_)
            refine lv_iload hx hb dX8_toThing_54 (lv_at hl 0 rfl) (hp_n (n := 56) rfl ?_)
            refine lv_istore (lv' := [(4, .int rh7), (6, .int rh7), (0, .ref a0), (1, .int v1_h2), (3, .int v3_h2), (5, .int v5_h2)]) hx hb dX8_toThing_56 hl (by decide) rfl (fun ls hl => hp_n (n := 58) rfl ?_)
            refine lv_goto (tgt := 81) hx hb dX8_toThing_58 (by decide) ?_
            exact J81 αh14 Hh14 Lh14 Bh14 v1_h2 v3_h2 rh7 v5_h2 ls (lv_sub hl [2, 3, 4, 0, 5] rfl) hf
  refine lv_istore (lv' := [(5, .int (0 : Int32)), (4, .int a2), (3, .int (0 : Int32)), (0, .ref a0), (1, .int a1), (2, .int a2)]) hx hb dX8_toThing_10 hl (by decide) rfl (fun ls hl => hp_n (n := 12) rfl ?_)
  exact J12 n αh1 Hh1 Lh1 Bh1 a1 (0 : Int32) a2 (0 : Int32) ls (lv_sub hl [3, 4, 2, 1, 0] rfl) hf
def f_X8_toGrowth_J118 (n : Nat) (a0 : Nat) (αh5 : hp_T) : Option hp_T :=
  ms_b (f_X8_turnRound n αh5 a0) fun αh6 =>
  some αh6
def f_X8_toGrowth_J100 (n : Nat) (a0 : Nat) (αh4 : hp_T) (v3_h4 : Int32) (v4_h4 : Int32) (v5_h4 : Int32) : Option hp_T :=
  if v5_h4 = 0 then
    ms_b (f_X8_put n αh4 a0 v3_h4 v4_h4 (0 : Int32)) fun αh8 =>
    ms_l (hp_sI αh8 454 a0 (1 : Int32)) fun αh9 =>
    f_X8_toGrowth_J118 n a0 αh9
  else
    f_X8_toGrowth_J118 n a0 αh4
def f_X8_toGrowth_J94 (n : Nat) (a0 : Nat) (rec20 : hp_T → Int32 → Int32 → Int32 → Int32 → Int32 → Option hp_T) (αh13 : hp_T) (v1_h13 : Int32) (v3_h13 : Int32) (v4_h13 : Int32) (v5_h13 : Int32) (v6_h13 : Int32) : Option hp_T :=
  ms_l (v6_h13 + 1) fun x14 =>
  rec20 αh13 v1_h13 v3_h13 v4_h13 v5_h13 x14
def f_X8_toGrowth_L20 (n : Nat) (a0 : Nat) : Nat → hp_T → Int32 → Int32 → Int32 → Int32 → Int32 → Option hp_T
  | 0, _, _, _, _, _, _ => none
  | k20 + 1, αh3, v1_h3, v3_h3, v4_h3, v5_h3, v6_h3 =>
    if (40 : Int32) ≤ v6_h3 then
      f_X8_toGrowth_J100 n a0 αh3 v3_h3 v4_h3 v5_h3
    else
      if (v1_h3 - v3_h3) = v4_h3 then
        f_X8_toGrowth_J100 n a0 αh3 v3_h3 v4_h3 v5_h3
      else
        ms_b (f_X11_firstPartOf n v4_h3) fun rh12 =>
        if rh12 < (v1_h3 - v3_h3) then
          ms_b (f_X8_put n αh3 a0 v3_h3 rh12 (1 : Int32)) fun αh16 =>
          ms_l ((v3_h3 + rh12)) fun x17 =>
          ms_l ((v4_h3 - rh12)) fun x18 =>
          f_X8_toGrowth_J94 n a0 (f_X8_toGrowth_L20 n a0 k20) αh16 v1_h3 x17 x18 (0 : Int32) v6_h3
        else
          ms_b (f_X8_put n αh3 a0 (v3_h3 + rh12) (v4_h3 - rh12) (0 : Int32)) fun αh19 =>
          f_X8_toGrowth_J94 n a0 (f_X8_toGrowth_L20 n a0 k20) αh19 v1_h3 v3_h3 rh12 v5_h3 v6_h3
def f_X8_toGrowth (n : Nat) (α : hp_T) (a0 : Nat) (a1 : Int32) (a2 : Int32) : Option hp_T :=
  ms_b (f_X8_clear n α a0) fun αh1 =>
  if a1 = 0 then
    some αh1
  else
    f_X8_toGrowth_L20 n a0 n αh1 a1 (0 : Int32) a2 (1 : Int32) (0 : Int32)
set_option maxRecDepth 100000 in
set_option maxHeartbeats 4000000 in
theorem n_X8_toGrowth (n : Nat) (Γ : hp_G) (l : Launch) (α : hp_T) (g : GC α) (a0 : Nat) (k0 : hp_K α a0 = 9) (a1 : Int32) (a2 : Int32) (res : hp_T) (hf : f_X8_toGrowth n α a0 a1 a2 = some res) : Met l yX8_toGrowth (hp_ws yX8_toGrowth cX8_toGrowth 8 none) (hp_rm 3 0 0) (hp_Pc Γ α [.ref a0, .int a1, .int a2]) (hp_Qv Γ (fun β => β = res ∧ cw w_X8_toGrowth α β)) 0 0 (hp_A Γ) := by
  unfold f_X8_toGrowth at hf
  refine hp_start (by decide) ?_
  intro p e s m below meth c C hr hlk B0 hnm
  have C : hp_C Γ p m c cX8_toGrowth 8 s ([.ref a0, .int a1, .int a2] : List Value).toArray RX8 := C
  have hx := C.1.1
  have hb := C.1.2.1
  have hown := C.1.2.2.2.1
  have hts := C.1.2.2.2.2
  have B : hp_B Γ (cw w_X8_toGrowth) s α α s.heap [] := ⟨B0.1, B0.2.1, cw_rf g⟩
  have hl := lv_entry ([.ref a0, .int a1, .int a2]) (n := 8) (Nat.le_of_ble_eq_true rfl)
  show W p l e (hp_rm 3 0 0) s m ([.ref a0, .int a1, .int a2] : List Value).toArray below meth c s.heap [] 0 0 (MQ below (hp_Qv Γ (fun β => β = res ∧ cw w_X8_toGrowth α β)) ([.ref a0, .int a1, .int a2] : List Value).toArray s 0 0 (hp_A Γ)) (entryFrame m ([.ref a0, .int a1, .int a2] : List Value).toArray 8)
  rw [lg_entry_eq]
  generalize (lg_sl ([.ref a0, .int a1, .int a2]) ++ List.replicate (8 - (lg_sl ([.ref a0, .int a1, .int a2])).length) Slot.unset).toArray = ls at hl ⊢
  have hl : lv_has ls 8 [(0, .ref a0), (1, .int a1), (2, .int a2)] := hl
  refine lv_aload_n hx hb dX8_toGrowth_0 rfl (lv_at hl 0 rfl) (hp_n (n := 1) rfl ?_)
  obtain ⟨αh1, qh1, hf⟩ := ms_bE hf
  refine d_cv (pc' := 4) B (hp_runV (As := []) (rest := []) C B (n_X8_clear n Γ l α B.2.2.1 a0 (cw_k B.2.2 k0) αh1 qh1) lb_X8_clear lv_X8_clear lk_X8_30 (cw_k B.2.2 k0) rfl (by decide) rfl hl.1 rfl (Nat.le_of_ble_eq_true rfl) dX8_toGrowth_1 ⟨Nat.le_refl _, Nat.le_refl _⟩) (by decide) rfl (fun Hh1 Lh1 Bh1 => ?_)
  refine lv_iload_n hx hb dX8_toGrowth_4 rfl (lv_at hl 1 rfl) (hp_n (n := 5) rfl ?_)
  refine lv_if_ne (tgt := 9) hx hb dX8_toGrowth_5 (by decide) (fun c2 => ?_) (fun c2 => hp_n (n := 8) rfl ?_)
  ·
    replace hf := ms_iF c2 hf
    refine lv_iconst (v := 0) hx hb dX8_toGrowth_9 (by decide) (hp_n (n := 10) rfl ?_)
    refine lv_istore_n (lv' := [(3, .int (0 : Int32)), (0, .ref a0), (1, .int a1), (2, .int a2)]) hx hb dX8_toGrowth_10 rfl hl (by decide) rfl (fun ls hl => hp_n (n := 11) rfl ?_)
    refine lv_iload_n hx hb dX8_toGrowth_11 rfl (lv_at hl 3 rfl) (hp_n (n := 12) rfl ?_)
    refine lv_istore (lv' := [(4, .int a2), (3, .int (0 : Int32)), (0, .ref a0), (1, .int a1), (2, .int a2)]) hx hb dX8_toGrowth_12 hl (by decide) rfl (fun ls hl => hp_n (n := 14) rfl ?_)
    refine lv_iconst (v := 1) hx hb dX8_toGrowth_14 (by decide) (hp_n (n := 15) rfl ?_)
    refine lv_istore (lv' := [(5, .int (1 : Int32)), (4, .int a2), (3, .int (0 : Int32)), (0, .ref a0), (1, .int a1), (2, .int a2)]) hx hb dX8_toGrowth_15 hl (by decide) rfl (fun ls hl => hp_n (n := 17) rfl ?_)
    refine lv_iconst (v := 0) hx hb dX8_toGrowth_17 (by decide) (hp_n (n := 18) rfl ?_)
    have J20 : ∀ (k20 : Nat) (αh3 : hp_T) (Hh3 : Heap) (Lh3 : List Loc) (Bh3 : hp_B Γ (cw w_X8_toGrowth) s α αh3 Hh3 Lh3) (v1_h3 : Int32) (v3_h3 : Int32) (v4_h3 : Int32) (v5_h3 : Int32) (v6_h3 : Int32) (ls : Array Slot) (hl : lv_has ls 8 [(0, .ref a0), (1, .int v1_h3), (3, .int v3_h3), (4, .int v4_h3), (5, .int v5_h3), (6, .int v6_h3)]) (hf : f_X8_toGrowth_L20 n a0 k20 αh3 v1_h3 v3_h3 v4_h3 v5_h3 v6_h3 = some res), W p l e (hp_rm 3 0 0) s m ([.ref a0, .int a1, .int a2] : List Value).toArray below meth c Hh3 Lh3 0 0 (MQ below (hp_Qv Γ (fun β => β = res ∧ cw w_X8_toGrowth α β)) ([.ref a0, .int a1, .int a2] : List Value).toArray s 0 0 (hp_A Γ)) (F0 m 20 ls []) := by
      intro k20
      induction k20 with
      | zero => intro αh3 Hh3 Lh3 Bh3 v1_h3 v3_h3 v4_h3 v5_h3 v6_h3 ls hl hf; rw [f_X8_toGrowth_L20.eq_1] at hf; cases hf
      | succ k20 ih20 =>
        intro αh3 Hh3 Lh3 Bh3 v1_h3 v3_h3 v4_h3 v5_h3 v6_h3 ls hl hf
        rw [f_X8_toGrowth_L20.eq_2] at hf
        refine lv_iload hx hb dX8_toGrowth_20 (lv_at hl 5 rfl) (hp_n (n := 22) rfl ?_)
        refine lv_bipush (v := 40) hx hb dX8_toGrowth_22 (by decide) (hp_n (n := 24) rfl ?_)
        have J100 : ∀ (αh4 : hp_T) (Hh4 : Heap) (Lh4 : List Loc) (Bh4 : hp_B Γ (cw w_X8_toGrowth) s α αh4 Hh4 Lh4) (v3_h4 : Int32) (v4_h4 : Int32) (v5_h4 : Int32) (ls : Array Slot) (hl : lv_has ls 8 [(0, .ref a0), (3, .int v3_h4), (4, .int v4_h4), (5, .int v5_h4)]) (hf : f_X8_toGrowth_J100 n a0 αh4 v3_h4 v4_h4 v5_h4 = some res), W p l e (hp_rm 3 0 0) s m ([.ref a0, .int a1, .int a2] : List Value).toArray below meth c Hh4 Lh4 0 0 (MQ below (hp_Qv Γ (fun β => β = res ∧ cw w_X8_toGrowth α β)) ([.ref a0, .int a1, .int a2] : List Value).toArray s 0 0 (hp_A Γ)) (F0 m 100 ls []) := by
          intro αh4 Hh4 Lh4 Bh4 v3_h4 v4_h4 v5_h4 ls hl hf
          unfold f_X8_toGrowth_J100 at hf
          refine lv_iload hx hb dX8_toGrowth_100 (lv_at hl 3 rfl) (hp_n (n := 102) rfl ?_)
          have J118 : ∀ (αh5 : hp_T) (Hh5 : Heap) (Lh5 : List Loc) (Bh5 : hp_B Γ (cw w_X8_toGrowth) s α αh5 Hh5 Lh5) (ls : Array Slot) (hl : lv_has ls 8 [(0, .ref a0)]) (hf : f_X8_toGrowth_J118 n a0 αh5 = some res), W p l e (hp_rm 3 0 0) s m ([.ref a0, .int a1, .int a2] : List Value).toArray below meth c Hh5 Lh5 0 0 (MQ below (hp_Qv Γ (fun β => β = res ∧ cw w_X8_toGrowth α β)) ([.ref a0, .int a1, .int a2] : List Value).toArray s 0 0 (hp_A Γ)) (F0 m 118 ls []) := by
            intro αh5 Hh5 Lh5 Bh5 ls hl hf
            unfold f_X8_toGrowth_J118 at hf
            refine lv_aload_n hx hb dX8_toGrowth_118 rfl (lv_at hl 0 rfl) (hp_n (n := 119) rfl ?_)
            obtain ⟨αh6, qh6, hf⟩ := ms_bE hf
            refine d_cv (pc' := 122) Bh5 (hp_runV (As := []) (rest := []) C Bh5 (n_X8_turnRound n Γ l αh5 Bh5.2.2.1 a0 (cw_k Bh5.2.2 k0) αh6 qh6) lb_X8_turnRound lv_X8_turnRound lk_X8_41 (cw_k Bh5.2.2 k0) rfl (by decide) rfl hl.1 rfl (Nat.le_of_ble_eq_true rfl) dX8_toGrowth_119 ⟨Nat.le_refl _, Nat.le_refl _⟩) (by decide) rfl (fun Hh6 Lh6 Bh6 => ?_)
            cases hf
            exact q_vret C Bh6 hr hlk ⟨rfl, Bh6.2.2⟩ dX8_toGrowth_122
          refine lv_if_ne (tgt := 118) hx hb dX8_toGrowth_102 (by decide) (fun c7 => ?_) (fun c7 => hp_n (n := 105) rfl ?_)
          ·
            replace hf := ms_iF c7 hf
            exact J118 αh4 Hh4 Lh4 Bh4 ls (lv_sub hl [0] rfl) hf
          ·
            replace hf := ms_iT c7 hf
            refine lv_aload_n hx hb dX8_toGrowth_105 rfl (lv_at hl 0 rfl) (hp_n (n := 106) rfl ?_)
            refine lv_iload_n hx hb dX8_toGrowth_106 rfl (lv_at hl 1 rfl) (hp_n (n := 107) rfl ?_)
            refine lv_iload hx hb dX8_toGrowth_107 (lv_at hl 2 rfl) (hp_n (n := 109) rfl ?_)
            refine lv_iconst (v := 0) hx hb dX8_toGrowth_109 (by decide) (hp_n (n := 110) rfl ?_)
            obtain ⟨αh8, qh8, hf⟩ := ms_bE hf
            refine d_cv (pc' := 113) Bh4 (hp_runV (As := [.int v3_h4, .int v4_h4, .int (0 : Int32)]) (rest := []) C Bh4 (n_X8_put n Γ l αh4 Bh4.2.2.1 a0 (cw_k Bh4.2.2 k0) v3_h4 v4_h4 (0 : Int32) αh8 qh8) lb_X8_put lv_X8_put lk_X8_37 (cw_k Bh4.2.2 k0) rfl (by decide) rfl hl.1 rfl (Nat.le_of_ble_eq_true rfl) dX8_toGrowth_110 ⟨Nat.le_refl _, Nat.le_refl _⟩) (by decide) rfl (fun Hh8 Lh8 Bh8 => ?_)
            refine lv_aload_n hx hb dX8_toGrowth_113 rfl (lv_at hl 0 rfl) (hp_n (n := 114) rfl ?_)
            refine lv_iconst (v := 1) hx hb dX8_toGrowth_114 (by decide) (hp_n (n := 115) rfl ?_)
            refine q_puti (κ := 9) (k := 4) (φ := 454) (pc' := 118) C Bh8 (cw_k Bh8.2.2 k0) fl_X8_26 rfl rfl rfl rfl rfl rfl (cw_sI Bh8.2.2 (by decide) (fun h => absurd h (by decide))) dX8_toGrowth_115 rfl (fun αh9 Hh9 Lh9 eh9 Bh9 => ?_)
            replace hf := ms_lE eh9 hf
            exact J118 αh9 Hh9 Lh9 Bh9 ls (lv_sub hl [0] rfl) hf
        refine lv_icmp_ge (tgt := 100) hx hb dX8_toGrowth_24 (by decide) (fun c10 => ?_) (fun c10 => hp_n (n := 27) rfl ?_)
        ·
          replace hf := ms_iT c10 hf
          exact J100 αh3 Hh3 Lh3 Bh3 v3_h3 v4_h3 v5_h3 ls (lv_sub hl [0, 2, 3, 4] rfl) hf
        ·
          replace hf := ms_iF c10 hf
          refine lv_iload_n hx hb dX8_toGrowth_27 rfl (lv_at hl 1 rfl) (hp_n (n := 28) rfl ?_)
          refine lv_iload_n hx hb dX8_toGrowth_28 rfl (lv_at hl 2 rfl) (hp_n (n := 29) rfl ?_)
          refine lv_isub hx hb dX8_toGrowth_29 (hp_n (n := 30) rfl ?_)
          refine lv_iload hx hb dX8_toGrowth_30 (lv_at hl 3 rfl) (hp_n (n := 32) rfl ?_)
          refine lv_icmp_eq (tgt := 100) hx hb dX8_toGrowth_32 (by decide) (fun c11 => ?_) (fun c11 => hp_n (n := 35) rfl ?_)
          ·
            replace hf := ms_iT c11 hf
            exact J100 αh3 Hh3 Lh3 Bh3 v3_h3 v4_h3 v5_h3 ls (lv_sub hl [0, 2, 3, 4] rfl) hf
          ·
            replace hf := ms_iF c11 hf
            refine lv_iload hx hb dX8_toGrowth_35 (lv_at hl 3 rfl) (hp_n (n := 37) rfl ?_)
            obtain ⟨rh12, qh12, hf⟩ := ms_bE hf
            refine d_pi (pc' := 40) Bh3 (hp_runS (As := [.int v4_h3]) (rest := []) C Bh3 (n_X11_firstPartOf n Γ l αh3 Bh3.2.2.1 v4_h3 rh12 qh12) lb_X11_firstPartOf ls_X11_firstPartOf lk_X8_33 rfl (by decide) rfl hl.1 rfl (Nat.le_of_ble_eq_true rfl) dX8_toGrowth_37 ⟨Nat.le_refl _, Nat.le_refl _⟩) rfl (fun Hh12 Lh12 Bh12 => ?_)
            refine lv_istore (lv' := [(7, .int rh12), (0, .ref a0), (1, .int v1_h3), (3, .int v3_h3), (4, .int v4_h3), (5, .int v5_h3), (6, .int v6_h3)]) hx hb dX8_toGrowth_40 hl (by decide) rfl (fun ls hl => hp_n (n := 42) rfl ?_)
            refine lv_iload_n hx hb dX8_toGrowth_42 rfl (lv_at hl 2 rfl) (hp_n (n := 43) rfl ?_)
            refine lv_iload_n hx hb dX8_toGrowth_43 rfl (lv_at hl 3 rfl) (hp_n (n := 44) rfl ?_)
            refine lv_isub hx hb dX8_toGrowth_44 (hp_n (n := 45) rfl ?_)
            refine lv_iload hx hb dX8_toGrowth_45 (lv_at hl 0 rfl) (hp_n (n := 47) rfl ?_)
            have J94 : ∀ (αh13 : hp_T) (Hh13 : Heap) (Lh13 : List Loc) (Bh13 : hp_B Γ (cw w_X8_toGrowth) s α αh13 Hh13 Lh13) (v1_h13 : Int32) (v3_h13 : Int32) (v4_h13 : Int32) (v5_h13 : Int32) (v6_h13 : Int32) (ls : Array Slot) (hl : lv_has ls 8 [(0, .ref a0), (1, .int v1_h13), (3, .int v3_h13), (4, .int v4_h13), (5, .int v5_h13), (6, .int v6_h13)]) (hf : f_X8_toGrowth_J94 n a0 (f_X8_toGrowth_L20 n a0 k20) αh13 v1_h13 v3_h13 v4_h13 v5_h13 v6_h13 = some res), W p l e (hp_rm 3 0 0) s m ([.ref a0, .int a1, .int a2] : List Value).toArray below meth c Hh13 Lh13 0 0 (MQ below (hp_Qv Γ (fun β => β = res ∧ cw w_X8_toGrowth α β)) ([.ref a0, .int a1, .int a2] : List Value).toArray s 0 0 (hp_A Γ)) (F0 m 94 ls []) := by
              intro αh13 Hh13 Lh13 Bh13 v1_h13 v3_h13 v4_h13 v5_h13 v6_h13 ls hl hf
              unfold f_X8_toGrowth_J94 at hf
              obtain ⟨x14, ex14⟩ : ∃ y : Int32, y = v6_h13 + 1 := ⟨_, rfl⟩
              replace hf := ms_lE ex14 hf
              refine lv_iinc (v := x14) (lv' := [(6, .int x14), (0, .ref a0), (1, .int v1_h13), (3, .int v3_h13), (4, .int v4_h13), (5, .int v5_h13)]) hx hb dX8_toGrowth_94 hl (k := 5) rfl (by rw [ex14]; rfl) (by decide) rfl (fun ls hl => hp_n (n := 97) rfl ?_)
              refine lv_goto (tgt := 20) hx hb dX8_toGrowth_97 (by decide) ?_
              exact ih20 αh13 Hh13 Lh13 Bh13 v1_h13 v3_h13 v4_h13 v5_h13 x14 ls (lv_sub hl [1, 2, 3, 4, 5, 0] rfl) hf
            refine lv_icmp_gt (tgt := 71) hx hb dX8_toGrowth_47 (by decide) (fun c15 => ?_) (fun c15 => hp_n (n := 50) rfl ?_)
            ·
              replace hf := ms_iT c15 hf
              refine lv_aload_n hx hb dX8_toGrowth_71 rfl (lv_at hl 1 rfl) (hp_n (n := 72) rfl ?_)
              refine lv_iload_n hx hb dX8_toGrowth_72 rfl (lv_at hl 3 rfl) (hp_n (n := 73) rfl ?_)
              refine lv_iload hx hb dX8_toGrowth_73 (lv_at hl 0 rfl) (hp_n (n := 75) rfl ?_)
              refine lv_iconst (v := 1) hx hb dX8_toGrowth_75 (by decide) (hp_n (n := 76) rfl ?_)
              obtain ⟨αh16, qh16, hf⟩ := ms_bE hf
              refine d_cv (pc' := 79) Bh12 (hp_runV (As := [.int v3_h3, .int rh12, .int (1 : Int32)]) (rest := []) C Bh12 (n_X8_put n Γ l αh3 Bh12.2.2.1 a0 (cw_k Bh12.2.2 k0) v3_h3 rh12 (1 : Int32) αh16 qh16) lb_X8_put lv_X8_put lk_X8_37 (cw_k Bh12.2.2 k0) rfl (by decide) rfl hl.1 rfl (Nat.le_of_ble_eq_true rfl) dX8_toGrowth_76 ⟨Nat.le_refl _, Nat.le_refl _⟩) (by decide) rfl (fun Hh16 Lh16 Bh16 => ?_)
              refine lv_iload_n hx hb dX8_toGrowth_79 rfl (lv_at hl 3 rfl) (hp_n (n := 80) rfl ?_)
              refine lv_iload hx hb dX8_toGrowth_80 (lv_at hl 0 rfl) (hp_n (n := 82) rfl ?_)
              refine lv_iadd hx hb dX8_toGrowth_82 (hp_n (n := 83) rfl ?_)
              refine lv_topi (fun x17 ex17 => ?_)
              replace hf := ms_lE ex17 hf
              refine lv_istore_n (lv' := [(3, .int x17), (7, .int rh12), (0, .ref a0), (1, .int v1_h3), (4, .int v4_h3), (5, .int v5_h3), (6, .int v6_h3)]) hx hb dX8_toGrowth_83 rfl hl (by decide) rfl (fun ls hl => hp_n (n := 84) rfl ?_)
              refine lv_iload hx hb dX8_toGrowth_84 (lv_at hl 4 rfl) (hp_n (n := 86) rfl ?_)
              refine lv_iload hx hb dX8_toGrowth_86 (lv_at hl 1 rfl) (hp_n (n := 88) rfl ?_)
              refine lv_isub hx hb dX8_toGrowth_88 (hp_n (n := 89) rfl ?_)
              refine lv_topi (fun x18 ex18 => ?_)
              replace hf := ms_lE ex18 hf
              refine lv_istore (lv' := [(4, .int x18), (3, .int x17), (7, .int rh12), (0, .ref a0), (1, .int v1_h3), (5, .int v5_h3), (6, .int v6_h3)]) hx hb dX8_toGrowth_89 hl (by decide) rfl (fun ls hl => hp_n (n := 91) rfl ?_)
              refine lv_iconst (v := 0) hx hb dX8_toGrowth_91 (by decide) (hp_n (n := 92) rfl ?_)
              refine lv_istore (lv' := [(5, .int (0 : Int32)), (4, .int x18), (3, .int x17), (7, .int rh12), (0, .ref a0), (1, .int v1_h3), (6, .int v6_h3)]) hx hb dX8_toGrowth_92 hl (by decide) rfl (fun ls hl => hp_n (n := 94) rfl ?_)
              exact J94 αh16 Hh16 Lh16 Bh16 v1_h3 x17 x18 (0 : Int32) v6_h3 ls (lv_sub hl [4, 5, 2, 1, 0, 6] rfl) hf
            ·
              replace hf := ms_iF c15 hf
              refine lv_aload_n hx hb dX8_toGrowth_50 rfl (lv_at hl 1 rfl) (hp_n (n := 51) rfl ?_)
              refine lv_iload_n hx hb dX8_toGrowth_51 rfl (lv_at hl 3 rfl) (hp_n (n := 52) rfl ?_)
              refine lv_iload hx hb dX8_toGrowth_52 (lv_at hl 0 rfl) (hp_n (n := 54) rfl ?_)
              refine lv_iadd hx hb dX8_toGrowth_54 (hp_n (n := 55) rfl ?_)
              refine lv_iload hx hb dX8_toGrowth_55 (lv_at hl 4 rfl) (hp_n (n := 57) rfl ?_)
              refine lv_iload hx hb dX8_toGrowth_57 (lv_at hl 0 rfl) (hp_n (n := 59) rfl ?_)
              refine lv_isub hx hb dX8_toGrowth_59 (hp_n (n := 60) rfl ?_)
              refine lv_iconst (v := 0) hx hb dX8_toGrowth_60 (by decide) (hp_n (n := 61) rfl ?_)
              obtain ⟨αh19, qh19, hf⟩ := ms_bE hf
              refine d_cv (pc' := 64) Bh12 (hp_runV (As := [.int (v3_h3 + rh12), .int (v4_h3 - rh12), .int (0 : Int32)]) (rest := []) C Bh12 (n_X8_put n Γ l αh3 Bh12.2.2.1 a0 (cw_k Bh12.2.2 k0) (v3_h3 + rh12) (v4_h3 - rh12) (0 : Int32) αh19 qh19) lb_X8_put lv_X8_put lk_X8_37 (cw_k Bh12.2.2 k0) rfl (by decide) rfl hl.1 rfl (Nat.le_of_ble_eq_true rfl) dX8_toGrowth_61 ⟨Nat.le_refl _, Nat.le_refl _⟩) (by decide) rfl (fun Hh19 Lh19 Bh19 => ?_)
              refine lv_iload hx hb dX8_toGrowth_64 (lv_at hl 0 rfl) (hp_n (n := 66) rfl ?_)
              refine lv_istore (lv' := [(4, .int rh12), (7, .int rh12), (0, .ref a0), (1, .int v1_h3), (3, .int v3_h3), (5, .int v5_h3), (6, .int v6_h3)]) hx hb dX8_toGrowth_66 hl (by decide) rfl (fun ls hl => hp_n (n := 68) rfl ?_)
              refine lv_goto (tgt := 94) hx hb dX8_toGrowth_68 (by decide) ?_
              exact J94 αh19 Hh19 Lh19 Bh19 v1_h3 v3_h3 rh12 v5_h3 v6_h3 ls (lv_sub hl [2, 3, 4, 0, 5, 6] rfl) hf
    refine lv_istore (lv' := [(6, .int (0 : Int32)), (5, .int (1 : Int32)), (4, .int a2), (3, .int (0 : Int32)), (0, .ref a0), (1, .int a1), (2, .int a2)]) hx hb dX8_toGrowth_18 hl (by decide) rfl (fun ls hl => hp_n (n := 20) rfl ?_)
    exact J20 n αh1 Hh1 Lh1 Bh1 a1 (0 : Int32) a2 (1 : Int32) (0 : Int32) ls (lv_sub hl [4, 5, 3, 2, 1, 0] rfl) hf
  ·
    replace hf := ms_iT c2 hf
    cases hf
    exact q_vret C Bh1 hr hlk ⟨rfl, Bh1.2.2⟩ dX8_toGrowth_8
def f_X8_firstAt (n : Nat) (α : hp_T) (a0 : Nat) (a1 : Int32) : Option Int32 :=
  if a1 < 0 then
    some (0 : Int32)
  else
    ms_l (hp_I α 453 a0) fun x2 =>
    if x2 ≤ a1 then
      some (0 : Int32)
    else
      ms_l (hp_R α 450 a0) fun b4 =>
      if (64 : Int32) ≤ a1 then
        some (0 : Int32)
      else
        ms_l (hp_R α 450 a0) fun b6 =>
        ms_g a1 64 <|
        some (hp_E α 21 b6 (a1).toNatClampNeg)
set_option maxRecDepth 100000 in
set_option maxHeartbeats 4000000 in
theorem n_X8_firstAt (n : Nat) (Γ : hp_G) (l : Launch) (α : hp_T) (g : GC α) (a0 : Nat) (k0 : hp_K α a0 = 9) (a1 : Int32) (res : Int32) (hf : f_X8_firstAt n α a0 a1 = some res) : Met l yX8_firstAt (hp_ws yX8_firstAt cX8_firstAt 2 (some .int)) (hp_rm 0 0 0) (hp_Pc Γ α [.ref a0, .int a1]) (hp_Qi Γ (fun r β => β = α ∧ r = res)) 0 0 (hp_A Γ) := by
  unfold f_X8_firstAt at hf
  refine hp_start (by decide) ?_
  intro p e s m below meth c C hr hlk B0 hnm
  have C : hp_C Γ p m c cX8_firstAt 2 s ([.ref a0, .int a1] : List Value).toArray RX8 := C
  have hx := C.1.1
  have hb := C.1.2.1
  have hown := C.1.2.2.2.1
  have hts := C.1.2.2.2.2
  have B : hp_B Γ (cw w_X8_firstAt) s α α s.heap [] := ⟨B0.1, B0.2.1, cw_rf g⟩
  have hl := lv_entry ([.ref a0, .int a1]) (n := 2) (Nat.le_of_ble_eq_true rfl)
  show W p l e (hp_rm 0 0 0) s m ([.ref a0, .int a1] : List Value).toArray below meth c s.heap [] 0 0 (MQ below (hp_Qi Γ (fun r β => β = α ∧ r = res)) ([.ref a0, .int a1] : List Value).toArray s 0 0 (hp_A Γ)) (entryFrame m ([.ref a0, .int a1] : List Value).toArray 2)
  rw [lg_entry_eq]
  generalize (lg_sl ([.ref a0, .int a1]) ++ List.replicate (2 - (lg_sl ([.ref a0, .int a1])).length) Slot.unset).toArray = ls at hl ⊢
  have hl : lv_has ls 2 [(0, .ref a0), (1, .int a1)] := hl
  refine lv_iload_n hx hb dX8_firstAt_0 rfl (lv_at hl 1 rfl) (hp_n (n := 1) rfl ?_)
  refine lv_if_lt (tgt := 30) hx hb dX8_firstAt_1 (by decide) (fun c1 => ?_) (fun c1 => hp_n (n := 4) rfl ?_)
  ·
    replace hf := ms_iT c1 hf
    refine lv_iconst (v := 0) hx hb dX8_firstAt_30 (by decide) (hp_n (n := 31) rfl ?_)
    cases hf
    exact q_iret C B hr hlk ⟨rfl, rfl⟩ dX8_firstAt_31
  ·
    replace hf := ms_iF c1 hf
    refine lv_iload_n hx hb dX8_firstAt_4 rfl (lv_at hl 1 rfl) (hp_n (n := 5) rfl ?_)
    refine lv_aload_n hx hb dX8_firstAt_5 rfl (lv_at hl 0 rfl) (hp_n (n := 6) rfl ?_)
    refine q_geti (κ := 9) (k := 3) (φ := 453) (pc' := 9) C B (cw_k B.2.2 k0) fl_X8_22 rfl rfl rfl dX8_firstAt_6 rfl (fun x2 ex2 => ?_)
    replace hf := ms_lE ex2 hf
    refine lv_icmp_ge (tgt := 30) hx hb dX8_firstAt_9 (by decide) (fun c3 => ?_) (fun c3 => hp_n (n := 12) rfl ?_)
    ·
      replace hf := ms_iT c3 hf
      refine lv_iconst (v := 0) hx hb dX8_firstAt_30 (by decide) (hp_n (n := 31) rfl ?_)
      cases hf
      exact q_iret C B hr hlk ⟨rfl, rfl⟩ dX8_firstAt_31
    ·
      replace hf := ms_iF c3 hf
      refine lv_iload_n hx hb dX8_firstAt_12 rfl (lv_at hl 1 rfl) (hp_n (n := 13) rfl ?_)
      refine lv_aload_n hx hb dX8_firstAt_13 rfl (lv_at hl 0 rfl) (hp_n (n := 14) rfl ?_)
      refine q_getr (κ := 9) (k := 0) (φ := 450) (pc' := 17) C B (cw_k B.2.2 k0) fl_X8_9 rfl rfl rfl (cw_r B.2.2 k0 rfl rfl (by decide) (by decide)) dX8_firstAt_14 rfl (fun b4 eb4 kb4 => ?_)
      replace hf := ms_lE eb4 hf
      refine q_alen (κ := 21) (t := 0) (n := 64) (x := 64) (ty := .int) (pc' := 18) C B (cw_k B.2.2 kb4) (by decide) rfl rfl rfl dX8_firstAt_17 rfl ?_
      refine lv_icmp_ge (tgt := 30) hx hb dX8_firstAt_18 (by decide) (fun c5 => ?_) (fun c5 => hp_n (n := 21) rfl ?_)
      ·
        replace hf := ms_iT c5 hf
        refine lv_iconst (v := 0) hx hb dX8_firstAt_30 (by decide) (hp_n (n := 31) rfl ?_)
        cases hf
        exact q_iret C B hr hlk ⟨rfl, rfl⟩ dX8_firstAt_31
      ·
        replace hf := ms_iF c5 hf
        refine lv_aload_n hx hb dX8_firstAt_21 rfl (lv_at hl 0 rfl) (hp_n (n := 22) rfl ?_)
        refine q_getr (κ := 9) (k := 0) (φ := 450) (pc' := 25) C B (cw_k B.2.2 k0) fl_X8_9 rfl rfl rfl (cw_r B.2.2 k0 rfl rfl (by decide) (by decide)) dX8_firstAt_22 rfl (fun b6 eb6 kb6 => ?_)
        replace hf := ms_lE eb6 hf
        refine lv_iload_n hx hb dX8_firstAt_25 rfl (lv_at hl 1 rfl) (hp_n (n := 26) rfl ?_)
        obtain ⟨g7, hf⟩ := ms_gE hf
        refine q_ial (κ := 21) (n := 64) (pc' := 27) C B (cw_k B.2.2 kb6) (by decide) rfl (vi_of g7.1 g7.2) dX8_firstAt_26 rfl ?_
        refine lv_goto (tgt := 31) hx hb dX8_firstAt_27 (by decide) ?_
        cases hf
        exact q_iret C B hr hlk ⟨rfl, rfl⟩ dX8_firstAt_31
def f_X8_manyAt (n : Nat) (α : hp_T) (a0 : Nat) (a1 : Int32) : Option Int32 :=
  if a1 < 0 then
    some (0 : Int32)
  else
    ms_l (hp_I α 453 a0) fun x2 =>
    if x2 ≤ a1 then
      some (0 : Int32)
    else
      ms_l (hp_R α 451 a0) fun b4 =>
      if (64 : Int32) ≤ a1 then
        some (0 : Int32)
      else
        ms_l (hp_R α 451 a0) fun b6 =>
        ms_g a1 64 <|
        some (hp_E α 22 b6 (a1).toNatClampNeg)
set_option maxRecDepth 100000 in
set_option maxHeartbeats 4000000 in
theorem n_X8_manyAt (n : Nat) (Γ : hp_G) (l : Launch) (α : hp_T) (g : GC α) (a0 : Nat) (k0 : hp_K α a0 = 9) (a1 : Int32) (res : Int32) (hf : f_X8_manyAt n α a0 a1 = some res) : Met l yX8_manyAt (hp_ws yX8_manyAt cX8_manyAt 2 (some .int)) (hp_rm 0 0 0) (hp_Pc Γ α [.ref a0, .int a1]) (hp_Qi Γ (fun r β => β = α ∧ r = res)) 0 0 (hp_A Γ) := by
  unfold f_X8_manyAt at hf
  refine hp_start (by decide) ?_
  intro p e s m below meth c C hr hlk B0 hnm
  have C : hp_C Γ p m c cX8_manyAt 2 s ([.ref a0, .int a1] : List Value).toArray RX8 := C
  have hx := C.1.1
  have hb := C.1.2.1
  have hown := C.1.2.2.2.1
  have hts := C.1.2.2.2.2
  have B : hp_B Γ (cw w_X8_manyAt) s α α s.heap [] := ⟨B0.1, B0.2.1, cw_rf g⟩
  have hl := lv_entry ([.ref a0, .int a1]) (n := 2) (Nat.le_of_ble_eq_true rfl)
  show W p l e (hp_rm 0 0 0) s m ([.ref a0, .int a1] : List Value).toArray below meth c s.heap [] 0 0 (MQ below (hp_Qi Γ (fun r β => β = α ∧ r = res)) ([.ref a0, .int a1] : List Value).toArray s 0 0 (hp_A Γ)) (entryFrame m ([.ref a0, .int a1] : List Value).toArray 2)
  rw [lg_entry_eq]
  generalize (lg_sl ([.ref a0, .int a1]) ++ List.replicate (2 - (lg_sl ([.ref a0, .int a1])).length) Slot.unset).toArray = ls at hl ⊢
  have hl : lv_has ls 2 [(0, .ref a0), (1, .int a1)] := hl
  refine lv_iload_n hx hb dX8_manyAt_0 rfl (lv_at hl 1 rfl) (hp_n (n := 1) rfl ?_)
  refine lv_if_lt (tgt := 30) hx hb dX8_manyAt_1 (by decide) (fun c1 => ?_) (fun c1 => hp_n (n := 4) rfl ?_)
  ·
    replace hf := ms_iT c1 hf
    refine lv_iconst (v := 0) hx hb dX8_manyAt_30 (by decide) (hp_n (n := 31) rfl ?_)
    cases hf
    exact q_iret C B hr hlk ⟨rfl, rfl⟩ dX8_manyAt_31
  ·
    replace hf := ms_iF c1 hf
    refine lv_iload_n hx hb dX8_manyAt_4 rfl (lv_at hl 1 rfl) (hp_n (n := 5) rfl ?_)
    refine lv_aload_n hx hb dX8_manyAt_5 rfl (lv_at hl 0 rfl) (hp_n (n := 6) rfl ?_)
    refine q_geti (κ := 9) (k := 3) (φ := 453) (pc' := 9) C B (cw_k B.2.2 k0) fl_X8_22 rfl rfl rfl dX8_manyAt_6 rfl (fun x2 ex2 => ?_)
    replace hf := ms_lE ex2 hf
    refine lv_icmp_ge (tgt := 30) hx hb dX8_manyAt_9 (by decide) (fun c3 => ?_) (fun c3 => hp_n (n := 12) rfl ?_)
    ·
      replace hf := ms_iT c3 hf
      refine lv_iconst (v := 0) hx hb dX8_manyAt_30 (by decide) (hp_n (n := 31) rfl ?_)
      cases hf
      exact q_iret C B hr hlk ⟨rfl, rfl⟩ dX8_manyAt_31
    ·
      replace hf := ms_iF c3 hf
      refine lv_iload_n hx hb dX8_manyAt_12 rfl (lv_at hl 1 rfl) (hp_n (n := 13) rfl ?_)
      refine lv_aload_n hx hb dX8_manyAt_13 rfl (lv_at hl 0 rfl) (hp_n (n := 14) rfl ?_)
      refine q_getr (κ := 9) (k := 1) (φ := 451) (pc' := 17) C B (cw_k B.2.2 k0) fl_X8_15 rfl rfl rfl (cw_r B.2.2 k0 rfl rfl (by decide) (by decide)) dX8_manyAt_14 rfl (fun b4 eb4 kb4 => ?_)
      replace hf := ms_lE eb4 hf
      refine q_alen (κ := 22) (t := 0) (n := 64) (x := 64) (ty := .int) (pc' := 18) C B (cw_k B.2.2 kb4) (by decide) rfl rfl rfl dX8_manyAt_17 rfl ?_
      refine lv_icmp_ge (tgt := 30) hx hb dX8_manyAt_18 (by decide) (fun c5 => ?_) (fun c5 => hp_n (n := 21) rfl ?_)
      ·
        replace hf := ms_iT c5 hf
        refine lv_iconst (v := 0) hx hb dX8_manyAt_30 (by decide) (hp_n (n := 31) rfl ?_)
        cases hf
        exact q_iret C B hr hlk ⟨rfl, rfl⟩ dX8_manyAt_31
      ·
        replace hf := ms_iF c5 hf
        refine lv_aload_n hx hb dX8_manyAt_21 rfl (lv_at hl 0 rfl) (hp_n (n := 22) rfl ?_)
        refine q_getr (κ := 9) (k := 1) (φ := 451) (pc' := 25) C B (cw_k B.2.2 k0) fl_X8_15 rfl rfl rfl (cw_r B.2.2 k0 rfl rfl (by decide) (by decide)) dX8_manyAt_22 rfl (fun b6 eb6 kb6 => ?_)
        replace hf := ms_lE eb6 hf
        refine lv_iload_n hx hb dX8_manyAt_25 rfl (lv_at hl 1 rfl) (hp_n (n := 26) rfl ?_)
        obtain ⟨g7, hf⟩ := ms_gE hf
        refine q_ial (κ := 22) (n := 64) (pc' := 27) C B (cw_k B.2.2 kb6) (by decide) rfl (vi_of g7.1 g7.2) dX8_manyAt_26 rfl ?_
        refine lv_goto (tgt := 31) hx hb dX8_manyAt_27 (by decide) ?_
        cases hf
        exact q_iret C B hr hlk ⟨rfl, rfl⟩ dX8_manyAt_31
def f_X11_answer (n : Nat) (α : hp_T) (a0 : Nat) (a1 : Int32) : Option (Int32 × hp_T) :=
  ms_l (hp_sI α 600 a0 (0 : Int32)) fun αh1 =>
  some (a1, αh1)
set_option maxRecDepth 100000 in
set_option maxHeartbeats 4000000 in
theorem n_X11_answer (n : Nat) (Γ : hp_G) (l : Launch) (α : hp_T) (g : GC α) (a0 : Nat) (k0 : hp_K α a0 = 12) (a1 : Int32) (res : (Int32 × hp_T)) (hf : f_X11_answer n α a0 a1 = some res) : Met l yX11_answer (hp_ws yX11_answer cX11_answer 2 (some .int)) (hp_rm 0 0 0) (hp_Pc Γ α [.ref a0, .int a1]) (hp_Qi Γ (fun r β => r = res.1 ∧ β = res.2 ∧ cw w_X11_answer α β)) 0 0 (hp_A Γ) := by
  unfold f_X11_answer at hf
  refine hp_start (by decide) ?_
  intro p e s m below meth c C hr hlk B0 hnm
  have C : hp_C Γ p m c cX11_answer 2 s ([.ref a0, .int a1] : List Value).toArray RX11 := C
  have hx := C.1.1
  have hb := C.1.2.1
  have hown := C.1.2.2.2.1
  have hts := C.1.2.2.2.2
  have B : hp_B Γ (cw w_X11_answer) s α α s.heap [] := ⟨B0.1, B0.2.1, cw_rf g⟩
  have hl := lv_entry ([.ref a0, .int a1]) (n := 2) (Nat.le_of_ble_eq_true rfl)
  show W p l e (hp_rm 0 0 0) s m ([.ref a0, .int a1] : List Value).toArray below meth c s.heap [] 0 0 (MQ below (hp_Qi Γ (fun r β => r = res.1 ∧ β = res.2 ∧ cw w_X11_answer α β)) ([.ref a0, .int a1] : List Value).toArray s 0 0 (hp_A Γ)) (entryFrame m ([.ref a0, .int a1] : List Value).toArray 2)
  rw [lg_entry_eq]
  generalize (lg_sl ([.ref a0, .int a1]) ++ List.replicate (2 - (lg_sl ([.ref a0, .int a1])).length) Slot.unset).toArray = ls at hl ⊢
  have hl : lv_has ls 2 [(0, .ref a0), (1, .int a1)] := hl
  refine lv_aload_n hx hb dX11_answer_0 rfl (lv_at hl 0 rfl) (hp_n (n := 1) rfl ?_)
  refine lv_iconst (v := 0) hx hb dX11_answer_1 (by decide) (hp_n (n := 2) rfl ?_)
  refine q_puti (κ := 12) (k := 0) (φ := 600) (pc' := 5) C B (cw_k B.2.2 k0) fl_X11_9 rfl rfl rfl rfl rfl rfl (cw_sI B.2.2 (by decide) (fun h => absurd h (by decide))) dX11_answer_2 rfl (fun αh1 Hh1 Lh1 eh1 Bh1 => ?_)
  replace hf := ms_lE eh1 hf
  refine lv_iload_n hx hb dX11_answer_5 rfl (lv_at hl 1 rfl) (hp_n (n := 6) rfl ?_)
  cases hf
  exact q_iret C Bh1 hr hlk ⟨rfl, rfl, Bh1.2.2⟩ dX11_answer_6
def f_X11_refuse (n : Nat) (α : hp_T) (a0 : Nat) (a1 : Int32) : Option (Int32 × hp_T) :=
  ms_l (hp_sI α 600 a0 a1) fun αh1 =>
  some ((-1 : Int32), αh1)
set_option maxRecDepth 100000 in
set_option maxHeartbeats 4000000 in
theorem n_X11_refuse (n : Nat) (Γ : hp_G) (l : Launch) (α : hp_T) (g : GC α) (a0 : Nat) (k0 : hp_K α a0 = 12) (a1 : Int32) (res : (Int32 × hp_T)) (hf : f_X11_refuse n α a0 a1 = some res) : Met l yX11_refuse (hp_ws yX11_refuse cX11_refuse 2 (some .int)) (hp_rm 0 0 0) (hp_Pc Γ α [.ref a0, .int a1]) (hp_Qi Γ (fun r β => r = res.1 ∧ β = res.2 ∧ cw w_X11_refuse α β)) 0 0 (hp_A Γ) := by
  unfold f_X11_refuse at hf
  refine hp_start (by decide) ?_
  intro p e s m below meth c C hr hlk B0 hnm
  have C : hp_C Γ p m c cX11_refuse 2 s ([.ref a0, .int a1] : List Value).toArray RX11 := C
  have hx := C.1.1
  have hb := C.1.2.1
  have hown := C.1.2.2.2.1
  have hts := C.1.2.2.2.2
  have B : hp_B Γ (cw w_X11_refuse) s α α s.heap [] := ⟨B0.1, B0.2.1, cw_rf g⟩
  have hl := lv_entry ([.ref a0, .int a1]) (n := 2) (Nat.le_of_ble_eq_true rfl)
  show W p l e (hp_rm 0 0 0) s m ([.ref a0, .int a1] : List Value).toArray below meth c s.heap [] 0 0 (MQ below (hp_Qi Γ (fun r β => r = res.1 ∧ β = res.2 ∧ cw w_X11_refuse α β)) ([.ref a0, .int a1] : List Value).toArray s 0 0 (hp_A Γ)) (entryFrame m ([.ref a0, .int a1] : List Value).toArray 2)
  rw [lg_entry_eq]
  generalize (lg_sl ([.ref a0, .int a1]) ++ List.replicate (2 - (lg_sl ([.ref a0, .int a1])).length) Slot.unset).toArray = ls at hl ⊢
  have hl : lv_has ls 2 [(0, .ref a0), (1, .int a1)] := hl
  refine lv_aload_n hx hb dX11_refuse_0 rfl (lv_at hl 0 rfl) (hp_n (n := 1) rfl ?_)
  refine lv_iload_n hx hb dX11_refuse_1 rfl (lv_at hl 1 rfl) (hp_n (n := 2) rfl ?_)
  refine q_puti (κ := 12) (k := 0) (φ := 600) (pc' := 5) C B (cw_k B.2.2 k0) fl_X11_9 rfl rfl rfl rfl rfl rfl (cw_sI B.2.2 (by decide) (fun h => absurd h (by decide))) dX11_refuse_2 rfl (fun αh1 Hh1 Lh1 eh1 Bh1 => ?_)
  replace hf := ms_lE eh1 hf
  refine lv_iconst (v := (-1)) hx hb dX11_refuse_5 (by decide) (hp_n (n := 6) rfl ?_)
  cases hf
  exact q_iret C Bh1 hr hlk ⟨rfl, rfl, Bh1.2.2⟩ dX11_refuse_6
def f_X11_isThing (n : Nat) (a0 : Int32) (a1 : Int32) : Option Int32 :=
  if a0 < 0 then
    some (0 : Int32)
  else
    if a1 ≤ a0 then
      some (0 : Int32)
    else
      some (1 : Int32)
set_option maxRecDepth 100000 in
set_option maxHeartbeats 4000000 in
theorem n_X11_isThing (n : Nat) (Γ : hp_G) (l : Launch) (α : hp_T) (g : GC α) (a0 : Int32) (a1 : Int32) (res : Int32) (hf : f_X11_isThing n a0 a1 = some res) : Met l yX11_isThing (hp_ws yX11_isThing cX11_isThing 2 (some .boolean)) (hp_rm 0 0 0) (hp_Pc Γ α [.int a0, .int a1]) (hp_Qi Γ (fun r β => β = α ∧ r = res)) 0 0 (hp_A Γ) := by
  unfold f_X11_isThing at hf
  refine hp_start (by decide) ?_
  intro p e s m below meth c C hr hlk B0 hnm
  have C : hp_C Γ p m c cX11_isThing 2 s ([.int a0, .int a1] : List Value).toArray RX11 := C
  have hx := C.1.1
  have hb := C.1.2.1
  have hown := C.1.2.2.2.1
  have hts := C.1.2.2.2.2
  have B : hp_B Γ (cw w_X11_isThing) s α α s.heap [] := ⟨B0.1, B0.2.1, cw_rf g⟩
  have hl := lv_entry ([.int a0, .int a1]) (n := 2) (Nat.le_of_ble_eq_true rfl)
  show W p l e (hp_rm 0 0 0) s m ([.int a0, .int a1] : List Value).toArray below meth c s.heap [] 0 0 (MQ below (hp_Qi Γ (fun r β => β = α ∧ r = res)) ([.int a0, .int a1] : List Value).toArray s 0 0 (hp_A Γ)) (entryFrame m ([.int a0, .int a1] : List Value).toArray 2)
  rw [lg_entry_eq]
  generalize (lg_sl ([.int a0, .int a1]) ++ List.replicate (2 - (lg_sl ([.int a0, .int a1])).length) Slot.unset).toArray = ls at hl ⊢
  have hl : lv_has ls 2 [(0, .int a0), (1, .int a1)] := hl
  refine lv_iload_n hx hb dX11_isThing_0 rfl (lv_at hl 0 rfl) (hp_n (n := 1) rfl ?_)
  refine lv_if_lt (tgt := 13) hx hb dX11_isThing_1 (by decide) (fun c1 => ?_) (fun c1 => hp_n (n := 4) rfl ?_)
  ·
    replace hf := ms_iT c1 hf
    refine lv_iconst (v := 0) hx hb dX11_isThing_13 (by decide) (hp_n (n := 14) rfl ?_)
    cases hf
    exact q_zret C B hr hlk (by decide) ⟨rfl, rfl⟩ dX11_isThing_14
  ·
    replace hf := ms_iF c1 hf
    refine lv_iload_n hx hb dX11_isThing_4 rfl (lv_at hl 0 rfl) (hp_n (n := 5) rfl ?_)
    refine lv_iload_n hx hb dX11_isThing_5 rfl (lv_at hl 1 rfl) (hp_n (n := 6) rfl ?_)
    refine lv_icmp_ge (tgt := 13) hx hb dX11_isThing_6 (by decide) (fun c2 => ?_) (fun c2 => hp_n (n := 9) rfl ?_)
    ·
      replace hf := ms_iT c2 hf
      refine lv_iconst (v := 0) hx hb dX11_isThing_13 (by decide) (hp_n (n := 14) rfl ?_)
      cases hf
      exact q_zret C B hr hlk (by decide) ⟨rfl, rfl⟩ dX11_isThing_14
    ·
      replace hf := ms_iF c2 hf
      refine lv_iconst (v := 1) hx hb dX11_isThing_9 (by decide) (hp_n (n := 10) rfl ?_)
      refine lv_goto (tgt := 14) hx hb dX11_isThing_10 (by decide) ?_
      cases hf
      exact q_zret C B hr hlk (by decide) ⟨rfl, rfl⟩ dX11_isThing_14
def f_X9_clear (n : Nat) (α : hp_T) (a0 : Nat) : Option hp_T :=
  ms_l (hp_sI α 501 a0 (0 : Int32)) fun αh1 =>
  some αh1
set_option maxRecDepth 100000 in
set_option maxHeartbeats 4000000 in
theorem n_X9_clear (n : Nat) (Γ : hp_G) (l : Launch) (α : hp_T) (g : GC α) (a0 : Nat) (k0 : hp_K α a0 = 10) (res : hp_T) (hf : f_X9_clear n α a0 = some res) : Met l yX9_clear (hp_ws yX9_clear cX9_clear 1 none) (hp_rm 0 0 0) (hp_Pc Γ α [.ref a0]) (hp_Qv Γ (fun β => β = res ∧ cw w_X9_clear α β)) 0 0 (hp_A Γ) := by
  unfold f_X9_clear at hf
  refine hp_start (by decide) ?_
  intro p e s m below meth c C hr hlk B0 hnm
  have C : hp_C Γ p m c cX9_clear 1 s ([.ref a0] : List Value).toArray RX9 := C
  have hx := C.1.1
  have hb := C.1.2.1
  have hown := C.1.2.2.2.1
  have hts := C.1.2.2.2.2
  have B : hp_B Γ (cw w_X9_clear) s α α s.heap [] := ⟨B0.1, B0.2.1, cw_rf g⟩
  have hl := lv_entry ([.ref a0]) (n := 1) (Nat.le_of_ble_eq_true rfl)
  show W p l e (hp_rm 0 0 0) s m ([.ref a0] : List Value).toArray below meth c s.heap [] 0 0 (MQ below (hp_Qv Γ (fun β => β = res ∧ cw w_X9_clear α β)) ([.ref a0] : List Value).toArray s 0 0 (hp_A Γ)) (entryFrame m ([.ref a0] : List Value).toArray 1)
  rw [lg_entry_eq]
  generalize (lg_sl ([.ref a0]) ++ List.replicate (1 - (lg_sl ([.ref a0])).length) Slot.unset).toArray = ls at hl ⊢
  have hl : lv_has ls 1 [(0, .ref a0)] := hl
  refine lv_aload_n hx hb dX9_clear_0 rfl (lv_at hl 0 rfl) (hp_n (n := 1) rfl ?_)
  refine lv_iconst (v := 0) hx hb dX9_clear_1 (by decide) (hp_n (n := 2) rfl ?_)
  refine q_puti (κ := 10) (k := 1) (φ := 501) (pc' := 5) C B (cw_k B.2.2 k0) fl_X9_15 rfl rfl rfl rfl rfl rfl (cw_sI B.2.2 (by decide) (fun h => absurd h (by decide))) dX9_clear_2 rfl (fun αh1 Hh1 Lh1 eh1 Bh1 => ?_)
  replace hf := ms_lE eh1 hf
  cases hf
  exact q_vret C Bh1 hr hlk ⟨rfl, Bh1.2.2⟩ dX9_clear_5
def f_X9_put (n : Nat) (α : hp_T) (a0 : Nat) (a1 : Int32) : Option hp_T :=
  ms_l (hp_I α 501 a0) fun x1 =>
  if x1 < 0 then
    some α
  else
    ms_l (hp_I α 501 a0) fun x3 =>
    ms_l (hp_R α 500 a0) fun b4 =>
    if (8 : Int32) ≤ x3 then
      some α
    else
      ms_l (hp_R α 500 a0) fun b6 =>
      ms_l (hp_I α 501 a0) fun x7 =>
      ms_g x7 8 <|
      ms_l (hp_sE α 27 b6 (x7).toNatClampNeg ((a1).toInt8.toInt32).toInt8.toInt32) fun αh9 =>
      ms_l (hp_I αh9 501 a0) fun x10 =>
      ms_l (hp_sI αh9 501 a0 (x10 + (1 : Int32))) fun αh11 =>
      some αh11
set_option maxRecDepth 100000 in
set_option maxHeartbeats 4000000 in
theorem n_X9_put (n : Nat) (Γ : hp_G) (l : Launch) (α : hp_T) (g : GC α) (a0 : Nat) (k0 : hp_K α a0 = 10) (a1 : Int32) (res : hp_T) (hf : f_X9_put n α a0 a1 = some res) : Met l yX9_put (hp_ws yX9_put cX9_put 2 none) (hp_rm 0 0 0) (hp_Pc Γ α [.ref a0, .int a1]) (hp_Qv Γ (fun β => β = res ∧ cw w_X9_put α β)) 0 0 (hp_A Γ) := by
  unfold f_X9_put at hf
  refine hp_start (by decide) ?_
  intro p e s m below meth c C hr hlk B0 hnm
  have C : hp_C Γ p m c cX9_put 2 s ([.ref a0, .int a1] : List Value).toArray RX9 := C
  have hx := C.1.1
  have hb := C.1.2.1
  have hown := C.1.2.2.2.1
  have hts := C.1.2.2.2.2
  have B : hp_B Γ (cw w_X9_put) s α α s.heap [] := ⟨B0.1, B0.2.1, cw_rf g⟩
  have hl := lv_entry ([.ref a0, .int a1]) (n := 2) (Nat.le_of_ble_eq_true rfl)
  show W p l e (hp_rm 0 0 0) s m ([.ref a0, .int a1] : List Value).toArray below meth c s.heap [] 0 0 (MQ below (hp_Qv Γ (fun β => β = res ∧ cw w_X9_put α β)) ([.ref a0, .int a1] : List Value).toArray s 0 0 (hp_A Γ)) (entryFrame m ([.ref a0, .int a1] : List Value).toArray 2)
  rw [lg_entry_eq]
  generalize (lg_sl ([.ref a0, .int a1]) ++ List.replicate (2 - (lg_sl ([.ref a0, .int a1])).length) Slot.unset).toArray = ls at hl ⊢
  have hl : lv_has ls 2 [(0, .ref a0), (1, .int a1)] := hl
  refine lv_aload_n hx hb dX9_put_0 rfl (lv_at hl 0 rfl) (hp_n (n := 1) rfl ?_)
  refine q_geti (κ := 10) (k := 1) (φ := 501) (pc' := 4) C B (cw_k B.2.2 k0) fl_X9_15 rfl rfl rfl dX9_put_1 rfl (fun x1 ex1 => ?_)
  replace hf := ms_lE ex1 hf
  refine lv_if_lt (tgt := 40) hx hb dX9_put_4 (by decide) (fun c2 => ?_) (fun c2 => hp_n (n := 7) rfl ?_)
  ·
    replace hf := ms_iT c2 hf
    cases hf
    exact q_vret C B hr hlk ⟨rfl, B.2.2⟩ dX9_put_40
  ·
    replace hf := ms_iF c2 hf
    refine lv_aload_n hx hb dX9_put_7 rfl (lv_at hl 0 rfl) (hp_n (n := 8) rfl ?_)
    refine q_geti (κ := 10) (k := 1) (φ := 501) (pc' := 11) C B (cw_k B.2.2 k0) fl_X9_15 rfl rfl rfl dX9_put_8 rfl (fun x3 ex3 => ?_)
    replace hf := ms_lE ex3 hf
    refine lv_aload_n hx hb dX9_put_11 rfl (lv_at hl 0 rfl) (hp_n (n := 12) rfl ?_)
    refine q_getr (κ := 10) (k := 0) (φ := 500) (pc' := 15) C B (cw_k B.2.2 k0) fl_X9_9 rfl rfl rfl (cw_r B.2.2 k0 rfl rfl (by decide) (by decide)) dX9_put_12 rfl (fun b4 eb4 kb4 => ?_)
    replace hf := ms_lE eb4 hf
    refine q_alen (κ := 27) (t := 1) (n := 8) (x := 8) (ty := .byte) (pc' := 16) C B (cw_k B.2.2 kb4) (by decide) rfl rfl rfl dX9_put_15 rfl ?_
    refine lv_icmp_ge (tgt := 40) hx hb dX9_put_16 (by decide) (fun c5 => ?_) (fun c5 => hp_n (n := 19) rfl ?_)
    ·
      replace hf := ms_iT c5 hf
      cases hf
      exact q_vret C B hr hlk ⟨rfl, B.2.2⟩ dX9_put_40
    ·
      replace hf := ms_iF c5 hf
      refine lv_aload_n hx hb dX9_put_19 rfl (lv_at hl 0 rfl) (hp_n (n := 20) rfl ?_)
      refine q_getr (κ := 10) (k := 0) (φ := 500) (pc' := 23) C B (cw_k B.2.2 k0) fl_X9_9 rfl rfl rfl (cw_r B.2.2 k0 rfl rfl (by decide) (by decide)) dX9_put_20 rfl (fun b6 eb6 kb6 => ?_)
      replace hf := ms_lE eb6 hf
      refine lv_aload_n hx hb dX9_put_23 rfl (lv_at hl 0 rfl) (hp_n (n := 24) rfl ?_)
      refine q_geti (κ := 10) (k := 1) (φ := 501) (pc' := 27) C B (cw_k B.2.2 k0) fl_X9_15 rfl rfl rfl dX9_put_24 rfl (fun x7 ex7 => ?_)
      replace hf := ms_lE ex7 hf
      refine lv_iload_n hx hb dX9_put_27 rfl (lv_at hl 1 rfl) (hp_n (n := 28) rfl ?_)
      refine lv_i2b hx hb dX9_put_28 rfl (hp_n (n := 29) rfl ?_)
      obtain ⟨g8, hf⟩ := ms_gE hf
      refine q_bas (κ := 27) (n := 8) (pc' := 30) (y := ((a1).toInt8.toInt32).toInt8.toInt32) C B (cw_k B.2.2 kb6) (by decide) rfl (vi_of g8.1 g8.2) rfl rfl (cw_sE B.2.2 (by decide)) dX9_put_29 rfl (fun αh9 Hh9 Lh9 eh9 Bh9 => ?_)
      replace hf := ms_lE eh9 hf
      refine lv_aload_n hx hb dX9_put_30 rfl (lv_at hl 0 rfl) (hp_n (n := 31) rfl ?_)
      refine lv_dup hx hb dX9_put_31 rfl (hp_n (n := 32) rfl ?_)
      refine q_geti (κ := 10) (k := 1) (φ := 501) (pc' := 35) C Bh9 (cw_k Bh9.2.2 k0) fl_X9_15 rfl rfl rfl dX9_put_32 rfl (fun x10 ex10 => ?_)
      replace hf := ms_lE ex10 hf
      refine lv_iconst (v := 1) hx hb dX9_put_35 (by decide) (hp_n (n := 36) rfl ?_)
      refine lv_iadd hx hb dX9_put_36 (hp_n (n := 37) rfl ?_)
      refine q_puti (κ := 10) (k := 1) (φ := 501) (pc' := 40) C Bh9 (cw_k Bh9.2.2 k0) fl_X9_15 rfl rfl rfl rfl rfl rfl (cw_sI Bh9.2.2 (by decide) (fun h => absurd h (by decide))) dX9_put_37 rfl (fun αh11 Hh11 Lh11 eh11 Bh11 => ?_)
      replace hf := ms_lE eh11 hf
      cases hf
      exact q_vret C Bh11 hr hlk ⟨rfl, Bh11.2.2⟩ dX9_put_40
def f_X11_type_J77 (n : Nat) (a0 : Nat) (αh4 : hp_T) : Option (Int32 × hp_T) :=
  ms_l (hp_R αh4 606 a0) fun b5 =>
  ms_l (hp_R αh4 607 a0) fun b6 =>
  ms_l (hp_sR αh4 606 a0 b6) fun αh7 =>
  ms_l (hp_sR αh7 607 a0 b5) fun αh8 =>
  ms_l (hp_R αh8 606 a0) fun b9 =>
  ms_l (hp_I αh8 501 b9) fun x10 =>
  some (x10, αh8)
def f_X11_type_J43 (n : Nat) (a0 : Nat) (rec9 : hp_T → Int32 → Int32 → Int32 → Option (Int32 × hp_T)) (αh12 : hp_T) (v1_h12 : Int32) (v2_h12 : Int32) (v3_h12 : Int32) (w0_h12 : Int32) : Option (Int32 × hp_T) :=
  if w0_h12 = 0 then
    f_X11_type_J77 n a0 αh12
  else
    if w0_h12 ≤ (26 : Int32) then
      ms_l (hp_R αh12 607 a0) fun b15 =>
      ms_b (f_X9_put n αh12 b15 w0_h12) fun αh16 =>
      ms_l (v3_h12 + 1) fun x17 =>
      rec9 αh16 v1_h12 v2_h12 x17
    else
      some ((-1 : Int32), αh12)
def f_X11_type_L9 (n : Nat) (a0 : Nat) : Nat → hp_T → Int32 → Int32 → Int32 → Option (Int32 × hp_T)
  | 0, _, _, _, _ => none
  | k9 + 1, αh3, v1_h3, v2_h3, v3_h3 =>
    if (8 : Int32) ≤ v3_h3 then
      f_X11_type_J77 n a0 αh3
    else
      if (6 : Int32) ≤ v3_h3 then
        f_X11_type_J43 n a0 (f_X11_type_L9 n a0 k9) αh3 v1_h3 v2_h3 v3_h3 (((v2_h3).toUInt32 >>> ((((5 : Int32) * (v3_h3 - (6 : Int32)))).toUInt32 &&& Int32.toUInt32 31)).toInt32 &&& (31 : Int32))
      else
        f_X11_type_J43 n a0 (f_X11_type_L9 n a0 k9) αh3 v1_h3 v2_h3 v3_h3 (((v1_h3).toUInt32 >>> ((((5 : Int32) * v3_h3)).toUInt32 &&& Int32.toUInt32 31)).toInt32 &&& (31 : Int32))
def f_X11_type (n : Nat) (α : hp_T) (a0 : Nat) (a1 : Int32) (a2 : Int32) : Option (Int32 × hp_T) :=
  ms_l (hp_R α 607 a0) fun b1 =>
  ms_b (f_X9_clear n α b1) fun αh2 =>
  f_X11_type_L9 n a0 n αh2 a1 a2 (0 : Int32)
set_option maxRecDepth 100000 in
set_option maxHeartbeats 4000000 in
theorem n_X11_type (n : Nat) (Γ : hp_G) (l : Launch) (α : hp_T) (g : GC α) (a0 : Nat) (k0 : hp_K α a0 = 12) (a1 : Int32) (a2 : Int32) (res : (Int32 × hp_T)) (hf : f_X11_type n α a0 a1 a2 = some res) : Met l yX11_type (hp_ws yX11_type cX11_type 5 (some .int)) (hp_rm 1 0 0) (hp_Pc Γ α [.ref a0, .int a1, .int a2]) (hp_Qi Γ (fun r β => r = res.1 ∧ β = res.2 ∧ cw w_X11_type α β)) 0 0 (hp_A Γ) := by
  unfold f_X11_type at hf
  refine hp_start (by decide) ?_
  intro p e s m below meth c C hr hlk B0 hnm
  have C : hp_C Γ p m c cX11_type 5 s ([.ref a0, .int a1, .int a2] : List Value).toArray RX11 := C
  have hx := C.1.1
  have hb := C.1.2.1
  have hown := C.1.2.2.2.1
  have hts := C.1.2.2.2.2
  have B : hp_B Γ (cw w_X11_type) s α α s.heap [] := ⟨B0.1, B0.2.1, cw_rf g⟩
  have hl := lv_entry ([.ref a0, .int a1, .int a2]) (n := 5) (Nat.le_of_ble_eq_true rfl)
  show W p l e (hp_rm 1 0 0) s m ([.ref a0, .int a1, .int a2] : List Value).toArray below meth c s.heap [] 0 0 (MQ below (hp_Qi Γ (fun r β => r = res.1 ∧ β = res.2 ∧ cw w_X11_type α β)) ([.ref a0, .int a1, .int a2] : List Value).toArray s 0 0 (hp_A Γ)) (entryFrame m ([.ref a0, .int a1, .int a2] : List Value).toArray 5)
  rw [lg_entry_eq]
  generalize (lg_sl ([.ref a0, .int a1, .int a2]) ++ List.replicate (5 - (lg_sl ([.ref a0, .int a1, .int a2])).length) Slot.unset).toArray = ls at hl ⊢
  have hl : lv_has ls 5 [(0, .ref a0), (1, .int a1), (2, .int a2)] := hl
  refine lv_aload_n hx hb dX11_type_0 rfl (lv_at hl 0 rfl) (hp_n (n := 1) rfl ?_)
  refine q_getr (κ := 12) (k := 7) (φ := 607) (pc' := 4) C B (cw_k B.2.2 k0) fl_X11_44 rfl rfl rfl (cw_r B.2.2 k0 rfl rfl (by decide) (by decide)) dX11_type_1 rfl (fun b1 eb1 kb1 => ?_)
  replace hf := ms_lE eb1 hf
  obtain ⟨αh2, qh2, hf⟩ := ms_bE hf
  refine d_cv (pc' := 7) B (hp_runV (As := []) (rest := []) C B (n_X9_clear n Γ l α B.2.2.1 b1 (cw_k B.2.2 kb1) αh2 qh2) lb_X9_clear lv_X9_clear lk_X11_144 (cw_k B.2.2 kb1) rfl (by decide) rfl hl.1 rfl (Nat.le_of_ble_eq_true rfl) dX11_type_4 ⟨Nat.le_refl _, Nat.le_refl _⟩) (by decide) rfl (fun Hh2 Lh2 Bh2 => ?_)
  refine lv_iconst (v := 0) hx hb dX11_type_7 (by decide) (hp_n (n := 8) rfl ?_)
  have J9 : ∀ (k9 : Nat) (αh3 : hp_T) (Hh3 : Heap) (Lh3 : List Loc) (Bh3 : hp_B Γ (cw w_X11_type) s α αh3 Hh3 Lh3) (v1_h3 : Int32) (v2_h3 : Int32) (v3_h3 : Int32) (ls : Array Slot) (hl : lv_has ls 5 [(0, .ref a0), (1, .int v1_h3), (2, .int v2_h3), (3, .int v3_h3)]) (hf : f_X11_type_L9 n a0 k9 αh3 v1_h3 v2_h3 v3_h3 = some res), W p l e (hp_rm 1 0 0) s m ([.ref a0, .int a1, .int a2] : List Value).toArray below meth c Hh3 Lh3 0 0 (MQ below (hp_Qi Γ (fun r β => r = res.1 ∧ β = res.2 ∧ cw w_X11_type α β)) ([.ref a0, .int a1, .int a2] : List Value).toArray s 0 0 (hp_A Γ)) (F0 m 9 ls []) := by
    intro k9
    induction k9 with
    | zero => intro αh3 Hh3 Lh3 Bh3 v1_h3 v2_h3 v3_h3 ls hl hf; rw [f_X11_type_L9.eq_1] at hf; cases hf
    | succ k9 ih9 =>
      intro αh3 Hh3 Lh3 Bh3 v1_h3 v2_h3 v3_h3 ls hl hf
      rw [f_X11_type_L9.eq_2] at hf
      refine lv_iload_n hx hb dX11_type_9 rfl (lv_at hl 3 rfl) (hp_n (n := 10) rfl ?_)
      refine lv_bipush (v := 8) hx hb dX11_type_10 (by decide) (hp_n (n := 12) rfl ?_)
      have J77 : ∀ (αh4 : hp_T) (Hh4 : Heap) (Lh4 : List Loc) (Bh4 : hp_B Γ (cw w_X11_type) s α αh4 Hh4 Lh4) (ls : Array Slot) (hl : lv_has ls 5 [(0, .ref a0)]) (hf : f_X11_type_J77 n a0 αh4 = some res), W p l e (hp_rm 1 0 0) s m ([.ref a0, .int a1, .int a2] : List Value).toArray below meth c Hh4 Lh4 0 0 (MQ below (hp_Qi Γ (fun r β => r = res.1 ∧ β = res.2 ∧ cw w_X11_type α β)) ([.ref a0, .int a1, .int a2] : List Value).toArray s 0 0 (hp_A Γ)) (F0 m 77 ls []) := by
        intro αh4 Hh4 Lh4 Bh4 ls hl hf
        unfold f_X11_type_J77 at hf
        refine lv_aload_n hx hb dX11_type_77 rfl (lv_at hl 0 rfl) (hp_n (n := 78) rfl ?_)
        refine q_getr (κ := 12) (k := 6) (φ := 606) (pc' := 81) C Bh4 (cw_k Bh4.2.2 k0) fl_X11_40 rfl rfl rfl (cw_r Bh4.2.2 k0 rfl rfl (by decide) (by decide)) dX11_type_78 rfl (fun b5 eb5 kb5 => ?_)
        replace hf := ms_lE eb5 hf
        refine lv_astore_n (lv' := [(3, .ref b5), (0, .ref a0)]) hx hb dX11_type_81 rfl hl (by decide) rfl (fun ls hl => hp_n (n := 82) rfl ?_)
        refine lv_aload_n hx hb dX11_type_82 rfl (lv_at hl 1 rfl) (hp_n (n := 83) rfl ?_)
        refine lv_aload_n hx hb dX11_type_83 rfl (lv_at hl 1 rfl) (hp_n (n := 84) rfl ?_)
        refine q_getr (κ := 12) (k := 7) (φ := 607) (pc' := 87) C Bh4 (cw_k Bh4.2.2 k0) fl_X11_44 rfl rfl rfl (cw_r Bh4.2.2 k0 rfl rfl (by decide) (by decide)) dX11_type_84 rfl (fun b6 eb6 kb6 => ?_)
        replace hf := ms_lE eb6 hf
        refine q_putr (κ := 12) (k := 6) (φ := 606) (pc' := 90) C Bh4 (cw_k Bh4.2.2 k0) fl_X11_40 rfl rfl rfl rfl rfl rfl (cw_sR Bh4.2.2 (by decide) (Or.inl kb6)) dX11_type_87 rfl (fun αh7 Hh7 Lh7 eh7 Bh7 => ?_)
        replace hf := ms_lE eh7 hf
        refine lv_aload_n hx hb dX11_type_90 rfl (lv_at hl 1 rfl) (hp_n (n := 91) rfl ?_)
        refine lv_aload_n hx hb dX11_type_91 rfl (lv_at hl 0 rfl) (hp_n (n := 92) rfl ?_)
        refine q_putr (κ := 12) (k := 7) (φ := 607) (pc' := 95) C Bh7 (cw_k Bh7.2.2 k0) fl_X11_44 rfl rfl rfl rfl rfl rfl (cw_sR Bh7.2.2 (by decide) (Or.inl kb5)) dX11_type_92 rfl (fun αh8 Hh8 Lh8 eh8 Bh8 => ?_)
        replace hf := ms_lE eh8 hf
        refine lv_aload_n hx hb dX11_type_95 rfl (lv_at hl 1 rfl) (hp_n (n := 96) rfl ?_)
        refine q_getr (κ := 12) (k := 6) (φ := 606) (pc' := 99) C Bh8 (cw_k Bh8.2.2 k0) fl_X11_40 rfl rfl rfl (cw_r Bh8.2.2 k0 rfl rfl (by decide) (by decide)) dX11_type_96 rfl (fun b9 eb9 kb9 => ?_)
        replace hf := ms_lE eb9 hf
        refine q_geti (κ := 10) (k := 1) (φ := 501) (pc' := 102) C Bh8 (cw_k Bh8.2.2 kb9) fl_X11_150 rfl rfl rfl dX11_type_99 rfl (fun x10 ex10 => ?_)
        replace hf := ms_lE ex10 hf
        cases hf
        exact q_iret C Bh8 hr hlk ⟨rfl, rfl, Bh8.2.2⟩ dX11_type_102
      refine lv_icmp_ge (tgt := 77) hx hb dX11_type_12 (by decide) (fun c11 => ?_) (fun c11 => hp_n (n := 15) rfl ?_)
      ·
        replace hf := ms_iT c11 hf
        exact J77 αh3 Hh3 Lh3 Bh3 ls (lv_sub hl [0] rfl) hf
      ·
        replace hf := ms_iF c11 hf
        refine lv_iload_n hx hb dX11_type_15 rfl (lv_at hl 3 rfl) (hp_n (n := 16) rfl ?_)
        refine lv_bipush (v := 6) hx hb dX11_type_16 (by decide) (hp_n (n := 18) rfl ?_)
        have J43 : ∀ (αh12 : hp_T) (Hh12 : Heap) (Lh12 : List Loc) (Bh12 : hp_B Γ (cw w_X11_type) s α αh12 Hh12 Lh12) (v1_h12 : Int32) (v2_h12 : Int32) (v3_h12 : Int32) (w0_h12 : Int32) (ls : Array Slot) (hl : lv_has ls 5 [(0, .ref a0), (1, .int v1_h12), (2, .int v2_h12), (3, .int v3_h12)]) (hf : f_X11_type_J43 n a0 (f_X11_type_L9 n a0 k9) αh12 v1_h12 v2_h12 v3_h12 w0_h12 = some res), W p l e (hp_rm 1 0 0) s m ([.ref a0, .int a1, .int a2] : List Value).toArray below meth c Hh12 Lh12 0 0 (MQ below (hp_Qi Γ (fun r β => r = res.1 ∧ β = res.2 ∧ cw w_X11_type α β)) ([.ref a0, .int a1, .int a2] : List Value).toArray s 0 0 (hp_A Γ)) (F0 m 43 ls [.int w0_h12]) := by
          intro αh12 Hh12 Lh12 Bh12 v1_h12 v2_h12 v3_h12 w0_h12 ls hl hf
          unfold f_X11_type_J43 at hf
          refine lv_istore (lv' := [(4, .int w0_h12), (0, .ref a0), (1, .int v1_h12), (2, .int v2_h12), (3, .int v3_h12)]) hx hb dX11_type_43 hl (by decide) rfl (fun ls hl => hp_n (n := 45) rfl ?_)
          refine lv_iload hx hb dX11_type_45 (lv_at hl 0 rfl) (hp_n (n := 47) rfl ?_)
          refine lv_if_ne (tgt := 53) hx hb dX11_type_47 (by decide) (fun c13 => ?_) (fun c13 => hp_n (n := 50) rfl ?_)
          ·
            replace hf := ms_iF c13 hf
            refine lv_iload hx hb dX11_type_53 (lv_at hl 0 rfl) (hp_n (n := 55) rfl ?_)
            refine lv_bipush (v := 26) hx hb dX11_type_55 (by decide) (hp_n (n := 57) rfl ?_)
            refine lv_icmp_le (tgt := 62) hx hb dX11_type_57 (by decide) (fun c14 => ?_) (fun c14 => hp_n (n := 60) rfl ?_)
            ·
              replace hf := ms_iT c14 hf
              refine lv_aload_n hx hb dX11_type_62 rfl (lv_at hl 1 rfl) (hp_n (n := 63) rfl ?_)
              refine q_getr (κ := 12) (k := 7) (φ := 607) (pc' := 66) C Bh12 (cw_k Bh12.2.2 k0) fl_X11_44 rfl rfl rfl (cw_r Bh12.2.2 k0 rfl rfl (by decide) (by decide)) dX11_type_63 rfl (fun b15 eb15 kb15 => ?_)
              replace hf := ms_lE eb15 hf
              refine lv_iload hx hb dX11_type_66 (lv_at hl 0 rfl) (hp_n (n := 68) rfl ?_)
              obtain ⟨αh16, qh16, hf⟩ := ms_bE hf
              refine d_cv (pc' := 71) Bh12 (hp_runV (As := [.int w0_h12]) (rest := []) C Bh12 (n_X9_put n Γ l αh12 Bh12.2.2.1 b15 (cw_k Bh12.2.2 kb15) w0_h12 αh16 qh16) lb_X9_put lv_X9_put lk_X11_147 (cw_k Bh12.2.2 kb15) rfl (by decide) rfl hl.1 rfl (Nat.le_of_ble_eq_true rfl) dX11_type_68 ⟨Nat.le_refl _, Nat.le_refl _⟩) (by decide) rfl (fun Hh16 Lh16 Bh16 => ?_)
              obtain ⟨x17, ex17⟩ : ∃ y : Int32, y = v3_h12 + 1 := ⟨_, rfl⟩
              replace hf := ms_lE ex17 hf
              refine lv_iinc (v := x17) (lv' := [(3, .int x17), (4, .int w0_h12), (0, .ref a0), (1, .int v1_h12), (2, .int v2_h12)]) hx hb dX11_type_71 hl (k := 4) rfl (by rw [ex17]; rfl) (by decide) rfl (fun ls hl => hp_n (n := 74) rfl ?_)
              refine lv_goto (tgt := 9) hx hb dX11_type_74 (by decide) ?_
              exact ih9 αh16 Hh16 Lh16 Bh16 v1_h12 v2_h12 x17 ls (lv_sub hl [2, 3, 4, 0] rfl) hf
            ·
              replace hf := ms_iF c14 hf
              refine lv_iconst (v := (-1)) hx hb dX11_type_60 (by decide) (hp_n (n := 61) rfl ?_)
              cases hf
              exact q_iret C Bh12 hr hlk ⟨rfl, rfl, Bh12.2.2⟩ dX11_type_61
          ·
            replace hf := ms_iT c13 hf
            refine lv_goto (tgt := 77) hx hb dX11_type_50 (by decide) ?_
            exact J77 αh12 Hh12 Lh12 Bh12 ls (lv_sub hl [1] rfl) hf
        refine lv_icmp_ge (tgt := 32) hx hb dX11_type_18 (by decide) (fun c18 => ?_) (fun c18 => hp_n (n := 21) rfl ?_)
        ·
          replace hf := ms_iT c18 hf
          refine lv_iload_n hx hb dX11_type_32 rfl (lv_at hl 2 rfl) (hp_n (n := 33) rfl ?_)
          refine lv_iconst (v := 5) hx hb dX11_type_33 (by decide) (hp_n (n := 34) rfl ?_)
          refine lv_iload_n hx hb dX11_type_34 rfl (lv_at hl 3 rfl) (hp_n (n := 35) rfl ?_)
          refine lv_bipush (v := 6) hx hb dX11_type_35 (by decide) (hp_n (n := 37) rfl ?_)
          refine lv_isub hx hb dX11_type_37 (hp_n (n := 38) rfl ?_)
          refine lv_imul hx hb dX11_type_38 (hp_n (n := 39) rfl ?_)
          refine lv_iushr hx hb dX11_type_39 rfl (hp_n (n := 40) rfl ?_)
          refine lv_bipush (v := 31) hx hb dX11_type_40 (by decide) (hp_n (n := 42) rfl ?_)
          refine lv_iand hx hb dX11_type_42 (hp_n (n := 43) rfl ?_)
          exact J43 αh3 Hh3 Lh3 Bh3 v1_h3 v2_h3 v3_h3 (((v2_h3).toUInt32 >>> ((((5 : Int32) * (v3_h3 - (6 : Int32)))).toUInt32 &&& Int32.toUInt32 31)).toInt32 &&& (31 : Int32)) ls (lv_sub hl [0, 1, 2, 3] rfl) hf
        ·
          replace hf := ms_iF c18 hf
          refine lv_iload_n hx hb dX11_type_21 rfl (lv_at hl 1 rfl) (hp_n (n := 22) rfl ?_)
          refine lv_iconst (v := 5) hx hb dX11_type_22 (by decide) (hp_n (n := 23) rfl ?_)
          refine lv_iload_n hx hb dX11_type_23 rfl (lv_at hl 3 rfl) (hp_n (n := 24) rfl ?_)
          refine lv_imul hx hb dX11_type_24 (hp_n (n := 25) rfl ?_)
          refine lv_iushr hx hb dX11_type_25 rfl (hp_n (n := 26) rfl ?_)
          refine lv_bipush (v := 31) hx hb dX11_type_26 (by decide) (hp_n (n := 28) rfl ?_)
          refine lv_iand hx hb dX11_type_28 (hp_n (n := 29) rfl ?_)
          refine lv_goto (tgt := 43) hx hb dX11_type_29 (by decide) ?_
          exact J43 αh3 Hh3 Lh3 Bh3 v1_h3 v2_h3 v3_h3 (((v1_h3).toUInt32 >>> ((((5 : Int32) * v3_h3)).toUInt32 &&& Int32.toUInt32 31)).toInt32 &&& (31 : Int32)) ls (lv_sub hl [0, 1, 2, 3] rfl) hf
  refine lv_istore_n (lv' := [(3, .int (0 : Int32)), (0, .ref a0), (1, .int a1), (2, .int a2)]) hx hb dX11_type_8 rfl hl (by decide) rfl (fun ls hl => hp_n (n := 9) rfl ?_)
  exact J9 n αh2 Hh2 Lh2 Bh2 a1 a2 (0 : Int32) ls (lv_sub hl [1, 2, 3, 0] rfl) hf
