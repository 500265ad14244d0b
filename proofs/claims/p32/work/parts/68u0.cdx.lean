def f_X8_folded_L6 (n : Nat) (α : hp_T) (a0 : Nat) : Nat → Int32 → Nat → Int32 → Int32 → Int32 → Option Int32
  | 0, _, _, _, _, _ => none
  | k6 + 1, v1_h1, v2_h1, v4_h1, v5_h1, v6_h1 =>
    if v4_h1 ≤ v6_h1 then
      some v5_h1
    else
      ms_l (hp_I α 453 a0) fun x3 =>
      if x3 ≤ v6_h1 then
        some v5_h1
      else
        ms_b (f_X5_at n α v2_h1 v6_h1) fun rh5 =>
        ms_b (f_X8_joined n α a0 v1_h1 v6_h1 v5_h1 rh5) fun rh6 =>
        ms_l (v6_h1 + 1) fun x7 =>
        (f_X8_folded_L6 n α a0 k6) v1_h1 v2_h1 v4_h1 rh6 x7
def f_X8_folded (n : Nat) (α : hp_T) (a0 : Nat) (a1 : Int32) (a2 : Nat) (a3 : Int32) (a4 : Int32) : Option Int32 :=
  f_X8_folded_L6 n α a0 n a1 a2 a4 a3 (0 : Int32)
set_option maxRecDepth 100000 in
set_option maxHeartbeats 4000000 in
theorem n_X8_folded (n : Nat) (Γ : hp_G) (l : Launch) (α : hp_T) (g : GC α) (a0 : Nat) (k0 : hp_K α a0 = 9) (a1 : Int32) (a2 : Nat) (k2 : hp_K α a2 = 6) (a3 : Int32) (a4 : Int32) (res : Int32) (hf : f_X8_folded n α a0 a1 a2 a3 a4 = some res) : Met l yX8_folded (hp_ws yX8_folded cX8_folded 7 (some .int)) (hp_rm 2 0 0) (hp_Pc Γ α [.ref a0, .int a1, .ref a2, .int a3, .int a4]) (hp_Qi Γ (fun r β => β = α ∧ r = res)) 0 0 (hp_A Γ) := by
  unfold f_X8_folded at hf
  refine hp_start (by decide) ?_
  intro p e s m below meth c C hr hlk B0 hnm
  have C : hp_C Γ p m c cX8_folded 7 s ([.ref a0, .int a1, .ref a2, .int a3, .int a4] : List Value).toArray RX8 := C
  have hx := C.1.1
  have hb := C.1.2.1
  have hown := C.1.2.2.2.1
  have hts := C.1.2.2.2.2
  have B : hp_B Γ (cw w_X8_folded) s α α s.heap [] := ⟨B0.1, B0.2.1, cw_rf g⟩
  have hl := lv_entry ([.ref a0, .int a1, .ref a2, .int a3, .int a4]) (n := 7) (Nat.le_of_ble_eq_true rfl)
  show W p l e (hp_rm 2 0 0) s m ([.ref a0, .int a1, .ref a2, .int a3, .int a4] : List Value).toArray below meth c s.heap [] 0 0 (MQ below (hp_Qi Γ (fun r β => β = α ∧ r = res)) ([.ref a0, .int a1, .ref a2, .int a3, .int a4] : List Value).toArray s 0 0 (hp_A Γ)) (entryFrame m ([.ref a0, .int a1, .ref a2, .int a3, .int a4] : List Value).toArray 7)
  rw [lg_entry_eq]
  generalize (lg_sl ([.ref a0, .int a1, .ref a2, .int a3, .int a4]) ++ List.replicate (7 - (lg_sl ([.ref a0, .int a1, .ref a2, .int a3, .int a4])).length) Slot.unset).toArray = ls at hl ⊢
  have hl : lv_has ls 7 [(0, .ref a0), (1, .int a1), (2, .ref a2), (3, .int a3), (4, .int a4)] := hl
  refine lv_iload_n hx hb dX8_folded_0 rfl (lv_at hl 3 rfl) (hp_n (n := 1) rfl ?_)
  refine lv_istore (lv' := [(5, .int a3), (0, .ref a0), (1, .int a1), (2, .ref a2), (3, .int a3), (4, .int a4)]) hx hb dX8_folded_1 hl (by decide) rfl (fun ls hl => hp_n (n := 3) rfl ?_)
  refine lv_iconst (v := 0) hx hb dX8_folded_3 (by decide) (hp_n (n := 4) rfl ?_)
  have J6 : ∀ (k6 : Nat) (Hh1 : Heap) (Lh1 : List Loc) (Bh1 : hp_B Γ (cw w_X8_folded) s α α Hh1 Lh1) (v1_h1 : Int32) (v2_h1 : Nat) (kv2_h1 : hp_K α v2_h1 = 6) (v4_h1 : Int32) (v5_h1 : Int32) (v6_h1 : Int32) (ls : Array Slot) (hl : lv_has ls 7 [(0, .ref a0), (1, .int v1_h1), (2, .ref v2_h1), (4, .int v4_h1), (5, .int v5_h1), (6, .int v6_h1)]) (hf : f_X8_folded_L6 n α a0 k6 v1_h1 v2_h1 v4_h1 v5_h1 v6_h1 = some res), W p l e (hp_rm 2 0 0) s m ([.ref a0, .int a1, .ref a2, .int a3, .int a4] : List Value).toArray below meth c Hh1 Lh1 0 0 (MQ below (hp_Qi Γ (fun r β => β = α ∧ r = res)) ([.ref a0, .int a1, .ref a2, .int a3, .int a4] : List Value).toArray s 0 0 (hp_A Γ)) (F0 m 6 ls []) := by
    intro k6
    induction k6 with
    | zero => intro Hh1 Lh1 Bh1 v1_h1 v2_h1 kv2_h1 v4_h1 v5_h1 v6_h1 ls hl hf; rw [f_X8_folded_L6.eq_1] at hf; cases hf
    | succ k6 ih6 =>
      intro Hh1 Lh1 Bh1 v1_h1 v2_h1 kv2_h1 v4_h1 v5_h1 v6_h1 ls hl hf
      rw [f_X8_folded_L6.eq_2] at hf
      refine lv_iload hx hb dX8_folded_6 (lv_at hl 5 rfl) (hp_n (n := 8) rfl ?_)
      refine lv_iload hx hb dX8_folded_8 (lv_at hl 3 rfl) (hp_n (n := 10) rfl ?_)
      refine lv_icmp_ge (tgt := 45) hx hb dX8_folded_10 (by decide) (fun c2 => ?_) (fun c2 => hp_n (n := 13) rfl ?_)
      ·
        replace hf := ms_iT c2 hf
        refine lv_iload hx hb dX8_folded_45 (lv_at hl 4 rfl) (hp_n (n := 47) rfl ?_)
        cases hf
        exact q_iret C Bh1 hr hlk ⟨rfl, rfl⟩ dX8_folded_47
      ·
        replace hf := ms_iF c2 hf
        refine lv_iload hx hb dX8_folded_13 (lv_at hl 5 rfl) (hp_n (n := 15) rfl ?_)
        refine lv_aload_n hx hb dX8_folded_15 rfl (lv_at hl 0 rfl) (hp_n (n := 16) rfl ?_)
        refine q_geti (κ := 9) (k := 3) (φ := 453) (pc' := 19) C Bh1 (cw_k Bh1.2.2 k0) fl_X8_22 rfl rfl rfl dX8_folded_16 rfl (fun x3 ex3 => ?_)
        replace hf := ms_lE ex3 hf
        refine lv_icmp_ge (tgt := 45) hx hb dX8_folded_19 (by decide) (fun c4 => ?_) (fun c4 => hp_n (n := 22) rfl ?_)
        ·
          replace hf := ms_iT c4 hf
          refine lv_iload hx hb dX8_folded_45 (lv_at hl 4 rfl) (hp_n (n := 47) rfl ?_)
          cases hf
          exact q_iret C Bh1 hr hlk ⟨rfl, rfl⟩ dX8_folded_47
        ·
          replace hf := ms_iF c4 hf
          refine lv_aload_n hx hb dX8_folded_22 rfl (lv_at hl 0 rfl) (hp_n (n := 23) rfl ?_)
          refine lv_iload_n hx hb dX8_folded_23 rfl (lv_at hl 1 rfl) (hp_n (n := 24) rfl ?_)
          refine lv_iload hx hb dX8_folded_24 (lv_at hl 5 rfl) (hp_n (n := 26) rfl ?_)
          refine lv_iload hx hb dX8_folded_26 (lv_at hl 4 rfl) (hp_n (n := 28) rfl ?_)
          refine lv_aload_n hx hb dX8_folded_28 rfl (lv_at hl 2 rfl) (hp_n (n := 29) rfl ?_)
          refine lv_iload hx hb dX8_folded_29 (lv_at hl 5 rfl) (hp_n (n := 31) rfl ?_)
          obtain ⟨rh5, qh5, hf⟩ := ms_bE hf
          refine d_pi (pc' := 34) Bh1 (hp_runV (As := [.int v6_h1]) (rest := [.int v5_h1, .int v6_h1, .int v1_h1, .ref a0]) C Bh1 (n_X5_at n Γ l α Bh1.2.2.1 v2_h1 (cw_k Bh1.2.2 kv2_h1) v6_h1 rh5 qh5) lb_X5_at lv_X5_at lk_X8_65 (cw_k Bh1.2.2 kv2_h1) rfl (by decide) rfl hl.1 rfl (Nat.le_of_ble_eq_true rfl) dX8_folded_31 ⟨Nat.le_refl _, Nat.le_refl _⟩) rfl (fun Hh5 Lh5 Bh5 => ?_)
          obtain ⟨rh6, qh6, hf⟩ := ms_bE hf
          refine d_pi (pc' := 37) Bh5 (hp_runV (As := [.int v1_h1, .int v6_h1, .int v5_h1, .int rh5]) (rest := []) C Bh5 (n_X8_joined n Γ l α Bh5.2.2.1 a0 (cw_k Bh5.2.2 k0) v1_h1 v6_h1 v5_h1 rh5 rh6 qh6) lb_X8_joined lv_X8_joined lk_X8_70 (cw_k Bh5.2.2 k0) rfl (by decide) rfl hl.1 rfl (Nat.le_of_ble_eq_true rfl) dX8_folded_34 ⟨Nat.le_refl _, Nat.le_refl _⟩) rfl (fun Hh6 Lh6 Bh6 => ?_)
          refine lv_istore (lv' := [(5, .int rh6), (0, .ref a0), (1, .int v1_h1), (2, .ref v2_h1), (4, .int v4_h1), (6, .int v6_h1)]) hx hb dX8_folded_37 hl (by decide) rfl (fun ls hl => hp_n (n := 39) rfl ?_)
          obtain ⟨x7, ex7⟩ : ∃ y : Int32, y = v6_h1 + 1 := ⟨_, rfl⟩
          replace hf := ms_lE ex7 hf
          refine lv_iinc (v := x7) (lv' := [(6, .int x7), (5, .int rh6), (0, .ref a0), (1, .int v1_h1), (2, .ref v2_h1), (4, .int v4_h1)]) hx hb dX8_folded_39 hl (k := 5) rfl (by rw [ex7]; rfl) (by decide) rfl (fun ls hl => hp_n (n := 42) rfl ?_)
          refine lv_goto (tgt := 6) hx hb dX8_folded_42 (by decide) ?_
          exact ih6 Hh6 Lh6 Bh6 v1_h1 v2_h1 kv2_h1 v4_h1 rh6 x7 ls (lv_sub hl [2, 3, 4, 5, 1, 0] rfl) hf
  refine lv_istore (lv' := [(6, .int (0 : Int32)), (5, .int a3), (0, .ref a0), (1, .int a1), (2, .ref a2), (3, .int a3), (4, .int a4)]) hx hb dX8_folded_4 hl (by decide) rfl (fun ls hl => hp_n (n := 6) rfl ?_)
  exact J6 n s.heap [] B a1 a2 k2 a4 a3 (0 : Int32) ls (lv_sub hl [2, 3, 4, 6, 1, 0] rfl) hf
def f_X8_whyInclusion (n : Nat) (α : hp_T) (a0 : Nat) (a1 : Int32) (a2 : Nat) (a3 : Int32) (a4 : Int32) : Option Int32 :=
  ms_l (hp_I α 301 a2) fun x1 =>
  ms_l (hp_I α 453 a0) fun x2 =>
  if x1 = x2 then
    ms_l (hp_I α 453 a0) fun x4 =>
    ms_b (f_X8_folded n α a0 a1 a2 a3 x4) fun rh5 =>
    if rh5 = a4 then
      some (0 : Int32)
    else
      some (3 : Int32)
  else
    ms_l (hp_I α 301 a2) fun x7 =>
    ms_l (hp_I α 453 a0) fun x8 =>
    if x8 ≤ x7 then
      some (2 : Int32)
    else
      some (1 : Int32)
set_option maxRecDepth 100000 in
set_option maxHeartbeats 4000000 in
theorem n_X8_whyInclusion (n : Nat) (Γ : hp_G) (l : Launch) (α : hp_T) (g : GC α) (a0 : Nat) (k0 : hp_K α a0 = 9) (a1 : Int32) (a2 : Nat) (k2 : hp_K α a2 = 6) (a3 : Int32) (a4 : Int32) (res : Int32) (hf : f_X8_whyInclusion n α a0 a1 a2 a3 a4 = some res) : Met l yX8_whyInclusion (hp_ws yX8_whyInclusion cX8_whyInclusion 5 (some .int)) (hp_rm 3 0 0) (hp_Pc Γ α [.ref a0, .int a1, .ref a2, .int a3, .int a4]) (hp_Qi Γ (fun r β => β = α ∧ r = res)) 0 0 (hp_A Γ) := by
  unfold f_X8_whyInclusion at hf
  refine hp_start (by decide) ?_
  intro p e s m below meth c C hr hlk B0 hnm
  have C : hp_C Γ p m c cX8_whyInclusion 5 s ([.ref a0, .int a1, .ref a2, .int a3, .int a4] : List Value).toArray RX8 := C
  have hx := C.1.1
  have hb := C.1.2.1
  have hown := C.1.2.2.2.1
  have hts := C.1.2.2.2.2
  have B : hp_B Γ (cw w_X8_whyInclusion) s α α s.heap [] := ⟨B0.1, B0.2.1, cw_rf g⟩
  have hl := lv_entry ([.ref a0, .int a1, .ref a2, .int a3, .int a4]) (n := 5) (Nat.le_of_ble_eq_true rfl)
  show W p l e (hp_rm 3 0 0) s m ([.ref a0, .int a1, .ref a2, .int a3, .int a4] : List Value).toArray below meth c s.heap [] 0 0 (MQ below (hp_Qi Γ (fun r β => β = α ∧ r = res)) ([.ref a0, .int a1, .ref a2, .int a3, .int a4] : List Value).toArray s 0 0 (hp_A Γ)) (entryFrame m ([.ref a0, .int a1, .ref a2, .int a3, .int a4] : List Value).toArray 5)
  rw [lg_entry_eq]
  generalize (lg_sl ([.ref a0, .int a1, .ref a2, .int a3, .int a4]) ++ List.replicate (5 - (lg_sl ([.ref a0, .int a1, .ref a2, .int a3, .int a4])).length) Slot.unset).toArray = ls at hl ⊢
  have hl : lv_has ls 5 [(0, .ref a0), (1, .int a1), (2, .ref a2), (3, .int a3), (4, .int a4)] := hl
  refine lv_aload_n hx hb dX8_whyInclusion_0 rfl (lv_at hl 2 rfl) (hp_n (n := 1) rfl ?_)
  refine q_geti (κ := 6) (k := 1) (φ := 301) (pc' := 4) C B (cw_k B.2.2 k2) fl_X8_74 rfl rfl rfl dX8_whyInclusion_1 rfl (fun x1 ex1 => ?_)
  replace hf := ms_lE ex1 hf
  refine lv_aload_n hx hb dX8_whyInclusion_4 rfl (lv_at hl 0 rfl) (hp_n (n := 5) rfl ?_)
  refine q_geti (κ := 9) (k := 3) (φ := 453) (pc' := 8) C B (cw_k B.2.2 k0) fl_X8_22 rfl rfl rfl dX8_whyInclusion_5 rfl (fun x2 ex2 => ?_)
  replace hf := ms_lE ex2 hf
  refine lv_icmp_eq (tgt := 28) hx hb dX8_whyInclusion_8 (by decide) (fun c3 => ?_) (fun c3 => hp_n (n := 11) rfl ?_)
  ·
    replace hf := ms_iT c3 hf
    refine lv_aload_n hx hb dX8_whyInclusion_28 rfl (lv_at hl 0 rfl) (hp_n (n := 29) rfl ?_)
    refine lv_iload_n hx hb dX8_whyInclusion_29 rfl (lv_at hl 1 rfl) (hp_n (n := 30) rfl ?_)
    refine lv_aload_n hx hb dX8_whyInclusion_30 rfl (lv_at hl 2 rfl) (hp_n (n := 31) rfl ?_)
    refine lv_iload_n hx hb dX8_whyInclusion_31 rfl (lv_at hl 3 rfl) (hp_n (n := 32) rfl ?_)
    refine lv_aload_n hx hb dX8_whyInclusion_32 rfl (lv_at hl 0 rfl) (hp_n (n := 33) rfl ?_)
    refine q_geti (κ := 9) (k := 3) (φ := 453) (pc' := 36) C B (cw_k B.2.2 k0) fl_X8_22 rfl rfl rfl dX8_whyInclusion_33 rfl (fun x4 ex4 => ?_)
    replace hf := ms_lE ex4 hf
    obtain ⟨rh5, qh5, hf⟩ := ms_bE hf
    refine d_pi (pc' := 39) B (hp_runV (As := [.int a1, .ref a2, .int a3, .int x4]) (rest := []) C B (n_X8_folded n Γ l α B.2.2.1 a0 (cw_k B.2.2 k0) a1 a2 (cw_k B.2.2 k2) a3 x4 rh5 qh5) lb_X8_folded lv_X8_folded lk_X8_75 (cw_k B.2.2 k0) rfl (by decide) rfl hl.1 rfl (Nat.le_of_ble_eq_true rfl) dX8_whyInclusion_36 ⟨Nat.le_refl _, Nat.le_refl _⟩) rfl (fun Hh5 Lh5 Bh5 => ?_)
    refine lv_iload hx hb dX8_whyInclusion_39 (lv_at hl 4 rfl) (hp_n (n := 41) rfl ?_)
    refine lv_icmp_ne (tgt := 48) hx hb dX8_whyInclusion_41 (by decide) (fun c6 => ?_) (fun c6 => hp_n (n := 44) rfl ?_)
    ·
      replace hf := ms_iF c6 hf
      refine lv_iconst (v := 3) hx hb dX8_whyInclusion_48 (by decide) (hp_n (n := 49) rfl ?_)
      cases hf
      exact q_iret C Bh5 hr hlk ⟨rfl, rfl⟩ dX8_whyInclusion_49
    ·
      replace hf := ms_iT c6 hf
      refine lv_iconst (v := 0) hx hb dX8_whyInclusion_44 (by decide) (hp_n (n := 45) rfl ?_)
      refine lv_goto (tgt := 49) hx hb dX8_whyInclusion_45 (by decide) ?_
      cases hf
      exact q_iret C Bh5 hr hlk ⟨rfl, rfl⟩ dX8_whyInclusion_49
  ·
    replace hf := ms_iF c3 hf
    refine lv_aload_n hx hb dX8_whyInclusion_11 rfl (lv_at hl 2 rfl) (hp_n (n := 12) rfl ?_)
    refine q_geti (κ := 6) (k := 1) (φ := 301) (pc' := 15) C B (cw_k B.2.2 k2) fl_X8_74 rfl rfl rfl dX8_whyInclusion_12 rfl (fun x7 ex7 => ?_)
    replace hf := ms_lE ex7 hf
    refine lv_aload_n hx hb dX8_whyInclusion_15 rfl (lv_at hl 0 rfl) (hp_n (n := 16) rfl ?_)
    refine q_geti (κ := 9) (k := 3) (φ := 453) (pc' := 19) C B (cw_k B.2.2 k0) fl_X8_22 rfl rfl rfl dX8_whyInclusion_16 rfl (fun x8 ex8 => ?_)
    replace hf := ms_lE ex8 hf
    refine lv_icmp_ge (tgt := 26) hx hb dX8_whyInclusion_19 (by decide) (fun c9 => ?_) (fun c9 => hp_n (n := 22) rfl ?_)
    ·
      replace hf := ms_iT c9 hf
      refine lv_iconst (v := 2) hx hb dX8_whyInclusion_26 (by decide) (hp_n (n := 27) rfl ?_)
      cases hf
      exact q_iret C B hr hlk ⟨rfl, rfl⟩ dX8_whyInclusion_27
    ·
      replace hf := ms_iF c9 hf
      refine lv_iconst (v := 1) hx hb dX8_whyInclusion_22 (by decide) (hp_n (n := 23) rfl ?_)
      refine lv_goto (tgt := 27) hx hb dX8_whyInclusion_23 (by decide) ?_
      cases hf
      exact q_iret C B hr hlk ⟨rfl, rfl⟩ dX8_whyInclusion_27
def f_X3_readMark (n : Nat) (α : hp_T) (a0 : Nat) (i1 : Nat) : Option (Int32 × hp_T) :=
  hq_c (f_X3_readWord n α a0 i1) fun rh1 αh1 =>
  if rh1 = 0 then
    some ((0 : Int32), αh1)
  else
    ms_l (hp_I αh1 203 a0) fun x3 =>
    hq_c (f_X3_readNumber n αh1 a0 (0 : Int32) (x3 - (1 : Int32))) fun rh4 αh4 =>
    if rh4 = 0 then
      some ((0 : Int32), αh4)
    else
      some ((1 : Int32), αh4)
set_option maxRecDepth 100000 in
set_option maxHeartbeats 4000000 in
theorem n_X3_readMark (n : Nat) (Γ : hp_G) (l : Launch) (α : hp_T) (g : GC α) (a0 : Nat) (k0 : hp_K α a0 = 4) (i1 : Nat) (h1 : i1 < 21) (res : (Int32 × hp_T)) (hf : f_X3_readMark n α a0 i1 = some res) : Met l yX3_readMark (hp_ws yX3_readMark cX3_readMark 2 (some .boolean)) (hp_rm 6 0 0) (hp_Pc Γ α [.ref a0, .ref (Γ.2.2.2.2.1 i1)]) (hp_Qi Γ (fun r β => r = res.1 ∧ β = res.2 ∧ cw w_X3_readMark α β)) 0 0 (hp_A Γ) := by
  unfold f_X3_readMark at hf
  refine hp_start (by decide) ?_
  intro p e s m below meth c C hr hlk B0 hnm
  have C : hp_C Γ p m c cX3_readMark 2 s ([.ref a0, .ref (Γ.2.2.2.2.1 i1)] : List Value).toArray RX3 := C
  have hx := C.1.1
  have hb := C.1.2.1
  have hown := C.1.2.2.2.1
  have hts := C.1.2.2.2.2
  have B : hp_B Γ (cw w_X3_readMark) s α α s.heap [] := ⟨B0.1, B0.2.1, cw_rf g⟩
  have hl := lv_entry ([.ref a0, .ref (Γ.2.2.2.2.1 i1)]) (n := 2) (Nat.le_of_ble_eq_true rfl)
  show W p l e (hp_rm 6 0 0) s m ([.ref a0, .ref (Γ.2.2.2.2.1 i1)] : List Value).toArray below meth c s.heap [] 0 0 (MQ below (hp_Qi Γ (fun r β => r = res.1 ∧ β = res.2 ∧ cw w_X3_readMark α β)) ([.ref a0, .ref (Γ.2.2.2.2.1 i1)] : List Value).toArray s 0 0 (hp_A Γ)) (entryFrame m ([.ref a0, .ref (Γ.2.2.2.2.1 i1)] : List Value).toArray 2)
  rw [lg_entry_eq]
  generalize (lg_sl ([.ref a0, .ref (Γ.2.2.2.2.1 i1)]) ++ List.replicate (2 - (lg_sl ([.ref a0, .ref (Γ.2.2.2.2.1 i1)])).length) Slot.unset).toArray = ls at hl ⊢
  have hl : lv_has ls 2 [(0, .ref a0), (1, .ref (Γ.2.2.2.2.1 i1))] := hl
  refine lv_aload_n hx hb dX3_readMark_0 rfl (lv_at hl 0 rfl) (hp_n (n := 1) rfl ?_)
  refine lv_aload_n hx hb dX3_readMark_1 rfl (lv_at hl 1 rfl) (hp_n (n := 2) rfl ?_)
  obtain ⟨rh1, αh1, qh1, hf⟩ := hq_cE hf
  refine d_ci (pc' := 5) B (hp_runV (As := [.ref (Γ.2.2.2.2.1 i1)]) (rest := []) C B (n_X3_readWord n Γ l α B.2.2.1 a0 (cw_k B.2.2 k0) i1 h1 (rh1, αh1) qh1) lb_X3_readWord lv_X3_readWord lk_X3_158 (cw_k B.2.2 k0) rfl (by decide) rfl hl.1 rfl (Nat.le_of_ble_eq_true rfl) dX3_readMark_2 ⟨Nat.le_refl _, Nat.le_refl _⟩) (by decide) rfl (fun Hh1 Lh1 Bh1 => ?_)
  refine lv_if_eq (tgt := 26) hx hb dX3_readMark_5 (by decide) (fun c2 => ?_) (fun c2 => hp_n (n := 8) rfl ?_)
  ·
    replace hf := ms_iT c2 hf
    refine lv_iconst (v := 0) hx hb dX3_readMark_26 (by decide) (hp_n (n := 27) rfl ?_)
    cases hf
    exact q_zret C Bh1 hr hlk (by decide) ⟨rfl, rfl, Bh1.2.2⟩ dX3_readMark_27
  ·
    replace hf := ms_iF c2 hf
    refine lv_aload_n hx hb dX3_readMark_8 rfl (lv_at hl 0 rfl) (hp_n (n := 9) rfl ?_)
    refine lv_iconst (v := 0) hx hb dX3_readMark_9 (by decide) (hp_n (n := 10) rfl ?_)
    refine lv_aload_n hx hb dX3_readMark_10 rfl (lv_at hl 0 rfl) (hp_n (n := 11) rfl ?_)
    refine q_geti (κ := 4) (k := 3) (φ := 203) (pc' := 14) C Bh1 (cw_k Bh1.2.2 k0) fl_X3_33 rfl rfl rfl dX3_readMark_11 rfl (fun x3 ex3 => ?_)
    replace hf := ms_lE ex3 hf
    refine lv_iconst (v := 1) hx hb dX3_readMark_14 (by decide) (hp_n (n := 15) rfl ?_)
    refine lv_isub hx hb dX3_readMark_15 (hp_n (n := 16) rfl ?_)
    obtain ⟨rh4, αh4, qh4, hf⟩ := hq_cE hf
    refine d_ci (pc' := 19) Bh1 (hp_runV (As := [.int (0 : Int32), .int (x3 - (1 : Int32))]) (rest := []) C Bh1 (n_X3_readNumber n Γ l αh1 Bh1.2.2.1 a0 (cw_k Bh1.2.2 k0) (0 : Int32) (x3 - (1 : Int32)) (rh4, αh4) qh4) lb_X3_readNumber lv_X3_readNumber lk_X3_75 (cw_k Bh1.2.2 k0) rfl (by decide) rfl hl.1 rfl (Nat.le_of_ble_eq_true rfl) dX3_readMark_16 ⟨Nat.le_refl _, Nat.le_refl _⟩) (by decide) rfl (fun Hh4 Lh4 Bh4 => ?_)
    refine lv_if_eq (tgt := 26) hx hb dX3_readMark_19 (by decide) (fun c5 => ?_) (fun c5 => hp_n (n := 22) rfl ?_)
    ·
      replace hf := ms_iT c5 hf
      refine lv_iconst (v := 0) hx hb dX3_readMark_26 (by decide) (hp_n (n := 27) rfl ?_)
      cases hf
      exact q_zret C Bh4 hr hlk (by decide) ⟨rfl, rfl, Bh4.2.2⟩ dX3_readMark_27
    ·
      replace hf := ms_iF c5 hf
      refine lv_iconst (v := 1) hx hb dX3_readMark_22 (by decide) (hp_n (n := 23) rfl ?_)
      refine lv_goto (tgt := 27) hx hb dX3_readMark_23 (by decide) ?_
      cases hf
      exact q_zret C Bh4 hr hlk (by decide) ⟨rfl, rfl, Bh4.2.2⟩ dX3_readMark_27
def f_X3_readRow_J128 (n : Nat) (a0 : Nat) (αh11 : hp_T) : Option (Int32 × hp_T) :=
  some ((1 : Int32), αh11)
def f_X3_readRow_J110 (n : Nat) (a0 : Nat) (αh8 : hp_T) : Option (Int32 × hp_T) :=
  ms_l (hp_R αh8 200 a0) fun b9 =>
  ms_l (hp_I αh8 353 b9) fun x10 =>
  if x10 = (3 : Int32) then
    f_X3_readRow_J128 n a0 αh8
  else
    hq_c (f_X3_stray n αh8 a0) fun rh13 αh13 =>
    if rh13 = 0 then
      some ((0 : Int32), αh13)
    else
      f_X3_readRow_J128 n a0 αh13
def f_X3_readRow_L28 (n : Nat) (a0 : Nat) : Nat → hp_T → Int32 → Option (Int32 × hp_T)
  | 0, _, _ => none
  | k28 + 1, αh7, v1_h7 =>
    if (64 : Int32) < v1_h7 then
      f_X3_readRow_J110 n a0 αh7
    else
      ms_l (hp_R αh7 200 a0) fun b16 =>
      ms_l (hp_I αh7 353 b16) fun x17 =>
      if x17 = (2 : Int32) then
        ms_l (hp_R αh7 200 a0) fun b19 =>
        ms_l (hp_I αh7 356 b19) fun x20 =>
        ms_l (hp_I αh7 203 a0) fun x21 =>
        if x20 < x21 then
          ms_l (hp_R αh7 201 a0) fun b23 =>
          ms_l (hp_I αh7 301 b23) fun x24 =>
          hq_c (f_X3_hasRoom n αh7 a0 x24 (64 : Int32)) fun rh25 αh25 =>
          if rh25 = 0 then
            some ((0 : Int32), αh25)
          else
            ms_l (hp_R αh25 201 a0) fun b27 =>
            ms_l (hp_R αh25 200 a0) fun b28 =>
            ms_l (hp_I αh25 356 b28) fun x29 =>
            ms_b (f_X5_put n αh25 b27 x29) fun αh30 =>
            ms_l (hp_R αh30 200 a0) fun b31 =>
            ms_b (f_X6_advance n αh30 b31) fun αh32 =>
            ms_l (v1_h7 + 1) fun x33 =>
            (f_X3_readRow_L28 n a0 k28) αh32 x33
        else
          hq_c (f_X3_fail n αh7 a0 (3 : Int32)) fun rh34 αh34 =>
          ms_z rh34 <|
          some (rh34, αh34)
      else
        f_X3_readRow_J110 n a0 αh7
def f_X3_readRow (n : Nat) (α : hp_T) (a0 : Nat) : Option (Int32 × hp_T) :=
  hq_c (f_X3_readWord n α a0 8) fun rh1 αh1 =>
  if rh1 = 0 then
    some ((0 : Int32), αh1)
  else
    ms_l (hp_R αh1 201 a0) fun b3 =>
    ms_b (f_X5_shorten n αh1 b3 (0 : Int32)) fun αh4 =>
    ms_l (hp_R αh4 200 a0) fun b5 =>
    ms_b (f_X6_advance n αh4 b5) fun αh6 =>
    f_X3_readRow_L28 n a0 n αh6 (0 : Int32)
set_option maxRecDepth 100000 in
set_option maxHeartbeats 4000000 in
theorem n_X3_readRow (n : Nat) (Γ : hp_G) (l : Launch) (α : hp_T) (g : GC α) (a0 : Nat) (k0 : hp_K α a0 = 4) (res : (Int32 × hp_T)) (hf : f_X3_readRow n α a0 = some res) : Met l yX3_readRow (hp_ws yX3_readRow cX3_readRow 2 (some .boolean)) (hp_rm 6 0 0) (hp_Pc Γ α [.ref a0]) (hp_Qi Γ (fun r β => r = res.1 ∧ β = res.2 ∧ cw w_X3_readRow α β)) 0 0 (hp_A Γ) := by
  unfold f_X3_readRow at hf
  refine hp_start (by decide) ?_
  intro p e s m below meth c C hr hlk B0 hnm
  have C : hp_C Γ p m c cX3_readRow 2 s ([.ref a0] : List Value).toArray RX3 := C
  have hx := C.1.1
  have hb := C.1.2.1
  have hown := C.1.2.2.2.1
  have hts := C.1.2.2.2.2
  have B : hp_B Γ (cw w_X3_readRow) s α α s.heap [] := ⟨B0.1, B0.2.1, cw_rf g⟩
  have hl := lv_entry ([.ref a0]) (n := 2) (Nat.le_of_ble_eq_true rfl)
  show W p l e (hp_rm 6 0 0) s m ([.ref a0] : List Value).toArray below meth c s.heap [] 0 0 (MQ below (hp_Qi Γ (fun r β => r = res.1 ∧ β = res.2 ∧ cw w_X3_readRow α β)) ([.ref a0] : List Value).toArray s 0 0 (hp_A Γ)) (entryFrame m ([.ref a0] : List Value).toArray 2)
  rw [lg_entry_eq]
  generalize (lg_sl ([.ref a0]) ++ List.replicate (2 - (lg_sl ([.ref a0])).length) Slot.unset).toArray = ls at hl ⊢
  have hl : lv_has ls 2 [(0, .ref a0)] := hl
  refine lv_aload_n hx hb dX3_readRow_0 rfl (lv_at hl 0 rfl) (hp_n (n := 1) rfl ?_)
  refine va_ldcS hx hb hown (sr_X3_186 C.2) dX3_readRow_1 (hp_n (n := 3) rfl ?_)
  obtain ⟨rh1, αh1, qh1, hf⟩ := hq_cE hf
  refine d_ci (pc' := 6) B (hp_runV (As := [.ref (Γ.2.2.2.2.1 8)]) (rest := []) C B (n_X3_readWord n Γ l α B.2.2.1 a0 (cw_k B.2.2 k0) 8 (by decide) (rh1, αh1) qh1) lb_X3_readWord lv_X3_readWord lk_X3_158 (cw_k B.2.2 k0) rfl (by decide) rfl hl.1 rfl (Nat.le_of_ble_eq_true rfl) dX3_readRow_3 ⟨Nat.le_refl _, Nat.le_refl _⟩) (by decide) rfl (fun Hh1 Lh1 Bh1 => ?_)
  refine lv_if_ne (tgt := 11) hx hb dX3_readRow_6 (by decide) (fun c2 => ?_) (fun c2 => hp_n (n := 9) rfl ?_)
  ·
    replace hf := ms_iF c2 hf
    refine lv_aload_n hx hb dX3_readRow_11 rfl (lv_at hl 0 rfl) (hp_n (n := 12) rfl ?_)
    refine q_getr (κ := 4) (k := 1) (φ := 201) (pc' := 15) C Bh1 (cw_k Bh1.2.2 k0) fl_X3_21 rfl rfl rfl (cw_r Bh1.2.2 k0 rfl rfl (by decide) (by decide)) dX3_readRow_12 rfl (fun b3 eb3 kb3 => ?_)
    replace hf := ms_lE eb3 hf
    refine lv_iconst (v := 0) hx hb dX3_readRow_15 (by decide) (hp_n (n := 16) rfl ?_)
    obtain ⟨αh4, qh4, hf⟩ := ms_bE hf
    refine d_cv (pc' := 19) Bh1 (hp_runV (As := [.int (0 : Int32)]) (rest := []) C Bh1 (n_X5_shorten n Γ l αh1 Bh1.2.2.1 b3 (cw_k Bh1.2.2 kb3) (0 : Int32) αh4 qh4) lb_X5_shorten lv_X5_shorten lk_X3_120 (cw_k Bh1.2.2 kb3) rfl (by decide) rfl hl.1 rfl (Nat.le_of_ble_eq_true rfl) dX3_readRow_16 ⟨Nat.le_refl _, Nat.le_refl _⟩) (by decide) rfl (fun Hh4 Lh4 Bh4 => ?_)
    refine lv_aload_n hx hb dX3_readRow_19 rfl (lv_at hl 0 rfl) (hp_n (n := 20) rfl ?_)
    refine q_getr (κ := 4) (k := 0) (φ := 200) (pc' := 23) C Bh4 (cw_k Bh4.2.2 k0) fl_X3_12 rfl rfl rfl (cw_r Bh4.2.2 k0 rfl rfl (by decide) (by decide)) dX3_readRow_20 rfl (fun b5 eb5 kb5 => ?_)
    replace hf := ms_lE eb5 hf
    obtain ⟨αh6, qh6, hf⟩ := ms_bE hf
    refine d_cv (pc' := 26) Bh4 (hp_runV (As := []) (rest := []) C Bh4 (n_X6_advance n Γ l αh4 Bh4.2.2.1 b5 (cw_k Bh4.2.2 kb5) αh6 qh6) lb_X6_advance lv_X6_advance lk_X3_63 (cw_k Bh4.2.2 kb5) rfl (by decide) rfl hl.1 rfl (Nat.le_of_ble_eq_true rfl) dX3_readRow_23 ⟨Nat.le_refl _, Nat.le_refl _⟩) (by decide) rfl (fun Hh6 Lh6 Bh6 => ?_)
    refine lv_iconst (v := 0) hx hb dX3_readRow_26 (by decide) (hp_n (n := 27) rfl ?_)
    have J28 : ∀ (k28 : Nat) (αh7 : hp_T) (Hh7 : Heap) (Lh7 : List Loc) (Bh7 : hp_B Γ (cw w_X3_readRow) s α αh7 Hh7 Lh7) (v1_h7 : Int32) (ls : Array Slot) (hl : lv_has ls 2 [(0, .ref a0), (1, .int v1_h7)]) (hf : f_X3_readRow_L28 n a0 k28 αh7 v1_h7 = some res), W p l e (hp_rm 6 0 0) s m ([.ref a0] : List Value).toArray below meth c Hh7 Lh7 0 0 (MQ below (hp_Qi Γ (fun r β => r = res.1 ∧ β = res.2 ∧ cw w_X3_readRow α β)) ([.ref a0] : List Value).toArray s 0 0 (hp_A Γ)) (F0 m 28 ls []) := by
      intro k28
      induction k28 with
      | zero => intro αh7 Hh7 Lh7 Bh7 v1_h7 ls hl hf; rw [f_X3_readRow_L28.eq_1] at hf; cases hf
      | succ k28 ih28 =>
        intro αh7 Hh7 Lh7 Bh7 v1_h7 ls hl hf
        rw [f_X3_readRow_L28.eq_2] at hf
        refine lv_iload_n hx hb dX3_readRow_28 rfl (lv_at hl 1 rfl) (hp_n (n := 29) rfl ?_)
        refine lv_bipush (v := 64) hx hb dX3_readRow_29 (by decide) (hp_n (n := 31) rfl ?_)
        have J110 : ∀ (αh8 : hp_T) (Hh8 : Heap) (Lh8 : List Loc) (Bh8 : hp_B Γ (cw w_X3_readRow) s α αh8 Hh8 Lh8) (ls : Array Slot) (hl : lv_has ls 2 [(0, .ref a0)]) (hf : f_X3_readRow_J110 n a0 αh8 = some res), W p l e (hp_rm 6 0 0) s m ([.ref a0] : List Value).toArray below meth c Hh8 Lh8 0 0 (MQ below (hp_Qi Γ (fun r β => r = res.1 ∧ β = res.2 ∧ cw w_X3_readRow α β)) ([.ref a0] : List Value).toArray s 0 0 (hp_A Γ)) (F0 m 110 ls []) := by
          intro αh8 Hh8 Lh8 Bh8 ls hl hf
          unfold f_X3_readRow_J110 at hf
          refine lv_aload_n hx hb dX3_readRow_110 rfl (lv_at hl 0 rfl) (hp_n (n := 111) rfl ?_)
          refine q_getr (κ := 4) (k := 0) (φ := 200) (pc' := 114) C Bh8 (cw_k Bh8.2.2 k0) fl_X3_12 rfl rfl rfl (cw_r Bh8.2.2 k0 rfl rfl (by decide) (by decide)) dX3_readRow_111 rfl (fun b9 eb9 kb9 => ?_)
          replace hf := ms_lE eb9 hf
          refine q_geti (κ := 7) (k := 3) (φ := 353) (pc' := 117) C Bh8 (cw_k Bh8.2.2 kb9) fl_X3_66 rfl rfl rfl dX3_readRow_114 rfl (fun x10 ex10 => ?_)
          replace hf := ms_lE ex10 hf
          refine lv_iconst (v := 3) hx hb dX3_readRow_117 (by decide) (hp_n (n := 118) rfl ?_)
          have J128 : ∀ (αh11 : hp_T) (Hh11 : Heap) (Lh11 : List Loc) (Bh11 : hp_B Γ (cw w_X3_readRow) s α αh11 Hh11 Lh11) (ls : Array Slot) (hl : lv_has ls 2 []) (hf : f_X3_readRow_J128 n a0 αh11 = some res), W p l e (hp_rm 6 0 0) s m ([.ref a0] : List Value).toArray below meth c Hh11 Lh11 0 0 (MQ below (hp_Qi Γ (fun r β => r = res.1 ∧ β = res.2 ∧ cw w_X3_readRow α β)) ([.ref a0] : List Value).toArray s 0 0 (hp_A Γ)) (F0 m 128 ls []) := by
            intro αh11 Hh11 Lh11 Bh11 ls hl hf
            unfold f_X3_readRow_J128 at hf
            refine lv_iconst (v := 1) hx hb dX3_readRow_128 (by decide) (hp_n (n := 129) rfl ?_)
            refine lv_goto (tgt := 133) hx hb dX3_readRow_129 (by decide) ?_
            cases hf
            exact q_zret C Bh11 hr hlk (by decide) ⟨rfl, rfl, Bh11.2.2⟩ dX3_readRow_133
          refine lv_icmp_eq (tgt := 128) hx hb dX3_readRow_118 (by decide) (fun c12 => ?_) (fun c12 => hp_n (n := 121) rfl ?_)
          ·
            replace hf := ms_iT c12 hf
            exact J128 αh8 Hh8 Lh8 Bh8 ls (lv_sub hl [] rfl) hf
          ·
            replace hf := ms_iF c12 hf
            refine lv_aload_n hx hb dX3_readRow_121 rfl (lv_at hl 0 rfl) (hp_n (n := 122) rfl ?_)
            obtain ⟨rh13, αh13, qh13, hf⟩ := hq_cE hf
            refine d_ci (pc' := 125) Bh8 (hp_runV (As := []) (rest := []) C Bh8 (n_X3_stray n Γ l αh8 Bh8.2.2.1 a0 (cw_k Bh8.2.2 k0) (rh13, αh13) qh13) lb_X3_stray lv_X3_stray lk_X3_117 (cw_k Bh8.2.2 k0) rfl (by decide) rfl hl.1 rfl (Nat.le_of_ble_eq_true rfl) dX3_readRow_122 ⟨Nat.le_refl _, Nat.le_refl _⟩) (by decide) rfl (fun Hh13 Lh13 Bh13 => ?_)
            refine lv_if_eq (tgt := 132) hx hb dX3_readRow_125 (by decide) (fun c14 => ?_) (fun c14 => hp_n (n := 128) rfl ?_)
            ·
              replace hf := ms_iT c14 hf
              refine lv_iconst (v := 0) hx hb dX3_readRow_132 (by decide) (hp_n (n := 133) rfl ?_)
              cases hf
              exact q_zret C Bh13 hr hlk (by decide) ⟨rfl, rfl, Bh13.2.2⟩ dX3_readRow_133
            ·
              replace hf := ms_iF c14 hf
              exact J128 αh13 Hh13 Lh13 Bh13 ls (lv_sub hl [] rfl) hf
        refine lv_icmp_gt (tgt := 110) hx hb dX3_readRow_31 (by decide) (fun c15 => ?_) (fun c15 => hp_n (n := 34) rfl ?_)
        ·
          replace hf := ms_iT c15 hf
          exact J110 αh7 Hh7 Lh7 Bh7 ls (lv_sub hl [0] rfl) hf
        ·
          replace hf := ms_iF c15 hf
          refine lv_aload_n hx hb dX3_readRow_34 rfl (lv_at hl 0 rfl) (hp_n (n := 35) rfl ?_)
          refine q_getr (κ := 4) (k := 0) (φ := 200) (pc' := 38) C Bh7 (cw_k Bh7.2.2 k0) fl_X3_12 rfl rfl rfl (cw_r Bh7.2.2 k0 rfl rfl (by decide) (by decide)) dX3_readRow_35 rfl (fun b16 eb16 kb16 => ?_)
          replace hf := ms_lE eb16 hf
          refine q_geti (κ := 7) (k := 3) (φ := 353) (pc' := 41) C Bh7 (cw_k Bh7.2.2 kb16) fl_X3_66 rfl rfl rfl dX3_readRow_38 rfl (fun x17 ex17 => ?_)
          replace hf := ms_lE ex17 hf
          refine lv_iconst (v := 2) hx hb dX3_readRow_41 (by decide) (hp_n (n := 42) rfl ?_)
          refine lv_icmp_ne (tgt := 110) hx hb dX3_readRow_42 (by decide) (fun c18 => ?_) (fun c18 => hp_n (n := 45) rfl ?_)
          ·
            replace hf := ms_iF c18 hf
            exact J110 αh7 Hh7 Lh7 Bh7 ls (lv_sub hl [0] rfl) hf
          ·
            replace hf := ms_iT c18 hf
            refine lv_aload_n hx hb dX3_readRow_45 rfl (lv_at hl 0 rfl) (hp_n (n := 46) rfl ?_)
            refine q_getr (κ := 4) (k := 0) (φ := 200) (pc' := 49) C Bh7 (cw_k Bh7.2.2 k0) fl_X3_12 rfl rfl rfl (cw_r Bh7.2.2 k0 rfl rfl (by decide) (by decide)) dX3_readRow_46 rfl (fun b19 eb19 kb19 => ?_)
            replace hf := ms_lE eb19 hf
            refine q_geti (κ := 7) (k := 6) (φ := 356) (pc' := 52) C Bh7 (cw_k Bh7.2.2 kb19) fl_X3_188 rfl rfl rfl dX3_readRow_49 rfl (fun x20 ex20 => ?_)
            replace hf := ms_lE ex20 hf
            refine lv_aload_n hx hb dX3_readRow_52 rfl (lv_at hl 0 rfl) (hp_n (n := 53) rfl ?_)
            refine q_geti (κ := 4) (k := 3) (φ := 203) (pc' := 56) C Bh7 (cw_k Bh7.2.2 k0) fl_X3_33 rfl rfl rfl dX3_readRow_53 rfl (fun x21 ex21 => ?_)
            replace hf := ms_lE ex21 hf
            refine lv_icmp_lt (tgt := 65) hx hb dX3_readRow_56 (by decide) (fun c22 => ?_) (fun c22 => hp_n (n := 59) rfl ?_)
            ·
              replace hf := ms_iT c22 hf
              refine lv_aload_n hx hb dX3_readRow_65 rfl (lv_at hl 0 rfl) (hp_n (n := 66) rfl ?_)
              refine lv_aload_n hx hb dX3_readRow_66 rfl (lv_at hl 0 rfl) (hp_n (n := 67) rfl ?_)
              refine q_getr (κ := 4) (k := 1) (φ := 201) (pc' := 70) C Bh7 (cw_k Bh7.2.2 k0) fl_X3_21 rfl rfl rfl (cw_r Bh7.2.2 k0 rfl rfl (by decide) (by decide)) dX3_readRow_67 rfl (fun b23 eb23 kb23 => ?_)
              replace hf := ms_lE eb23 hf
              refine q_geti (κ := 6) (k := 1) (φ := 301) (pc' := 73) C Bh7 (cw_k Bh7.2.2 kb23) fl_X3_131 rfl rfl rfl dX3_readRow_70 rfl (fun x24 ex24 => ?_)
              replace hf := ms_lE ex24 hf
              refine lv_bipush (v := 64) hx hb dX3_readRow_73 (by decide) (hp_n (n := 75) rfl ?_)
              obtain ⟨rh25, αh25, qh25, hf⟩ := hq_cE hf
              refine d_ci (pc' := 78) Bh7 (hp_runV (As := [.int x24, .int (64 : Int32)]) (rest := []) C Bh7 (n_X3_hasRoom n Γ l αh7 Bh7.2.2.1 a0 (cw_k Bh7.2.2 k0) x24 (64 : Int32) (rh25, αh25) qh25) lb_X3_hasRoom lv_X3_hasRoom lk_X3_99 (cw_k Bh7.2.2 k0) rfl (by decide) rfl hl.1 rfl (Nat.le_of_ble_eq_true rfl) dX3_readRow_75 ⟨Nat.le_refl _, Nat.le_refl _⟩) (by decide) rfl (fun Hh25 Lh25 Bh25 => ?_)
              refine lv_if_ne (tgt := 83) hx hb dX3_readRow_78 (by decide) (fun c26 => ?_) (fun c26 => hp_n (n := 81) rfl ?_)
              ·
                replace hf := ms_iF c26 hf
                refine lv_aload_n hx hb dX3_readRow_83 rfl (lv_at hl 0 rfl) (hp_n (n := 84) rfl ?_)
                refine q_getr (κ := 4) (k := 1) (φ := 201) (pc' := 87) C Bh25 (cw_k Bh25.2.2 k0) fl_X3_21 rfl rfl rfl (cw_r Bh25.2.2 k0 rfl rfl (by decide) (by decide)) dX3_readRow_84 rfl (fun b27 eb27 kb27 => ?_)
                replace hf := ms_lE eb27 hf
                refine lv_aload_n hx hb dX3_readRow_87 rfl (lv_at hl 0 rfl) (hp_n (n := 88) rfl ?_)
                refine q_getr (κ := 4) (k := 0) (φ := 200) (pc' := 91) C Bh25 (cw_k Bh25.2.2 k0) fl_X3_12 rfl rfl rfl (cw_r Bh25.2.2 k0 rfl rfl (by decide) (by decide)) dX3_readRow_88 rfl (fun b28 eb28 kb28 => ?_)
                replace hf := ms_lE eb28 hf
                refine q_geti (κ := 7) (k := 6) (φ := 356) (pc' := 94) C Bh25 (cw_k Bh25.2.2 kb28) fl_X3_188 rfl rfl rfl dX3_readRow_91 rfl (fun x29 ex29 => ?_)
                replace hf := ms_lE ex29 hf
                obtain ⟨αh30, qh30, hf⟩ := ms_bE hf
                refine d_cv (pc' := 97) Bh25 (hp_runV (As := [.int x29]) (rest := []) C Bh25 (n_X5_put n Γ l αh25 Bh25.2.2.1 b27 (cw_k Bh25.2.2 kb27) x29 αh30 qh30) lb_X5_put lv_X5_put lk_X3_179 (cw_k Bh25.2.2 kb27) rfl (by decide) rfl hl.1 rfl (Nat.le_of_ble_eq_true rfl) dX3_readRow_94 ⟨Nat.le_refl _, Nat.le_refl _⟩) (by decide) rfl (fun Hh30 Lh30 Bh30 => ?_)
                refine lv_aload_n hx hb dX3_readRow_97 rfl (lv_at hl 0 rfl) (hp_n (n := 98) rfl ?_)
                refine q_getr (κ := 4) (k := 0) (φ := 200) (pc' := 101) C Bh30 (cw_k Bh30.2.2 k0) fl_X3_12 rfl rfl rfl (cw_r Bh30.2.2 k0 rfl rfl (by decide) (by decide)) dX3_readRow_98 rfl (fun b31 eb31 kb31 => ?_)
                replace hf := ms_lE eb31 hf
                obtain ⟨αh32, qh32, hf⟩ := ms_bE hf
                refine d_cv (pc' := 104) Bh30 (hp_runV (As := []) (rest := []) C Bh30 (n_X6_advance n Γ l αh30 Bh30.2.2.1 b31 (cw_k Bh30.2.2 kb31) αh32 qh32) lb_X6_advance lv_X6_advance lk_X3_63 (cw_k Bh30.2.2 kb31) rfl (by decide) rfl hl.1 rfl (Nat.le_of_ble_eq_true rfl) dX3_readRow_101 ⟨Nat.le_refl _, Nat.le_refl _⟩) (by decide) rfl (fun Hh32 Lh32 Bh32 => ?_)
                obtain ⟨x33, ex33⟩ : ∃ y : Int32, y = v1_h7 + 1 := ⟨_, rfl⟩
                replace hf := ms_lE ex33 hf
                refine lv_iinc (v := x33) (lv' := [(1, .int x33), (0, .ref a0)]) hx hb dX3_readRow_104 hl (k := 1) rfl (by rw [ex33]; rfl) (by decide) rfl (fun ls hl => hp_n (n := 107) rfl ?_)
                refine lv_goto (tgt := 28) hx hb dX3_readRow_107 (by decide) ?_
                exact ih28 αh32 Hh32 Lh32 Bh32 x33 ls (lv_sub hl [1, 0] rfl) hf
              ·
                replace hf := ms_iT c26 hf
                refine lv_iconst (v := 0) hx hb dX3_readRow_81 (by decide) (hp_n (n := 82) rfl ?_)
                cases hf
                exact q_zret C Bh25 hr hlk (by decide) ⟨rfl, rfl, Bh25.2.2⟩ dX3_readRow_82
            ·
              replace hf := ms_iF c22 hf
              refine lv_aload_n hx hb dX3_readRow_59 rfl (lv_at hl 0 rfl) (hp_n (n := 60) rfl ?_)
              refine lv_iconst (v := 3) hx hb dX3_readRow_60 (by decide) (hp_n (n := 61) rfl ?_)
              obtain ⟨rh34, αh34, qh34, hf⟩ := hq_cE hf
              refine d_ci (pc' := 64) Bh7 (hp_runV (As := [.int (3 : Int32)]) (rest := []) C Bh7 (n_X3_fail n Γ l αh7 Bh7.2.2.1 a0 (cw_k Bh7.2.2 k0) (3 : Int32) (rh34, αh34) qh34) lb_X3_fail lv_X3_fail lk_X3_145 (cw_k Bh7.2.2 k0) rfl (by decide) rfl hl.1 rfl (Nat.le_of_ble_eq_true rfl) dX3_readRow_61 ⟨Nat.le_refl _, Nat.le_refl _⟩) (by decide) rfl (fun Hh34 Lh34 Bh34 => ?_)
              obtain ⟨g35, hf⟩ := ms_zE hf
              cases hf
              exact q_zret C Bh34 hr hlk (nz_z g35) ⟨rfl, rfl, Bh34.2.2⟩ dX3_readRow_64
    refine lv_istore_n (lv' := [(1, .int (0 : Int32)), (0, .ref a0)]) hx hb dX3_readRow_27 rfl hl (by decide) rfl (fun ls hl => hp_n (n := 28) rfl ?_)
    exact J28 n αh6 Hh6 Lh6 Bh6 (0 : Int32) ls (lv_sub hl [1, 0] rfl) hf
  ·
    replace hf := ms_iT c2 hf
    refine lv_iconst (v := 0) hx hb dX3_readRow_9 (by decide) (hp_n (n := 10) rfl ?_)
    cases hf
    exact q_zret C Bh1 hr hlk (by decide) ⟨rfl, rfl, Bh1.2.2⟩ dX3_readRow_10
def f_X3_readInclusion (n : Nat) (α : hp_T) (a0 : Nat) (a1 : Nat) : Option (Int32 × hp_T) :=
  hq_c (f_X3_readNumber n α a0 (0 : Int32) (2147483647 : Int32)) fun rh1 αh1 =>
  if rh1 = 0 then
    some ((0 : Int32), αh1)
  else
    ms_l (hp_I αh1 209 a0) fun x3 =>
    hq_c (f_X3_readWord n αh1 a0 18) fun rh4 αh4 =>
    if rh4 = 0 then
      some ((0 : Int32), αh4)
    else
      hq_c (f_X3_readNumber n αh4 a0 (x3 + (1 : Int32)) (2147483647 : Int32)) fun rh6 αh6 =>
      if rh6 = 0 then
        some ((0 : Int32), αh6)
      else
        ms_l (hp_I αh6 209 a0) fun x8 =>
        hq_c (f_X3_readMark n αh6 a0 16) fun rh9 αh9 =>
        if rh9 = 0 then
          some ((0 : Int32), αh9)
        else
          ms_l (hp_I αh9 209 a0) fun x11 =>
          hq_c (f_X3_readMark n αh9 a0 13) fun rh12 αh12 =>
          if rh12 = 0 then
            some ((0 : Int32), αh12)
          else
            hq_c (f_X3_readRow n αh12 a0) fun rh14 αh14 =>
            if rh14 = 0 then
              some ((0 : Int32), αh14)
            else
              ms_l (hp_R αh14 202 a0) fun b16 =>
              ms_b (f_X8_toThing n αh14 b16 x3 x8) fun αh17 =>
              ms_l (hp_R αh17 202 a0) fun b18 =>
              ms_l (hp_I αh17 203 a0) fun x19 =>
              ms_l (hp_R αh17 201 a0) fun b20 =>
              ms_l (hp_I αh17 209 a0) fun x21 =>
              ms_b (f_X8_whyInclusion n αh17 b18 x19 b20 x11 x21) fun rh22 =>
              ms_b (f_X5_put n αh17 a1 rh22) fun αh23 =>
              some ((1 : Int32), αh23)
set_option maxRecDepth 100000 in
set_option maxHeartbeats 4000000 in
theorem n_X3_readInclusion (n : Nat) (Γ : hp_G) (l : Launch) (α : hp_T) (g : GC α) (a0 : Nat) (k0 : hp_K α a0 = 4) (a1 : Nat) (k1 : hp_K α a1 = 6) (res : (Int32 × hp_T)) (hf : f_X3_readInclusion n α a0 a1 = some res) : Met l yX3_readInclusion (hp_ws yX3_readInclusion cX3_readInclusion 5 (some .boolean)) (hp_rm 7 0 0) (hp_Pc Γ α [.ref a0, .ref a1]) (hp_Qi Γ (fun r β => r = res.1 ∧ β = res.2 ∧ cw w_X3_readInclusion α β)) 0 0 (hp_A Γ) := by
  unfold f_X3_readInclusion at hf
  refine hp_start (by decide) ?_
  intro p e s m below meth c C hr hlk B0 hnm
  have C : hp_C Γ p m c cX3_readInclusion 5 s ([.ref a0, .ref a1] : List Value).toArray RX3 := C
  have hx := C.1.1
  have hb := C.1.2.1
  have hown := C.1.2.2.2.1
  have hts := C.1.2.2.2.2
  have B : hp_B Γ (cw w_X3_readInclusion) s α α s.heap [] := ⟨B0.1, B0.2.1, cw_rf g⟩
  have hl := lv_entry ([.ref a0, .ref a1]) (n := 5) (Nat.le_of_ble_eq_true rfl)
  show W p l e (hp_rm 7 0 0) s m ([.ref a0, .ref a1] : List Value).toArray below meth c s.heap [] 0 0 (MQ below (hp_Qi Γ (fun r β => r = res.1 ∧ β = res.2 ∧ cw w_X3_readInclusion α β)) ([.ref a0, .ref a1] : List Value).toArray s 0 0 (hp_A Γ)) (entryFrame m ([.ref a0, .ref a1] : List Value).toArray 5)
  rw [lg_entry_eq]
  generalize (lg_sl ([.ref a0, .ref a1]) ++ List.replicate (5 - (lg_sl ([.ref a0, .ref a1])).length) Slot.unset).toArray = ls at hl ⊢
  have hl : lv_has ls 5 [(0, .ref a0), (1, .ref a1)] := hl
  refine lv_aload_n hx hb dX3_readInclusion_0 rfl (lv_at hl 0 rfl) (hp_n (n := 1) rfl ?_)
  refine lv_iconst (v := 0) hx hb dX3_readInclusion_1 (by decide) (hp_n (n := 2) rfl ?_)
  refine lv_ldc hx hb hown (hts _ kc_X3_155) dX3_readInclusion_2 (hp_n (n := 4) rfl ?_)
  obtain ⟨rh1, αh1, qh1, hf⟩ := hq_cE hf
  refine d_ci (pc' := 7) B (hp_runV (As := [.int (0 : Int32), .int (2147483647 : Int32)]) (rest := []) C B (n_X3_readNumber n Γ l α B.2.2.1 a0 (cw_k B.2.2 k0) (0 : Int32) (2147483647 : Int32) (rh1, αh1) qh1) lb_X3_readNumber lv_X3_readNumber lk_X3_75 (cw_k B.2.2 k0) rfl (by decide) rfl hl.1 rfl (Nat.le_of_ble_eq_true rfl) dX3_readInclusion_4 ⟨Nat.le_refl _, Nat.le_refl _⟩) (by decide) rfl (fun Hh1 Lh1 Bh1 => ?_)
  refine lv_if_ne (tgt := 12) hx hb dX3_readInclusion_7 (by decide) (fun c2 => ?_) (fun c2 => hp_n (n := 10) rfl ?_)
  ·
    replace hf := ms_iF c2 hf
    refine lv_aload_n hx hb dX3_readInclusion_12 rfl (lv_at hl 0 rfl) (hp_n (n := 13) rfl ?_)
    refine q_geti (κ := 4) (k := 9) (φ := 209) (pc' := 16) C Bh1 (cw_k Bh1.2.2 k0) fl_X3_56 rfl rfl rfl dX3_readInclusion_13 rfl (fun x3 ex3 => ?_)
    replace hf := ms_lE ex3 hf
    refine lv_istore_n (lv' := [(2, .int x3), (0, .ref a0), (1, .ref a1)]) hx hb dX3_readInclusion_16 rfl hl (by decide) rfl (fun ls hl => hp_n (n := 17) rfl ?_)
    refine lv_aload_n hx hb dX3_readInclusion_17 rfl (lv_at hl 1 rfl) (hp_n (n := 18) rfl ?_)
    refine va_ldcS hx hb hown (sr_X3_156 C.2) dX3_readInclusion_18 (hp_n (n := 20) rfl ?_)
    obtain ⟨rh4, αh4, qh4, hf⟩ := hq_cE hf
    refine d_ci (pc' := 23) Bh1 (hp_runV (As := [.ref (Γ.2.2.2.2.1 18)]) (rest := []) C Bh1 (n_X3_readWord n Γ l αh1 Bh1.2.2.1 a0 (cw_k Bh1.2.2 k0) 18 (by decide) (rh4, αh4) qh4) lb_X3_readWord lv_X3_readWord lk_X3_158 (cw_k Bh1.2.2 k0) rfl (by decide) rfl hl.1 rfl (Nat.le_of_ble_eq_true rfl) dX3_readInclusion_20 ⟨Nat.le_refl _, Nat.le_refl _⟩) (by decide) rfl (fun Hh4 Lh4 Bh4 => ?_)
    refine lv_if_eq (tgt := 38) hx hb dX3_readInclusion_23 (by decide) (fun c5 => ?_) (fun c5 => hp_n (n := 26) rfl ?_)
    ·
      replace hf := ms_iT c5 hf
      refine lv_iconst (v := 0) hx hb dX3_readInclusion_38 (by decide) (hp_n (n := 39) rfl ?_)
      cases hf
      exact q_zret C Bh4 hr hlk (by decide) ⟨rfl, rfl, Bh4.2.2⟩ dX3_readInclusion_39
    ·
      replace hf := ms_iF c5 hf
      refine lv_aload_n hx hb dX3_readInclusion_26 rfl (lv_at hl 1 rfl) (hp_n (n := 27) rfl ?_)
      refine lv_iload_n hx hb dX3_readInclusion_27 rfl (lv_at hl 0 rfl) (hp_n (n := 28) rfl ?_)
      refine lv_iconst (v := 1) hx hb dX3_readInclusion_28 (by decide) (hp_n (n := 29) rfl ?_)
      refine lv_iadd hx hb dX3_readInclusion_29 (hp_n (n := 30) rfl ?_)
      refine lv_ldc hx hb hown (hts _ kc_X3_155) dX3_readInclusion_30 (hp_n (n := 32) rfl ?_)
      obtain ⟨rh6, αh6, qh6, hf⟩ := hq_cE hf
      refine d_ci (pc' := 35) Bh4 (hp_runV (As := [.int (x3 + (1 : Int32)), .int (2147483647 : Int32)]) (rest := []) C Bh4 (n_X3_readNumber n Γ l αh4 Bh4.2.2.1 a0 (cw_k Bh4.2.2 k0) (x3 + (1 : Int32)) (2147483647 : Int32) (rh6, αh6) qh6) lb_X3_readNumber lv_X3_readNumber lk_X3_75 (cw_k Bh4.2.2 k0) rfl (by decide) rfl hl.1 rfl (Nat.le_of_ble_eq_true rfl) dX3_readInclusion_32 ⟨Nat.le_refl _, Nat.le_refl _⟩) (by decide) rfl (fun Hh6 Lh6 Bh6 => ?_)
      refine lv_if_ne (tgt := 40) hx hb dX3_readInclusion_35 (by decide) (fun c7 => ?_) (fun c7 => hp_n (n := 38) rfl ?_)
      ·
        replace hf := ms_iF c7 hf
        refine lv_aload_n hx hb dX3_readInclusion_40 rfl (lv_at hl 1 rfl) (hp_n (n := 41) rfl ?_)
        refine q_geti (κ := 4) (k := 9) (φ := 209) (pc' := 44) C Bh6 (cw_k Bh6.2.2 k0) fl_X3_56 rfl rfl rfl dX3_readInclusion_41 rfl (fun x8 ex8 => ?_)
        replace hf := ms_lE ex8 hf
        refine lv_istore_n (lv' := [(3, .int x8), (2, .int x3), (0, .ref a0), (1, .ref a1)]) hx hb dX3_readInclusion_44 rfl hl (by decide) rfl (fun ls hl => hp_n (n := 45) rfl ?_)
        refine lv_aload_n hx hb dX3_readInclusion_45 rfl (lv_at hl 2 rfl) (hp_n (n := 46) rfl ?_)
        refine va_ldcS hx hb hown (sr_X3_161 C.2) dX3_readInclusion_46 (hp_n (n := 48) rfl ?_)
        obtain ⟨rh9, αh9, qh9, hf⟩ := hq_cE hf
        refine d_ci (pc' := 51) Bh6 (hp_runV (As := [.ref (Γ.2.2.2.2.1 16)]) (rest := []) C Bh6 (n_X3_readMark n Γ l αh6 Bh6.2.2.1 a0 (cw_k Bh6.2.2 k0) 16 (by decide) (rh9, αh9) qh9) lb_X3_readMark lv_X3_readMark lk_X3_163 (cw_k Bh6.2.2 k0) rfl (by decide) rfl hl.1 rfl (Nat.le_of_ble_eq_true rfl) dX3_readInclusion_48 ⟨Nat.le_refl _, Nat.le_refl _⟩) (by decide) rfl (fun Hh9 Lh9 Bh9 => ?_)
        refine lv_if_ne (tgt := 56) hx hb dX3_readInclusion_51 (by decide) (fun c10 => ?_) (fun c10 => hp_n (n := 54) rfl ?_)
        ·
          replace hf := ms_iF c10 hf
          refine lv_aload_n hx hb dX3_readInclusion_56 rfl (lv_at hl 2 rfl) (hp_n (n := 57) rfl ?_)
          refine q_geti (κ := 4) (k := 9) (φ := 209) (pc' := 60) C Bh9 (cw_k Bh9.2.2 k0) fl_X3_56 rfl rfl rfl dX3_readInclusion_57 rfl (fun x11 ex11 => ?_)
          replace hf := ms_lE ex11 hf
          refine lv_istore (lv' := [(4, .int x11), (3, .int x8), (2, .int x3), (0, .ref a0), (1, .ref a1)]) hx hb dX3_readInclusion_60 hl (by decide) rfl (fun ls hl => hp_n (n := 62) rfl ?_)
          refine lv_aload_n hx hb dX3_readInclusion_62 rfl (lv_at hl 3 rfl) (hp_n (n := 63) rfl ?_)
          refine va_ldcS hx hb hown (sr_X3_166 C.2) dX3_readInclusion_63 (hp_n (n := 65) rfl ?_)
          obtain ⟨rh12, αh12, qh12, hf⟩ := hq_cE hf
          refine d_ci (pc' := 68) Bh9 (hp_runV (As := [.ref (Γ.2.2.2.2.1 13)]) (rest := []) C Bh9 (n_X3_readMark n Γ l αh9 Bh9.2.2.1 a0 (cw_k Bh9.2.2 k0) 13 (by decide) (rh12, αh12) qh12) lb_X3_readMark lv_X3_readMark lk_X3_163 (cw_k Bh9.2.2 k0) rfl (by decide) rfl hl.1 rfl (Nat.le_of_ble_eq_true rfl) dX3_readInclusion_65 ⟨Nat.le_refl _, Nat.le_refl _⟩) (by decide) rfl (fun Hh12 Lh12 Bh12 => ?_)
          refine lv_if_eq (tgt := 78) hx hb dX3_readInclusion_68 (by decide) (fun c13 => ?_) (fun c13 => hp_n (n := 71) rfl ?_)
          ·
            replace hf := ms_iT c13 hf
            refine lv_iconst (v := 0) hx hb dX3_readInclusion_78 (by decide) (hp_n (n := 79) rfl ?_)
            cases hf
            exact q_zret C Bh12 hr hlk (by decide) ⟨rfl, rfl, Bh12.2.2⟩ dX3_readInclusion_79
          ·
            replace hf := ms_iF c13 hf
            refine lv_aload_n hx hb dX3_readInclusion_71 rfl (lv_at hl 3 rfl) (hp_n (n := 72) rfl ?_)
            obtain ⟨rh14, αh14, qh14, hf⟩ := hq_cE hf
            refine d_ci (pc' := 75) Bh12 (hp_runV (As := []) (rest := []) C Bh12 (n_X3_readRow n Γ l αh12 Bh12.2.2.1 a0 (cw_k Bh12.2.2 k0) (rh14, αh14) qh14) lb_X3_readRow lv_X3_readRow lk_X3_168 (cw_k Bh12.2.2 k0) rfl (by decide) rfl hl.1 rfl (Nat.le_of_ble_eq_true rfl) dX3_readInclusion_72 ⟨Nat.le_refl _, Nat.le_refl _⟩) (by decide) rfl (fun Hh14 Lh14 Bh14 => ?_)
            refine lv_if_ne (tgt := 80) hx hb dX3_readInclusion_75 (by decide) (fun c15 => ?_) (fun c15 => hp_n (n := 78) rfl ?_)
            ·
              replace hf := ms_iF c15 hf
              refine lv_aload_n hx hb dX3_readInclusion_80 rfl (lv_at hl 3 rfl) (hp_n (n := 81) rfl ?_)
              refine q_getr (κ := 4) (k := 2) (φ := 202) (pc' := 84) C Bh14 (cw_k Bh14.2.2 k0) fl_X3_28 rfl rfl rfl (cw_r Bh14.2.2 k0 rfl rfl (by decide) (by decide)) dX3_readInclusion_81 rfl (fun b16 eb16 kb16 => ?_)
              replace hf := ms_lE eb16 hf
              refine lv_iload_n hx hb dX3_readInclusion_84 rfl (lv_at hl 2 rfl) (hp_n (n := 85) rfl ?_)
              refine lv_iload_n hx hb dX3_readInclusion_85 rfl (lv_at hl 1 rfl) (hp_n (n := 86) rfl ?_)
              obtain ⟨αh17, qh17, hf⟩ := ms_bE hf
              refine d_cv (pc' := 89) Bh14 (hp_runV (As := [.int x3, .int x8]) (rest := []) C Bh14 (n_X8_toThing n Γ l αh14 Bh14.2.2.1 b16 (cw_k Bh14.2.2 kb16) x3 x8 αh17 qh17) lb_X8_toThing lv_X8_toThing lk_X3_171 (cw_k Bh14.2.2 kb16) rfl (by decide) rfl hl.1 rfl (Nat.le_of_ble_eq_true rfl) dX3_readInclusion_86 ⟨Nat.le_refl _, Nat.le_refl _⟩) (by decide) rfl (fun Hh17 Lh17 Bh17 => ?_)
              refine lv_aload_n hx hb dX3_readInclusion_89 rfl (lv_at hl 4 rfl) (hp_n (n := 90) rfl ?_)
              refine lv_aload_n hx hb dX3_readInclusion_90 rfl (lv_at hl 3 rfl) (hp_n (n := 91) rfl ?_)
              refine q_getr (κ := 4) (k := 2) (φ := 202) (pc' := 94) C Bh17 (cw_k Bh17.2.2 k0) fl_X3_28 rfl rfl rfl (cw_r Bh17.2.2 k0 rfl rfl (by decide) (by decide)) dX3_readInclusion_91 rfl (fun b18 eb18 kb18 => ?_)
              replace hf := ms_lE eb18 hf
              refine lv_aload_n hx hb dX3_readInclusion_94 rfl (lv_at hl 3 rfl) (hp_n (n := 95) rfl ?_)
              refine q_geti (κ := 4) (k := 3) (φ := 203) (pc' := 98) C Bh17 (cw_k Bh17.2.2 k0) fl_X3_33 rfl rfl rfl dX3_readInclusion_95 rfl (fun x19 ex19 => ?_)
              replace hf := ms_lE ex19 hf
              refine lv_aload_n hx hb dX3_readInclusion_98 rfl (lv_at hl 3 rfl) (hp_n (n := 99) rfl ?_)
              refine q_getr (κ := 4) (k := 1) (φ := 201) (pc' := 102) C Bh17 (cw_k Bh17.2.2 k0) fl_X3_21 rfl rfl rfl (cw_r Bh17.2.2 k0 rfl rfl (by decide) (by decide)) dX3_readInclusion_99 rfl (fun b20 eb20 kb20 => ?_)
              replace hf := ms_lE eb20 hf
              refine lv_iload hx hb dX3_readInclusion_102 (lv_at hl 0 rfl) (hp_n (n := 104) rfl ?_)
              refine lv_aload_n hx hb dX3_readInclusion_104 rfl (lv_at hl 3 rfl) (hp_n (n := 105) rfl ?_)
              refine q_geti (κ := 4) (k := 9) (φ := 209) (pc' := 108) C Bh17 (cw_k Bh17.2.2 k0) fl_X3_56 rfl rfl rfl dX3_readInclusion_105 rfl (fun x21 ex21 => ?_)
              replace hf := ms_lE ex21 hf
              obtain ⟨rh22, qh22, hf⟩ := ms_bE hf
              refine d_pi (pc' := 111) Bh17 (hp_runV (As := [.int x19, .ref b20, .int x11, .int x21]) (rest := [.ref a1]) C Bh17 (n_X8_whyInclusion n Γ l αh17 Bh17.2.2.1 b18 (cw_k Bh17.2.2 kb18) x19 b20 (cw_k Bh17.2.2 kb20) x11 x21 rh22 qh22) lb_X8_whyInclusion lv_X8_whyInclusion lk_X3_175 (cw_k Bh17.2.2 kb18) rfl (by decide) rfl hl.1 rfl (Nat.le_of_ble_eq_true rfl) dX3_readInclusion_108 ⟨Nat.le_refl _, Nat.le_refl _⟩) rfl (fun Hh22 Lh22 Bh22 => ?_)
              obtain ⟨αh23, qh23, hf⟩ := ms_bE hf
              refine d_cv (pc' := 114) Bh22 (hp_runV (As := [.int rh22]) (rest := []) C Bh22 (n_X5_put n Γ l αh17 Bh22.2.2.1 a1 (cw_k Bh22.2.2 k1) rh22 αh23 qh23) lb_X5_put lv_X5_put lk_X3_179 (cw_k Bh22.2.2 k1) rfl (by decide) rfl hl.1 rfl (Nat.le_of_ble_eq_true rfl) dX3_readInclusion_111 ⟨Nat.le_refl _, Nat.le_refl _⟩) (by decide) rfl (fun Hh23 Lh23 Bh23 => ?_)
              refine lv_iconst (v := 1) hx hb dX3_readInclusion_114 (by decide) (hp_n (n := 115) rfl ?_)
              cases hf
              exact q_zret C Bh23 hr hlk (by decide) ⟨rfl, rfl, Bh23.2.2⟩ dX3_readInclusion_115
            ·
              replace hf := ms_iT c15 hf
              refine lv_iconst (v := 0) hx hb dX3_readInclusion_78 (by decide) (hp_n (n := 79) rfl ?_)
              cases hf
              exact q_zret C Bh14 hr hlk (by decide) ⟨rfl, rfl, Bh14.2.2⟩ dX3_readInclusion_79
        ·
          replace hf := ms_iT c10 hf
          refine lv_iconst (v := 0) hx hb dX3_readInclusion_54 (by decide) (hp_n (n := 55) rfl ?_)
          cases hf
          exact q_zret C Bh9 hr hlk (by decide) ⟨rfl, rfl, Bh9.2.2⟩ dX3_readInclusion_55
      ·
        replace hf := ms_iT c7 hf
        refine lv_iconst (v := 0) hx hb dX3_readInclusion_38 (by decide) (hp_n (n := 39) rfl ?_)
        cases hf
        exact q_zret C Bh6 hr hlk (by decide) ⟨rfl, rfl, Bh6.2.2⟩ dX3_readInclusion_39
  ·
    replace hf := ms_iT c2 hf
    refine lv_iconst (v := 0) hx hb dX3_readInclusion_10 (by decide) (hp_n (n := 11) rfl ?_)
    cases hf
    exact q_zret C Bh1 hr hlk (by decide) ⟨rfl, rfl, Bh1.2.2⟩ dX3_readInclusion_11
def f_X3_readGrowth (n : Nat) (α : hp_T) (a0 : Nat) (a1 : Nat) : Option (Int32 × hp_T) :=
  hq_c (f_X3_readNumber n α a0 (0 : Int32) (2147483647 : Int32)) fun rh1 αh1 =>
  if rh1 = 0 then
    some ((0 : Int32), αh1)
  else
    ms_l (hp_I αh1 209 a0) fun x3 =>
    hq_c (f_X3_readMark n αh1 a0 16) fun rh4 αh4 =>
    if rh4 = 0 then
      some ((0 : Int32), αh4)
    else
      ms_l (hp_I αh4 209 a0) fun x6 =>
      hq_c (f_X3_readWord n αh4 a0 20) fun rh7 αh7 =>
      if rh7 = 0 then
        some ((0 : Int32), αh7)
      else
        hq_c (f_X3_readNumber n αh7 a0 x3 (2147483647 : Int32)) fun rh9 αh9 =>
        if rh9 = 0 then
          some ((0 : Int32), αh9)
        else
          ms_l (hp_I αh9 209 a0) fun x11 =>
          hq_c (f_X3_readMark n αh9 a0 13) fun rh12 αh12 =>
          if rh12 = 0 then
            some ((0 : Int32), αh12)
          else
            hq_c (f_X3_readRow n αh12 a0) fun rh14 αh14 =>
            if rh14 = 0 then
              some ((0 : Int32), αh14)
            else
              ms_l (hp_R αh14 202 a0) fun b16 =>
              ms_l (hp_I αh14 203 a0) fun x17 =>
              ms_l (hp_R αh14 201 a0) fun b18 =>
              ms_l (hp_I αh14 209 a0) fun x19 =>
              hq_c (f_X8_whyGrowth n αh14 b16 x17 b18 x3 x6 x11 x19) fun rh20 αh20 =>
              ms_b (f_X5_put n αh20 a1 rh20) fun αh21 =>
              some ((1 : Int32), αh21)
set_option maxRecDepth 100000 in
set_option maxHeartbeats 4000000 in
theorem n_X3_readGrowth (n : Nat) (Γ : hp_G) (l : Launch) (α : hp_T) (g : GC α) (a0 : Nat) (k0 : hp_K α a0 = 4) (a1 : Nat) (k1 : hp_K α a1 = 6) (res : (Int32 × hp_T)) (hf : f_X3_readGrowth n α a0 a1 = some res) : Met l yX3_readGrowth (hp_ws yX3_readGrowth cX3_readGrowth 5 (some .boolean)) (hp_rm 7 0 0) (hp_Pc Γ α [.ref a0, .ref a1]) (hp_Qi Γ (fun r β => r = res.1 ∧ β = res.2 ∧ cw w_X3_readGrowth α β)) 0 0 (hp_A Γ) := by
  unfold f_X3_readGrowth at hf
  refine hp_start (by decide) ?_
  intro p e s m below meth c C hr hlk B0 hnm
  have C : hp_C Γ p m c cX3_readGrowth 5 s ([.ref a0, .ref a1] : List Value).toArray RX3 := C
  have hx := C.1.1
  have hb := C.1.2.1
  have hown := C.1.2.2.2.1
  have hts := C.1.2.2.2.2
  have B : hp_B Γ (cw w_X3_readGrowth) s α α s.heap [] := ⟨B0.1, B0.2.1, cw_rf g⟩
  have hl := lv_entry ([.ref a0, .ref a1]) (n := 5) (Nat.le_of_ble_eq_true rfl)
  show W p l e (hp_rm 7 0 0) s m ([.ref a0, .ref a1] : List Value).toArray below meth c s.heap [] 0 0 (MQ below (hp_Qi Γ (fun r β => r = res.1 ∧ β = res.2 ∧ cw w_X3_readGrowth α β)) ([.ref a0, .ref a1] : List Value).toArray s 0 0 (hp_A Γ)) (entryFrame m ([.ref a0, .ref a1] : List Value).toArray 5)
  rw [lg_entry_eq]
  generalize (lg_sl ([.ref a0, .ref a1]) ++ List.replicate (5 - (lg_sl ([.ref a0, .ref a1])).length) Slot.unset).toArray = ls at hl ⊢
  have hl : lv_has ls 5 [(0, .ref a0), (1, .ref a1)] := hl
  refine lv_aload_n hx hb dX3_readGrowth_0 rfl (lv_at hl 0 rfl) (hp_n (n := 1) rfl ?_)
  refine lv_iconst (v := 0) hx hb dX3_readGrowth_1 (by decide) (hp_n (n := 2) rfl ?_)
  refine lv_ldc hx hb hown (hts _ kc_X3_155) dX3_readGrowth_2 (hp_n (n := 4) rfl ?_)
  obtain ⟨rh1, αh1, qh1, hf⟩ := hq_cE hf
  refine d_ci (pc' := 7) B (hp_runV (As := [.int (0 : Int32), .int (2147483647 : Int32)]) (rest := []) C B (n_X3_readNumber n Γ l α B.2.2.1 a0 (cw_k B.2.2 k0) (0 : Int32) (2147483647 : Int32) (rh1, αh1) qh1) lb_X3_readNumber lv_X3_readNumber lk_X3_75 (cw_k B.2.2 k0) rfl (by decide) rfl hl.1 rfl (Nat.le_of_ble_eq_true rfl) dX3_readGrowth_4 ⟨Nat.le_refl _, Nat.le_refl _⟩) (by decide) rfl (fun Hh1 Lh1 Bh1 => ?_)
  refine lv_if_ne (tgt := 12) hx hb dX3_readGrowth_7 (by decide) (fun c2 => ?_) (fun c2 => hp_n (n := 10) rfl ?_)
  ·
    replace hf := ms_iF c2 hf
    refine lv_aload_n hx hb dX3_readGrowth_12 rfl (lv_at hl 0 rfl) (hp_n (n := 13) rfl ?_)
    refine q_geti (κ := 4) (k := 9) (φ := 209) (pc' := 16) C Bh1 (cw_k Bh1.2.2 k0) fl_X3_56 rfl rfl rfl dX3_readGrowth_13 rfl (fun x3 ex3 => ?_)
    replace hf := ms_lE ex3 hf
    refine lv_istore_n (lv' := [(2, .int x3), (0, .ref a0), (1, .ref a1)]) hx hb dX3_readGrowth_16 rfl hl (by decide) rfl (fun ls hl => hp_n (n := 17) rfl ?_)
    refine lv_aload_n hx hb dX3_readGrowth_17 rfl (lv_at hl 1 rfl) (hp_n (n := 18) rfl ?_)
    refine va_ldcS hx hb hown (sr_X3_161 C.2) dX3_readGrowth_18 (hp_n (n := 20) rfl ?_)
    obtain ⟨rh4, αh4, qh4, hf⟩ := hq_cE hf
    refine d_ci (pc' := 23) Bh1 (hp_runV (As := [.ref (Γ.2.2.2.2.1 16)]) (rest := []) C Bh1 (n_X3_readMark n Γ l αh1 Bh1.2.2.1 a0 (cw_k Bh1.2.2 k0) 16 (by decide) (rh4, αh4) qh4) lb_X3_readMark lv_X3_readMark lk_X3_163 (cw_k Bh1.2.2 k0) rfl (by decide) rfl hl.1 rfl (Nat.le_of_ble_eq_true rfl) dX3_readGrowth_20 ⟨Nat.le_refl _, Nat.le_refl _⟩) (by decide) rfl (fun Hh4 Lh4 Bh4 => ?_)
    refine lv_if_ne (tgt := 28) hx hb dX3_readGrowth_23 (by decide) (fun c5 => ?_) (fun c5 => hp_n (n := 26) rfl ?_)
    ·
      replace hf := ms_iF c5 hf
      refine lv_aload_n hx hb dX3_readGrowth_28 rfl (lv_at hl 1 rfl) (hp_n (n := 29) rfl ?_)
      refine q_geti (κ := 4) (k := 9) (φ := 209) (pc' := 32) C Bh4 (cw_k Bh4.2.2 k0) fl_X3_56 rfl rfl rfl dX3_readGrowth_29 rfl (fun x6 ex6 => ?_)
      replace hf := ms_lE ex6 hf
      refine lv_istore_n (lv' := [(3, .int x6), (2, .int x3), (0, .ref a0), (1, .ref a1)]) hx hb dX3_readGrowth_32 rfl hl (by decide) rfl (fun ls hl => hp_n (n := 33) rfl ?_)
      refine lv_aload_n hx hb dX3_readGrowth_33 rfl (lv_at hl 2 rfl) (hp_n (n := 34) rfl ?_)
      refine va_ldcS hx hb hown (sr_X3_92 C.2) dX3_readGrowth_34 (hp_n (n := 36) rfl ?_)
      obtain ⟨rh7, αh7, qh7, hf⟩ := hq_cE hf
      refine d_ci (pc' := 39) Bh4 (hp_runV (As := [.ref (Γ.2.2.2.2.1 20)]) (rest := []) C Bh4 (n_X3_readWord n Γ l αh4 Bh4.2.2.1 a0 (cw_k Bh4.2.2 k0) 20 (by decide) (rh7, αh7) qh7) lb_X3_readWord lv_X3_readWord lk_X3_158 (cw_k Bh4.2.2 k0) rfl (by decide) rfl hl.1 rfl (Nat.le_of_ble_eq_true rfl) dX3_readGrowth_36 ⟨Nat.le_refl _, Nat.le_refl _⟩) (by decide) rfl (fun Hh7 Lh7 Bh7 => ?_)
      refine lv_if_eq (tgt := 52) hx hb dX3_readGrowth_39 (by decide) (fun c8 => ?_) (fun c8 => hp_n (n := 42) rfl ?_)
      ·
        replace hf := ms_iT c8 hf
        refine lv_iconst (v := 0) hx hb dX3_readGrowth_52 (by decide) (hp_n (n := 53) rfl ?_)
        cases hf
        exact q_zret C Bh7 hr hlk (by decide) ⟨rfl, rfl, Bh7.2.2⟩ dX3_readGrowth_53
      ·
        replace hf := ms_iF c8 hf
        refine lv_aload_n hx hb dX3_readGrowth_42 rfl (lv_at hl 2 rfl) (hp_n (n := 43) rfl ?_)
        refine lv_iload_n hx hb dX3_readGrowth_43 rfl (lv_at hl 1 rfl) (hp_n (n := 44) rfl ?_)
        refine lv_ldc hx hb hown (hts _ kc_X3_155) dX3_readGrowth_44 (hp_n (n := 46) rfl ?_)
        obtain ⟨rh9, αh9, qh9, hf⟩ := hq_cE hf
        refine d_ci (pc' := 49) Bh7 (hp_runV (As := [.int x3, .int (2147483647 : Int32)]) (rest := []) C Bh7 (n_X3_readNumber n Γ l αh7 Bh7.2.2.1 a0 (cw_k Bh7.2.2 k0) x3 (2147483647 : Int32) (rh9, αh9) qh9) lb_X3_readNumber lv_X3_readNumber lk_X3_75 (cw_k Bh7.2.2 k0) rfl (by decide) rfl hl.1 rfl (Nat.le_of_ble_eq_true rfl) dX3_readGrowth_46 ⟨Nat.le_refl _, Nat.le_refl _⟩) (by decide) rfl (fun Hh9 Lh9 Bh9 => ?_)
        refine lv_if_ne (tgt := 54) hx hb dX3_readGrowth_49 (by decide) (fun c10 => ?_) (fun c10 => hp_n (n := 52) rfl ?_)
        ·
          replace hf := ms_iF c10 hf
          refine lv_aload_n hx hb dX3_readGrowth_54 rfl (lv_at hl 2 rfl) (hp_n (n := 55) rfl ?_)
          refine q_geti (κ := 4) (k := 9) (φ := 209) (pc' := 58) C Bh9 (cw_k Bh9.2.2 k0) fl_X3_56 rfl rfl rfl dX3_readGrowth_55 rfl (fun x11 ex11 => ?_)
          replace hf := ms_lE ex11 hf
          refine lv_istore (lv' := [(4, .int x11), (3, .int x6), (2, .int x3), (0, .ref a0), (1, .ref a1)]) hx hb dX3_readGrowth_58 hl (by decide) rfl (fun ls hl => hp_n (n := 60) rfl ?_)
          refine lv_aload_n hx hb dX3_readGrowth_60 rfl (lv_at hl 3 rfl) (hp_n (n := 61) rfl ?_)
          refine va_ldcS hx hb hown (sr_X3_166 C.2) dX3_readGrowth_61 (hp_n (n := 63) rfl ?_)
          obtain ⟨rh12, αh12, qh12, hf⟩ := hq_cE hf
          refine d_ci (pc' := 66) Bh9 (hp_runV (As := [.ref (Γ.2.2.2.2.1 13)]) (rest := []) C Bh9 (n_X3_readMark n Γ l αh9 Bh9.2.2.1 a0 (cw_k Bh9.2.2 k0) 13 (by decide) (rh12, αh12) qh12) lb_X3_readMark lv_X3_readMark lk_X3_163 (cw_k Bh9.2.2 k0) rfl (by decide) rfl hl.1 rfl (Nat.le_of_ble_eq_true rfl) dX3_readGrowth_63 ⟨Nat.le_refl _, Nat.le_refl _⟩) (by decide) rfl (fun Hh12 Lh12 Bh12 => ?_)
          refine lv_if_eq (tgt := 76) hx hb dX3_readGrowth_66 (by decide) (fun c13 => ?_) (fun c13 => hp_n (n := 69) rfl ?_)
          ·
            replace hf := ms_iT c13 hf
            refine lv_iconst (v := 0) hx hb dX3_readGrowth_76 (by decide) (hp_n (n := 77) rfl ?_)
            cases hf
            exact q_zret C Bh12 hr hlk (by decide) ⟨rfl, rfl, Bh12.2.2⟩ dX3_readGrowth_77
          ·
            replace hf := ms_iF c13 hf
            refine lv_aload_n hx hb dX3_readGrowth_69 rfl (lv_at hl 3 rfl) (hp_n (n := 70) rfl ?_)
            obtain ⟨rh14, αh14, qh14, hf⟩ := hq_cE hf
            refine d_ci (pc' := 73) Bh12 (hp_runV (As := []) (rest := []) C Bh12 (n_X3_readRow n Γ l αh12 Bh12.2.2.1 a0 (cw_k Bh12.2.2 k0) (rh14, αh14) qh14) lb_X3_readRow lv_X3_readRow lk_X3_168 (cw_k Bh12.2.2 k0) rfl (by decide) rfl hl.1 rfl (Nat.le_of_ble_eq_true rfl) dX3_readGrowth_70 ⟨Nat.le_refl _, Nat.le_refl _⟩) (by decide) rfl (fun Hh14 Lh14 Bh14 => ?_)
            refine lv_if_ne (tgt := 78) hx hb dX3_readGrowth_73 (by decide) (fun c15 => ?_) (fun c15 => hp_n (n := 76) rfl ?_)
            ·
              replace hf := ms_iF c15 hf
              refine lv_aload_n hx hb dX3_readGrowth_78 rfl (lv_at hl 4 rfl) (hp_n (n := 79) rfl ?_)
              refine lv_aload_n hx hb dX3_readGrowth_79 rfl (lv_at hl 3 rfl) (hp_n (n := 80) rfl ?_)
              refine q_getr (κ := 4) (k := 2) (φ := 202) (pc' := 83) C Bh14 (cw_k Bh14.2.2 k0) fl_X3_28 rfl rfl rfl (cw_r Bh14.2.2 k0 rfl rfl (by decide) (by decide)) dX3_readGrowth_80 rfl (fun b16 eb16 kb16 => ?_)
              replace hf := ms_lE eb16 hf
              refine lv_aload_n hx hb dX3_readGrowth_83 rfl (lv_at hl 3 rfl) (hp_n (n := 84) rfl ?_)
              refine q_geti (κ := 4) (k := 3) (φ := 203) (pc' := 87) C Bh14 (cw_k Bh14.2.2 k0) fl_X3_33 rfl rfl rfl dX3_readGrowth_84 rfl (fun x17 ex17 => ?_)
              replace hf := ms_lE ex17 hf
              refine lv_aload_n hx hb dX3_readGrowth_87 rfl (lv_at hl 3 rfl) (hp_n (n := 88) rfl ?_)
              refine q_getr (κ := 4) (k := 1) (φ := 201) (pc' := 91) C Bh14 (cw_k Bh14.2.2 k0) fl_X3_21 rfl rfl rfl (cw_r Bh14.2.2 k0 rfl rfl (by decide) (by decide)) dX3_readGrowth_88 rfl (fun b18 eb18 kb18 => ?_)
              replace hf := ms_lE eb18 hf
              refine lv_iload_n hx hb dX3_readGrowth_91 rfl (lv_at hl 2 rfl) (hp_n (n := 92) rfl ?_)
              refine lv_iload_n hx hb dX3_readGrowth_92 rfl (lv_at hl 1 rfl) (hp_n (n := 93) rfl ?_)
              refine lv_iload hx hb dX3_readGrowth_93 (lv_at hl 0 rfl) (hp_n (n := 95) rfl ?_)
              refine lv_aload_n hx hb dX3_readGrowth_95 rfl (lv_at hl 3 rfl) (hp_n (n := 96) rfl ?_)
              refine q_geti (κ := 4) (k := 9) (φ := 209) (pc' := 99) C Bh14 (cw_k Bh14.2.2 k0) fl_X3_56 rfl rfl rfl dX3_readGrowth_96 rfl (fun x19 ex19 => ?_)
              replace hf := ms_lE ex19 hf
              obtain ⟨rh20, αh20, qh20, hf⟩ := hq_cE hf
              refine d_ci (pc' := 102) Bh14 (hp_runV (As := [.int x17, .ref b18, .int x3, .int x6, .int x11, .int x19]) (rest := [.ref a1]) C Bh14 (n_X8_whyGrowth n Γ l αh14 Bh14.2.2.1 b16 (cw_k Bh14.2.2 kb16) x17 b18 (cw_k Bh14.2.2 kb18) x3 x6 x11 x19 (rh20, αh20) qh20) lb_X8_whyGrowth lv_X8_whyGrowth lk_X3_182 (cw_k Bh14.2.2 kb16) rfl (by decide) rfl hl.1 rfl (Nat.le_of_ble_eq_true rfl) dX3_readGrowth_99 ⟨Nat.le_refl _, Nat.le_refl _⟩) (by decide) rfl (fun Hh20 Lh20 Bh20 => ?_)
              obtain ⟨αh21, qh21, hf⟩ := ms_bE hf
              refine d_cv (pc' := 105) Bh20 (hp_runV (As := [.int rh20]) (rest := []) C Bh20 (n_X5_put n Γ l αh20 Bh20.2.2.1 a1 (cw_k Bh20.2.2 k1) rh20 αh21 qh21) lb_X5_put lv_X5_put lk_X3_179 (cw_k Bh20.2.2 k1) rfl (by decide) rfl hl.1 rfl (Nat.le_of_ble_eq_true rfl) dX3_readGrowth_102 ⟨Nat.le_refl _, Nat.le_refl _⟩) (by decide) rfl (fun Hh21 Lh21 Bh21 => ?_)
              refine lv_iconst (v := 1) hx hb dX3_readGrowth_105 (by decide) (hp_n (n := 106) rfl ?_)
              cases hf
              exact q_zret C Bh21 hr hlk (by decide) ⟨rfl, rfl, Bh21.2.2⟩ dX3_readGrowth_106
            ·
              replace hf := ms_iT c15 hf
              refine lv_iconst (v := 0) hx hb dX3_readGrowth_76 (by decide) (hp_n (n := 77) rfl ?_)
              cases hf
              exact q_zret C Bh14 hr hlk (by decide) ⟨rfl, rfl, Bh14.2.2⟩ dX3_readGrowth_77
        ·
          replace hf := ms_iT c10 hf
          refine lv_iconst (v := 0) hx hb dX3_readGrowth_52 (by decide) (hp_n (n := 53) rfl ?_)
          cases hf
          exact q_zret C Bh9 hr hlk (by decide) ⟨rfl, rfl, Bh9.2.2⟩ dX3_readGrowth_53
    ·
      replace hf := ms_iT c5 hf
      refine lv_iconst (v := 0) hx hb dX3_readGrowth_26 (by decide) (hp_n (n := 27) rfl ?_)
      cases hf
      exact q_zret C Bh4 hr hlk (by decide) ⟨rfl, rfl, Bh4.2.2⟩ dX3_readGrowth_27
  ·
    replace hf := ms_iT c2 hf
    refine lv_iconst (v := 0) hx hb dX3_readGrowth_10 (by decide) (hp_n (n := 11) rfl ?_)
    cases hf
    exact q_zret C Bh1 hr hlk (by decide) ⟨rfl, rfl, Bh1.2.2⟩ dX3_readGrowth_11
def f_X3_readProofs_J98 (n : Nat) (a0 : Nat) (rec12 : hp_T → Nat → Int32 → Option (Int32 × hp_T)) (αh13 : hp_T) (v2_h13 : Nat) (v3_h13 : Int32) : Option (Int32 × hp_T) :=
  ms_l (hp_R αh13 200 a0) fun b14 =>
  ms_b (f_X6_advance n αh13 b14) fun αh15 =>
  ms_l (v3_h13 + 1) fun x16 =>
  rec12 αh15 v2_h13 x16
def f_X3_readProofs_J59 (n : Nat) (a0 : Nat) (rec12 : hp_T → Nat → Int32 → Option (Int32 × hp_T)) (αh9 : hp_T) (v2_h9 : Nat) (v3_h9 : Int32) (v4_h9 : Int32) : Option (Int32 × hp_T) :=
  ms_l (hp_I αh9 301 v2_h9) fun x10 =>
  hq_c (f_X3_hasRoom n αh9 a0 x10 (20 : Int32)) fun rh11 αh11 =>
  if rh11 = 0 then
    some ((0 : Int32), αh11)
  else
    if v4_h9 = 0 then
      hq_c (f_X3_readGrowth n αh11 a0 v2_h9) fun rh18 αh18 =>
      if rh18 = 0 then
        some ((0 : Int32), αh18)
      else
        f_X3_readProofs_J98 n a0 rec12 αh18 v2_h9 v3_h9
    else
      hq_c (f_X3_readInclusion n αh11 a0 v2_h9) fun rh20 αh20 =>
      if rh20 = 0 then
        some ((0 : Int32), αh20)
      else
        f_X3_readProofs_J98 n a0 rec12 αh20 v2_h9 v3_h9
def f_X3_readProofs_L12 (n : Nat) (a0 : Nat) : Nat → hp_T → Nat → Int32 → Option (Int32 × hp_T)
  | 0, _, _, _ => none
  | k12 + 1, αh3, v2_h3, v3_h3 =>
    if (900 : Int32) ≤ v3_h3 then
      some ((1 : Int32), αh3)
    else
      ms_b (f_X3_isAtEnd n αh3 a0) fun rh5 =>
      if rh5 = 0 then
        ms_l (hp_R αh3 200 a0) fun b7 =>
        ms_b (f_X6_spells n αh3 b7 14) fun rh8 =>
        if rh8 = 0 then
          ms_l (hp_R αh3 200 a0) fun b23 =>
          ms_b (f_X6_spells n αh3 b23 11) fun rh24 =>
          if rh24 = 0 then
            hq_c (f_X3_stray n αh3 a0) fun rh26 αh26 =>
            ms_z rh26 <|
            some (rh26, αh26)
          else
            f_X3_readProofs_J59 n a0 (f_X3_readProofs_L12 n a0 k12) αh3 v2_h3 v3_h3 rh8
        else
          f_X3_readProofs_J59 n a0 (f_X3_readProofs_L12 n a0 k12) αh3 v2_h3 v3_h3 rh8
      else
        some ((1 : Int32), αh3)
def f_X3_readProofs (n : Nat) (α : hp_T) (a0 : Nat) (a1 : Int32) (a2 : Nat) : Option (Int32 × hp_T) :=
  ms_l (hp_sI α 203 a0 a1) fun αh1 =>
  ms_b (f_X5_shorten n αh1 a2 (0 : Int32)) fun αh2 =>
  f_X3_readProofs_L12 n a0 n αh2 a2 (0 : Int32)
set_option maxRecDepth 100000 in
set_option maxHeartbeats 4000000 in
theorem n_X3_readProofs (n : Nat) (Γ : hp_G) (l : Launch) (α : hp_T) (g : GC α) (a0 : Nat) (k0 : hp_K α a0 = 4) (a1 : Int32) (a2 : Nat) (k2 : hp_K α a2 = 6) (res : (Int32 × hp_T)) (hf : f_X3_readProofs n α a0 a1 a2 = some res) : Met l yX3_readProofs (hp_ws yX3_readProofs cX3_readProofs 5 (some .boolean)) (hp_rm 8 0 0) (hp_Pc Γ α [.ref a0, .int a1, .ref a2]) (hp_Qi Γ (fun r β => r = res.1 ∧ β = res.2 ∧ cw w_X3_readProofs α β)) 0 0 (hp_A Γ) := by
  unfold f_X3_readProofs at hf
  refine hp_start (by decide) ?_
  intro p e s m below meth c C hr hlk B0 hnm
  have C : hp_C Γ p m c cX3_readProofs 5 s ([.ref a0, .int a1, .ref a2] : List Value).toArray RX3 := C
  have hx := C.1.1
  have hb := C.1.2.1
  have hown := C.1.2.2.2.1
  have hts := C.1.2.2.2.2
  have B : hp_B Γ (cw w_X3_readProofs) s α α s.heap [] := ⟨B0.1, B0.2.1, cw_rf g⟩
  have hl := lv_entry ([.ref a0, .int a1, .ref a2]) (n := 5) (Nat.le_of_ble_eq_true rfl)
  show W p l e (hp_rm 8 0 0) s m ([.ref a0, .int a1, .ref a2] : List Value).toArray below meth c s.heap [] 0 0 (MQ below (hp_Qi Γ (fun r β => r = res.1 ∧ β = res.2 ∧ cw w_X3_readProofs α β)) ([.ref a0, .int a1, .ref a2] : List Value).toArray s 0 0 (hp_A Γ)) (entryFrame m ([.ref a0, .int a1, .ref a2] : List Value).toArray 5)
  rw [lg_entry_eq]
  generalize (lg_sl ([.ref a0, .int a1, .ref a2]) ++ List.replicate (5 - (lg_sl ([.ref a0, .int a1, .ref a2])).length) Slot.unset).toArray = ls at hl ⊢
  have hl : lv_has ls 5 [(0, .ref a0), (1, .int a1), (2, .ref a2)] := hl
  refine lv_aload_n hx hb dX3_readProofs_0 rfl (lv_at hl 0 rfl) (hp_n (n := 1) rfl ?_)
  refine lv_iload_n hx hb dX3_readProofs_1 rfl (lv_at hl 1 rfl) (hp_n (n := 2) rfl ?_)
  refine q_puti (κ := 4) (k := 3) (φ := 203) (pc' := 5) C B (cw_k B.2.2 k0) fl_X3_33 rfl rfl rfl rfl rfl rfl (cw_sI B.2.2 (by decide) (fun h => absurd h (by decide))) dX3_readProofs_2 rfl (fun αh1 Hh1 Lh1 eh1 Bh1 => ?_)
  replace hf := ms_lE eh1 hf
  refine lv_aload_n hx hb dX3_readProofs_5 rfl (lv_at hl 2 rfl) (hp_n (n := 6) rfl ?_)
  refine lv_iconst (v := 0) hx hb dX3_readProofs_6 (by decide) (hp_n (n := 7) rfl ?_)
  obtain ⟨αh2, qh2, hf⟩ := ms_bE hf
  refine d_cv (pc' := 10) Bh1 (hp_runV (As := [.int (0 : Int32)]) (rest := []) C Bh1 (n_X5_shorten n Γ l αh1 Bh1.2.2.1 a2 (cw_k Bh1.2.2 k2) (0 : Int32) αh2 qh2) lb_X5_shorten lv_X5_shorten lk_X3_120 (cw_k Bh1.2.2 k2) rfl (by decide) rfl hl.1 rfl (Nat.le_of_ble_eq_true rfl) dX3_readProofs_7 ⟨Nat.le_refl _, Nat.le_refl _⟩) (by decide) rfl (fun Hh2 Lh2 Bh2 => ?_)
  refine lv_iconst (v := 0) hx hb dX3_readProofs_10 (by decide) (hp_n (n := 11) rfl ?_)
  have J12 : ∀ (k12 : Nat) (αh3 : hp_T) (Hh3 : Heap) (Lh3 : List Loc) (Bh3 : hp_B Γ (cw w_X3_readProofs) s α αh3 Hh3 Lh3) (v2_h3 : Nat) (kv2_h3 : hp_K α v2_h3 = 6) (v3_h3 : Int32) (ls : Array Slot) (hl : lv_has ls 5 [(0, .ref a0), (2, .ref v2_h3), (3, .int v3_h3)]) (hf : f_X3_readProofs_L12 n a0 k12 αh3 v2_h3 v3_h3 = some res), W p l e (hp_rm 8 0 0) s m ([.ref a0, .int a1, .ref a2] : List Value).toArray below meth c Hh3 Lh3 0 0 (MQ below (hp_Qi Γ (fun r β => r = res.1 ∧ β = res.2 ∧ cw w_X3_readProofs α β)) ([.ref a0, .int a1, .ref a2] : List Value).toArray s 0 0 (hp_A Γ)) (F0 m 12 ls []) := by
    intro k12
    induction k12 with
    | zero => intro αh3 Hh3 Lh3 Bh3 v2_h3 kv2_h3 v3_h3 ls hl hf; rw [f_X3_readProofs_L12.eq_1] at hf; cases hf
    | succ k12 ih12 =>
      intro αh3 Hh3 Lh3 Bh3 v2_h3 kv2_h3 v3_h3 ls hl hf
      rw [f_X3_readProofs_L12.eq_2] at hf
      refine lv_iload_n hx hb dX3_readProofs_12 rfl (lv_at hl 2 rfl) (hp_n (n := 13) rfl ?_)
      refine lv_sipush (v := 900) hx hb dX3_readProofs_13 (by decide) (hp_n (n := 16) rfl ?_)
      refine lv_icmp_ge (tgt := 111) hx hb dX3_readProofs_16 (by decide) (fun c4 => ?_) (fun c4 => hp_n (n := 19) rfl ?_)
      ·
        replace hf := ms_iT c4 hf
        refine lv_iconst (v := 1) hx hb dX3_readProofs_111 (by decide) (hp_n (n := 112) rfl ?_)
        cases hf
        exact q_zret C Bh3 hr hlk (by decide) ⟨rfl, rfl, Bh3.2.2⟩ dX3_readProofs_112
      ·
        replace hf := ms_iF c4 hf
        refine lv_aload_n hx hb dX3_readProofs_19 rfl (lv_at hl 0 rfl) (hp_n (n := 20) rfl ?_)
        obtain ⟨rh5, qh5, hf⟩ := ms_bE hf
        refine d_pi (pc' := 23) Bh3 (hp_runV (As := []) (rest := []) C Bh3 (n_X3_isAtEnd n Γ l αh3 Bh3.2.2.1 a0 (cw_k Bh3.2.2 k0) rh5 qh5) lb_X3_isAtEnd lv_X3_isAtEnd lk_X3_124 (cw_k Bh3.2.2 k0) rfl (by decide) rfl hl.1 rfl (Nat.le_of_ble_eq_true rfl) dX3_readProofs_20 ⟨Nat.le_refl _, Nat.le_refl _⟩) rfl (fun Hh5 Lh5 Bh5 => ?_)
        refine lv_if_ne (tgt := 111) hx hb dX3_readProofs_23 (by decide) (fun c6 => ?_) (fun c6 => hp_n (n := 26) rfl ?_)
        ·
          replace hf := ms_iF c6 hf
          refine lv_iconst (v := 1) hx hb dX3_readProofs_111 (by decide) (hp_n (n := 112) rfl ?_)
          cases hf
          exact q_zret C Bh5 hr hlk (by decide) ⟨rfl, rfl, Bh5.2.2⟩ dX3_readProofs_112
        ·
          replace hf := ms_iT c6 hf
          refine lv_aload_n hx hb dX3_readProofs_26 rfl (lv_at hl 0 rfl) (hp_n (n := 27) rfl ?_)
          refine q_getr (κ := 4) (k := 0) (φ := 200) (pc' := 30) C Bh5 (cw_k Bh5.2.2 k0) fl_X3_12 rfl rfl rfl (cw_r Bh5.2.2 k0 rfl rfl (by decide) (by decide)) dX3_readProofs_27 rfl (fun b7 eb7 kb7 => ?_)
          replace hf := ms_lE eb7 hf
          refine va_ldcS hx hb hown (sr_X3_127 C.2) dX3_readProofs_30 (hp_n (n := 32) rfl ?_)
          obtain ⟨rh8, qh8, hf⟩ := ms_bE hf
          refine d_pi (pc' := 35) Bh5 (hp_runV (As := [.ref (Γ.2.2.2.2.1 14)]) (rest := []) C Bh5 (n_X6_spells n Γ l αh3 Bh5.2.2.1 b7 (cw_k Bh5.2.2 kb7) 14 (by decide) rh8 qh8) lb_X6_spells lv_X6_spells lk_X3_71 (cw_k Bh5.2.2 kb7) rfl (by decide) rfl hl.1 rfl (Nat.le_of_ble_eq_true rfl) dX3_readProofs_32 ⟨Nat.le_refl _, Nat.le_refl _⟩) rfl (fun Hh8 Lh8 Bh8 => ?_)
          refine lv_istore (lv' := [(4, .int rh8), (0, .ref a0), (2, .ref v2_h3), (3, .int v3_h3)]) hx hb dX3_readProofs_35 hl (by decide) rfl (fun ls hl => hp_n (n := 37) rfl ?_)
          refine lv_iload hx hb dX3_readProofs_37 (lv_at hl 0 rfl) (hp_n (n := 39) rfl ?_)
          have J59 : ∀ (αh9 : hp_T) (Hh9 : Heap) (Lh9 : List Loc) (Bh9 : hp_B Γ (cw w_X3_readProofs) s α αh9 Hh9 Lh9) (v2_h9 : Nat) (kv2_h9 : hp_K α v2_h9 = 6) (v3_h9 : Int32) (v4_h9 : Int32) (ls : Array Slot) (hl : lv_has ls 5 [(0, .ref a0), (2, .ref v2_h9), (3, .int v3_h9), (4, .int v4_h9)]) (hf : f_X3_readProofs_J59 n a0 (f_X3_readProofs_L12 n a0 k12) αh9 v2_h9 v3_h9 v4_h9 = some res), W p l e (hp_rm 8 0 0) s m ([.ref a0, .int a1, .ref a2] : List Value).toArray below meth c Hh9 Lh9 0 0 (MQ below (hp_Qi Γ (fun r β => r = res.1 ∧ β = res.2 ∧ cw w_X3_readProofs α β)) ([.ref a0, .int a1, .ref a2] : List Value).toArray s 0 0 (hp_A Γ)) (F0 m 59 ls []) := by
            intro αh9 Hh9 Lh9 Bh9 v2_h9 kv2_h9 v3_h9 v4_h9 ls hl hf
            unfold f_X3_readProofs_J59 at hf
            refine lv_aload_n hx hb dX3_readProofs_59 rfl (lv_at hl 0 rfl) (hp_n (n := 60) rfl ?_)
            refine lv_aload_n hx hb dX3_readProofs_60 rfl (lv_at hl 1 rfl) (hp_n (n := 61) rfl ?_)
            refine q_geti (κ := 6) (k := 1) (φ := 301) (pc' := 64) C Bh9 (cw_k Bh9.2.2 kv2_h9) fl_X3_131 rfl rfl rfl dX3_readProofs_61 rfl (fun x10 ex10 => ?_)
            replace hf := ms_lE ex10 hf
            refine lv_bipush (v := 20) hx hb dX3_readProofs_64 (by decide) (hp_n (n := 66) rfl ?_)
            obtain ⟨rh11, αh11, qh11, hf⟩ := hq_cE hf
            refine d_ci (pc' := 69) Bh9 (hp_runV (As := [.int x10, .int (20 : Int32)]) (rest := []) C Bh9 (n_X3_hasRoom n Γ l αh9 Bh9.2.2.1 a0 (cw_k Bh9.2.2 k0) x10 (20 : Int32) (rh11, αh11) qh11) lb_X3_hasRoom lv_X3_hasRoom lk_X3_99 (cw_k Bh9.2.2 k0) rfl (by decide) rfl hl.1 rfl (Nat.le_of_ble_eq_true rfl) dX3_readProofs_66 ⟨Nat.le_refl _, Nat.le_refl _⟩) (by decide) rfl (fun Hh11 Lh11 Bh11 => ?_)
            refine lv_if_eq (tgt := 96) hx hb dX3_readProofs_69 (by decide) (fun c12 => ?_) (fun c12 => hp_n (n := 72) rfl ?_)
            ·
              replace hf := ms_iT c12 hf
              refine lv_iconst (v := 0) hx hb dX3_readProofs_96 (by decide) (hp_n (n := 97) rfl ?_)
              cases hf
              exact q_zret C Bh11 hr hlk (by decide) ⟨rfl, rfl, Bh11.2.2⟩ dX3_readProofs_97
            ·
              replace hf := ms_iF c12 hf
              refine lv_iload hx hb dX3_readProofs_72 (lv_at hl 3 rfl) (hp_n (n := 74) rfl ?_)
              have J98 : ∀ (αh13 : hp_T) (Hh13 : Heap) (Lh13 : List Loc) (Bh13 : hp_B Γ (cw w_X3_readProofs) s α αh13 Hh13 Lh13) (v2_h13 : Nat) (kv2_h13 : hp_K α v2_h13 = 6) (v3_h13 : Int32) (ls : Array Slot) (hl : lv_has ls 5 [(0, .ref a0), (2, .ref v2_h13), (3, .int v3_h13)]) (hf : f_X3_readProofs_J98 n a0 (f_X3_readProofs_L12 n a0 k12) αh13 v2_h13 v3_h13 = some res), W p l e (hp_rm 8 0 0) s m ([.ref a0, .int a1, .ref a2] : List Value).toArray below meth c Hh13 Lh13 0 0 (MQ below (hp_Qi Γ (fun r β => r = res.1 ∧ β = res.2 ∧ cw w_X3_readProofs α β)) ([.ref a0, .int a1, .ref a2] : List Value).toArray s 0 0 (hp_A Γ)) (F0 m 98 ls []) := by
                intro αh13 Hh13 Lh13 Bh13 v2_h13 kv2_h13 v3_h13 ls hl hf
                unfold f_X3_readProofs_J98 at hf
                refine lv_aload_n hx hb dX3_readProofs_98 rfl (lv_at hl 0 rfl) (hp_n (n := 99) rfl ?_)
                refine q_getr (κ := 4) (k := 0) (φ := 200) (pc' := 102) C Bh13 (cw_k Bh13.2.2 k0) fl_X3_12 rfl rfl rfl (cw_r Bh13.2.2 k0 rfl rfl (by decide) (by decide)) dX3_readProofs_99 rfl (fun b14 eb14 kb14 => ?_)
                replace hf := ms_lE eb14 hf
                obtain ⟨αh15, qh15, hf⟩ := ms_bE hf
                refine d_cv (pc' := 105) Bh13 (hp_runV (As := []) (rest := []) C Bh13 (n_X6_advance n Γ l αh13 Bh13.2.2.1 b14 (cw_k Bh13.2.2 kb14) αh15 qh15) lb_X6_advance lv_X6_advance lk_X3_63 (cw_k Bh13.2.2 kb14) rfl (by decide) rfl hl.1 rfl (Nat.le_of_ble_eq_true rfl) dX3_readProofs_102 ⟨Nat.le_refl _, Nat.le_refl _⟩) (by decide) rfl (fun Hh15 Lh15 Bh15 => ?_)
                obtain ⟨x16, ex16⟩ : ∃ y : Int32, y = v3_h13 + 1 := ⟨_, rfl⟩
                replace hf := ms_lE ex16 hf
                refine lv_iinc (v := x16) (lv' := [(3, .int x16), (0, .ref a0), (2, .ref v2_h13)]) hx hb dX3_readProofs_105 hl (k := 2) rfl (by rw [ex16]; rfl) (by decide) rfl (fun ls hl => hp_n (n := 108) rfl ?_)
                refine lv_goto (tgt := 12) hx hb dX3_readProofs_108 (by decide) ?_
                exact ih12 αh15 Hh15 Lh15 Bh15 v2_h13 kv2_h13 x16 ls (lv_sub hl [1, 2, 0] rfl) hf
              refine lv_if_eq (tgt := 88) hx hb dX3_readProofs_74 (by decide) (fun c17 => ?_) (fun c17 => hp_n (n := 77) rfl ?_)
              ·
                replace hf := ms_iT c17 hf
                refine lv_aload_n hx hb dX3_readProofs_88 rfl (lv_at hl 0 rfl) (hp_n (n := 89) rfl ?_)
                refine lv_aload_n hx hb dX3_readProofs_89 rfl (lv_at hl 1 rfl) (hp_n (n := 90) rfl ?_)
                obtain ⟨rh18, αh18, qh18, hf⟩ := hq_cE hf
                refine d_ci (pc' := 93) Bh11 (hp_runV (As := [.ref v2_h9]) (rest := []) C Bh11 (n_X3_readGrowth n Γ l αh11 Bh11.2.2.1 a0 (cw_k Bh11.2.2 k0) v2_h9 (cw_k Bh11.2.2 kv2_h9) (rh18, αh18) qh18) lb_X3_readGrowth lv_X3_readGrowth lk_X3_138 (cw_k Bh11.2.2 k0) rfl (by decide) rfl hl.1 rfl (Nat.le_of_ble_eq_true rfl) dX3_readProofs_90 ⟨Nat.le_refl _, Nat.le_refl _⟩) (by decide) rfl (fun Hh18 Lh18 Bh18 => ?_)
                refine lv_if_ne (tgt := 98) hx hb dX3_readProofs_93 (by decide) (fun c19 => ?_) (fun c19 => hp_n (n := 96) rfl ?_)
                ·
                  replace hf := ms_iF c19 hf
                  exact J98 αh18 Hh18 Lh18 Bh18 v2_h9 kv2_h9 v3_h9 ls (lv_sub hl [0, 1, 2] rfl) hf
                ·
                  replace hf := ms_iT c19 hf
                  refine lv_iconst (v := 0) hx hb dX3_readProofs_96 (by decide) (hp_n (n := 97) rfl ?_)
                  cases hf
                  exact q_zret C Bh18 hr hlk (by decide) ⟨rfl, rfl, Bh18.2.2⟩ dX3_readProofs_97
              ·
                replace hf := ms_iF c17 hf
                refine lv_aload_n hx hb dX3_readProofs_77 rfl (lv_at hl 0 rfl) (hp_n (n := 78) rfl ?_)
                refine lv_aload_n hx hb dX3_readProofs_78 rfl (lv_at hl 1 rfl) (hp_n (n := 79) rfl ?_)
                obtain ⟨rh20, αh20, qh20, hf⟩ := hq_cE hf
                refine d_ci (pc' := 82) Bh11 (hp_runV (As := [.ref v2_h9]) (rest := []) C Bh11 (n_X3_readInclusion n Γ l αh11 Bh11.2.2.1 a0 (cw_k Bh11.2.2 k0) v2_h9 (cw_k Bh11.2.2 kv2_h9) (rh20, αh20) qh20) lb_X3_readInclusion lv_X3_readInclusion lk_X3_134 (cw_k Bh11.2.2 k0) rfl (by decide) rfl hl.1 rfl (Nat.le_of_ble_eq_true rfl) dX3_readProofs_79 ⟨Nat.le_refl _, Nat.le_refl _⟩) (by decide) rfl (fun Hh20 Lh20 Bh20 => ?_)
                refine lv_if_eq (tgt := 96) hx hb dX3_readProofs_82 (by decide) (fun c21 => ?_) (fun c21 => hp_n (n := 85) rfl ?_)
                ·
                  replace hf := ms_iT c21 hf
                  refine lv_iconst (v := 0) hx hb dX3_readProofs_96 (by decide) (hp_n (n := 97) rfl ?_)
                  cases hf
                  exact q_zret C Bh20 hr hlk (by decide) ⟨rfl, rfl, Bh20.2.2⟩ dX3_readProofs_97
                ·
                  replace hf := ms_iF c21 hf
                  refine lv_goto (tgt := 98) hx hb dX3_readProofs_85 (by decide) ?_
                  exact J98 αh20 Hh20 Lh20 Bh20 v2_h9 kv2_h9 v3_h9 ls (lv_sub hl [0, 1, 2] rfl) hf
          refine lv_if_ne (tgt := 59) hx hb dX3_readProofs_39 (by decide) (fun c22 => ?_) (fun c22 => hp_n (n := 42) rfl ?_)
          ·
            replace hf := ms_iF c22 hf
            exact J59 αh3 Hh8 Lh8 Bh8 v2_h3 kv2_h3 v3_h3 rh8 ls (lv_sub hl [1, 2, 3, 0] rfl) hf
          ·
            replace hf := ms_iT c22 hf
            refine lv_aload_n hx hb dX3_readProofs_42 rfl (lv_at hl 1 rfl) (hp_n (n := 43) rfl ?_)
            refine q_getr (κ := 4) (k := 0) (φ := 200) (pc' := 46) C Bh8 (cw_k Bh8.2.2 k0) fl_X3_12 rfl rfl rfl (cw_r Bh8.2.2 k0 rfl rfl (by decide) (by decide)) dX3_readProofs_43 rfl (fun b23 eb23 kb23 => ?_)
            replace hf := ms_lE eb23 hf
            refine va_ldcS hx hb hown (sr_X3_129 C.2) dX3_readProofs_46 (hp_n (n := 48) rfl ?_)
            obtain ⟨rh24, qh24, hf⟩ := ms_bE hf
            refine d_pi (pc' := 51) Bh8 (hp_runV (As := [.ref (Γ.2.2.2.2.1 11)]) (rest := []) C Bh8 (n_X6_spells n Γ l αh3 Bh8.2.2.1 b23 (cw_k Bh8.2.2 kb23) 11 (by decide) rh24 qh24) lb_X6_spells lv_X6_spells lk_X3_71 (cw_k Bh8.2.2 kb23) rfl (by decide) rfl hl.1 rfl (Nat.le_of_ble_eq_true rfl) dX3_readProofs_48 ⟨Nat.le_refl _, Nat.le_refl _⟩) rfl (fun Hh24 Lh24 Bh24 => ?_)
            refine lv_if_ne (tgt := 59) hx hb dX3_readProofs_51 (by decide) (fun c25 => ?_) (fun c25 => hp_n (n := 54) rfl ?_)
            ·
              replace hf := ms_iF c25 hf
              exact J59 αh3 Hh24 Lh24 Bh24 v2_h3 kv2_h3 v3_h3 rh8 ls (lv_sub hl [1, 2, 3, 0] rfl) hf
            ·
              replace hf := ms_iT c25 hf
              refine lv_aload_n hx hb dX3_readProofs_54 rfl (lv_at hl 1 rfl) (hp_n (n := 55) rfl ?_)
              obtain ⟨rh26, αh26, qh26, hf⟩ := hq_cE hf
              refine d_ci (pc' := 58) Bh24 (hp_runV (As := []) (rest := []) C Bh24 (n_X3_stray n Γ l αh3 Bh24.2.2.1 a0 (cw_k Bh24.2.2 k0) (rh26, αh26) qh26) lb_X3_stray lv_X3_stray lk_X3_117 (cw_k Bh24.2.2 k0) rfl (by decide) rfl hl.1 rfl (Nat.le_of_ble_eq_true rfl) dX3_readProofs_55 ⟨Nat.le_refl _, Nat.le_refl _⟩) (by decide) rfl (fun Hh26 Lh26 Bh26 => ?_)
              obtain ⟨g27, hf⟩ := ms_zE hf
              cases hf
              exact q_zret C Bh26 hr hlk (nz_z g27) ⟨rfl, rfl, Bh26.2.2⟩ dX3_readProofs_58
  refine lv_istore_n (lv' := [(3, .int (0 : Int32)), (0, .ref a0), (1, .int a1), (2, .ref a2)]) hx hb dX3_readProofs_11 rfl hl (by decide) rfl (fun ls hl => hp_n (n := 12) rfl ?_)
  exact J12 n αh2 Hh2 Lh2 Bh2 a2 k2 (0 : Int32) ls (lv_sub hl [1, 3, 0] rfl) hf
def f_X5_countOf_J24 (n : Nat) (α : hp_T) (a0 : Nat) (rec4 : Int32 → Int32 → Int32 → Option Int32) (v1_h5 : Int32) (v2_h5 : Int32) (v3_h5 : Int32) : Option Int32 :=
  ms_l (v3_h5 + 1) fun x6 =>
  rec4 v1_h5 v2_h5 x6
def f_X5_countOf_L4 (n : Nat) (α : hp_T) (a0 : Nat) : Nat → Int32 → Int32 → Int32 → Option Int32
  | 0, _, _, _ => none
  | k4 + 1, v1_h1, v2_h1, v3_h1 =>
    ms_l (hp_I α 301 a0) fun x2 =>
    if x2 ≤ v3_h1 then
      some v2_h1
    else
      ms_b (f_X5_at n α a0 v3_h1) fun rh4 =>
      if rh4 = v1_h1 then
        ms_l (v2_h1 + 1) fun x8 =>
        f_X5_countOf_J24 n α a0 (f_X5_countOf_L4 n α a0 k4) v1_h1 x8 v3_h1
      else
        f_X5_countOf_J24 n α a0 (f_X5_countOf_L4 n α a0 k4) v1_h1 v2_h1 v3_h1
def f_X5_countOf (n : Nat) (α : hp_T) (a0 : Nat) (a1 : Int32) : Option Int32 :=
  f_X5_countOf_L4 n α a0 n a1 (0 : Int32) (0 : Int32)
set_option maxRecDepth 100000 in
set_option maxHeartbeats 4000000 in
theorem n_X5_countOf (n : Nat) (Γ : hp_G) (l : Launch) (α : hp_T) (g : GC α) (a0 : Nat) (k0 : hp_K α a0 = 6) (a1 : Int32) (res : Int32) (hf : f_X5_countOf n α a0 a1 = some res) : Met l yX5_countOf (hp_ws yX5_countOf cX5_countOf 4 (some .int)) (hp_rm 1 0 0) (hp_Pc Γ α [.ref a0, .int a1]) (hp_Qi Γ (fun r β => β = α ∧ r = res)) 0 0 (hp_A Γ) := by
  unfold f_X5_countOf at hf
  refine hp_start (by decide) ?_
  intro p e s m below meth c C hr hlk B0 hnm
  have C : hp_C Γ p m c cX5_countOf 4 s ([.ref a0, .int a1] : List Value).toArray RX5 := C
  have hx := C.1.1
  have hb := C.1.2.1
  have hown := C.1.2.2.2.1
  have hts := C.1.2.2.2.2
  have B : hp_B Γ (cw w_X5_countOf) s α α s.heap [] := ⟨B0.1, B0.2.1, cw_rf g⟩
  have hl := lv_entry ([.ref a0, .int a1]) (n := 4) (Nat.le_of_ble_eq_true rfl)
  show W p l e (hp_rm 1 0 0) s m ([.ref a0, .int a1] : List Value).toArray below meth c s.heap [] 0 0 (MQ below (hp_Qi Γ (fun r β => β = α ∧ r = res)) ([.ref a0, .int a1] : List Value).toArray s 0 0 (hp_A Γ)) (entryFrame m ([.ref a0, .int a1] : List Value).toArray 4)
  rw [lg_entry_eq]
  generalize (lg_sl ([.ref a0, .int a1]) ++ List.replicate (4 - (lg_sl ([.ref a0, .int a1])).length) Slot.unset).toArray = ls at hl ⊢
  have hl : lv_has ls 4 [(0, .ref a0), (1, .int a1)] := hl
  refine lv_iconst (v := 0) hx hb dX5_countOf_0 (by decide) (hp_n (n := 1) rfl ?_)
  refine lv_istore_n (lv' := [(2, .int (0 : Int32)), (0, .ref a0), (1, .int a1)]) hx hb dX5_countOf_1 rfl hl (by decide) rfl (fun ls hl => hp_n (n := 2) rfl ?_)
  refine lv_iconst (v := 0) hx hb dX5_countOf_2 (by decide) (hp_n (n := 3) rfl ?_)
  have J4 : ∀ (k4 : Nat) (Hh1 : Heap) (Lh1 : List Loc) (Bh1 : hp_B Γ (cw w_X5_countOf) s α α Hh1 Lh1) (v1_h1 : Int32) (v2_h1 : Int32) (v3_h1 : Int32) (ls : Array Slot) (hl : lv_has ls 4 [(0, .ref a0), (1, .int v1_h1), (2, .int v2_h1), (3, .int v3_h1)]) (hf : f_X5_countOf_L4 n α a0 k4 v1_h1 v2_h1 v3_h1 = some res), W p l e (hp_rm 1 0 0) s m ([.ref a0, .int a1] : List Value).toArray below meth c Hh1 Lh1 0 0 (MQ below (hp_Qi Γ (fun r β => β = α ∧ r = res)) ([.ref a0, .int a1] : List Value).toArray s 0 0 (hp_A Γ)) (F0 m 4 ls []) := by
    intro k4
    induction k4 with
    | zero => intro Hh1 Lh1 Bh1 v1_h1 v2_h1 v3_h1 ls hl hf; rw [f_X5_countOf_L4.eq_1] at hf; cases hf
    | succ k4 ih4 =>
      intro Hh1 Lh1 Bh1 v1_h1 v2_h1 v3_h1 ls hl hf
      rw [f_X5_countOf_L4.eq_2] at hf
      refine lv_iload_n hx hb dX5_countOf_4 rfl (lv_at hl 3 rfl) (hp_n (n := 5) rfl ?_)
      refine lv_aload_n hx hb dX5_countOf_5 rfl (lv_at hl 0 rfl) (hp_n (n := 6) rfl ?_)
      refine q_geti (κ := 6) (k := 1) (φ := 301) (pc' := 9) C Bh1 (cw_k Bh1.2.2 k0) fl_X5_15 rfl rfl rfl dX5_countOf_6 rfl (fun x2 ex2 => ?_)
      replace hf := ms_lE ex2 hf
      refine lv_icmp_ge (tgt := 30) hx hb dX5_countOf_9 (by decide) (fun c3 => ?_) (fun c3 => hp_n (n := 12) rfl ?_)
      ·
        replace hf := ms_iT c3 hf
        refine lv_iload_n hx hb dX5_countOf_30 rfl (lv_at hl 2 rfl) (hp_n (n := 31) rfl ?_)
        cases hf
        exact q_iret C Bh1 hr hlk ⟨rfl, rfl⟩ dX5_countOf_31
      ·
        replace hf := ms_iF c3 hf
        refine lv_aload_n hx hb dX5_countOf_12 rfl (lv_at hl 0 rfl) (hp_n (n := 13) rfl ?_)
        refine lv_iload_n hx hb dX5_countOf_13 rfl (lv_at hl 3 rfl) (hp_n (n := 14) rfl ?_)
        obtain ⟨rh4, qh4, hf⟩ := ms_bE hf
        refine d_pi (pc' := 17) Bh1 (hp_runV (As := [.int v3_h1]) (rest := []) C Bh1 (n_X5_at n Γ l α Bh1.2.2.1 a0 (cw_k Bh1.2.2 k0) v3_h1 rh4 qh4) lb_X5_at lv_X5_at lk_X5_19 (cw_k Bh1.2.2 k0) rfl (by decide) rfl hl.1 rfl (Nat.le_of_ble_eq_true rfl) dX5_countOf_14 ⟨Nat.le_refl _, Nat.le_refl _⟩) rfl (fun Hh4 Lh4 Bh4 => ?_)
        refine lv_iload_n hx hb dX5_countOf_17 rfl (lv_at hl 1 rfl) (hp_n (n := 18) rfl ?_)
        have J24 : ∀ (Hh5 : Heap) (Lh5 : List Loc) (Bh5 : hp_B Γ (cw w_X5_countOf) s α α Hh5 Lh5) (v1_h5 : Int32) (v2_h5 : Int32) (v3_h5 : Int32) (ls : Array Slot) (hl : lv_has ls 4 [(0, .ref a0), (1, .int v1_h5), (2, .int v2_h5), (3, .int v3_h5)]) (hf : f_X5_countOf_J24 n α a0 (f_X5_countOf_L4 n α a0 k4) v1_h5 v2_h5 v3_h5 = some res), W p l e (hp_rm 1 0 0) s m ([.ref a0, .int a1] : List Value).toArray below meth c Hh5 Lh5 0 0 (MQ below (hp_Qi Γ (fun r β => β = α ∧ r = res)) ([.ref a0, .int a1] : List Value).toArray s 0 0 (hp_A Γ)) (F0 m 24 ls []) := by
          intro Hh5 Lh5 Bh5 v1_h5 v2_h5 v3_h5 ls hl hf
          unfold f_X5_countOf_J24 at hf
          obtain ⟨x6, ex6⟩ : ∃ y : Int32, y = v3_h5 + 1 := ⟨_, rfl⟩
          replace hf := ms_lE ex6 hf
          refine lv_iinc (v := x6) (lv' := [(3, .int x6), (0, .ref a0), (1, .int v1_h5), (2, .int v2_h5)]) hx hb dX5_countOf_24 hl (k := 3) rfl (by rw [ex6]; rfl) (by decide) rfl (fun ls hl => hp_n (n := 27) rfl ?_)
          refine lv_goto (tgt := 4) hx hb dX5_countOf_27 (by decide) ?_
          exact ih4 Hh5 Lh5 Bh5 v1_h5 v2_h5 x6 ls (lv_sub hl [1, 2, 3, 0] rfl) hf
        refine lv_icmp_ne (tgt := 24) hx hb dX5_countOf_18 (by decide) (fun c7 => ?_) (fun c7 => hp_n (n := 21) rfl ?_)
        ·
          replace hf := ms_iF c7 hf
          exact J24 Hh4 Lh4 Bh4 v1_h1 v2_h1 v3_h1 ls (lv_sub hl [0, 1, 2, 3] rfl) hf
        ·
          replace hf := ms_iT c7 hf
          obtain ⟨x8, ex8⟩ : ∃ y : Int32, y = v2_h1 + 1 := ⟨_, rfl⟩
          replace hf := ms_lE ex8 hf
          refine lv_iinc (v := x8) (lv' := [(2, .int x8), (0, .ref a0), (1, .int v1_h1), (3, .int v3_h1)]) hx hb dX5_countOf_21 hl (k := 2) rfl (by rw [ex8]; rfl) (by decide) rfl (fun ls hl => hp_n (n := 24) rfl ?_)
          exact J24 Hh4 Lh4 Bh4 v1_h1 x8 v3_h1 ls (lv_sub hl [1, 2, 0, 3] rfl) hf
  refine lv_istore_n (lv' := [(3, .int (0 : Int32)), (2, .int (0 : Int32)), (0, .ref a0), (1, .int a1)]) hx hb dX5_countOf_3 rfl hl (by decide) rfl (fun ls hl => hp_n (n := 4) rfl ?_)
  exact J4 n s.heap [] B a1 (0 : Int32) (0 : Int32) ls (lv_sub hl [2, 3, 1, 0] rfl) hf
def f_X11_hear_J12 (n : Nat) (a0 : Nat) (αh1 : hp_T) : Option (Int32 × hp_T) :=
  hq_c (f_X11_refuse n αh1 a0 (1 : Int32)) fun rh2 αh2 =>
  some (rh2, αh2)
def f_X11_hear (n : Nat) (α : hp_T) (a0 : Nat) (a1 : Int32) : Option (Int32 × hp_T) :=
  if a1 < 0 then
    f_X11_hear_J12 n a0 α
  else
    ms_l (hp_I α 605 a0) fun x4 =>
    if a1 ≤ x4 then
      ms_l (hp_R α 616 a0) fun b6 =>
      ms_l (hp_R α 604 a0) fun b7 =>
      ms_b (f_X3_begin n α b6 b7 a1) fun αh8 =>
      ms_l (hp_R αh8 616 a0) fun b9 =>
      ms_l (hp_R αh8 601 a0) fun b10 =>
      ms_l (hp_I αh8 550 b10) fun x11 =>
      ms_l (hp_R αh8 609 a0) fun b12 =>
      hq_c (f_X3_readProofs n αh8 b9 x11 b12) fun rh13 αh13 =>
      ms_l (hp_sI αh13 605 a0 (0 : Int32)) fun αh14 =>
      if rh13 = 0 then
        hq_c (f_X11_refuse n αh14 a0 (9 : Int32)) fun rh23 αh23 =>
        some (rh23, αh23)
      else
        ms_l (hp_R αh14 608 a0) fun b16 =>
        ms_l (hp_R αh14 609 a0) fun b17 =>
        ms_l (hp_sR αh14 608 a0 b17) fun αh18 =>
        ms_l (hp_sR αh18 609 a0 b16) fun αh19 =>
        ms_l (hp_R αh19 608 a0) fun b20 =>
        ms_b (f_X5_countOf n αh19 b20 (0 : Int32)) fun rh21 =>
        hq_c (f_X11_answer n αh19 a0 rh21) fun rh22 αh22 =>
        some (rh22, αh22)
    else
      f_X11_hear_J12 n a0 α
set_option maxRecDepth 100000 in
set_option maxHeartbeats 4000000 in
theorem n_X11_hear (n : Nat) (Γ : hp_G) (l : Launch) (α : hp_T) (g : GC α) (a0 : Nat) (k0 : hp_K α a0 = 12) (a1 : Int32) (res : (Int32 × hp_T)) (hf : f_X11_hear n α a0 a1 = some res) : Met l yX11_hear (hp_ws yX11_hear cX11_hear 4 (some .int)) (hp_rm 9 0 0) (hp_Pc Γ α [.ref a0, .int a1]) (hp_Qi Γ (fun r β => r = res.1 ∧ β = res.2 ∧ cw w_X11_hear α β)) 0 0 (hp_A Γ) := by
  unfold f_X11_hear at hf
  refine hp_start (by decide) ?_
  intro p e s m below meth c C hr hlk B0 hnm
  have C : hp_C Γ p m c cX11_hear 4 s ([.ref a0, .int a1] : List Value).toArray RX11 := C
  have hx := C.1.1
  have hb := C.1.2.1
  have hown := C.1.2.2.2.1
  have hts := C.1.2.2.2.2
  have B : hp_B Γ (cw w_X11_hear) s α α s.heap [] := ⟨B0.1, B0.2.1, cw_rf g⟩
  have hl := lv_entry ([.ref a0, .int a1]) (n := 4) (Nat.le_of_ble_eq_true rfl)
  show W p l e (hp_rm 9 0 0) s m ([.ref a0, .int a1] : List Value).toArray below meth c s.heap [] 0 0 (MQ below (hp_Qi Γ (fun r β => r = res.1 ∧ β = res.2 ∧ cw w_X11_hear α β)) ([.ref a0, .int a1] : List Value).toArray s 0 0 (hp_A Γ)) (entryFrame m ([.ref a0, .int a1] : List Value).toArray 4)
  rw [lg_entry_eq]
  generalize (lg_sl ([.ref a0, .int a1]) ++ List.replicate (4 - (lg_sl ([.ref a0, .int a1])).length) Slot.unset).toArray = ls at hl ⊢
  have hl : lv_has ls 4 [(0, .ref a0), (1, .int a1)] := hl
  refine lv_iload_n hx hb dX11_hear_0 rfl (lv_at hl 1 rfl) (hp_n (n := 1) rfl ?_)
  have J12 : ∀ (αh1 : hp_T) (Hh1 : Heap) (Lh1 : List Loc) (Bh1 : hp_B Γ (cw w_X11_hear) s α αh1 Hh1 Lh1) (ls : Array Slot) (hl : lv_has ls 4 [(0, .ref a0)]) (hf : f_X11_hear_J12 n a0 αh1 = some res), W p l e (hp_rm 9 0 0) s m ([.ref a0, .int a1] : List Value).toArray below meth c Hh1 Lh1 0 0 (MQ below (hp_Qi Γ (fun r β => r = res.1 ∧ β = res.2 ∧ cw w_X11_hear α β)) ([.ref a0, .int a1] : List Value).toArray s 0 0 (hp_A Γ)) (F0 m 12 ls []) := by
    intro αh1 Hh1 Lh1 Bh1 ls hl hf
    unfold f_X11_hear_J12 at hf
    refine lv_aload_n hx hb dX11_hear_12 rfl (lv_at hl 0 rfl) (hp_n (n := 13) rfl ?_)
    refine lv_iconst (v := 1) hx hb dX11_hear_13 (by decide) (hp_n (n := 14) rfl ?_)
    obtain ⟨rh2, αh2, qh2, hf⟩ := hq_cE hf
    refine d_ci (pc' := 17) Bh1 (hp_runV (As := [.int (1 : Int32)]) (rest := []) C Bh1 (n_X11_refuse n Γ l αh1 Bh1.2.2.1 a0 (cw_k Bh1.2.2 k0) (1 : Int32) (rh2, αh2) qh2) lb_X11_refuse lv_X11_refuse lk_X11_98 (cw_k Bh1.2.2 k0) rfl (by decide) rfl hl.1 rfl (Nat.le_of_ble_eq_true rfl) dX11_hear_14 ⟨Nat.le_refl _, Nat.le_refl _⟩) (by decide) rfl (fun Hh2 Lh2 Bh2 => ?_)
    cases hf
    exact q_iret C Bh2 hr hlk ⟨rfl, rfl, Bh2.2.2⟩ dX11_hear_17
  refine lv_if_lt (tgt := 12) hx hb dX11_hear_1 (by decide) (fun c3 => ?_) (fun c3 => hp_n (n := 4) rfl ?_)
  ·
    replace hf := ms_iT c3 hf
    exact J12 α s.heap [] B ls (lv_sub hl [0] rfl) hf
  ·
    replace hf := ms_iF c3 hf
    refine lv_iload_n hx hb dX11_hear_4 rfl (lv_at hl 1 rfl) (hp_n (n := 5) rfl ?_)
    refine lv_aload_n hx hb dX11_hear_5 rfl (lv_at hl 0 rfl) (hp_n (n := 6) rfl ?_)
    refine q_geti (κ := 12) (k := 5) (φ := 605) (pc' := 9) C B (cw_k B.2.2 k0) fl_X11_34 rfl rfl rfl dX11_hear_6 rfl (fun x4 ex4 => ?_)
    replace hf := ms_lE ex4 hf
    refine lv_icmp_le (tgt := 18) hx hb dX11_hear_9 (by decide) (fun c5 => ?_) (fun c5 => hp_n (n := 12) rfl ?_)
    ·
      replace hf := ms_iT c5 hf
      refine lv_aload_n hx hb dX11_hear_18 rfl (lv_at hl 0 rfl) (hp_n (n := 19) rfl ?_)
      refine q_getr (κ := 12) (k := 16) (φ := 616) (pc' := 22) C B (cw_k B.2.2 k0) fl_X11_82 rfl rfl rfl (cw_r B.2.2 k0 rfl rfl (by decide) (by decide)) dX11_hear_19 rfl (fun b6 eb6 kb6 => ?_)
      replace hf := ms_lE eb6 hf
      refine lv_aload_n hx hb dX11_hear_22 rfl (lv_at hl 0 rfl) (hp_n (n := 23) rfl ?_)
      refine q_getr (κ := 12) (k := 4) (φ := 604) (pc' := 26) C B (cw_k B.2.2 k0) fl_X11_30 rfl rfl rfl (cw_r B.2.2 k0 rfl rfl (by decide) (by decide)) dX11_hear_23 rfl (fun b7 eb7 kb7 => ?_)
      replace hf := ms_lE eb7 hf
      refine lv_iload_n hx hb dX11_hear_26 rfl (lv_at hl 1 rfl) (hp_n (n := 27) rfl ?_)
      obtain ⟨αh8, qh8, hf⟩ := ms_bE hf
      refine d_cv (pc' := 30) B (hp_runV (As := [.ref b7, .int a1]) (rest := []) C B (n_X3_begin n Γ l α B.2.2.1 b6 (cw_k B.2.2 kb6) b7 (cw_k B.2.2 kb7) a1 αh8 qh8) lb_X3_begin lv_X3_begin lk_X11_118 (cw_k B.2.2 kb6) rfl (by decide) rfl hl.1 rfl (Nat.le_of_ble_eq_true rfl) dX11_hear_27 ⟨Nat.le_refl _, Nat.le_refl _⟩) (by decide) rfl (fun Hh8 Lh8 Bh8 => ?_)
      refine lv_aload_n hx hb dX11_hear_30 rfl (lv_at hl 0 rfl) (hp_n (n := 31) rfl ?_)
      refine q_getr (κ := 12) (k := 16) (φ := 616) (pc' := 34) C Bh8 (cw_k Bh8.2.2 k0) fl_X11_82 rfl rfl rfl (cw_r Bh8.2.2 k0 rfl rfl (by decide) (by decide)) dX11_hear_31 rfl (fun b9 eb9 kb9 => ?_)
      replace hf := ms_lE eb9 hf
      refine lv_aload_n hx hb dX11_hear_34 rfl (lv_at hl 0 rfl) (hp_n (n := 35) rfl ?_)
      refine q_getr (κ := 12) (k := 1) (φ := 601) (pc' := 38) C Bh8 (cw_k Bh8.2.2 k0) fl_X11_16 rfl rfl rfl (cw_r Bh8.2.2 k0 rfl rfl (by decide) (by decide)) dX11_hear_35 rfl (fun b10 eb10 kb10 => ?_)
      replace hf := ms_lE eb10 hf
      refine q_geti (κ := 11) (k := 0) (φ := 550) (pc' := 41) C Bh8 (cw_k Bh8.2.2 kb10) fl_X11_122 rfl rfl rfl dX11_hear_38 rfl (fun x11 ex11 => ?_)
      replace hf := ms_lE ex11 hf
      refine lv_aload_n hx hb dX11_hear_41 rfl (lv_at hl 0 rfl) (hp_n (n := 42) rfl ?_)
      refine q_getr (κ := 12) (k := 9) (φ := 609) (pc' := 45) C Bh8 (cw_k Bh8.2.2 k0) fl_X11_50 rfl rfl rfl (cw_r Bh8.2.2 k0 rfl rfl (by decide) (by decide)) dX11_hear_42 rfl (fun b12 eb12 kb12 => ?_)
      replace hf := ms_lE eb12 hf
      obtain ⟨rh13, αh13, qh13, hf⟩ := hq_cE hf
      refine d_ci (pc' := 48) Bh8 (hp_runV (As := [.int x11, .ref b12]) (rest := []) C Bh8 (n_X3_readProofs n Γ l αh8 Bh8.2.2.1 b9 (cw_k Bh8.2.2 kb9) x11 b12 (cw_k Bh8.2.2 kb12) (rh13, αh13) qh13) lb_X3_readProofs lv_X3_readProofs lk_X11_125 (cw_k Bh8.2.2 kb9) rfl (by decide) rfl hl.1 rfl (Nat.le_of_ble_eq_true rfl) dX11_hear_45 ⟨Nat.le_refl _, Nat.le_refl _⟩) (by decide) rfl (fun Hh13 Lh13 Bh13 => ?_)
      refine lv_istore_n (lv' := [(2, .int rh13), (0, .ref a0), (1, .int a1)]) hx hb dX11_hear_48 rfl hl (by decide) rfl (fun ls hl => hp_n (n := 49) rfl ?_)
      refine lv_aload_n hx hb dX11_hear_49 rfl (lv_at hl 1 rfl) (hp_n (n := 50) rfl ?_)
      refine lv_iconst (v := 0) hx hb dX11_hear_50 (by decide) (hp_n (n := 51) rfl ?_)
      refine q_puti (κ := 12) (k := 5) (φ := 605) (pc' := 54) C Bh13 (cw_k Bh13.2.2 k0) fl_X11_34 rfl rfl rfl rfl rfl rfl (cw_sI Bh13.2.2 (by decide) (fun h => absurd h (by decide))) dX11_hear_51 rfl (fun αh14 Hh14 Lh14 eh14 Bh14 => ?_)
      replace hf := ms_lE eh14 hf
      refine lv_iload_n hx hb dX11_hear_54 rfl (lv_at hl 0 rfl) (hp_n (n := 55) rfl ?_)
      refine lv_if_ne (tgt := 65) hx hb dX11_hear_55 (by decide) (fun c15 => ?_) (fun c15 => hp_n (n := 58) rfl ?_)
      ·
        replace hf := ms_iF c15 hf
        refine lv_aload_n hx hb dX11_hear_65 rfl (lv_at hl 1 rfl) (hp_n (n := 66) rfl ?_)
        refine q_getr (κ := 12) (k := 8) (φ := 608) (pc' := 69) C Bh14 (cw_k Bh14.2.2 k0) fl_X11_47 rfl rfl rfl (cw_r Bh14.2.2 k0 rfl rfl (by decide) (by decide)) dX11_hear_66 rfl (fun b16 eb16 kb16 => ?_)
        replace hf := ms_lE eb16 hf
        refine lv_astore_n (lv' := [(3, .ref b16), (2, .int rh13), (0, .ref a0), (1, .int a1)]) hx hb dX11_hear_69 rfl hl (by decide) rfl (fun ls hl => hp_n (n := 70) rfl ?_)
        refine lv_aload_n hx hb dX11_hear_70 rfl (lv_at hl 2 rfl) (hp_n (n := 71) rfl ?_)
        refine lv_aload_n hx hb dX11_hear_71 rfl (lv_at hl 2 rfl) (hp_n (n := 72) rfl ?_)
        refine q_getr (κ := 12) (k := 9) (φ := 609) (pc' := 75) C Bh14 (cw_k Bh14.2.2 k0) fl_X11_50 rfl rfl rfl (cw_r Bh14.2.2 k0 rfl rfl (by decide) (by decide)) dX11_hear_72 rfl (fun b17 eb17 kb17 => ?_)
        replace hf := ms_lE eb17 hf
        refine q_putr (κ := 12) (k := 8) (φ := 608) (pc' := 78) C Bh14 (cw_k Bh14.2.2 k0) fl_X11_47 rfl rfl rfl rfl rfl rfl (cw_sR Bh14.2.2 (by decide) (Or.inl kb17)) dX11_hear_75 rfl (fun αh18 Hh18 Lh18 eh18 Bh18 => ?_)
        replace hf := ms_lE eh18 hf
        refine lv_aload_n hx hb dX11_hear_78 rfl (lv_at hl 2 rfl) (hp_n (n := 79) rfl ?_)
        refine lv_aload_n hx hb dX11_hear_79 rfl (lv_at hl 0 rfl) (hp_n (n := 80) rfl ?_)
        refine q_putr (κ := 12) (k := 9) (φ := 609) (pc' := 83) C Bh18 (cw_k Bh18.2.2 k0) fl_X11_50 rfl rfl rfl rfl rfl rfl (cw_sR Bh18.2.2 (by decide) (Or.inl kb16)) dX11_hear_80 rfl (fun αh19 Hh19 Lh19 eh19 Bh19 => ?_)
        replace hf := ms_lE eh19 hf
        refine lv_aload_n hx hb dX11_hear_83 rfl (lv_at hl 2 rfl) (hp_n (n := 84) rfl ?_)
        refine lv_aload_n hx hb dX11_hear_84 rfl (lv_at hl 2 rfl) (hp_n (n := 85) rfl ?_)
        refine q_getr (κ := 12) (k := 8) (φ := 608) (pc' := 88) C Bh19 (cw_k Bh19.2.2 k0) fl_X11_47 rfl rfl rfl (cw_r Bh19.2.2 k0 rfl rfl (by decide) (by decide)) dX11_hear_85 rfl (fun b20 eb20 kb20 => ?_)
        replace hf := ms_lE eb20 hf
        refine lv_iconst (v := 0) hx hb dX11_hear_88 (by decide) (hp_n (n := 89) rfl ?_)
        obtain ⟨rh21, qh21, hf⟩ := ms_bE hf
        refine d_pi (pc' := 92) Bh19 (hp_runV (As := [.int (0 : Int32)]) (rest := [.ref a0]) C Bh19 (n_X5_countOf n Γ l αh19 Bh19.2.2.1 b20 (cw_k Bh19.2.2 kb20) (0 : Int32) rh21 qh21) lb_X5_countOf lv_X5_countOf lk_X11_129 (cw_k Bh19.2.2 kb20) rfl (by decide) rfl hl.1 rfl (Nat.le_of_ble_eq_true rfl) dX11_hear_89 ⟨Nat.le_refl _, Nat.le_refl _⟩) rfl (fun Hh21 Lh21 Bh21 => ?_)
        obtain ⟨rh22, αh22, qh22, hf⟩ := hq_cE hf
        refine d_ci (pc' := 95) Bh21 (hp_runV (As := [.int rh21]) (rest := []) C Bh21 (n_X11_answer n Γ l αh19 Bh21.2.2.1 a0 (cw_k Bh21.2.2 k0) rh21 (rh22, αh22) qh22) lb_X11_answer lv_X11_answer lk_X11_115 (cw_k Bh21.2.2 k0) rfl (by decide) rfl hl.1 rfl (Nat.le_of_ble_eq_true rfl) dX11_hear_92 ⟨Nat.le_refl _, Nat.le_refl _⟩) (by decide) rfl (fun Hh22 Lh22 Bh22 => ?_)
        cases hf
        exact q_iret C Bh22 hr hlk ⟨rfl, rfl, Bh22.2.2⟩ dX11_hear_95
      ·
        replace hf := ms_iT c15 hf
        refine lv_aload_n hx hb dX11_hear_58 rfl (lv_at hl 1 rfl) (hp_n (n := 59) rfl ?_)
        refine lv_bipush (v := 9) hx hb dX11_hear_59 (by decide) (hp_n (n := 61) rfl ?_)
        obtain ⟨rh23, αh23, qh23, hf⟩ := hq_cE hf
        refine d_ci (pc' := 64) Bh14 (hp_runV (As := [.int (9 : Int32)]) (rest := []) C Bh14 (n_X11_refuse n Γ l αh14 Bh14.2.2.1 a0 (cw_k Bh14.2.2 k0) (9 : Int32) (rh23, αh23) qh23) lb_X11_refuse lv_X11_refuse lk_X11_98 (cw_k Bh14.2.2 k0) rfl (by decide) rfl hl.1 rfl (Nat.le_of_ble_eq_true rfl) dX11_hear_61 ⟨Nat.le_refl _, Nat.le_refl _⟩) (by decide) rfl (fun Hh23 Lh23 Bh23 => ?_)
        cases hf
        exact q_iret C Bh23 hr hlk ⟨rfl, rfl, Bh23.2.2⟩ dX11_hear_64
    ·
      replace hf := ms_iF c5 hf
      exact J12 α s.heap [] B ls (lv_sub hl [0] rfl) hf
def f_X11_isMark (n : Nat) (α : hp_T) (a0 : Nat) (a1 : Int32) : Option Int32 :=
  if a1 < 0 then
    some (0 : Int32)
  else
    ms_l (hp_R α 601 a0) fun b2 =>
    ms_l (hp_I α 550 b2) fun x3 =>
    if x3 ≤ a1 then
      some (0 : Int32)
    else
      some (1 : Int32)
set_option maxRecDepth 100000 in
set_option maxHeartbeats 4000000 in
theorem n_X11_isMark (n : Nat) (Γ : hp_G) (l : Launch) (α : hp_T) (g : GC α) (a0 : Nat) (k0 : hp_K α a0 = 12) (a1 : Int32) (res : Int32) (hf : f_X11_isMark n α a0 a1 = some res) : Met l yX11_isMark (hp_ws yX11_isMark cX11_isMark 2 (some .boolean)) (hp_rm 0 0 0) (hp_Pc Γ α [.ref a0, .int a1]) (hp_Qi Γ (fun r β => β = α ∧ r = res)) 0 0 (hp_A Γ) := by
  unfold f_X11_isMark at hf
  refine hp_start (by decide) ?_
  intro p e s m below meth c C hr hlk B0 hnm
  have C : hp_C Γ p m c cX11_isMark 2 s ([.ref a0, .int a1] : List Value).toArray RX11 := C
  have hx := C.1.1
  have hb := C.1.2.1
  have hown := C.1.2.2.2.1
  have hts := C.1.2.2.2.2
  have B : hp_B Γ (cw w_X11_isMark) s α α s.heap [] := ⟨B0.1, B0.2.1, cw_rf g⟩
  have hl := lv_entry ([.ref a0, .int a1]) (n := 2) (Nat.le_of_ble_eq_true rfl)
  show W p l e (hp_rm 0 0 0) s m ([.ref a0, .int a1] : List Value).toArray below meth c s.heap [] 0 0 (MQ below (hp_Qi Γ (fun r β => β = α ∧ r = res)) ([.ref a0, .int a1] : List Value).toArray s 0 0 (hp_A Γ)) (entryFrame m ([.ref a0, .int a1] : List Value).toArray 2)
  rw [lg_entry_eq]
  generalize (lg_sl ([.ref a0, .int a1]) ++ List.replicate (2 - (lg_sl ([.ref a0, .int a1])).length) Slot.unset).toArray = ls at hl ⊢
  have hl : lv_has ls 2 [(0, .ref a0), (1, .int a1)] := hl
  refine lv_iload_n hx hb dX11_isMark_0 rfl (lv_at hl 1 rfl) (hp_n (n := 1) rfl ?_)
  refine lv_if_lt (tgt := 19) hx hb dX11_isMark_1 (by decide) (fun c1 => ?_) (fun c1 => hp_n (n := 4) rfl ?_)
  ·
    replace hf := ms_iT c1 hf
    refine lv_iconst (v := 0) hx hb dX11_isMark_19 (by decide) (hp_n (n := 20) rfl ?_)
    cases hf
    exact q_zret C B hr hlk (by decide) ⟨rfl, rfl⟩ dX11_isMark_20
  ·
    replace hf := ms_iF c1 hf
    refine lv_iload_n hx hb dX11_isMark_4 rfl (lv_at hl 1 rfl) (hp_n (n := 5) rfl ?_)
    refine lv_aload_n hx hb dX11_isMark_5 rfl (lv_at hl 0 rfl) (hp_n (n := 6) rfl ?_)
    refine q_getr (κ := 12) (k := 1) (φ := 601) (pc' := 9) C B (cw_k B.2.2 k0) fl_X11_16 rfl rfl rfl (cw_r B.2.2 k0 rfl rfl (by decide) (by decide)) dX11_isMark_6 rfl (fun b2 eb2 kb2 => ?_)
    replace hf := ms_lE eb2 hf
    refine q_geti (κ := 11) (k := 0) (φ := 550) (pc' := 12) C B (cw_k B.2.2 kb2) fl_X11_122 rfl rfl rfl dX11_isMark_9 rfl (fun x3 ex3 => ?_)
    replace hf := ms_lE ex3 hf
    refine lv_icmp_ge (tgt := 19) hx hb dX11_isMark_12 (by decide) (fun c4 => ?_) (fun c4 => hp_n (n := 15) rfl ?_)
    ·
      replace hf := ms_iT c4 hf
      refine lv_iconst (v := 0) hx hb dX11_isMark_19 (by decide) (hp_n (n := 20) rfl ?_)
      cases hf
      exact q_zret C B hr hlk (by decide) ⟨rfl, rfl⟩ dX11_isMark_20
    ·
      replace hf := ms_iF c4 hf
      refine lv_iconst (v := 1) hx hb dX11_isMark_15 (by decide) (hp_n (n := 16) rfl ?_)
      refine lv_goto (tgt := 20) hx hb dX11_isMark_16 (by decide) ?_
      cases hf
      exact q_zret C B hr hlk (by decide) ⟨rfl, rfl⟩ dX11_isMark_20
def f_X11_wrongGrowth (n : Nat) (α : hp_T) (o0 : Option Nat) (a1 : Int32) (a2 : Int32) : Option Int32 :=
  hq_m o0 (
    if a1 < 0 then
      some (1 : Int32)
    else
      if a1 ≤ a2 then
        some (2 : Int32)
      else
        some (1 : Int32)) fun a0 =>
  if a1 < 0 then
    some (1 : Int32)
  else
    if a1 ≤ a2 then
      ms_l (hp_I α 152 a0) fun x5 =>
      if a2 ≤ x5 then
        some (0 : Int32)
      else
        some (5 : Int32)
    else
      some (1 : Int32)
set_option maxRecDepth 100000 in
set_option maxHeartbeats 4000000 in
theorem n_X11_wrongGrowth (n : Nat) (Γ : hp_G) (l : Launch) (α : hp_T) (g : GC α) (o0 : Option Nat) (k0 : ∀ b, o0 = some b → hp_K α b = 3) (a1 : Int32) (a2 : Int32) (res : Int32) (hf : f_X11_wrongGrowth n α o0 a1 a2 = some res) : Met l yX11_wrongGrowth (hp_ws yX11_wrongGrowth cX11_wrongGrowth 3 (some .int)) (hp_rm 0 0 0) (hp_Pc Γ α [va_rf o0, .int a1, .int a2]) (hp_Qi Γ (fun r β => β = α ∧ r = res)) 0 0 (hp_A Γ) := by
  unfold f_X11_wrongGrowth at hf
  refine hp_start (by decide) ?_
  intro p e s m below meth c C hr hlk B0 hnm
  have C : hp_C Γ p m c cX11_wrongGrowth 3 s ([va_rf o0, .int a1, .int a2] : List Value).toArray RX11 := C
  have hx := C.1.1
  have hb := C.1.2.1
  have hown := C.1.2.2.2.1
  have hts := C.1.2.2.2.2
  have B : hp_B Γ (cw w_X11_wrongGrowth) s α α s.heap [] := ⟨B0.1, B0.2.1, cw_rf g⟩
  rcases o0 with _ | a0
  ·
    replace hf := hq_N hf
    have hl := lv_entry ([.null, .int a1, .int a2]) (n := 3) (Nat.le_of_ble_eq_true rfl)
    show W p l e (hp_rm 0 0 0) s m ([.null, .int a1, .int a2] : List Value).toArray below meth c s.heap [] 0 0 (MQ below (hp_Qi Γ (fun r β => β = α ∧ r = res)) ([.null, .int a1, .int a2] : List Value).toArray s 0 0 (hp_A Γ)) (entryFrame m ([.null, .int a1, .int a2] : List Value).toArray 3)
    rw [lg_entry_eq]
    generalize (lg_sl ([.null, .int a1, .int a2]) ++ List.replicate (3 - (lg_sl ([.null, .int a1, .int a2])).length) Slot.unset).toArray = ls at hl ⊢
    have hl : lv_has ls 3 [(0, .null), (1, .int a1), (2, .int a2)] := hl
    refine lv_iload_n hx hb dX11_wrongGrowth_0 rfl (lv_at hl 1 rfl) (hp_n (n := 1) rfl ?_)
    refine lv_if_lt (tgt := 9) hx hb dX11_wrongGrowth_1 (by decide) (fun c1 => ?_) (fun c1 => hp_n (n := 4) rfl ?_)
    ·
      replace hf := ms_iT c1 hf
      refine lv_iconst (v := 1) hx hb dX11_wrongGrowth_9 (by decide) (hp_n (n := 10) rfl ?_)
      cases hf
      exact q_iret C B hr hlk ⟨rfl, rfl⟩ dX11_wrongGrowth_10
    ·
      replace hf := ms_iF c1 hf
      refine lv_iload_n hx hb dX11_wrongGrowth_4 rfl (lv_at hl 1 rfl) (hp_n (n := 5) rfl ?_)
      refine lv_iload_n hx hb dX11_wrongGrowth_5 rfl (lv_at hl 2 rfl) (hp_n (n := 6) rfl ?_)
      refine lv_icmp_le (tgt := 11) hx hb dX11_wrongGrowth_6 (by decide) (fun c2 => ?_) (fun c2 => hp_n (n := 9) rfl ?_)
      ·
        replace hf := ms_iT c2 hf
        refine lv_aload_nN hx hb dX11_wrongGrowth_11 rfl (lv_at hl 0 rfl) (hp_n (n := 12) rfl ?_)
        refine lv_ifnonnullN hx hb dX11_wrongGrowth_12 (hp_n (n := 15) rfl ?_)
        refine lv_iconst (v := 2) hx hb dX11_wrongGrowth_15 (by decide) (hp_n (n := 16) rfl ?_)
        cases hf
        exact q_iret C B hr hlk ⟨rfl, rfl⟩ dX11_wrongGrowth_16
      ·
        replace hf := ms_iF c2 hf
        refine lv_iconst (v := 1) hx hb dX11_wrongGrowth_9 (by decide) (hp_n (n := 10) rfl ?_)
        cases hf
        exact q_iret C B hr hlk ⟨rfl, rfl⟩ dX11_wrongGrowth_10
  ·
    replace hf := hq_S hf
    have ka0 := k0 a0 rfl
    have hl := lv_entry ([.ref a0, .int a1, .int a2]) (n := 3) (Nat.le_of_ble_eq_true rfl)
    show W p l e (hp_rm 0 0 0) s m ([.ref a0, .int a1, .int a2] : List Value).toArray below meth c s.heap [] 0 0 (MQ below (hp_Qi Γ (fun r β => β = α ∧ r = res)) ([.ref a0, .int a1, .int a2] : List Value).toArray s 0 0 (hp_A Γ)) (entryFrame m ([.ref a0, .int a1, .int a2] : List Value).toArray 3)
    rw [lg_entry_eq]
    generalize (lg_sl ([.ref a0, .int a1, .int a2]) ++ List.replicate (3 - (lg_sl ([.ref a0, .int a1, .int a2])).length) Slot.unset).toArray = ls at hl ⊢
    have hl : lv_has ls 3 [(0, .ref a0), (1, .int a1), (2, .int a2)] := hl
    refine lv_iload_n hx hb dX11_wrongGrowth_0 rfl (lv_at hl 1 rfl) (hp_n (n := 1) rfl ?_)
    refine lv_if_lt (tgt := 9) hx hb dX11_wrongGrowth_1 (by decide) (fun c3 => ?_) (fun c3 => hp_n (n := 4) rfl ?_)
    ·
      replace hf := ms_iT c3 hf
      refine lv_iconst (v := 1) hx hb dX11_wrongGrowth_9 (by decide) (hp_n (n := 10) rfl ?_)
      cases hf
      exact q_iret C B hr hlk ⟨rfl, rfl⟩ dX11_wrongGrowth_10
    ·
      replace hf := ms_iF c3 hf
      refine lv_iload_n hx hb dX11_wrongGrowth_4 rfl (lv_at hl 1 rfl) (hp_n (n := 5) rfl ?_)
      refine lv_iload_n hx hb dX11_wrongGrowth_5 rfl (lv_at hl 2 rfl) (hp_n (n := 6) rfl ?_)
      refine lv_icmp_le (tgt := 11) hx hb dX11_wrongGrowth_6 (by decide) (fun c4 => ?_) (fun c4 => hp_n (n := 9) rfl ?_)
      ·
        replace hf := ms_iT c4 hf
        refine lv_aload_n hx hb dX11_wrongGrowth_11 rfl (lv_at hl 0 rfl) (hp_n (n := 12) rfl ?_)
        refine lv_ifnonnull (tgt := 17) hx hb dX11_wrongGrowth_12 (by decide) ?_
        refine lv_iload_n hx hb dX11_wrongGrowth_17 rfl (lv_at hl 2 rfl) (hp_n (n := 18) rfl ?_)
        refine lv_aload_n hx hb dX11_wrongGrowth_18 rfl (lv_at hl 0 rfl) (hp_n (n := 19) rfl ?_)
        refine q_geti (κ := 3) (k := 2) (φ := 152) (pc' := 22) C B (cw_k B.2.2 ka0) fl_X11_167 rfl rfl rfl dX11_wrongGrowth_19 rfl (fun x5 ex5 => ?_)
        replace hf := ms_lE ex5 hf
        refine lv_icmp_le (tgt := 29) hx hb dX11_wrongGrowth_22 (by decide) (fun c6 => ?_) (fun c6 => hp_n (n := 25) rfl ?_)
        ·
          replace hf := ms_iT c6 hf
          refine lv_iconst (v := 0) hx hb dX11_wrongGrowth_29 (by decide) (hp_n (n := 30) rfl ?_)
          cases hf
          exact q_iret C B hr hlk ⟨rfl, rfl⟩ dX11_wrongGrowth_30
        ·
          replace hf := ms_iF c6 hf
          refine lv_iconst (v := 5) hx hb dX11_wrongGrowth_25 (by decide) (hp_n (n := 26) rfl ?_)
          refine lv_goto (tgt := 30) hx hb dX11_wrongGrowth_26 (by decide) ?_
          cases hf
          exact q_iret C B hr hlk ⟨rfl, rfl⟩ dX11_wrongGrowth_30
      ·
        replace hf := ms_iF c4 hf
        refine lv_iconst (v := 1) hx hb dX11_wrongGrowth_9 (by decide) (hp_n (n := 10) rfl ?_)
        cases hf
        exact q_iret C B hr hlk ⟨rfl, rfl⟩ dX11_wrongGrowth_10
def f_X11_wrongInclusions_J29 (n : Nat) (α : hp_T) : Option Int32 :=
  some (5 : Int32)
def f_X11_wrongInclusion (n : Nat) (α : hp_T) (o0 : Option Nat) (a1 : Int32) (a2 : Int32) : Option Int32 :=
  hq_m o0 (
    if a1 < 0 then
      some (1 : Int32)
    else
      if 0 ≤ a2 then
        some (2 : Int32)
      else
        some (1 : Int32)) fun a0 =>
  if a1 < 0 then
    some (1 : Int32)
  else
    if 0 ≤ a2 then
      ms_l (hp_I α 152 a0) fun x5 =>
      if x5 < a2 then
        f_X11_wrongInclusions_J29 n α 
      else
        if a1 < a2 then
          some (0 : Int32)
        else
          f_X11_wrongInclusions_J29 n α 
    else
      some (1 : Int32)
set_option maxRecDepth 100000 in
set_option maxHeartbeats 4000000 in
theorem n_X11_wrongInclusion (n : Nat) (Γ : hp_G) (l : Launch) (α : hp_T) (g : GC α) (o0 : Option Nat) (k0 : ∀ b, o0 = some b → hp_K α b = 3) (a1 : Int32) (a2 : Int32) (res : Int32) (hf : f_X11_wrongInclusion n α o0 a1 a2 = some res) : Met l yX11_wrongInclusion (hp_ws yX11_wrongInclusion cX11_wrongInclusion 3 (some .int)) (hp_rm 0 0 0) (hp_Pc Γ α [va_rf o0, .int a1, .int a2]) (hp_Qi Γ (fun r β => β = α ∧ r = res)) 0 0 (hp_A Γ) := by
  unfold f_X11_wrongInclusion at hf
  refine hp_start (by decide) ?_
  intro p e s m below meth c C hr hlk B0 hnm
  have C : hp_C Γ p m c cX11_wrongInclusion 3 s ([va_rf o0, .int a1, .int a2] : List Value).toArray RX11 := C
  have hx := C.1.1
  have hb := C.1.2.1
  have hown := C.1.2.2.2.1
  have hts := C.1.2.2.2.2
  have B : hp_B Γ (cw w_X11_wrongInclusion) s α α s.heap [] := ⟨B0.1, B0.2.1, cw_rf g⟩
  rcases o0 with _ | a0
  ·
    replace hf := hq_N hf
    have hl := lv_entry ([.null, .int a1, .int a2]) (n := 3) (Nat.le_of_ble_eq_true rfl)
    show W p l e (hp_rm 0 0 0) s m ([.null, .int a1, .int a2] : List Value).toArray below meth c s.heap [] 0 0 (MQ below (hp_Qi Γ (fun r β => β = α ∧ r = res)) ([.null, .int a1, .int a2] : List Value).toArray s 0 0 (hp_A Γ)) (entryFrame m ([.null, .int a1, .int a2] : List Value).toArray 3)
    rw [lg_entry_eq]
    generalize (lg_sl ([.null, .int a1, .int a2]) ++ List.replicate (3 - (lg_sl ([.null, .int a1, .int a2])).length) Slot.unset).toArray = ls at hl ⊢
    have hl : lv_has ls 3 [(0, .null), (1, .int a1), (2, .int a2)] := hl
    refine lv_iload_n hx hb dX11_wrongInclusion_0 rfl (lv_at hl 1 rfl) (hp_n (n := 1) rfl ?_)
    refine lv_if_lt (tgt := 8) hx hb dX11_wrongInclusion_1 (by decide) (fun c1 => ?_) (fun c1 => hp_n (n := 4) rfl ?_)
    ·
      replace hf := ms_iT c1 hf
      refine lv_iconst (v := 1) hx hb dX11_wrongInclusion_8 (by decide) (hp_n (n := 9) rfl ?_)
      cases hf
      exact q_iret C B hr hlk ⟨rfl, rfl⟩ dX11_wrongInclusion_9
    ·
      replace hf := ms_iF c1 hf
      refine lv_iload_n hx hb dX11_wrongInclusion_4 rfl (lv_at hl 2 rfl) (hp_n (n := 5) rfl ?_)
      refine lv_if_ge (tgt := 10) hx hb dX11_wrongInclusion_5 (by decide) (fun c2 => ?_) (fun c2 => hp_n (n := 8) rfl ?_)
      ·
        replace hf := ms_iT c2 hf
        refine lv_aload_nN hx hb dX11_wrongInclusion_10 rfl (lv_at hl 0 rfl) (hp_n (n := 11) rfl ?_)
        refine lv_ifnonnullN hx hb dX11_wrongInclusion_11 (hp_n (n := 14) rfl ?_)
        refine lv_iconst (v := 2) hx hb dX11_wrongInclusion_14 (by decide) (hp_n (n := 15) rfl ?_)
        cases hf
        exact q_iret C B hr hlk ⟨rfl, rfl⟩ dX11_wrongInclusion_15
      ·
        replace hf := ms_iF c2 hf
        refine lv_iconst (v := 1) hx hb dX11_wrongInclusion_8 (by decide) (hp_n (n := 9) rfl ?_)
        cases hf
        exact q_iret C B hr hlk ⟨rfl, rfl⟩ dX11_wrongInclusion_9
  ·
    replace hf := hq_S hf
    have ka0 := k0 a0 rfl
    have hl := lv_entry ([.ref a0, .int a1, .int a2]) (n := 3) (Nat.le_of_ble_eq_true rfl)
    show W p l e (hp_rm 0 0 0) s m ([.ref a0, .int a1, .int a2] : List Value).toArray below meth c s.heap [] 0 0 (MQ below (hp_Qi Γ (fun r β => β = α ∧ r = res)) ([.ref a0, .int a1, .int a2] : List Value).toArray s 0 0 (hp_A Γ)) (entryFrame m ([.ref a0, .int a1, .int a2] : List Value).toArray 3)
    rw [lg_entry_eq]
    generalize (lg_sl ([.ref a0, .int a1, .int a2]) ++ List.replicate (3 - (lg_sl ([.ref a0, .int a1, .int a2])).length) Slot.unset).toArray = ls at hl ⊢
    have hl : lv_has ls 3 [(0, .ref a0), (1, .int a1), (2, .int a2)] := hl
    refine lv_iload_n hx hb dX11_wrongInclusion_0 rfl (lv_at hl 1 rfl) (hp_n (n := 1) rfl ?_)
    refine lv_if_lt (tgt := 8) hx hb dX11_wrongInclusion_1 (by decide) (fun c3 => ?_) (fun c3 => hp_n (n := 4) rfl ?_)
    ·
      replace hf := ms_iT c3 hf
      refine lv_iconst (v := 1) hx hb dX11_wrongInclusion_8 (by decide) (hp_n (n := 9) rfl ?_)
      cases hf
      exact q_iret C B hr hlk ⟨rfl, rfl⟩ dX11_wrongInclusion_9
    ·
      replace hf := ms_iF c3 hf
      refine lv_iload_n hx hb dX11_wrongInclusion_4 rfl (lv_at hl 2 rfl) (hp_n (n := 5) rfl ?_)
      refine lv_if_ge (tgt := 10) hx hb dX11_wrongInclusion_5 (by decide) (fun c4 => ?_) (fun c4 => hp_n (n := 8) rfl ?_)
      ·
        replace hf := ms_iT c4 hf
        refine lv_aload_n hx hb dX11_wrongInclusion_10 rfl (lv_at hl 0 rfl) (hp_n (n := 11) rfl ?_)
        refine lv_ifnonnull (tgt := 16) hx hb dX11_wrongInclusion_11 (by decide) ?_
        refine lv_iload_n hx hb dX11_wrongInclusion_16 rfl (lv_at hl 2 rfl) (hp_n (n := 17) rfl ?_)
        refine lv_aload_n hx hb dX11_wrongInclusion_17 rfl (lv_at hl 0 rfl) (hp_n (n := 18) rfl ?_)
        refine q_geti (κ := 3) (k := 2) (φ := 152) (pc' := 21) C B (cw_k B.2.2 ka0) fl_X11_167 rfl rfl rfl dX11_wrongInclusion_18 rfl (fun x5 ex5 => ?_)
        replace hf := ms_lE ex5 hf
        have J29 : ∀ (Hh6 : Heap) (Lh6 : List Loc) (Bh6 : hp_B Γ (cw w_X11_wrongInclusion) s α α Hh6 Lh6) (ls : Array Slot) (hl : lv_has ls 3 []) (hf : f_X11_wrongInclusions_J29 n α  = some res), W p l e (hp_rm 0 0 0) s m ([.ref a0, .int a1, .int a2] : List Value).toArray below meth c Hh6 Lh6 0 0 (MQ below (hp_Qi Γ (fun r β => β = α ∧ r = res)) ([.ref a0, .int a1, .int a2] : List Value).toArray s 0 0 (hp_A Γ)) (F0 m 29 ls []) := by
          intro Hh6 Lh6 Bh6 ls hl hf
          unfold f_X11_wrongInclusions_J29 at hf
          refine lv_iconst (v := 5) hx hb dX11_wrongInclusion_29 (by decide) (hp_n (n := 30) rfl ?_)
          refine lv_goto (tgt := 34) hx hb dX11_wrongInclusion_30 (by decide) ?_
          cases hf
          exact q_iret C Bh6 hr hlk ⟨rfl, rfl⟩ dX11_wrongInclusion_34
        refine lv_icmp_gt (tgt := 29) hx hb dX11_wrongInclusion_21 (by decide) (fun c7 => ?_) (fun c7 => hp_n (n := 24) rfl ?_)
        ·
          replace hf := ms_iT c7 hf
          exact J29 s.heap [] B ls (lv_sub hl [] rfl) hf
        ·
          replace hf := ms_iF c7 hf
          refine lv_iload_n hx hb dX11_wrongInclusion_24 rfl (lv_at hl 1 rfl) (hp_n (n := 25) rfl ?_)
          refine lv_iload_n hx hb dX11_wrongInclusion_25 rfl (lv_at hl 2 rfl) (hp_n (n := 26) rfl ?_)
          refine lv_icmp_lt (tgt := 33) hx hb dX11_wrongInclusion_26 (by decide) (fun c8 => ?_) (fun c8 => hp_n (n := 29) rfl ?_)
          ·
            replace hf := ms_iT c8 hf
            refine lv_iconst (v := 0) hx hb dX11_wrongInclusion_33 (by decide) (hp_n (n := 34) rfl ?_)
            cases hf
            exact q_iret C B hr hlk ⟨rfl, rfl⟩ dX11_wrongInclusion_34
          ·
            replace hf := ms_iF c8 hf
            exact J29 s.heap [] B ls (lv_sub hl [] rfl) hf
      ·
        replace hf := ms_iF c4 hf
        refine lv_iconst (v := 1) hx hb dX11_wrongInclusion_8 (by decide) (hp_n (n := 9) rfl ?_)
        cases hf
        exact q_iret C B hr hlk ⟨rfl, rfl⟩ dX11_wrongInclusion_9
def f_X11_include (n : Nat) (α : hp_T) (a0 : Nat) (a1 : Int32) (a2 : Int32) (a3 : Int32) : Option (Int32 × hp_T) :=
  ms_l (hp_R α 601 a0) fun b1 =>
  ms_b (f_X10_logAt n α b1 a1) fun rh2 =>
  hq_m rh2 (
    ms_b (f_X11_wrongInclusion n α none a2 a3) fun rh3 =>
    if rh3 = 0 then
      ms_l (hp_R α 612 a0) fun b5 =>
      ms_b (f_X8_toThing n α b5 a2 a3) fun αh6 =>
      ms_l (hp_R αh6 601 a0) fun b7 =>
      ms_l (hp_R αh6 612 a0) fun b8 =>
      ms_l (hp_R αh6 603 a0) fun b9 =>
      ms_b (f_X10_marksAlong n αh6 b7 b8 none b9) fun αh10 =>
      ms_l (hp_R αh10 603 a0) fun b11 =>
      ms_l (hp_I αh10 301 b11) fun x12 =>
      hq_c (f_X11_answer n αh10 a0 x12) fun rh13 αh13 =>
      some (rh13, αh13)
    else
      hq_c (f_X11_refuse n α a0 rh3) fun rh14 αh14 =>
      some (rh14, αh14)) fun bh2 =>
  ms_b (f_X11_wrongInclusion n α (some bh2) a2 a3) fun rh15 =>
  if rh15 = 0 then
    ms_l (hp_R α 612 a0) fun b17 =>
    ms_b (f_X8_toThing n α b17 a2 a3) fun αh18 =>
    ms_l (hp_R αh18 601 a0) fun b19 =>
    ms_l (hp_R αh18 612 a0) fun b20 =>
    ms_l (hp_R αh18 603 a0) fun b21 =>
    ms_b (f_X10_marksAlong n αh18 b19 b20 (some bh2) b21) fun αh22 =>
    ms_l (hp_R αh22 603 a0) fun b23 =>
    ms_l (hp_I αh22 301 b23) fun x24 =>
    hq_c (f_X11_answer n αh22 a0 x24) fun rh25 αh25 =>
    some (rh25, αh25)
  else
    hq_c (f_X11_refuse n α a0 rh15) fun rh26 αh26 =>
    some (rh26, αh26)
set_option maxRecDepth 100000 in
set_option maxHeartbeats 4000000 in
theorem n_X11_include (n : Nat) (Γ : hp_G) (l : Launch) (α : hp_T) (g : GC α) (a0 : Nat) (k0 : hp_K α a0 = 12) (a1 : Int32) (a2 : Int32) (a3 : Int32) (res : (Int32 × hp_T)) (hf : f_X11_include n α a0 a1 a2 a3 = some res) : Met l yX11_include (hp_ws yX11_include cX11_include 6 (some .int)) (hp_rm 4 0 0) (hp_Pc Γ α [.ref a0, .int a1, .int a2, .int a3]) (hp_Qi Γ (fun r β => r = res.1 ∧ β = res.2 ∧ cw w_X11_include α β)) 0 0 (hp_A Γ) := by
  unfold f_X11_include at hf
  refine hp_start (by decide) ?_
  intro p e s m below meth c C hr hlk B0 hnm
  have C : hp_C Γ p m c cX11_include 6 s ([.ref a0, .int a1, .int a2, .int a3] : List Value).toArray RX11 := C
  have hx := C.1.1
  have hb := C.1.2.1
  have hown := C.1.2.2.2.1
  have hts := C.1.2.2.2.2
  have B : hp_B Γ (cw w_X11_include) s α α s.heap [] := ⟨B0.1, B0.2.1, cw_rf g⟩
  have hl := lv_entry ([.ref a0, .int a1, .int a2, .int a3]) (n := 6) (Nat.le_of_ble_eq_true rfl)
  show W p l e (hp_rm 4 0 0) s m ([.ref a0, .int a1, .int a2, .int a3] : List Value).toArray below meth c s.heap [] 0 0 (MQ below (hp_Qi Γ (fun r β => r = res.1 ∧ β = res.2 ∧ cw w_X11_include α β)) ([.ref a0, .int a1, .int a2, .int a3] : List Value).toArray s 0 0 (hp_A Γ)) (entryFrame m ([.ref a0, .int a1, .int a2, .int a3] : List Value).toArray 6)
  rw [lg_entry_eq]
  generalize (lg_sl ([.ref a0, .int a1, .int a2, .int a3]) ++ List.replicate (6 - (lg_sl ([.ref a0, .int a1, .int a2, .int a3])).length) Slot.unset).toArray = ls at hl ⊢
  have hl : lv_has ls 6 [(0, .ref a0), (1, .int a1), (2, .int a2), (3, .int a3)] := hl
  refine lv_aload_n hx hb dX11_include_0 rfl (lv_at hl 0 rfl) (hp_n (n := 1) rfl ?_)
  refine q_getr (κ := 12) (k := 1) (φ := 601) (pc' := 4) C B (cw_k B.2.2 k0) fl_X11_16 rfl rfl rfl (cw_r B.2.2 k0 rfl rfl (by decide) (by decide)) dX11_include_1 rfl (fun b1 eb1 kb1 => ?_)
  replace hf := ms_lE eb1 hf
  refine lv_iload_n hx hb dX11_include_4 rfl (lv_at hl 1 rfl) (hp_n (n := 5) rfl ?_)
  obtain ⟨rh2, qh2, hf⟩ := ms_bE hf
  refine d_pq (pc' := 8) B (hp_runV (As := [.int a1]) (rest := []) C B (n_X10_logAt n Γ l α B.2.2.1 b1 (cw_k B.2.2 kb1) a1 rh2 qh2) lb_X10_logAt lv_X10_logAt lk_X11_163 (cw_k B.2.2 kb1) rfl (by decide) rfl hl.1 rfl (Nat.le_of_ble_eq_true rfl) dX11_include_5 ⟨Nat.le_refl _, Nat.le_refl _⟩) rfl (fun Hh2 Lh2 Bh2 kh2 => ?_)
  rcases rh2 with _ | bh2
  ·
    replace hf := hq_N hf
    refine lv_astoreN (lv' := [(4, .null), (0, .ref a0), (1, .int a1), (2, .int a2), (3, .int a3)]) hx hb dX11_include_8 hl (by decide) rfl (fun ls hl => hp_n (n := 10) rfl ?_)
    refine lv_aloadN hx hb dX11_include_10 (lv_at hl 0 rfl) (hp_n (n := 12) rfl ?_)
    refine lv_iload_n hx hb dX11_include_12 rfl (lv_at hl 3 rfl) (hp_n (n := 13) rfl ?_)
    refine lv_iload_n hx hb dX11_include_13 rfl (lv_at hl 4 rfl) (hp_n (n := 14) rfl ?_)
    obtain ⟨rh3, qh3, hf⟩ := ms_bE hf
    refine d_pi (pc' := 17) Bh2 (hp_runS (As := [va_rf none, .int a2, .int a3]) (rest := []) C Bh2 (n_X11_wrongInclusion n Γ l α Bh2.2.2.1 none (fun b h => by cases h) a2 a3 rh3 qh3) lb_X11_wrongInclusion ls_X11_wrongInclusion lk_X11_264 rfl (by decide) rfl hl.1 rfl (Nat.le_of_ble_eq_true rfl) dX11_include_14 ⟨Nat.le_refl _, Nat.le_refl _⟩) rfl (fun Hh3 Lh3 Bh3 => ?_)
    refine lv_istore (lv' := [(5, .int rh3), (4, .null), (0, .ref a0), (1, .int a1), (2, .int a2), (3, .int a3)]) hx hb dX11_include_17 hl (by decide) rfl (fun ls hl => hp_n (n := 19) rfl ?_)
    refine lv_iload hx hb dX11_include_19 (lv_at hl 0 rfl) (hp_n (n := 21) rfl ?_)
    refine lv_if_eq (tgt := 31) hx hb dX11_include_21 (by decide) (fun c4 => ?_) (fun c4 => hp_n (n := 24) rfl ?_)
    ·
      replace hf := ms_iT c4 hf
      refine lv_aload_n hx hb dX11_include_31 rfl (lv_at hl 2 rfl) (hp_n (n := 32) rfl ?_)
      refine q_getr (κ := 12) (k := 12) (φ := 612) (pc' := 35) C Bh3 (cw_k Bh3.2.2 k0) fl_X11_62 rfl rfl rfl (cw_r Bh3.2.2 k0 rfl rfl (by decide) (by decide)) dX11_include_32 rfl (fun b5 eb5 kb5 => ?_)
      replace hf := ms_lE eb5 hf
      refine lv_iload_n hx hb dX11_include_35 rfl (lv_at hl 4 rfl) (hp_n (n := 36) rfl ?_)
      refine lv_iload_n hx hb dX11_include_36 rfl (lv_at hl 5 rfl) (hp_n (n := 37) rfl ?_)
      obtain ⟨αh6, qh6, hf⟩ := ms_bE hf
      refine d_cv (pc' := 40) Bh3 (hp_runV (As := [.int a2, .int a3]) (rest := []) C Bh3 (n_X8_toThing n Γ l α Bh3.2.2.1 b5 (cw_k Bh3.2.2 kb5) a2 a3 αh6 qh6) lb_X8_toThing lv_X8_toThing lk_X11_267 (cw_k Bh3.2.2 kb5) rfl (by decide) rfl hl.1 rfl (Nat.le_of_ble_eq_true rfl) dX11_include_37 ⟨Nat.le_refl _, Nat.le_refl _⟩) (by decide) rfl (fun Hh6 Lh6 Bh6 => ?_)
      refine lv_aload_n hx hb dX11_include_40 rfl (lv_at hl 2 rfl) (hp_n (n := 41) rfl ?_)
      refine q_getr (κ := 12) (k := 1) (φ := 601) (pc' := 44) C Bh6 (cw_k Bh6.2.2 k0) fl_X11_16 rfl rfl rfl (cw_r Bh6.2.2 k0 rfl rfl (by decide) (by decide)) dX11_include_41 rfl (fun b7 eb7 kb7 => ?_)
      replace hf := ms_lE eb7 hf
      refine lv_aload_n hx hb dX11_include_44 rfl (lv_at hl 2 rfl) (hp_n (n := 45) rfl ?_)
      refine q_getr (κ := 12) (k := 12) (φ := 612) (pc' := 48) C Bh6 (cw_k Bh6.2.2 k0) fl_X11_62 rfl rfl rfl (cw_r Bh6.2.2 k0 rfl rfl (by decide) (by decide)) dX11_include_45 rfl (fun b8 eb8 kb8 => ?_)
      replace hf := ms_lE eb8 hf
      refine lv_aloadN hx hb dX11_include_48 (lv_at hl 1 rfl) (hp_n (n := 50) rfl ?_)
      refine lv_aload_n hx hb dX11_include_50 rfl (lv_at hl 2 rfl) (hp_n (n := 51) rfl ?_)
      refine q_getr (κ := 12) (k := 3) (φ := 603) (pc' := 54) C Bh6 (cw_k Bh6.2.2 k0) fl_X11_26 rfl rfl rfl (cw_r Bh6.2.2 k0 rfl rfl (by decide) (by decide)) dX11_include_51 rfl (fun b9 eb9 kb9 => ?_)
      replace hf := ms_lE eb9 hf
      obtain ⟨αh10, qh10, hf⟩ := ms_bE hf
      refine d_cv (pc' := 57) Bh6 (hp_runV (As := [.ref b8, va_rf none, .ref b9]) (rest := []) C Bh6 (n_X10_marksAlong n Γ l αh6 Bh6.2.2.1 b7 (cw_k Bh6.2.2 kb7) b8 (cw_k Bh6.2.2 kb8) none (fun b h => by cases h) b9 (cw_k Bh6.2.2 kb9) αh10 qh10) lb_X10_marksAlong lv_X10_marksAlong lk_X11_270 (cw_k Bh6.2.2 kb7) rfl (by decide) rfl hl.1 rfl (Nat.le_of_ble_eq_true rfl) dX11_include_54 ⟨Nat.le_refl _, Nat.le_refl _⟩) (by decide) rfl (fun Hh10 Lh10 Bh10 => ?_)
      refine lv_aload_n hx hb dX11_include_57 rfl (lv_at hl 2 rfl) (hp_n (n := 58) rfl ?_)
      refine lv_aload_n hx hb dX11_include_58 rfl (lv_at hl 2 rfl) (hp_n (n := 59) rfl ?_)
      refine q_getr (κ := 12) (k := 3) (φ := 603) (pc' := 62) C Bh10 (cw_k Bh10.2.2 k0) fl_X11_26 rfl rfl rfl (cw_r Bh10.2.2 k0 rfl rfl (by decide) (by decide)) dX11_include_59 rfl (fun b11 eb11 kb11 => ?_)
      replace hf := ms_lE eb11 hf
      refine q_geti (κ := 6) (k := 1) (φ := 301) (pc' := 65) C Bh10 (cw_k Bh10.2.2 kb11) fl_X11_132 rfl rfl rfl dX11_include_62 rfl (fun x12 ex12 => ?_)
      replace hf := ms_lE ex12 hf
      obtain ⟨rh13, αh13, qh13, hf⟩ := hq_cE hf
      refine d_ci (pc' := 68) Bh10 (hp_runV (As := [.int x12]) (rest := []) C Bh10 (n_X11_answer n Γ l αh10 Bh10.2.2.1 a0 (cw_k Bh10.2.2 k0) x12 (rh13, αh13) qh13) lb_X11_answer lv_X11_answer lk_X11_115 (cw_k Bh10.2.2 k0) rfl (by decide) rfl hl.1 rfl (Nat.le_of_ble_eq_true rfl) dX11_include_65 ⟨Nat.le_refl _, Nat.le_refl _⟩) (by decide) rfl (fun Hh13 Lh13 Bh13 => ?_)
      cases hf
      exact q_iret C Bh13 hr hlk ⟨rfl, rfl, Bh13.2.2⟩ dX11_include_68
    ·
      replace hf := ms_iF c4 hf
      refine lv_aload_n hx hb dX11_include_24 rfl (lv_at hl 2 rfl) (hp_n (n := 25) rfl ?_)
      refine lv_iload hx hb dX11_include_25 (lv_at hl 0 rfl) (hp_n (n := 27) rfl ?_)
      obtain ⟨rh14, αh14, qh14, hf⟩ := hq_cE hf
      refine d_ci (pc' := 30) Bh3 (hp_runV (As := [.int rh3]) (rest := []) C Bh3 (n_X11_refuse n Γ l α Bh3.2.2.1 a0 (cw_k Bh3.2.2 k0) rh3 (rh14, αh14) qh14) lb_X11_refuse lv_X11_refuse lk_X11_98 (cw_k Bh3.2.2 k0) rfl (by decide) rfl hl.1 rfl (Nat.le_of_ble_eq_true rfl) dX11_include_27 ⟨Nat.le_refl _, Nat.le_refl _⟩) (by decide) rfl (fun Hh14 Lh14 Bh14 => ?_)
      cases hf
      exact q_iret C Bh14 hr hlk ⟨rfl, rfl, Bh14.2.2⟩ dX11_include_30
  ·
    replace hf := hq_S hf
    have kbh2 := kh2 bh2 rfl
    refine lv_astore (lv' := [(4, .ref bh2), (0, .ref a0), (1, .int a1), (2, .int a2), (3, .int a3)]) hx hb dX11_include_8 hl (by decide) rfl (fun ls hl => hp_n (n := 10) rfl ?_)
    refine lv_aload hx hb dX11_include_10 (lv_at hl 0 rfl) (hp_n (n := 12) rfl ?_)
    refine lv_iload_n hx hb dX11_include_12 rfl (lv_at hl 3 rfl) (hp_n (n := 13) rfl ?_)
    refine lv_iload_n hx hb dX11_include_13 rfl (lv_at hl 4 rfl) (hp_n (n := 14) rfl ?_)
    obtain ⟨rh15, qh15, hf⟩ := ms_bE hf
    refine d_pi (pc' := 17) Bh2 (hp_runS (As := [va_rf (some bh2), .int a2, .int a3]) (rest := []) C Bh2 (n_X11_wrongInclusion n Γ l α Bh2.2.2.1 (some bh2) (fun b h => by cases h; exact (cw_k Bh2.2.2 kbh2)) a2 a3 rh15 qh15) lb_X11_wrongInclusion ls_X11_wrongInclusion lk_X11_264 rfl (by decide) rfl hl.1 rfl (Nat.le_of_ble_eq_true rfl) dX11_include_14 ⟨Nat.le_refl _, Nat.le_refl _⟩) rfl (fun Hh15 Lh15 Bh15 => ?_)
    refine lv_istore (lv' := [(5, .int rh15), (4, .ref bh2), (0, .ref a0), (1, .int a1), (2, .int a2), (3, .int a3)]) hx hb dX11_include_17 hl (by decide) rfl (fun ls hl => hp_n (n := 19) rfl ?_)
    refine lv_iload hx hb dX11_include_19 (lv_at hl 0 rfl) (hp_n (n := 21) rfl ?_)
    refine lv_if_eq (tgt := 31) hx hb dX11_include_21 (by decide) (fun c16 => ?_) (fun c16 => hp_n (n := 24) rfl ?_)
    ·
      replace hf := ms_iT c16 hf
      refine lv_aload_n hx hb dX11_include_31 rfl (lv_at hl 2 rfl) (hp_n (n := 32) rfl ?_)
      refine q_getr (κ := 12) (k := 12) (φ := 612) (pc' := 35) C Bh15 (cw_k Bh15.2.2 k0) fl_X11_62 rfl rfl rfl (cw_r Bh15.2.2 k0 rfl rfl (by decide) (by decide)) dX11_include_32 rfl (fun b17 eb17 kb17 => ?_)
      replace hf := ms_lE eb17 hf
      refine lv_iload_n hx hb dX11_include_35 rfl (lv_at hl 4 rfl) (hp_n (n := 36) rfl ?_)
      refine lv_iload_n hx hb dX11_include_36 rfl (lv_at hl 5 rfl) (hp_n (n := 37) rfl ?_)
      obtain ⟨αh18, qh18, hf⟩ := ms_bE hf
      refine d_cv (pc' := 40) Bh15 (hp_runV (As := [.int a2, .int a3]) (rest := []) C Bh15 (n_X8_toThing n Γ l α Bh15.2.2.1 b17 (cw_k Bh15.2.2 kb17) a2 a3 αh18 qh18) lb_X8_toThing lv_X8_toThing lk_X11_267 (cw_k Bh15.2.2 kb17) rfl (by decide) rfl hl.1 rfl (Nat.le_of_ble_eq_true rfl) dX11_include_37 ⟨Nat.le_refl _, Nat.le_refl _⟩) (by decide) rfl (fun Hh18 Lh18 Bh18 => ?_)
      refine lv_aload_n hx hb dX11_include_40 rfl (lv_at hl 2 rfl) (hp_n (n := 41) rfl ?_)
      refine q_getr (κ := 12) (k := 1) (φ := 601) (pc' := 44) C Bh18 (cw_k Bh18.2.2 k0) fl_X11_16 rfl rfl rfl (cw_r Bh18.2.2 k0 rfl rfl (by decide) (by decide)) dX11_include_41 rfl (fun b19 eb19 kb19 => ?_)
      replace hf := ms_lE eb19 hf
      refine lv_aload_n hx hb dX11_include_44 rfl (lv_at hl 2 rfl) (hp_n (n := 45) rfl ?_)
      refine q_getr (κ := 12) (k := 12) (φ := 612) (pc' := 48) C Bh18 (cw_k Bh18.2.2 k0) fl_X11_62 rfl rfl rfl (cw_r Bh18.2.2 k0 rfl rfl (by decide) (by decide)) dX11_include_45 rfl (fun b20 eb20 kb20 => ?_)
      replace hf := ms_lE eb20 hf
      refine lv_aload hx hb dX11_include_48 (lv_at hl 1 rfl) (hp_n (n := 50) rfl ?_)
      refine lv_aload_n hx hb dX11_include_50 rfl (lv_at hl 2 rfl) (hp_n (n := 51) rfl ?_)
      refine q_getr (κ := 12) (k := 3) (φ := 603) (pc' := 54) C Bh18 (cw_k Bh18.2.2 k0) fl_X11_26 rfl rfl rfl (cw_r Bh18.2.2 k0 rfl rfl (by decide) (by decide)) dX11_include_51 rfl (fun b21 eb21 kb21 => ?_)
      replace hf := ms_lE eb21 hf
      obtain ⟨αh22, qh22, hf⟩ := ms_bE hf
      refine d_cv (pc' := 57) Bh18 (hp_runV (As := [.ref b20, va_rf (some bh2), .ref b21]) (rest := []) C Bh18 (n_X10_marksAlong n Γ l αh18 Bh18.2.2.1 b19 (cw_k Bh18.2.2 kb19) b20 (cw_k Bh18.2.2 kb20) (some bh2) (fun b h => by cases h; exact (cw_k Bh18.2.2 kbh2)) b21 (cw_k Bh18.2.2 kb21) αh22 qh22) lb_X10_marksAlong lv_X10_marksAlong lk_X11_270 (cw_k Bh18.2.2 kb19) rfl (by decide) rfl hl.1 rfl (Nat.le_of_ble_eq_true rfl) dX11_include_54 ⟨Nat.le_refl _, Nat.le_refl _⟩) (by decide) rfl (fun Hh22 Lh22 Bh22 => ?_)
      refine lv_aload_n hx hb dX11_include_57 rfl (lv_at hl 2 rfl) (hp_n (n := 58) rfl ?_)
      refine lv_aload_n hx hb dX11_include_58 rfl (lv_at hl 2 rfl) (hp_n (n := 59) rfl ?_)
      refine q_getr (κ := 12) (k := 3) (φ := 603) (pc' := 62) C Bh22 (cw_k Bh22.2.2 k0) fl_X11_26 rfl rfl rfl (cw_r Bh22.2.2 k0 rfl rfl (by decide) (by decide)) dX11_include_59 rfl (fun b23 eb23 kb23 => ?_)
      replace hf := ms_lE eb23 hf
      refine q_geti (κ := 6) (k := 1) (φ := 301) (pc' := 65) C Bh22 (cw_k Bh22.2.2 kb23) fl_X11_132 rfl rfl rfl dX11_include_62 rfl (fun x24 ex24 => ?_)
      replace hf := ms_lE ex24 hf
      obtain ⟨rh25, αh25, qh25, hf⟩ := hq_cE hf
      refine d_ci (pc' := 68) Bh22 (hp_runV (As := [.int x24]) (rest := []) C Bh22 (n_X11_answer n Γ l αh22 Bh22.2.2.1 a0 (cw_k Bh22.2.2 k0) x24 (rh25, αh25) qh25) lb_X11_answer lv_X11_answer lk_X11_115 (cw_k Bh22.2.2 k0) rfl (by decide) rfl hl.1 rfl (Nat.le_of_ble_eq_true rfl) dX11_include_65 ⟨Nat.le_refl _, Nat.le_refl _⟩) (by decide) rfl (fun Hh25 Lh25 Bh25 => ?_)
      cases hf
      exact q_iret C Bh25 hr hlk ⟨rfl, rfl, Bh25.2.2⟩ dX11_include_68
    ·
      replace hf := ms_iF c16 hf
      refine lv_aload_n hx hb dX11_include_24 rfl (lv_at hl 2 rfl) (hp_n (n := 25) rfl ?_)
      refine lv_iload hx hb dX11_include_25 (lv_at hl 0 rfl) (hp_n (n := 27) rfl ?_)
      obtain ⟨rh26, αh26, qh26, hf⟩ := hq_cE hf
      refine d_ci (pc' := 30) Bh15 (hp_runV (As := [.int rh15]) (rest := []) C Bh15 (n_X11_refuse n Γ l α Bh15.2.2.1 a0 (cw_k Bh15.2.2 k0) rh15 (rh26, αh26) qh26) lb_X11_refuse lv_X11_refuse lk_X11_98 (cw_k Bh15.2.2 k0) rfl (by decide) rfl hl.1 rfl (Nat.le_of_ble_eq_true rfl) dX11_include_27 ⟨Nat.le_refl _, Nat.le_refl _⟩) (by decide) rfl (fun Hh26 Lh26 Bh26 => ?_)
      cases hf
      exact q_iret C Bh26 hr hlk ⟨rfl, rfl, Bh26.2.2⟩ dX11_include_30
def f_X11_grow (n : Nat) (α : hp_T) (a0 : Nat) (a1 : Int32) (a2 : Int32) (a3 : Int32) : Option (Int32 × hp_T) :=
  ms_l (hp_R α 601 a0) fun b1 =>
  ms_b (f_X10_logAt n α b1 a1) fun rh2 =>
  hq_m rh2 (
    ms_b (f_X11_wrongGrowth n α none a2 a3) fun rh3 =>
    if rh3 = 0 then
      ms_l (hp_R α 612 a0) fun b5 =>
      ms_b (f_X8_toGrowth n α b5 a2 a3) fun αh6 =>
      ms_l (hp_R αh6 601 a0) fun b7 =>
      ms_l (hp_R αh6 612 a0) fun b8 =>
      ms_l (hp_R αh6 603 a0) fun b9 =>
      ms_b (f_X10_marksAlong n αh6 b7 b8 none b9) fun αh10 =>
      ms_l (hp_R αh10 603 a0) fun b11 =>
      ms_l (hp_I αh10 301 b11) fun x12 =>
      hq_c (f_X11_answer n αh10 a0 x12) fun rh13 αh13 =>
      some (rh13, αh13)
    else
      hq_c (f_X11_refuse n α a0 rh3) fun rh14 αh14 =>
      some (rh14, αh14)) fun bh2 =>
  ms_b (f_X11_wrongGrowth n α (some bh2) a2 a3) fun rh15 =>
  if rh15 = 0 then
    ms_l (hp_R α 612 a0) fun b17 =>
    ms_b (f_X8_toGrowth n α b17 a2 a3) fun αh18 =>
    ms_l (hp_R αh18 601 a0) fun b19 =>
    ms_l (hp_R αh18 612 a0) fun b20 =>
    ms_l (hp_R αh18 603 a0) fun b21 =>
    ms_b (f_X10_marksAlong n αh18 b19 b20 (some bh2) b21) fun αh22 =>
    ms_l (hp_R αh22 603 a0) fun b23 =>
    ms_l (hp_I αh22 301 b23) fun x24 =>
    hq_c (f_X11_answer n αh22 a0 x24) fun rh25 αh25 =>
    some (rh25, αh25)
  else
    hq_c (f_X11_refuse n α a0 rh15) fun rh26 αh26 =>
    some (rh26, αh26)
set_option maxRecDepth 100000 in
set_option maxHeartbeats 4000000 in
theorem n_X11_grow (n : Nat) (Γ : hp_G) (l : Launch) (α : hp_T) (g : GC α) (a0 : Nat) (k0 : hp_K α a0 = 12) (a1 : Int32) (a2 : Int32) (a3 : Int32) (res : (Int32 × hp_T)) (hf : f_X11_grow n α a0 a1 a2 a3 = some res) : Met l yX11_grow (hp_ws yX11_grow cX11_grow 6 (some .int)) (hp_rm 4 0 0) (hp_Pc Γ α [.ref a0, .int a1, .int a2, .int a3]) (hp_Qi Γ (fun r β => r = res.1 ∧ β = res.2 ∧ cw w_X11_grow α β)) 0 0 (hp_A Γ) := by
  unfold f_X11_grow at hf
  refine hp_start (by decide) ?_
  intro p e s m below meth c C hr hlk B0 hnm
  have C : hp_C Γ p m c cX11_grow 6 s ([.ref a0, .int a1, .int a2, .int a3] : List Value).toArray RX11 := C
  have hx := C.1.1
  have hb := C.1.2.1
  have hown := C.1.2.2.2.1
  have hts := C.1.2.2.2.2
  have B : hp_B Γ (cw w_X11_grow) s α α s.heap [] := ⟨B0.1, B0.2.1, cw_rf g⟩
  have hl := lv_entry ([.ref a0, .int a1, .int a2, .int a3]) (n := 6) (Nat.le_of_ble_eq_true rfl)
  show W p l e (hp_rm 4 0 0) s m ([.ref a0, .int a1, .int a2, .int a3] : List Value).toArray below meth c s.heap [] 0 0 (MQ below (hp_Qi Γ (fun r β => r = res.1 ∧ β = res.2 ∧ cw w_X11_grow α β)) ([.ref a0, .int a1, .int a2, .int a3] : List Value).toArray s 0 0 (hp_A Γ)) (entryFrame m ([.ref a0, .int a1, .int a2, .int a3] : List Value).toArray 6)
  rw [lg_entry_eq]
  generalize (lg_sl ([.ref a0, .int a1, .int a2, .int a3]) ++ List.replicate (6 - (lg_sl ([.ref a0, .int a1, .int a2, .int a3])).length) Slot.unset).toArray = ls at hl ⊢
  have hl : lv_has ls 6 [(0, .ref a0), (1, .int a1), (2, .int a2), (3, .int a3)] := hl
  refine lv_aload_n hx hb dX11_grow_0 rfl (lv_at hl 0 rfl) (hp_n (n := 1) rfl ?_)
  refine q_getr (κ := 12) (k := 1) (φ := 601) (pc' := 4) C B (cw_k B.2.2 k0) fl_X11_16 rfl rfl rfl (cw_r B.2.2 k0 rfl rfl (by decide) (by decide)) dX11_grow_1 rfl (fun b1 eb1 kb1 => ?_)
  replace hf := ms_lE eb1 hf
  refine lv_iload_n hx hb dX11_grow_4 rfl (lv_at hl 1 rfl) (hp_n (n := 5) rfl ?_)
  obtain ⟨rh2, qh2, hf⟩ := ms_bE hf
  refine d_pq (pc' := 8) B (hp_runV (As := [.int a1]) (rest := []) C B (n_X10_logAt n Γ l α B.2.2.1 b1 (cw_k B.2.2 kb1) a1 rh2 qh2) lb_X10_logAt lv_X10_logAt lk_X11_163 (cw_k B.2.2 kb1) rfl (by decide) rfl hl.1 rfl (Nat.le_of_ble_eq_true rfl) dX11_grow_5 ⟨Nat.le_refl _, Nat.le_refl _⟩) rfl (fun Hh2 Lh2 Bh2 kh2 => ?_)
  rcases rh2 with _ | bh2
  ·
    replace hf := hq_N hf
    refine lv_astoreN (lv' := [(4, .null), (0, .ref a0), (1, .int a1), (2, .int a2), (3, .int a3)]) hx hb dX11_grow_8 hl (by decide) rfl (fun ls hl => hp_n (n := 10) rfl ?_)
    refine lv_aloadN hx hb dX11_grow_10 (lv_at hl 0 rfl) (hp_n (n := 12) rfl ?_)
    refine lv_iload_n hx hb dX11_grow_12 rfl (lv_at hl 3 rfl) (hp_n (n := 13) rfl ?_)
    refine lv_iload_n hx hb dX11_grow_13 rfl (lv_at hl 4 rfl) (hp_n (n := 14) rfl ?_)
    obtain ⟨rh3, qh3, hf⟩ := ms_bE hf
    refine d_pi (pc' := 17) Bh2 (hp_runS (As := [va_rf none, .int a2, .int a3]) (rest := []) C Bh2 (n_X11_wrongGrowth n Γ l α Bh2.2.2.1 none (fun b h => by cases h) a2 a3 rh3 qh3) lb_X11_wrongGrowth ls_X11_wrongGrowth lk_X11_180 rfl (by decide) rfl hl.1 rfl (Nat.le_of_ble_eq_true rfl) dX11_grow_14 ⟨Nat.le_refl _, Nat.le_refl _⟩) rfl (fun Hh3 Lh3 Bh3 => ?_)
    refine lv_istore (lv' := [(5, .int rh3), (4, .null), (0, .ref a0), (1, .int a1), (2, .int a2), (3, .int a3)]) hx hb dX11_grow_17 hl (by decide) rfl (fun ls hl => hp_n (n := 19) rfl ?_)
    refine lv_iload hx hb dX11_grow_19 (lv_at hl 0 rfl) (hp_n (n := 21) rfl ?_)
    refine lv_if_eq (tgt := 31) hx hb dX11_grow_21 (by decide) (fun c4 => ?_) (fun c4 => hp_n (n := 24) rfl ?_)
    ·
      replace hf := ms_iT c4 hf
      refine lv_aload_n hx hb dX11_grow_31 rfl (lv_at hl 2 rfl) (hp_n (n := 32) rfl ?_)
      refine q_getr (κ := 12) (k := 12) (φ := 612) (pc' := 35) C Bh3 (cw_k Bh3.2.2 k0) fl_X11_62 rfl rfl rfl (cw_r Bh3.2.2 k0 rfl rfl (by decide) (by decide)) dX11_grow_32 rfl (fun b5 eb5 kb5 => ?_)
      replace hf := ms_lE eb5 hf
      refine lv_iload_n hx hb dX11_grow_35 rfl (lv_at hl 4 rfl) (hp_n (n := 36) rfl ?_)
      refine lv_iload_n hx hb dX11_grow_36 rfl (lv_at hl 5 rfl) (hp_n (n := 37) rfl ?_)
      obtain ⟨αh6, qh6, hf⟩ := ms_bE hf
      refine d_cv (pc' := 40) Bh3 (hp_runV (As := [.int a2, .int a3]) (rest := []) C Bh3 (n_X8_toGrowth n Γ l α Bh3.2.2.1 b5 (cw_k Bh3.2.2 kb5) a2 a3 αh6 qh6) lb_X8_toGrowth lv_X8_toGrowth lk_X11_274 (cw_k Bh3.2.2 kb5) rfl (by decide) rfl hl.1 rfl (Nat.le_of_ble_eq_true rfl) dX11_grow_37 ⟨Nat.le_refl _, Nat.le_refl _⟩) (by decide) rfl (fun Hh6 Lh6 Bh6 => ?_)
      refine lv_aload_n hx hb dX11_grow_40 rfl (lv_at hl 2 rfl) (hp_n (n := 41) rfl ?_)
      refine q_getr (κ := 12) (k := 1) (φ := 601) (pc' := 44) C Bh6 (cw_k Bh6.2.2 k0) fl_X11_16 rfl rfl rfl (cw_r Bh6.2.2 k0 rfl rfl (by decide) (by decide)) dX11_grow_41 rfl (fun b7 eb7 kb7 => ?_)
      replace hf := ms_lE eb7 hf
      refine lv_aload_n hx hb dX11_grow_44 rfl (lv_at hl 2 rfl) (hp_n (n := 45) rfl ?_)
      refine q_getr (κ := 12) (k := 12) (φ := 612) (pc' := 48) C Bh6 (cw_k Bh6.2.2 k0) fl_X11_62 rfl rfl rfl (cw_r Bh6.2.2 k0 rfl rfl (by decide) (by decide)) dX11_grow_45 rfl (fun b8 eb8 kb8 => ?_)
      replace hf := ms_lE eb8 hf
      refine lv_aloadN hx hb dX11_grow_48 (lv_at hl 1 rfl) (hp_n (n := 50) rfl ?_)
      refine lv_aload_n hx hb dX11_grow_50 rfl (lv_at hl 2 rfl) (hp_n (n := 51) rfl ?_)
      refine q_getr (κ := 12) (k := 3) (φ := 603) (pc' := 54) C Bh6 (cw_k Bh6.2.2 k0) fl_X11_26 rfl rfl rfl (cw_r Bh6.2.2 k0 rfl rfl (by decide) (by decide)) dX11_grow_51 rfl (fun b9 eb9 kb9 => ?_)
      replace hf := ms_lE eb9 hf
      obtain ⟨αh10, qh10, hf⟩ := ms_bE hf
      refine d_cv (pc' := 57) Bh6 (hp_runV (As := [.ref b8, va_rf none, .ref b9]) (rest := []) C Bh6 (n_X10_marksAlong n Γ l αh6 Bh6.2.2.1 b7 (cw_k Bh6.2.2 kb7) b8 (cw_k Bh6.2.2 kb8) none (fun b h => by cases h) b9 (cw_k Bh6.2.2 kb9) αh10 qh10) lb_X10_marksAlong lv_X10_marksAlong lk_X11_270 (cw_k Bh6.2.2 kb7) rfl (by decide) rfl hl.1 rfl (Nat.le_of_ble_eq_true rfl) dX11_grow_54 ⟨Nat.le_refl _, Nat.le_refl _⟩) (by decide) rfl (fun Hh10 Lh10 Bh10 => ?_)
      refine lv_aload_n hx hb dX11_grow_57 rfl (lv_at hl 2 rfl) (hp_n (n := 58) rfl ?_)
      refine lv_aload_n hx hb dX11_grow_58 rfl (lv_at hl 2 rfl) (hp_n (n := 59) rfl ?_)
      refine q_getr (κ := 12) (k := 3) (φ := 603) (pc' := 62) C Bh10 (cw_k Bh10.2.2 k0) fl_X11_26 rfl rfl rfl (cw_r Bh10.2.2 k0 rfl rfl (by decide) (by decide)) dX11_grow_59 rfl (fun b11 eb11 kb11 => ?_)
      replace hf := ms_lE eb11 hf
      refine q_geti (κ := 6) (k := 1) (φ := 301) (pc' := 65) C Bh10 (cw_k Bh10.2.2 kb11) fl_X11_132 rfl rfl rfl dX11_grow_62 rfl (fun x12 ex12 => ?_)
      replace hf := ms_lE ex12 hf
      obtain ⟨rh13, αh13, qh13, hf⟩ := hq_cE hf
      refine d_ci (pc' := 68) Bh10 (hp_runV (As := [.int x12]) (rest := []) C Bh10 (n_X11_answer n Γ l αh10 Bh10.2.2.1 a0 (cw_k Bh10.2.2 k0) x12 (rh13, αh13) qh13) lb_X11_answer lv_X11_answer lk_X11_115 (cw_k Bh10.2.2 k0) rfl (by decide) rfl hl.1 rfl (Nat.le_of_ble_eq_true rfl) dX11_grow_65 ⟨Nat.le_refl _, Nat.le_refl _⟩) (by decide) rfl (fun Hh13 Lh13 Bh13 => ?_)
      cases hf
      exact q_iret C Bh13 hr hlk ⟨rfl, rfl, Bh13.2.2⟩ dX11_grow_68
    ·
      replace hf := ms_iF c4 hf
      refine lv_aload_n hx hb dX11_grow_24 rfl (lv_at hl 2 rfl) (hp_n (n := 25) rfl ?_)
      refine lv_iload hx hb dX11_grow_25 (lv_at hl 0 rfl) (hp_n (n := 27) rfl ?_)
      obtain ⟨rh14, αh14, qh14, hf⟩ := hq_cE hf
      refine d_ci (pc' := 30) Bh3 (hp_runV (As := [.int rh3]) (rest := []) C Bh3 (n_X11_refuse n Γ l α Bh3.2.2.1 a0 (cw_k Bh3.2.2 k0) rh3 (rh14, αh14) qh14) lb_X11_refuse lv_X11_refuse lk_X11_98 (cw_k Bh3.2.2 k0) rfl (by decide) rfl hl.1 rfl (Nat.le_of_ble_eq_true rfl) dX11_grow_27 ⟨Nat.le_refl _, Nat.le_refl _⟩) (by decide) rfl (fun Hh14 Lh14 Bh14 => ?_)
      cases hf
      exact q_iret C Bh14 hr hlk ⟨rfl, rfl, Bh14.2.2⟩ dX11_grow_30
  ·
    replace hf := hq_S hf
    have kbh2 := kh2 bh2 rfl
    refine lv_astore (lv' := [(4, .ref bh2), (0, .ref a0), (1, .int a1), (2, .int a2), (3, .int a3)]) hx hb dX11_grow_8 hl (by decide) rfl (fun ls hl => hp_n (n := 10) rfl ?_)
    refine lv_aload hx hb dX11_grow_10 (lv_at hl 0 rfl) (hp_n (n := 12) rfl ?_)
    refine lv_iload_n hx hb dX11_grow_12 rfl (lv_at hl 3 rfl) (hp_n (n := 13) rfl ?_)
    refine lv_iload_n hx hb dX11_grow_13 rfl (lv_at hl 4 rfl) (hp_n (n := 14) rfl ?_)
    obtain ⟨rh15, qh15, hf⟩ := ms_bE hf
    refine d_pi (pc' := 17) Bh2 (hp_runS (As := [va_rf (some bh2), .int a2, .int a3]) (rest := []) C Bh2 (n_X11_wrongGrowth n Γ l α Bh2.2.2.1 (some bh2) (fun b h => by cases h; exact (cw_k Bh2.2.2 kbh2)) a2 a3 rh15 qh15) lb_X11_wrongGrowth ls_X11_wrongGrowth lk_X11_180 rfl (by decide) rfl hl.1 rfl (Nat.le_of_ble_eq_true rfl) dX11_grow_14 ⟨Nat.le_refl _, Nat.le_refl _⟩) rfl (fun Hh15 Lh15 Bh15 => ?_)
    refine lv_istore (lv' := [(5, .int rh15), (4, .ref bh2), (0, .ref a0), (1, .int a1), (2, .int a2), (3, .int a3)]) hx hb dX11_grow_17 hl (by decide) rfl (fun ls hl => hp_n (n := 19) rfl ?_)
    refine lv_iload hx hb dX11_grow_19 (lv_at hl 0 rfl) (hp_n (n := 21) rfl ?_)
    refine lv_if_eq (tgt := 31) hx hb dX11_grow_21 (by decide) (fun c16 => ?_) (fun c16 => hp_n (n := 24) rfl ?_)
    ·
      replace hf := ms_iT c16 hf
      refine lv_aload_n hx hb dX11_grow_31 rfl (lv_at hl 2 rfl) (hp_n (n := 32) rfl ?_)
      refine q_getr (κ := 12) (k := 12) (φ := 612) (pc' := 35) C Bh15 (cw_k Bh15.2.2 k0) fl_X11_62 rfl rfl rfl (cw_r Bh15.2.2 k0 rfl rfl (by decide) (by decide)) dX11_grow_32 rfl (fun b17 eb17 kb17 => ?_)
      replace hf := ms_lE eb17 hf
      refine lv_iload_n hx hb dX11_grow_35 rfl (lv_at hl 4 rfl) (hp_n (n := 36) rfl ?_)
      refine lv_iload_n hx hb dX11_grow_36 rfl (lv_at hl 5 rfl) (hp_n (n := 37) rfl ?_)
      obtain ⟨αh18, qh18, hf⟩ := ms_bE hf
      refine d_cv (pc' := 40) Bh15 (hp_runV (As := [.int a2, .int a3]) (rest := []) C Bh15 (n_X8_toGrowth n Γ l α Bh15.2.2.1 b17 (cw_k Bh15.2.2 kb17) a2 a3 αh18 qh18) lb_X8_toGrowth lv_X8_toGrowth lk_X11_274 (cw_k Bh15.2.2 kb17) rfl (by decide) rfl hl.1 rfl (Nat.le_of_ble_eq_true rfl) dX11_grow_37 ⟨Nat.le_refl _, Nat.le_refl _⟩) (by decide) rfl (fun Hh18 Lh18 Bh18 => ?_)
      refine lv_aload_n hx hb dX11_grow_40 rfl (lv_at hl 2 rfl) (hp_n (n := 41) rfl ?_)
      refine q_getr (κ := 12) (k := 1) (φ := 601) (pc' := 44) C Bh18 (cw_k Bh18.2.2 k0) fl_X11_16 rfl rfl rfl (cw_r Bh18.2.2 k0 rfl rfl (by decide) (by decide)) dX11_grow_41 rfl (fun b19 eb19 kb19 => ?_)
      replace hf := ms_lE eb19 hf
      refine lv_aload_n hx hb dX11_grow_44 rfl (lv_at hl 2 rfl) (hp_n (n := 45) rfl ?_)
      refine q_getr (κ := 12) (k := 12) (φ := 612) (pc' := 48) C Bh18 (cw_k Bh18.2.2 k0) fl_X11_62 rfl rfl rfl (cw_r Bh18.2.2 k0 rfl rfl (by decide) (by decide)) dX11_grow_45 rfl (fun b20 eb20 kb20 => ?_)
      replace hf := ms_lE eb20 hf
      refine lv_aload hx hb dX11_grow_48 (lv_at hl 1 rfl) (hp_n (n := 50) rfl ?_)
      refine lv_aload_n hx hb dX11_grow_50 rfl (lv_at hl 2 rfl) (hp_n (n := 51) rfl ?_)
      refine q_getr (κ := 12) (k := 3) (φ := 603) (pc' := 54) C Bh18 (cw_k Bh18.2.2 k0) fl_X11_26 rfl rfl rfl (cw_r Bh18.2.2 k0 rfl rfl (by decide) (by decide)) dX11_grow_51 rfl (fun b21 eb21 kb21 => ?_)
      replace hf := ms_lE eb21 hf
      obtain ⟨αh22, qh22, hf⟩ := ms_bE hf
      refine d_cv (pc' := 57) Bh18 (hp_runV (As := [.ref b20, va_rf (some bh2), .ref b21]) (rest := []) C Bh18 (n_X10_marksAlong n Γ l αh18 Bh18.2.2.1 b19 (cw_k Bh18.2.2 kb19) b20 (cw_k Bh18.2.2 kb20) (some bh2) (fun b h => by cases h; exact (cw_k Bh18.2.2 kbh2)) b21 (cw_k Bh18.2.2 kb21) αh22 qh22) lb_X10_marksAlong lv_X10_marksAlong lk_X11_270 (cw_k Bh18.2.2 kb19) rfl (by decide) rfl hl.1 rfl (Nat.le_of_ble_eq_true rfl) dX11_grow_54 ⟨Nat.le_refl _, Nat.le_refl _⟩) (by decide) rfl (fun Hh22 Lh22 Bh22 => ?_)
      refine lv_aload_n hx hb dX11_grow_57 rfl (lv_at hl 2 rfl) (hp_n (n := 58) rfl ?_)
      refine lv_aload_n hx hb dX11_grow_58 rfl (lv_at hl 2 rfl) (hp_n (n := 59) rfl ?_)
      refine q_getr (κ := 12) (k := 3) (φ := 603) (pc' := 62) C Bh22 (cw_k Bh22.2.2 k0) fl_X11_26 rfl rfl rfl (cw_r Bh22.2.2 k0 rfl rfl (by decide) (by decide)) dX11_grow_59 rfl (fun b23 eb23 kb23 => ?_)
      replace hf := ms_lE eb23 hf
      refine q_geti (κ := 6) (k := 1) (φ := 301) (pc' := 65) C Bh22 (cw_k Bh22.2.2 kb23) fl_X11_132 rfl rfl rfl dX11_grow_62 rfl (fun x24 ex24 => ?_)
      replace hf := ms_lE ex24 hf
      obtain ⟨rh25, αh25, qh25, hf⟩ := hq_cE hf
      refine d_ci (pc' := 68) Bh22 (hp_runV (As := [.int x24]) (rest := []) C Bh22 (n_X11_answer n Γ l αh22 Bh22.2.2.1 a0 (cw_k Bh22.2.2 k0) x24 (rh25, αh25) qh25) lb_X11_answer lv_X11_answer lk_X11_115 (cw_k Bh22.2.2 k0) rfl (by decide) rfl hl.1 rfl (Nat.le_of_ble_eq_true rfl) dX11_grow_65 ⟨Nat.le_refl _, Nat.le_refl _⟩) (by decide) rfl (fun Hh25 Lh25 Bh25 => ?_)
      cases hf
      exact q_iret C Bh25 hr hlk ⟨rfl, rfl, Bh25.2.2⟩ dX11_grow_68
    ·
      replace hf := ms_iF c16 hf
      refine lv_aload_n hx hb dX11_grow_24 rfl (lv_at hl 2 rfl) (hp_n (n := 25) rfl ?_)
      refine lv_iload hx hb dX11_grow_25 (lv_at hl 0 rfl) (hp_n (n := 27) rfl ?_)
      obtain ⟨rh26, αh26, qh26, hf⟩ := hq_cE hf
      refine d_ci (pc' := 30) Bh15 (hp_runV (As := [.int rh15]) (rest := []) C Bh15 (n_X11_refuse n Γ l α Bh15.2.2.1 a0 (cw_k Bh15.2.2 k0) rh15 (rh26, αh26) qh26) lb_X11_refuse lv_X11_refuse lk_X11_98 (cw_k Bh15.2.2 k0) rfl (by decide) rfl hl.1 rfl (Nat.le_of_ble_eq_true rfl) dX11_grow_27 ⟨Nat.le_refl _, Nat.le_refl _⟩) (by decide) rfl (fun Hh26 Lh26 Bh26 => ?_)
      cases hf
      exact q_iret C Bh26 hr hlk ⟨rfl, rfl, Bh26.2.2⟩ dX11_grow_30
def f_X11_peaks (n : Nat) (α : hp_T) (a0 : Nat) (a1 : Int32) (a2 : Int32) : Option (Int32 × hp_T) :=
  ms_l (hp_R α 601 a0) fun b1 =>
  ms_b (f_X10_logAt n α b1 a1) fun rh2 =>
  hq_m rh2 (
    ms_b (f_X11_wrongGrowth n α none (0 : Int32) a2) fun rh3 =>
    if rh3 = 0 then
      ms_l (hp_R α 601 a0) fun b5 =>
      ms_l (hp_R α 603 a0) fun b6 =>
      ms_b (f_X10_peaksOf n α b5 none a2 b6) fun αh7 =>
      ms_l (hp_R αh7 603 a0) fun b8 =>
      ms_l (hp_I αh7 301 b8) fun x9 =>
      hq_c (f_X11_answer n αh7 a0 x9) fun rh10 αh10 =>
      some (rh10, αh10)
    else
      hq_c (f_X11_refuse n α a0 rh3) fun rh11 αh11 =>
      some (rh11, αh11)) fun bh2 =>
  ms_b (f_X11_wrongGrowth n α (some bh2) (0 : Int32) a2) fun rh12 =>
  if rh12 = 0 then
    ms_l (hp_R α 601 a0) fun b14 =>
    ms_l (hp_R α 603 a0) fun b15 =>
    ms_b (f_X10_peaksOf n α b14 (some bh2) a2 b15) fun αh16 =>
    ms_l (hp_R αh16 603 a0) fun b17 =>
    ms_l (hp_I αh16 301 b17) fun x18 =>
    hq_c (f_X11_answer n αh16 a0 x18) fun rh19 αh19 =>
    some (rh19, αh19)
  else
    hq_c (f_X11_refuse n α a0 rh12) fun rh20 αh20 =>
    some (rh20, αh20)
set_option maxRecDepth 100000 in
set_option maxHeartbeats 4000000 in
theorem n_X11_peaks (n : Nat) (Γ : hp_G) (l : Launch) (α : hp_T) (g : GC α) (a0 : Nat) (k0 : hp_K α a0 = 12) (a1 : Int32) (a2 : Int32) (res : (Int32 × hp_T)) (hf : f_X11_peaks n α a0 a1 a2 = some res) : Met l yX11_peaks (hp_ws yX11_peaks cX11_peaks 5 (some .int)) (hp_rm 3 0 0) (hp_Pc Γ α [.ref a0, .int a1, .int a2]) (hp_Qi Γ (fun r β => r = res.1 ∧ β = res.2 ∧ cw w_X11_peaks α β)) 0 0 (hp_A Γ) := by
  unfold f_X11_peaks at hf
  refine hp_start (by decide) ?_
  intro p e s m below meth c C hr hlk B0 hnm
  have C : hp_C Γ p m c cX11_peaks 5 s ([.ref a0, .int a1, .int a2] : List Value).toArray RX11 := C
  have hx := C.1.1
  have hb := C.1.2.1
  have hown := C.1.2.2.2.1
  have hts := C.1.2.2.2.2
  have B : hp_B Γ (cw w_X11_peaks) s α α s.heap [] := ⟨B0.1, B0.2.1, cw_rf g⟩
  have hl := lv_entry ([.ref a0, .int a1, .int a2]) (n := 5) (Nat.le_of_ble_eq_true rfl)
  show W p l e (hp_rm 3 0 0) s m ([.ref a0, .int a1, .int a2] : List Value).toArray below meth c s.heap [] 0 0 (MQ below (hp_Qi Γ (fun r β => r = res.1 ∧ β = res.2 ∧ cw w_X11_peaks α β)) ([.ref a0, .int a1, .int a2] : List Value).toArray s 0 0 (hp_A Γ)) (entryFrame m ([.ref a0, .int a1, .int a2] : List Value).toArray 5)
  rw [lg_entry_eq]
  generalize (lg_sl ([.ref a0, .int a1, .int a2]) ++ List.replicate (5 - (lg_sl ([.ref a0, .int a1, .int a2])).length) Slot.unset).toArray = ls at hl ⊢
  have hl : lv_has ls 5 [(0, .ref a0), (1, .int a1), (2, .int a2)] := hl
  refine lv_aload_n hx hb dX11_peaks_0 rfl (lv_at hl 0 rfl) (hp_n (n := 1) rfl ?_)
  refine q_getr (κ := 12) (k := 1) (φ := 601) (pc' := 4) C B (cw_k B.2.2 k0) fl_X11_16 rfl rfl rfl (cw_r B.2.2 k0 rfl rfl (by decide) (by decide)) dX11_peaks_1 rfl (fun b1 eb1 kb1 => ?_)
  replace hf := ms_lE eb1 hf
  refine lv_iload_n hx hb dX11_peaks_4 rfl (lv_at hl 1 rfl) (hp_n (n := 5) rfl ?_)
  obtain ⟨rh2, qh2, hf⟩ := ms_bE hf
  refine d_pq (pc' := 8) B (hp_runV (As := [.int a1]) (rest := []) C B (n_X10_logAt n Γ l α B.2.2.1 b1 (cw_k B.2.2 kb1) a1 rh2 qh2) lb_X10_logAt lv_X10_logAt lk_X11_163 (cw_k B.2.2 kb1) rfl (by decide) rfl hl.1 rfl (Nat.le_of_ble_eq_true rfl) dX11_peaks_5 ⟨Nat.le_refl _, Nat.le_refl _⟩) rfl (fun Hh2 Lh2 Bh2 kh2 => ?_)
  rcases rh2 with _ | bh2
  ·
    replace hf := hq_N hf
    refine lv_astore_nN (lv' := [(3, .null), (0, .ref a0), (1, .int a1), (2, .int a2)]) hx hb dX11_peaks_8 rfl hl (by decide) rfl (fun ls hl => hp_n (n := 9) rfl ?_)
    refine lv_aload_nN hx hb dX11_peaks_9 rfl (lv_at hl 0 rfl) (hp_n (n := 10) rfl ?_)
    refine lv_iconst (v := 0) hx hb dX11_peaks_10 (by decide) (hp_n (n := 11) rfl ?_)
    refine lv_iload_n hx hb dX11_peaks_11 rfl (lv_at hl 3 rfl) (hp_n (n := 12) rfl ?_)
    obtain ⟨rh3, qh3, hf⟩ := ms_bE hf
    refine d_pi (pc' := 15) Bh2 (hp_runS (As := [va_rf none, .int (0 : Int32), .int a2]) (rest := []) C Bh2 (n_X11_wrongGrowth n Γ l α Bh2.2.2.1 none (fun b h => by cases h) (0 : Int32) a2 rh3 qh3) lb_X11_wrongGrowth ls_X11_wrongGrowth lk_X11_180 rfl (by decide) rfl hl.1 rfl (Nat.le_of_ble_eq_true rfl) dX11_peaks_12 ⟨Nat.le_refl _, Nat.le_refl _⟩) rfl (fun Hh3 Lh3 Bh3 => ?_)
    refine lv_istore (lv' := [(4, .int rh3), (3, .null), (0, .ref a0), (1, .int a1), (2, .int a2)]) hx hb dX11_peaks_15 hl (by decide) rfl (fun ls hl => hp_n (n := 17) rfl ?_)
    refine lv_iload hx hb dX11_peaks_17 (lv_at hl 0 rfl) (hp_n (n := 19) rfl ?_)
    refine lv_if_eq (tgt := 29) hx hb dX11_peaks_19 (by decide) (fun c4 => ?_) (fun c4 => hp_n (n := 22) rfl ?_)
    ·
      replace hf := ms_iT c4 hf
      refine lv_aload_n hx hb dX11_peaks_29 rfl (lv_at hl 2 rfl) (hp_n (n := 30) rfl ?_)
      refine q_getr (κ := 12) (k := 1) (φ := 601) (pc' := 33) C Bh3 (cw_k Bh3.2.2 k0) fl_X11_16 rfl rfl rfl (cw_r Bh3.2.2 k0 rfl rfl (by decide) (by decide)) dX11_peaks_30 rfl (fun b5 eb5 kb5 => ?_)
      replace hf := ms_lE eb5 hf
      refine lv_aload_nN hx hb dX11_peaks_33 rfl (lv_at hl 1 rfl) (hp_n (n := 34) rfl ?_)
      refine lv_iload_n hx hb dX11_peaks_34 rfl (lv_at hl 4 rfl) (hp_n (n := 35) rfl ?_)
      refine lv_aload_n hx hb dX11_peaks_35 rfl (lv_at hl 2 rfl) (hp_n (n := 36) rfl ?_)
      refine q_getr (κ := 12) (k := 3) (φ := 603) (pc' := 39) C Bh3 (cw_k Bh3.2.2 k0) fl_X11_26 rfl rfl rfl (cw_r Bh3.2.2 k0 rfl rfl (by decide) (by decide)) dX11_peaks_36 rfl (fun b6 eb6 kb6 => ?_)
      replace hf := ms_lE eb6 hf
      obtain ⟨αh7, qh7, hf⟩ := ms_bE hf
      refine d_cv (pc' := 42) Bh3 (hp_runV (As := [va_rf none, .int a2, .ref b6]) (rest := []) C Bh3 (n_X10_peaksOf n Γ l α Bh3.2.2.1 b5 (cw_k Bh3.2.2 kb5) none (fun b h => by cases h) a2 b6 (cw_k Bh3.2.2 kb6) αh7 qh7) lb_X10_peaksOf lv_X10_peaksOf lk_X11_287 (cw_k Bh3.2.2 kb5) rfl (by decide) rfl hl.1 rfl (Nat.le_of_ble_eq_true rfl) dX11_peaks_39 ⟨Nat.le_refl _, Nat.le_refl _⟩) (by decide) rfl (fun Hh7 Lh7 Bh7 => ?_)
      refine lv_aload_n hx hb dX11_peaks_42 rfl (lv_at hl 2 rfl) (hp_n (n := 43) rfl ?_)
      refine lv_aload_n hx hb dX11_peaks_43 rfl (lv_at hl 2 rfl) (hp_n (n := 44) rfl ?_)
      refine q_getr (κ := 12) (k := 3) (φ := 603) (pc' := 47) C Bh7 (cw_k Bh7.2.2 k0) fl_X11_26 rfl rfl rfl (cw_r Bh7.2.2 k0 rfl rfl (by decide) (by decide)) dX11_peaks_44 rfl (fun b8 eb8 kb8 => ?_)
      replace hf := ms_lE eb8 hf
      refine q_geti (κ := 6) (k := 1) (φ := 301) (pc' := 50) C Bh7 (cw_k Bh7.2.2 kb8) fl_X11_132 rfl rfl rfl dX11_peaks_47 rfl (fun x9 ex9 => ?_)
      replace hf := ms_lE ex9 hf
      obtain ⟨rh10, αh10, qh10, hf⟩ := hq_cE hf
      refine d_ci (pc' := 53) Bh7 (hp_runV (As := [.int x9]) (rest := []) C Bh7 (n_X11_answer n Γ l αh7 Bh7.2.2.1 a0 (cw_k Bh7.2.2 k0) x9 (rh10, αh10) qh10) lb_X11_answer lv_X11_answer lk_X11_115 (cw_k Bh7.2.2 k0) rfl (by decide) rfl hl.1 rfl (Nat.le_of_ble_eq_true rfl) dX11_peaks_50 ⟨Nat.le_refl _, Nat.le_refl _⟩) (by decide) rfl (fun Hh10 Lh10 Bh10 => ?_)
      cases hf
      exact q_iret C Bh10 hr hlk ⟨rfl, rfl, Bh10.2.2⟩ dX11_peaks_53
    ·
      replace hf := ms_iF c4 hf
      refine lv_aload_n hx hb dX11_peaks_22 rfl (lv_at hl 2 rfl) (hp_n (n := 23) rfl ?_)
      refine lv_iload hx hb dX11_peaks_23 (lv_at hl 0 rfl) (hp_n (n := 25) rfl ?_)
      obtain ⟨rh11, αh11, qh11, hf⟩ := hq_cE hf
      refine d_ci (pc' := 28) Bh3 (hp_runV (As := [.int rh3]) (rest := []) C Bh3 (n_X11_refuse n Γ l α Bh3.2.2.1 a0 (cw_k Bh3.2.2 k0) rh3 (rh11, αh11) qh11) lb_X11_refuse lv_X11_refuse lk_X11_98 (cw_k Bh3.2.2 k0) rfl (by decide) rfl hl.1 rfl (Nat.le_of_ble_eq_true rfl) dX11_peaks_25 ⟨Nat.le_refl _, Nat.le_refl _⟩) (by decide) rfl (fun Hh11 Lh11 Bh11 => ?_)
      cases hf
      exact q_iret C Bh11 hr hlk ⟨rfl, rfl, Bh11.2.2⟩ dX11_peaks_28
  ·
    replace hf := hq_S hf
    have kbh2 := kh2 bh2 rfl
    refine lv_astore_n (lv' := [(3, .ref bh2), (0, .ref a0), (1, .int a1), (2, .int a2)]) hx hb dX11_peaks_8 rfl hl (by decide) rfl (fun ls hl => hp_n (n := 9) rfl ?_)
    refine lv_aload_n hx hb dX11_peaks_9 rfl (lv_at hl 0 rfl) (hp_n (n := 10) rfl ?_)
    refine lv_iconst (v := 0) hx hb dX11_peaks_10 (by decide) (hp_n (n := 11) rfl ?_)
    refine lv_iload_n hx hb dX11_peaks_11 rfl (lv_at hl 3 rfl) (hp_n (n := 12) rfl ?_)
    obtain ⟨rh12, qh12, hf⟩ := ms_bE hf
    refine d_pi (pc' := 15) Bh2 (hp_runS (As := [va_rf (some bh2), .int (0 : Int32), .int a2]) (rest := []) C Bh2 (n_X11_wrongGrowth n Γ l α Bh2.2.2.1 (some bh2) (fun b h => by cases h; exact (cw_k Bh2.2.2 kbh2)) (0 : Int32) a2 rh12 qh12) lb_X11_wrongGrowth ls_X11_wrongGrowth lk_X11_180 rfl (by decide) rfl hl.1 rfl (Nat.le_of_ble_eq_true rfl) dX11_peaks_12 ⟨Nat.le_refl _, Nat.le_refl _⟩) rfl (fun Hh12 Lh12 Bh12 => ?_)
    refine lv_istore (lv' := [(4, .int rh12), (3, .ref bh2), (0, .ref a0), (1, .int a1), (2, .int a2)]) hx hb dX11_peaks_15 hl (by decide) rfl (fun ls hl => hp_n (n := 17) rfl ?_)
    refine lv_iload hx hb dX11_peaks_17 (lv_at hl 0 rfl) (hp_n (n := 19) rfl ?_)
    refine lv_if_eq (tgt := 29) hx hb dX11_peaks_19 (by decide) (fun c13 => ?_) (fun c13 => hp_n (n := 22) rfl ?_)
    ·
      replace hf := ms_iT c13 hf
      refine lv_aload_n hx hb dX11_peaks_29 rfl (lv_at hl 2 rfl) (hp_n (n := 30) rfl ?_)
      refine q_getr (κ := 12) (k := 1) (φ := 601) (pc' := 33) C Bh12 (cw_k Bh12.2.2 k0) fl_X11_16 rfl rfl rfl (cw_r Bh12.2.2 k0 rfl rfl (by decide) (by decide)) dX11_peaks_30 rfl (fun b14 eb14 kb14 => ?_)
      replace hf := ms_lE eb14 hf
      refine lv_aload_n hx hb dX11_peaks_33 rfl (lv_at hl 1 rfl) (hp_n (n := 34) rfl ?_)
      refine lv_iload_n hx hb dX11_peaks_34 rfl (lv_at hl 4 rfl) (hp_n (n := 35) rfl ?_)
      refine lv_aload_n hx hb dX11_peaks_35 rfl (lv_at hl 2 rfl) (hp_n (n := 36) rfl ?_)
      refine q_getr (κ := 12) (k := 3) (φ := 603) (pc' := 39) C Bh12 (cw_k Bh12.2.2 k0) fl_X11_26 rfl rfl rfl (cw_r Bh12.2.2 k0 rfl rfl (by decide) (by decide)) dX11_peaks_36 rfl (fun b15 eb15 kb15 => ?_)
      replace hf := ms_lE eb15 hf
      obtain ⟨αh16, qh16, hf⟩ := ms_bE hf
      refine d_cv (pc' := 42) Bh12 (hp_runV (As := [va_rf (some bh2), .int a2, .ref b15]) (rest := []) C Bh12 (n_X10_peaksOf n Γ l α Bh12.2.2.1 b14 (cw_k Bh12.2.2 kb14) (some bh2) (fun b h => by cases h; exact (cw_k Bh12.2.2 kbh2)) a2 b15 (cw_k Bh12.2.2 kb15) αh16 qh16) lb_X10_peaksOf lv_X10_peaksOf lk_X11_287 (cw_k Bh12.2.2 kb14) rfl (by decide) rfl hl.1 rfl (Nat.le_of_ble_eq_true rfl) dX11_peaks_39 ⟨Nat.le_refl _, Nat.le_refl _⟩) (by decide) rfl (fun Hh16 Lh16 Bh16 => ?_)
      refine lv_aload_n hx hb dX11_peaks_42 rfl (lv_at hl 2 rfl) (hp_n (n := 43) rfl ?_)
      refine lv_aload_n hx hb dX11_peaks_43 rfl (lv_at hl 2 rfl) (hp_n (n := 44) rfl ?_)
      refine q_getr (κ := 12) (k := 3) (φ := 603) (pc' := 47) C Bh16 (cw_k Bh16.2.2 k0) fl_X11_26 rfl rfl rfl (cw_r Bh16.2.2 k0 rfl rfl (by decide) (by decide)) dX11_peaks_44 rfl (fun b17 eb17 kb17 => ?_)
      replace hf := ms_lE eb17 hf
      refine q_geti (κ := 6) (k := 1) (φ := 301) (pc' := 50) C Bh16 (cw_k Bh16.2.2 kb17) fl_X11_132 rfl rfl rfl dX11_peaks_47 rfl (fun x18 ex18 => ?_)
      replace hf := ms_lE ex18 hf
      obtain ⟨rh19, αh19, qh19, hf⟩ := hq_cE hf
      refine d_ci (pc' := 53) Bh16 (hp_runV (As := [.int x18]) (rest := []) C Bh16 (n_X11_answer n Γ l αh16 Bh16.2.2.1 a0 (cw_k Bh16.2.2 k0) x18 (rh19, αh19) qh19) lb_X11_answer lv_X11_answer lk_X11_115 (cw_k Bh16.2.2 k0) rfl (by decide) rfl hl.1 rfl (Nat.le_of_ble_eq_true rfl) dX11_peaks_50 ⟨Nat.le_refl _, Nat.le_refl _⟩) (by decide) rfl (fun Hh19 Lh19 Bh19 => ?_)
      cases hf
      exact q_iret C Bh19 hr hlk ⟨rfl, rfl, Bh19.2.2⟩ dX11_peaks_53
    ·
      replace hf := ms_iF c13 hf
      refine lv_aload_n hx hb dX11_peaks_22 rfl (lv_at hl 2 rfl) (hp_n (n := 23) rfl ?_)
      refine lv_iload hx hb dX11_peaks_23 (lv_at hl 0 rfl) (hp_n (n := 25) rfl ?_)
      obtain ⟨rh20, αh20, qh20, hf⟩ := hq_cE hf
      refine d_ci (pc' := 28) Bh12 (hp_runV (As := [.int rh12]) (rest := []) C Bh12 (n_X11_refuse n Γ l α Bh12.2.2.1 a0 (cw_k Bh12.2.2 k0) rh12 (rh20, αh20) qh20) lb_X11_refuse lv_X11_refuse lk_X11_98 (cw_k Bh12.2.2 k0) rfl (by decide) rfl hl.1 rfl (Nat.le_of_ble_eq_true rfl) dX11_peaks_25 ⟨Nat.le_refl _, Nat.le_refl _⟩) (by decide) rfl (fun Hh20 Lh20 Bh20 => ?_)
      cases hf
      exact q_iret C Bh20 hr hlk ⟨rfl, rfl, Bh20.2.2⟩ dX11_peaks_28
def f_X5_change (n : Nat) (α : hp_T) (a0 : Nat) (a1 : Int32) (a2 : Int32) : Option hp_T :=
  if a1 < 0 then
    some α
  else
    ms_l (hp_I α 301 a0) fun x2 =>
    if x2 ≤ a1 then
      some α
    else
      ms_l (hp_R α 300 a0) fun b4 =>
      if (64 : Int32) ≤ a1 then
        some α
      else
        ms_l (hp_R α 300 a0) fun b6 =>
        ms_g a1 64 <|
        ms_l (hp_sE α 20 b6 (a1).toNatClampNeg a2) fun αh8 =>
        some αh8
set_option maxRecDepth 100000 in
set_option maxHeartbeats 4000000 in
theorem n_X5_change (n : Nat) (Γ : hp_G) (l : Launch) (α : hp_T) (g : GC α) (a0 : Nat) (k0 : hp_K α a0 = 6) (a1 : Int32) (a2 : Int32) (res : hp_T) (hf : f_X5_change n α a0 a1 a2 = some res) : Met l yX5_change (hp_ws yX5_change cX5_change 3 none) (hp_rm 0 0 0) (hp_Pc Γ α [.ref a0, .int a1, .int a2]) (hp_Qv Γ (fun β => β = res ∧ cw w_X5_change α β)) 0 0 (hp_A Γ) := by
  unfold f_X5_change at hf
  refine hp_start (by decide) ?_
  intro p e s m below meth c C hr hlk B0 hnm
  have C : hp_C Γ p m c cX5_change 3 s ([.ref a0, .int a1, .int a2] : List Value).toArray RX5 := C
  have hx := C.1.1
  have hb := C.1.2.1
  have hown := C.1.2.2.2.1
  have hts := C.1.2.2.2.2
  have B : hp_B Γ (cw w_X5_change) s α α s.heap [] := ⟨B0.1, B0.2.1, cw_rf g⟩
  have hl := lv_entry ([.ref a0, .int a1, .int a2]) (n := 3) (Nat.le_of_ble_eq_true rfl)
  show W p l e (hp_rm 0 0 0) s m ([.ref a0, .int a1, .int a2] : List Value).toArray below meth c s.heap [] 0 0 (MQ below (hp_Qv Γ (fun β => β = res ∧ cw w_X5_change α β)) ([.ref a0, .int a1, .int a2] : List Value).toArray s 0 0 (hp_A Γ)) (entryFrame m ([.ref a0, .int a1, .int a2] : List Value).toArray 3)
  rw [lg_entry_eq]
  generalize (lg_sl ([.ref a0, .int a1, .int a2]) ++ List.replicate (3 - (lg_sl ([.ref a0, .int a1, .int a2])).length) Slot.unset).toArray = ls at hl ⊢
  have hl : lv_has ls 3 [(0, .ref a0), (1, .int a1), (2, .int a2)] := hl
  refine lv_iload_n hx hb dX5_change_0 rfl (lv_at hl 1 rfl) (hp_n (n := 1) rfl ?_)
  refine lv_if_lt (tgt := 28) hx hb dX5_change_1 (by decide) (fun c1 => ?_) (fun c1 => hp_n (n := 4) rfl ?_)
  ·
    replace hf := ms_iT c1 hf
    cases hf
    exact q_vret C B hr hlk ⟨rfl, B.2.2⟩ dX5_change_28
  ·
    replace hf := ms_iF c1 hf
    refine lv_iload_n hx hb dX5_change_4 rfl (lv_at hl 1 rfl) (hp_n (n := 5) rfl ?_)
    refine lv_aload_n hx hb dX5_change_5 rfl (lv_at hl 0 rfl) (hp_n (n := 6) rfl ?_)
    refine q_geti (κ := 6) (k := 1) (φ := 301) (pc' := 9) C B (cw_k B.2.2 k0) fl_X5_15 rfl rfl rfl dX5_change_6 rfl (fun x2 ex2 => ?_)
    replace hf := ms_lE ex2 hf
    refine lv_icmp_ge (tgt := 28) hx hb dX5_change_9 (by decide) (fun c3 => ?_) (fun c3 => hp_n (n := 12) rfl ?_)
    ·
      replace hf := ms_iT c3 hf
      cases hf
      exact q_vret C B hr hlk ⟨rfl, B.2.2⟩ dX5_change_28
    ·
      replace hf := ms_iF c3 hf
      refine lv_iload_n hx hb dX5_change_12 rfl (lv_at hl 1 rfl) (hp_n (n := 13) rfl ?_)
      refine lv_aload_n hx hb dX5_change_13 rfl (lv_at hl 0 rfl) (hp_n (n := 14) rfl ?_)
      refine q_getr (κ := 6) (k := 0) (φ := 300) (pc' := 17) C B (cw_k B.2.2 k0) fl_X5_9 rfl rfl rfl (cw_r B.2.2 k0 rfl rfl (by decide) (by decide)) dX5_change_14 rfl (fun b4 eb4 kb4 => ?_)
      replace hf := ms_lE eb4 hf
      refine q_alen (κ := 20) (t := 0) (n := 64) (x := 64) (ty := .int) (pc' := 18) C B (cw_k B.2.2 kb4) (by decide) rfl rfl rfl dX5_change_17 rfl ?_
      refine lv_icmp_ge (tgt := 28) hx hb dX5_change_18 (by decide) (fun c5 => ?_) (fun c5 => hp_n (n := 21) rfl ?_)
      ·
        replace hf := ms_iT c5 hf
        cases hf
        exact q_vret C B hr hlk ⟨rfl, B.2.2⟩ dX5_change_28
      ·
        replace hf := ms_iF c5 hf
        refine lv_aload_n hx hb dX5_change_21 rfl (lv_at hl 0 rfl) (hp_n (n := 22) rfl ?_)
        refine q_getr (κ := 6) (k := 0) (φ := 300) (pc' := 25) C B (cw_k B.2.2 k0) fl_X5_9 rfl rfl rfl (cw_r B.2.2 k0 rfl rfl (by decide) (by decide)) dX5_change_22 rfl (fun b6 eb6 kb6 => ?_)
        replace hf := ms_lE eb6 hf
        refine lv_iload_n hx hb dX5_change_25 rfl (lv_at hl 1 rfl) (hp_n (n := 26) rfl ?_)
        refine lv_iload_n hx hb dX5_change_26 rfl (lv_at hl 2 rfl) (hp_n (n := 27) rfl ?_)
        obtain ⟨g7, hf⟩ := ms_gE hf
        refine q_ias (κ := 20) (n := 64) (pc' := 28) C B (cw_k B.2.2 kb6) (by decide) rfl (vi_of g7.1 g7.2) rfl (cw_sE B.2.2 (by decide)) dX5_change_27 rfl (fun αh8 Hh8 Lh8 eh8 Bh8 => ?_)
        replace hf := ms_lE eh8 hf
        cases hf
        exact q_vret C Bh8 hr hlk ⟨rfl, Bh8.2.2⟩ dX5_change_28
def f_X11_push (n : Nat) (α : hp_T) (a0 : Nat) (a1 : Int32) : Option (Int32 × hp_T) :=
  ms_b (f_X11_isMark n α a0 a1) fun rh1 =>
  if rh1 = 0 then
    hq_c (f_X11_refuse n α a0 (1 : Int32)) fun rh12 αh12 =>
    some (rh12, αh12)
  else
    ms_l (hp_R α 603 a0) fun b3 =>
    ms_l (hp_I α 301 b3) fun x4 =>
    if x4 < (64 : Int32) then
      ms_l (hp_R α 603 a0) fun b6 =>
      ms_b (f_X5_put n α b6 a1) fun αh7 =>
      ms_l (hp_R αh7 603 a0) fun b8 =>
      ms_l (hp_I αh7 301 b8) fun x9 =>
      hq_c (f_X11_answer n αh7 a0 x9) fun rh10 αh10 =>
      some (rh10, αh10)
    else
      hq_c (f_X11_refuse n α a0 (3 : Int32)) fun rh11 αh11 =>
      some (rh11, αh11)
set_option maxRecDepth 100000 in
set_option maxHeartbeats 4000000 in
theorem n_X11_push (n : Nat) (Γ : hp_G) (l : Launch) (α : hp_T) (g : GC α) (a0 : Nat) (k0 : hp_K α a0 = 12) (a1 : Int32) (res : (Int32 × hp_T)) (hf : f_X11_push n α a0 a1 = some res) : Met l yX11_push (hp_ws yX11_push cX11_push 2 (some .int)) (hp_rm 1 0 0) (hp_Pc Γ α [.ref a0, .int a1]) (hp_Qi Γ (fun r β => r = res.1 ∧ β = res.2 ∧ cw w_X11_push α β)) 0 0 (hp_A Γ) := by
  unfold f_X11_push at hf
  refine hp_start (by decide) ?_
  intro p e s m below meth c C hr hlk B0 hnm
  have C : hp_C Γ p m c cX11_push 2 s ([.ref a0, .int a1] : List Value).toArray RX11 := C
  have hx := C.1.1
  have hb := C.1.2.1
  have hown := C.1.2.2.2.1
  have hts := C.1.2.2.2.2
  have B : hp_B Γ (cw w_X11_push) s α α s.heap [] := ⟨B0.1, B0.2.1, cw_rf g⟩
  have hl := lv_entry ([.ref a0, .int a1]) (n := 2) (Nat.le_of_ble_eq_true rfl)
  show W p l e (hp_rm 1 0 0) s m ([.ref a0, .int a1] : List Value).toArray below meth c s.heap [] 0 0 (MQ below (hp_Qi Γ (fun r β => r = res.1 ∧ β = res.2 ∧ cw w_X11_push α β)) ([.ref a0, .int a1] : List Value).toArray s 0 0 (hp_A Γ)) (entryFrame m ([.ref a0, .int a1] : List Value).toArray 2)
  rw [lg_entry_eq]
  generalize (lg_sl ([.ref a0, .int a1]) ++ List.replicate (2 - (lg_sl ([.ref a0, .int a1])).length) Slot.unset).toArray = ls at hl ⊢
  have hl : lv_has ls 2 [(0, .ref a0), (1, .int a1)] := hl
  refine lv_aload_n hx hb dX11_push_0 rfl (lv_at hl 0 rfl) (hp_n (n := 1) rfl ?_)
  refine lv_iload_n hx hb dX11_push_1 rfl (lv_at hl 1 rfl) (hp_n (n := 2) rfl ?_)
  obtain ⟨rh1, qh1, hf⟩ := ms_bE hf
  refine d_pi (pc' := 5) B (hp_runV (As := [.int a1]) (rest := []) C B (n_X11_isMark n Γ l α B.2.2.1 a0 (cw_k B.2.2 k0) a1 rh1 qh1) lb_X11_isMark lv_X11_isMark lk_X11_188 (cw_k B.2.2 k0) rfl (by decide) rfl hl.1 rfl (Nat.le_of_ble_eq_true rfl) dX11_push_2 ⟨Nat.le_refl _, Nat.le_refl _⟩) rfl (fun Hh1 Lh1 Bh1 => ?_)
  refine lv_if_ne (tgt := 14) hx hb dX11_push_5 (by decide) (fun c2 => ?_) (fun c2 => hp_n (n := 8) rfl ?_)
  ·
    replace hf := ms_iF c2 hf
    refine lv_aload_n hx hb dX11_push_14 rfl (lv_at hl 0 rfl) (hp_n (n := 15) rfl ?_)
    refine q_getr (κ := 12) (k := 3) (φ := 603) (pc' := 18) C Bh1 (cw_k Bh1.2.2 k0) fl_X11_26 rfl rfl rfl (cw_r Bh1.2.2 k0 rfl rfl (by decide) (by decide)) dX11_push_15 rfl (fun b3 eb3 kb3 => ?_)
    replace hf := ms_lE eb3 hf
    refine q_geti (κ := 6) (k := 1) (φ := 301) (pc' := 21) C Bh1 (cw_k Bh1.2.2 kb3) fl_X11_132 rfl rfl rfl dX11_push_18 rfl (fun x4 ex4 => ?_)
    replace hf := ms_lE ex4 hf
    refine lv_bipush (v := 64) hx hb dX11_push_21 (by decide) (hp_n (n := 23) rfl ?_)
    refine lv_icmp_lt (tgt := 32) hx hb dX11_push_23 (by decide) (fun c5 => ?_) (fun c5 => hp_n (n := 26) rfl ?_)
    ·
      replace hf := ms_iT c5 hf
      refine lv_aload_n hx hb dX11_push_32 rfl (lv_at hl 0 rfl) (hp_n (n := 33) rfl ?_)
      refine q_getr (κ := 12) (k := 3) (φ := 603) (pc' := 36) C Bh1 (cw_k Bh1.2.2 k0) fl_X11_26 rfl rfl rfl (cw_r Bh1.2.2 k0 rfl rfl (by decide) (by decide)) dX11_push_33 rfl (fun b6 eb6 kb6 => ?_)
      replace hf := ms_lE eb6 hf
      refine lv_iload_n hx hb dX11_push_36 rfl (lv_at hl 1 rfl) (hp_n (n := 37) rfl ?_)
      obtain ⟨αh7, qh7, hf⟩ := ms_bE hf
      refine d_cv (pc' := 40) Bh1 (hp_runV (As := [.int a1]) (rest := []) C Bh1 (n_X5_put n Γ l α Bh1.2.2.1 b6 (cw_k Bh1.2.2 kb6) a1 αh7 qh7) lb_X5_put lv_X5_put lk_X11_259 (cw_k Bh1.2.2 kb6) rfl (by decide) rfl hl.1 rfl (Nat.le_of_ble_eq_true rfl) dX11_push_37 ⟨Nat.le_refl _, Nat.le_refl _⟩) (by decide) rfl (fun Hh7 Lh7 Bh7 => ?_)
      refine lv_aload_n hx hb dX11_push_40 rfl (lv_at hl 0 rfl) (hp_n (n := 41) rfl ?_)
      refine lv_aload_n hx hb dX11_push_41 rfl (lv_at hl 0 rfl) (hp_n (n := 42) rfl ?_)
      refine q_getr (κ := 12) (k := 3) (φ := 603) (pc' := 45) C Bh7 (cw_k Bh7.2.2 k0) fl_X11_26 rfl rfl rfl (cw_r Bh7.2.2 k0 rfl rfl (by decide) (by decide)) dX11_push_42 rfl (fun b8 eb8 kb8 => ?_)
      replace hf := ms_lE eb8 hf
      refine q_geti (κ := 6) (k := 1) (φ := 301) (pc' := 48) C Bh7 (cw_k Bh7.2.2 kb8) fl_X11_132 rfl rfl rfl dX11_push_45 rfl (fun x9 ex9 => ?_)
      replace hf := ms_lE ex9 hf
      obtain ⟨rh10, αh10, qh10, hf⟩ := hq_cE hf
      refine d_ci (pc' := 51) Bh7 (hp_runV (As := [.int x9]) (rest := []) C Bh7 (n_X11_answer n Γ l αh7 Bh7.2.2.1 a0 (cw_k Bh7.2.2 k0) x9 (rh10, αh10) qh10) lb_X11_answer lv_X11_answer lk_X11_115 (cw_k Bh7.2.2 k0) rfl (by decide) rfl hl.1 rfl (Nat.le_of_ble_eq_true rfl) dX11_push_48 ⟨Nat.le_refl _, Nat.le_refl _⟩) (by decide) rfl (fun Hh10 Lh10 Bh10 => ?_)
      cases hf
      exact q_iret C Bh10 hr hlk ⟨rfl, rfl, Bh10.2.2⟩ dX11_push_51
    ·
      replace hf := ms_iF c5 hf
      refine lv_aload_n hx hb dX11_push_26 rfl (lv_at hl 0 rfl) (hp_n (n := 27) rfl ?_)
      refine lv_iconst (v := 3) hx hb dX11_push_27 (by decide) (hp_n (n := 28) rfl ?_)
      obtain ⟨rh11, αh11, qh11, hf⟩ := hq_cE hf
      refine d_ci (pc' := 31) Bh1 (hp_runV (As := [.int (3 : Int32)]) (rest := []) C Bh1 (n_X11_refuse n Γ l α Bh1.2.2.1 a0 (cw_k Bh1.2.2 k0) (3 : Int32) (rh11, αh11) qh11) lb_X11_refuse lv_X11_refuse lk_X11_98 (cw_k Bh1.2.2 k0) rfl (by decide) rfl hl.1 rfl (Nat.le_of_ble_eq_true rfl) dX11_push_28 ⟨Nat.le_refl _, Nat.le_refl _⟩) (by decide) rfl (fun Hh11 Lh11 Bh11 => ?_)
      cases hf
      exact q_iret C Bh11 hr hlk ⟨rfl, rfl, Bh11.2.2⟩ dX11_push_31
  ·
    replace hf := ms_iT c2 hf
    refine lv_aload_n hx hb dX11_push_8 rfl (lv_at hl 0 rfl) (hp_n (n := 9) rfl ?_)
    refine lv_iconst (v := 1) hx hb dX11_push_9 (by decide) (hp_n (n := 10) rfl ?_)
    obtain ⟨rh12, αh12, qh12, hf⟩ := hq_cE hf
    refine d_ci (pc' := 13) Bh1 (hp_runV (As := [.int (1 : Int32)]) (rest := []) C Bh1 (n_X11_refuse n Γ l α Bh1.2.2.1 a0 (cw_k Bh1.2.2 k0) (1 : Int32) (rh12, αh12) qh12) lb_X11_refuse lv_X11_refuse lk_X11_98 (cw_k Bh1.2.2 k0) rfl (by decide) rfl hl.1 rfl (Nat.le_of_ble_eq_true rfl) dX11_push_10 ⟨Nat.le_refl _, Nat.le_refl _⟩) (by decide) rfl (fun Hh12 Lh12 Bh12 => ?_)
    cases hf
    exact q_iret C Bh12 hr hlk ⟨rfl, rfl, Bh12.2.2⟩ dX11_push_13
def f_X11_poke_J12 (n : Nat) (a0 : Nat) (αh1 : hp_T) : Option (Int32 × hp_T) :=
  hq_c (f_X11_refuse n αh1 a0 (1 : Int32)) fun rh2 αh2 =>
  some (rh2, αh2)
def f_X11_poke (n : Nat) (α : hp_T) (a0 : Nat) (a1 : Int32) (a2 : Int32) : Option (Int32 × hp_T) :=
  if a1 < 0 then
    f_X11_poke_J12 n a0 α
  else
    ms_b (f_X11_isMark n α a0 a2) fun rh4 =>
    if rh4 = 0 then
      f_X11_poke_J12 n a0 α
    else
      ms_l (hp_R α 603 a0) fun b6 =>
      ms_l (hp_I α 301 b6) fun x7 =>
      if a1 < x7 then
        ms_l (hp_R α 603 a0) fun b9 =>
        ms_b (f_X5_at n α b9 a1) fun rh10 =>
        ms_l (hp_R α 603 a0) fun b11 =>
        ms_b (f_X5_change n α b11 a1 a2) fun αh12 =>
        hq_c (f_X11_answer n αh12 a0 rh10) fun rh13 αh13 =>
        some (rh13, αh13)
      else
        hq_c (f_X11_refuse n α a0 (5 : Int32)) fun rh14 αh14 =>
        some (rh14, αh14)
set_option maxRecDepth 100000 in
set_option maxHeartbeats 4000000 in
theorem n_X11_poke (n : Nat) (Γ : hp_G) (l : Launch) (α : hp_T) (g : GC α) (a0 : Nat) (k0 : hp_K α a0 = 12) (a1 : Int32) (a2 : Int32) (res : (Int32 × hp_T)) (hf : f_X11_poke n α a0 a1 a2 = some res) : Met l yX11_poke (hp_ws yX11_poke cX11_poke 4 (some .int)) (hp_rm 1 0 0) (hp_Pc Γ α [.ref a0, .int a1, .int a2]) (hp_Qi Γ (fun r β => r = res.1 ∧ β = res.2 ∧ cw w_X11_poke α β)) 0 0 (hp_A Γ) := by
  unfold f_X11_poke at hf
  refine hp_start (by decide) ?_
  intro p e s m below meth c C hr hlk B0 hnm
  have C : hp_C Γ p m c cX11_poke 4 s ([.ref a0, .int a1, .int a2] : List Value).toArray RX11 := C
  have hx := C.1.1
  have hb := C.1.2.1
  have hown := C.1.2.2.2.1
  have hts := C.1.2.2.2.2
  have B : hp_B Γ (cw w_X11_poke) s α α s.heap [] := ⟨B0.1, B0.2.1, cw_rf g⟩
  have hl := lv_entry ([.ref a0, .int a1, .int a2]) (n := 4) (Nat.le_of_ble_eq_true rfl)
  show W p l e (hp_rm 1 0 0) s m ([.ref a0, .int a1, .int a2] : List Value).toArray below meth c s.heap [] 0 0 (MQ below (hp_Qi Γ (fun r β => r = res.1 ∧ β = res.2 ∧ cw w_X11_poke α β)) ([.ref a0, .int a1, .int a2] : List Value).toArray s 0 0 (hp_A Γ)) (entryFrame m ([.ref a0, .int a1, .int a2] : List Value).toArray 4)
  rw [lg_entry_eq]
  generalize (lg_sl ([.ref a0, .int a1, .int a2]) ++ List.replicate (4 - (lg_sl ([.ref a0, .int a1, .int a2])).length) Slot.unset).toArray = ls at hl ⊢
  have hl : lv_has ls 4 [(0, .ref a0), (1, .int a1), (2, .int a2)] := hl
  refine lv_iload_n hx hb dX11_poke_0 rfl (lv_at hl 1 rfl) (hp_n (n := 1) rfl ?_)
  have J12 : ∀ (αh1 : hp_T) (Hh1 : Heap) (Lh1 : List Loc) (Bh1 : hp_B Γ (cw w_X11_poke) s α αh1 Hh1 Lh1) (ls : Array Slot) (hl : lv_has ls 4 [(0, .ref a0)]) (hf : f_X11_poke_J12 n a0 αh1 = some res), W p l e (hp_rm 1 0 0) s m ([.ref a0, .int a1, .int a2] : List Value).toArray below meth c Hh1 Lh1 0 0 (MQ below (hp_Qi Γ (fun r β => r = res.1 ∧ β = res.2 ∧ cw w_X11_poke α β)) ([.ref a0, .int a1, .int a2] : List Value).toArray s 0 0 (hp_A Γ)) (F0 m 12 ls []) := by
    intro αh1 Hh1 Lh1 Bh1 ls hl hf
    unfold f_X11_poke_J12 at hf
    refine lv_aload_n hx hb dX11_poke_12 rfl (lv_at hl 0 rfl) (hp_n (n := 13) rfl ?_)
    refine lv_iconst (v := 1) hx hb dX11_poke_13 (by decide) (hp_n (n := 14) rfl ?_)
    obtain ⟨rh2, αh2, qh2, hf⟩ := hq_cE hf
    refine d_ci (pc' := 17) Bh1 (hp_runV (As := [.int (1 : Int32)]) (rest := []) C Bh1 (n_X11_refuse n Γ l αh1 Bh1.2.2.1 a0 (cw_k Bh1.2.2 k0) (1 : Int32) (rh2, αh2) qh2) lb_X11_refuse lv_X11_refuse lk_X11_98 (cw_k Bh1.2.2 k0) rfl (by decide) rfl hl.1 rfl (Nat.le_of_ble_eq_true rfl) dX11_poke_14 ⟨Nat.le_refl _, Nat.le_refl _⟩) (by decide) rfl (fun Hh2 Lh2 Bh2 => ?_)
    cases hf
    exact q_iret C Bh2 hr hlk ⟨rfl, rfl, Bh2.2.2⟩ dX11_poke_17
  refine lv_if_lt (tgt := 12) hx hb dX11_poke_1 (by decide) (fun c3 => ?_) (fun c3 => hp_n (n := 4) rfl ?_)
  ·
    replace hf := ms_iT c3 hf
    exact J12 α s.heap [] B ls (lv_sub hl [0] rfl) hf
  ·
    replace hf := ms_iF c3 hf
    refine lv_aload_n hx hb dX11_poke_4 rfl (lv_at hl 0 rfl) (hp_n (n := 5) rfl ?_)
    refine lv_iload_n hx hb dX11_poke_5 rfl (lv_at hl 2 rfl) (hp_n (n := 6) rfl ?_)
    obtain ⟨rh4, qh4, hf⟩ := ms_bE hf
    refine d_pi (pc' := 9) B (hp_runV (As := [.int a2]) (rest := []) C B (n_X11_isMark n Γ l α B.2.2.1 a0 (cw_k B.2.2 k0) a2 rh4 qh4) lb_X11_isMark lv_X11_isMark lk_X11_188 (cw_k B.2.2 k0) rfl (by decide) rfl hl.1 rfl (Nat.le_of_ble_eq_true rfl) dX11_poke_6 ⟨Nat.le_refl _, Nat.le_refl _⟩) rfl (fun Hh4 Lh4 Bh4 => ?_)
    refine lv_if_ne (tgt := 18) hx hb dX11_poke_9 (by decide) (fun c5 => ?_) (fun c5 => hp_n (n := 12) rfl ?_)
    ·
      replace hf := ms_iF c5 hf
      refine lv_iload_n hx hb dX11_poke_18 rfl (lv_at hl 1 rfl) (hp_n (n := 19) rfl ?_)
      refine lv_aload_n hx hb dX11_poke_19 rfl (lv_at hl 0 rfl) (hp_n (n := 20) rfl ?_)
      refine q_getr (κ := 12) (k := 3) (φ := 603) (pc' := 23) C Bh4 (cw_k Bh4.2.2 k0) fl_X11_26 rfl rfl rfl (cw_r Bh4.2.2 k0 rfl rfl (by decide) (by decide)) dX11_poke_20 rfl (fun b6 eb6 kb6 => ?_)
      replace hf := ms_lE eb6 hf
      refine q_geti (κ := 6) (k := 1) (φ := 301) (pc' := 26) C Bh4 (cw_k Bh4.2.2 kb6) fl_X11_132 rfl rfl rfl dX11_poke_23 rfl (fun x7 ex7 => ?_)
      replace hf := ms_lE ex7 hf
      refine lv_icmp_lt (tgt := 35) hx hb dX11_poke_26 (by decide) (fun c8 => ?_) (fun c8 => hp_n (n := 29) rfl ?_)
      ·
        replace hf := ms_iT c8 hf
        refine lv_aload_n hx hb dX11_poke_35 rfl (lv_at hl 0 rfl) (hp_n (n := 36) rfl ?_)
        refine q_getr (κ := 12) (k := 3) (φ := 603) (pc' := 39) C Bh4 (cw_k Bh4.2.2 k0) fl_X11_26 rfl rfl rfl (cw_r Bh4.2.2 k0 rfl rfl (by decide) (by decide)) dX11_poke_36 rfl (fun b9 eb9 kb9 => ?_)
        replace hf := ms_lE eb9 hf
        refine lv_iload_n hx hb dX11_poke_39 rfl (lv_at hl 1 rfl) (hp_n (n := 40) rfl ?_)
        obtain ⟨rh10, qh10, hf⟩ := ms_bE hf
        refine d_pi (pc' := 43) Bh4 (hp_runV (As := [.int a1]) (rest := []) C Bh4 (n_X5_at n Γ l α Bh4.2.2.1 b9 (cw_k Bh4.2.2 kb9) a1 rh10 qh10) lb_X5_at lv_X5_at lk_X11_135 (cw_k Bh4.2.2 kb9) rfl (by decide) rfl hl.1 rfl (Nat.le_of_ble_eq_true rfl) dX11_poke_40 ⟨Nat.le_refl _, Nat.le_refl _⟩) rfl (fun Hh10 Lh10 Bh10 => ?_)
        refine lv_istore_n (lv' := [(3, .int rh10), (0, .ref a0), (1, .int a1), (2, .int a2)]) hx hb dX11_poke_43 rfl hl (by decide) rfl (fun ls hl => hp_n (n := 44) rfl ?_)
        refine lv_aload_n hx hb dX11_poke_44 rfl (lv_at hl 1 rfl) (hp_n (n := 45) rfl ?_)
        refine q_getr (κ := 12) (k := 3) (φ := 603) (pc' := 48) C Bh10 (cw_k Bh10.2.2 k0) fl_X11_26 rfl rfl rfl (cw_r Bh10.2.2 k0 rfl rfl (by decide) (by decide)) dX11_poke_45 rfl (fun b11 eb11 kb11 => ?_)
        replace hf := ms_lE eb11 hf
        refine lv_iload_n hx hb dX11_poke_48 rfl (lv_at hl 2 rfl) (hp_n (n := 49) rfl ?_)
        refine lv_iload_n hx hb dX11_poke_49 rfl (lv_at hl 3 rfl) (hp_n (n := 50) rfl ?_)
        obtain ⟨αh12, qh12, hf⟩ := ms_bE hf
        refine d_cv (pc' := 53) Bh10 (hp_runV (As := [.int a1, .int a2]) (rest := []) C Bh10 (n_X5_change n Γ l α Bh10.2.2.1 b11 (cw_k Bh10.2.2 kb11) a1 a2 αh12 qh12) lb_X5_change lv_X5_change lk_X11_260 (cw_k Bh10.2.2 kb11) rfl (by decide) rfl hl.1 rfl (Nat.le_of_ble_eq_true rfl) dX11_poke_50 ⟨Nat.le_refl _, Nat.le_refl _⟩) (by decide) rfl (fun Hh12 Lh12 Bh12 => ?_)
        refine lv_aload_n hx hb dX11_poke_53 rfl (lv_at hl 1 rfl) (hp_n (n := 54) rfl ?_)
        refine lv_iload_n hx hb dX11_poke_54 rfl (lv_at hl 0 rfl) (hp_n (n := 55) rfl ?_)
        obtain ⟨rh13, αh13, qh13, hf⟩ := hq_cE hf
        refine d_ci (pc' := 58) Bh12 (hp_runV (As := [.int rh10]) (rest := []) C Bh12 (n_X11_answer n Γ l αh12 Bh12.2.2.1 a0 (cw_k Bh12.2.2 k0) rh10 (rh13, αh13) qh13) lb_X11_answer lv_X11_answer lk_X11_115 (cw_k Bh12.2.2 k0) rfl (by decide) rfl hl.1 rfl (Nat.le_of_ble_eq_true rfl) dX11_poke_55 ⟨Nat.le_refl _, Nat.le_refl _⟩) (by decide) rfl (fun Hh13 Lh13 Bh13 => ?_)
        cases hf
        exact q_iret C Bh13 hr hlk ⟨rfl, rfl, Bh13.2.2⟩ dX11_poke_58
      ·
        replace hf := ms_iF c8 hf
        refine lv_aload_n hx hb dX11_poke_29 rfl (lv_at hl 0 rfl) (hp_n (n := 30) rfl ?_)
        refine lv_iconst (v := 5) hx hb dX11_poke_30 (by decide) (hp_n (n := 31) rfl ?_)
        obtain ⟨rh14, αh14, qh14, hf⟩ := hq_cE hf
        refine d_ci (pc' := 34) Bh4 (hp_runV (As := [.int (5 : Int32)]) (rest := []) C Bh4 (n_X11_refuse n Γ l α Bh4.2.2.1 a0 (cw_k Bh4.2.2 k0) (5 : Int32) (rh14, αh14) qh14) lb_X11_refuse lv_X11_refuse lk_X11_98 (cw_k Bh4.2.2 k0) rfl (by decide) rfl hl.1 rfl (Nat.le_of_ble_eq_true rfl) dX11_poke_31 ⟨Nat.le_refl _, Nat.le_refl _⟩) (by decide) rfl (fun Hh14 Lh14 Bh14 => ?_)
        cases hf
        exact q_iret C Bh14 hr hlk ⟨rfl, rfl, Bh14.2.2⟩ dX11_poke_34
    ·
      replace hf := ms_iT c5 hf
      exact J12 α Hh4 Lh4 Bh4 ls (lv_sub hl [0] rfl) hf
def f_X11_cut (n : Nat) (α : hp_T) (a0 : Nat) (a1 : Int32) : Option (Int32 × hp_T) :=
  if 0 ≤ a1 then
    ms_l (hp_R α 603 a0) fun b2 =>
    ms_l (hp_I α 301 b2) fun x3 =>
    if a1 ≤ x3 then
      ms_l (hp_R α 603 a0) fun b5 =>
      ms_b (f_X5_shorten n α b5 a1) fun αh6 =>
      hq_c (f_X11_answer n αh6 a0 a1) fun rh7 αh7 =>
      some (rh7, αh7)
    else
      hq_c (f_X11_refuse n α a0 (5 : Int32)) fun rh8 αh8 =>
      some (rh8, αh8)
  else
    hq_c (f_X11_refuse n α a0 (1 : Int32)) fun rh9 αh9 =>
    some (rh9, αh9)
set_option maxRecDepth 100000 in
set_option maxHeartbeats 4000000 in
theorem n_X11_cut (n : Nat) (Γ : hp_G) (l : Launch) (α : hp_T) (g : GC α) (a0 : Nat) (k0 : hp_K α a0 = 12) (a1 : Int32) (res : (Int32 × hp_T)) (hf : f_X11_cut n α a0 a1 = some res) : Met l yX11_cut (hp_ws yX11_cut cX11_cut 2 (some .int)) (hp_rm 1 0 0) (hp_Pc Γ α [.ref a0, .int a1]) (hp_Qi Γ (fun r β => r = res.1 ∧ β = res.2 ∧ cw w_X11_cut α β)) 0 0 (hp_A Γ) := by
  unfold f_X11_cut at hf
  refine hp_start (by decide) ?_
  intro p e s m below meth c C hr hlk B0 hnm
  have C : hp_C Γ p m c cX11_cut 2 s ([.ref a0, .int a1] : List Value).toArray RX11 := C
  have hx := C.1.1
  have hb := C.1.2.1
  have hown := C.1.2.2.2.1
  have hts := C.1.2.2.2.2
  have B : hp_B Γ (cw w_X11_cut) s α α s.heap [] := ⟨B0.1, B0.2.1, cw_rf g⟩
  have hl := lv_entry ([.ref a0, .int a1]) (n := 2) (Nat.le_of_ble_eq_true rfl)
  show W p l e (hp_rm 1 0 0) s m ([.ref a0, .int a1] : List Value).toArray below meth c s.heap [] 0 0 (MQ below (hp_Qi Γ (fun r β => r = res.1 ∧ β = res.2 ∧ cw w_X11_cut α β)) ([.ref a0, .int a1] : List Value).toArray s 0 0 (hp_A Γ)) (entryFrame m ([.ref a0, .int a1] : List Value).toArray 2)
  rw [lg_entry_eq]
  generalize (lg_sl ([.ref a0, .int a1]) ++ List.replicate (2 - (lg_sl ([.ref a0, .int a1])).length) Slot.unset).toArray = ls at hl ⊢
  have hl : lv_has ls 2 [(0, .ref a0), (1, .int a1)] := hl
  refine lv_iload_n hx hb dX11_cut_0 rfl (lv_at hl 1 rfl) (hp_n (n := 1) rfl ?_)
  refine lv_if_ge (tgt := 10) hx hb dX11_cut_1 (by decide) (fun c1 => ?_) (fun c1 => hp_n (n := 4) rfl ?_)
  ·
    replace hf := ms_iT c1 hf
    refine lv_iload_n hx hb dX11_cut_10 rfl (lv_at hl 1 rfl) (hp_n (n := 11) rfl ?_)
    refine lv_aload_n hx hb dX11_cut_11 rfl (lv_at hl 0 rfl) (hp_n (n := 12) rfl ?_)
    refine q_getr (κ := 12) (k := 3) (φ := 603) (pc' := 15) C B (cw_k B.2.2 k0) fl_X11_26 rfl rfl rfl (cw_r B.2.2 k0 rfl rfl (by decide) (by decide)) dX11_cut_12 rfl (fun b2 eb2 kb2 => ?_)
    replace hf := ms_lE eb2 hf
    refine q_geti (κ := 6) (k := 1) (φ := 301) (pc' := 18) C B (cw_k B.2.2 kb2) fl_X11_132 rfl rfl rfl dX11_cut_15 rfl (fun x3 ex3 => ?_)
    replace hf := ms_lE ex3 hf
    refine lv_icmp_le (tgt := 27) hx hb dX11_cut_18 (by decide) (fun c4 => ?_) (fun c4 => hp_n (n := 21) rfl ?_)
    ·
      replace hf := ms_iT c4 hf
      refine lv_aload_n hx hb dX11_cut_27 rfl (lv_at hl 0 rfl) (hp_n (n := 28) rfl ?_)
      refine q_getr (κ := 12) (k := 3) (φ := 603) (pc' := 31) C B (cw_k B.2.2 k0) fl_X11_26 rfl rfl rfl (cw_r B.2.2 k0 rfl rfl (by decide) (by decide)) dX11_cut_28 rfl (fun b5 eb5 kb5 => ?_)
      replace hf := ms_lE eb5 hf
      refine lv_iload_n hx hb dX11_cut_31 rfl (lv_at hl 1 rfl) (hp_n (n := 32) rfl ?_)
      obtain ⟨αh6, qh6, hf⟩ := ms_bE hf
      refine d_cv (pc' := 35) B (hp_runV (As := [.int a1]) (rest := []) C B (n_X5_shorten n Γ l α B.2.2.1 b5 (cw_k B.2.2 kb5) a1 αh6 qh6) lb_X5_shorten lv_X5_shorten lk_X11_109 (cw_k B.2.2 kb5) rfl (by decide) rfl hl.1 rfl (Nat.le_of_ble_eq_true rfl) dX11_cut_32 ⟨Nat.le_refl _, Nat.le_refl _⟩) (by decide) rfl (fun Hh6 Lh6 Bh6 => ?_)
      refine lv_aload_n hx hb dX11_cut_35 rfl (lv_at hl 0 rfl) (hp_n (n := 36) rfl ?_)
      refine lv_iload_n hx hb dX11_cut_36 rfl (lv_at hl 1 rfl) (hp_n (n := 37) rfl ?_)
      obtain ⟨rh7, αh7, qh7, hf⟩ := hq_cE hf
      refine d_ci (pc' := 40) Bh6 (hp_runV (As := [.int a1]) (rest := []) C Bh6 (n_X11_answer n Γ l αh6 Bh6.2.2.1 a0 (cw_k Bh6.2.2 k0) a1 (rh7, αh7) qh7) lb_X11_answer lv_X11_answer lk_X11_115 (cw_k Bh6.2.2 k0) rfl (by decide) rfl hl.1 rfl (Nat.le_of_ble_eq_true rfl) dX11_cut_37 ⟨Nat.le_refl _, Nat.le_refl _⟩) (by decide) rfl (fun Hh7 Lh7 Bh7 => ?_)
      cases hf
      exact q_iret C Bh7 hr hlk ⟨rfl, rfl, Bh7.2.2⟩ dX11_cut_40
    ·
      replace hf := ms_iF c4 hf
      refine lv_aload_n hx hb dX11_cut_21 rfl (lv_at hl 0 rfl) (hp_n (n := 22) rfl ?_)
      refine lv_iconst (v := 5) hx hb dX11_cut_22 (by decide) (hp_n (n := 23) rfl ?_)
      obtain ⟨rh8, αh8, qh8, hf⟩ := hq_cE hf
      refine d_ci (pc' := 26) B (hp_runV (As := [.int (5 : Int32)]) (rest := []) C B (n_X11_refuse n Γ l α B.2.2.1 a0 (cw_k B.2.2 k0) (5 : Int32) (rh8, αh8) qh8) lb_X11_refuse lv_X11_refuse lk_X11_98 (cw_k B.2.2 k0) rfl (by decide) rfl hl.1 rfl (Nat.le_of_ble_eq_true rfl) dX11_cut_23 ⟨Nat.le_refl _, Nat.le_refl _⟩) (by decide) rfl (fun Hh8 Lh8 Bh8 => ?_)
      cases hf
      exact q_iret C Bh8 hr hlk ⟨rfl, rfl, Bh8.2.2⟩ dX11_cut_26
  ·
    replace hf := ms_iF c1 hf
    refine lv_aload_n hx hb dX11_cut_4 rfl (lv_at hl 0 rfl) (hp_n (n := 5) rfl ?_)
    refine lv_iconst (v := 1) hx hb dX11_cut_5 (by decide) (hp_n (n := 6) rfl ?_)
    obtain ⟨rh9, αh9, qh9, hf⟩ := hq_cE hf
    refine d_ci (pc' := 9) B (hp_runV (As := [.int (1 : Int32)]) (rest := []) C B (n_X11_refuse n Γ l α B.2.2.1 a0 (cw_k B.2.2 k0) (1 : Int32) (rh9, αh9) qh9) lb_X11_refuse lv_X11_refuse lk_X11_98 (cw_k B.2.2 k0) rfl (by decide) rfl hl.1 rfl (Nat.le_of_ble_eq_true rfl) dX11_cut_6 ⟨Nat.le_refl _, Nat.le_refl _⟩) (by decide) rfl (fun Hh9 Lh9 Bh9 => ?_)
    cases hf
    exact q_iret C Bh9 hr hlk ⟨rfl, rfl, Bh9.2.2⟩ dX11_cut_9
set_option maxRecDepth 100000 in
set_option maxHeartbeats 4000000 in
theorem n_J6_bitCount_0f7a4 (n : Nat) (Γ : hp_G) (l : Launch) (α : hp_T) (g : GC α) (a0 : Int32) (res : Int32) (hf : f_J6_bitCount_0f7a4 n a0 = some res) : Met l yJ6_bitCount_0f7a4 (hp_ws yJ6_bitCount_0f7a4 cJ6_bitCount_0f7a4 1 (some .int)) (hp_rm 0 0 0) (hp_Pc Γ α [.int a0]) (hp_Qi Γ (fun r β => β = α ∧ r = res)) 0 0 (hp_A Γ) := by
  unfold f_J6_bitCount_0f7a4 at hf
  refine hp_start (by decide) ?_
  intro p e s m below meth c C hr hlk B0 hnm
  have C : hp_C Γ p m c cJ6_bitCount_0f7a4 1 s ([.int a0] : List Value).toArray RJ6 := C
  have hx := C.1.1
  have hb := C.1.2.1
  have hown := C.1.2.2.2.1
  have hts := C.1.2.2.2.2
  have B : hp_B Γ (cw w_J6_bitCount_0f7a4) s α α s.heap [] := ⟨B0.1, B0.2.1, cw_rf g⟩
  have hl := lv_entry ([.int a0]) (n := 1) (Nat.le_of_ble_eq_true rfl)
  show W p l e (hp_rm 0 0 0) s m ([.int a0] : List Value).toArray below meth c s.heap [] 0 0 (MQ below (hp_Qi Γ (fun r β => β = α ∧ r = res)) ([.int a0] : List Value).toArray s 0 0 (hp_A Γ)) (entryFrame m ([.int a0] : List Value).toArray 1)
  rw [lg_entry_eq]
  generalize (lg_sl ([.int a0]) ++ List.replicate (1 - (lg_sl ([.int a0])).length) Slot.unset).toArray = ls at hl ⊢
  have hl : lv_has ls 1 [(0, .int a0)] := hl
  refine lv_iload_n hx hb dJ6_bitCount_0f7a4_0 rfl (lv_at hl 0 rfl) (hp_n (n := 1) rfl ?_)
  refine lv_iload_n hx hb dJ6_bitCount_0f7a4_1 rfl (lv_at hl 0 rfl) (hp_n (n := 2) rfl ?_)
  refine lv_iconst (v := 1) hx hb dJ6_bitCount_0f7a4_2 (by decide) (hp_n (n := 3) rfl ?_)
  refine lv_iushr hx hb dJ6_bitCount_0f7a4_3 rfl (hp_n (n := 4) rfl ?_)
  refine lv_ldcw hx hb hown (hts _ kc_J6_265) dJ6_bitCount_0f7a4_4 (hp_n (n := 7) rfl ?_)
  refine lv_iand hx hb dJ6_bitCount_0f7a4_7 (hp_n (n := 8) rfl ?_)
  refine lv_isub hx hb dJ6_bitCount_0f7a4_8 (hp_n (n := 9) rfl ?_)
  refine lv_topi (fun x1 ex1 => ?_)
  replace hf := ms_lE ex1 hf
  refine lv_istore_n (lv' := [(0, .int x1)]) hx hb dJ6_bitCount_0f7a4_9 rfl hl (by decide) rfl (fun ls hl => hp_n (n := 10) rfl ?_)
  refine lv_iload_n hx hb dJ6_bitCount_0f7a4_10 rfl (lv_at hl 0 rfl) (hp_n (n := 11) rfl ?_)
  refine lv_ldcw hx hb hown (hts _ kc_J6_266) dJ6_bitCount_0f7a4_11 (hp_n (n := 14) rfl ?_)
  refine lv_iand hx hb dJ6_bitCount_0f7a4_14 (hp_n (n := 15) rfl ?_)
  refine lv_iload_n hx hb dJ6_bitCount_0f7a4_15 rfl (lv_at hl 0 rfl) (hp_n (n := 16) rfl ?_)
  refine lv_iconst (v := 2) hx hb dJ6_bitCount_0f7a4_16 (by decide) (hp_n (n := 17) rfl ?_)
  refine lv_iushr hx hb dJ6_bitCount_0f7a4_17 rfl (hp_n (n := 18) rfl ?_)
  refine lv_ldcw hx hb hown (hts _ kc_J6_266) dJ6_bitCount_0f7a4_18 (hp_n (n := 21) rfl ?_)
  refine lv_iand hx hb dJ6_bitCount_0f7a4_21 (hp_n (n := 22) rfl ?_)
  refine lv_iadd hx hb dJ6_bitCount_0f7a4_22 (hp_n (n := 23) rfl ?_)
  refine lv_topi (fun x2 ex2 => ?_)
  replace hf := ms_lE ex2 hf
  refine lv_istore_n (lv' := [(0, .int x2)]) hx hb dJ6_bitCount_0f7a4_23 rfl hl (by decide) rfl (fun ls hl => hp_n (n := 24) rfl ?_)
  refine lv_iload_n hx hb dJ6_bitCount_0f7a4_24 rfl (lv_at hl 0 rfl) (hp_n (n := 25) rfl ?_)
  refine lv_iload_n hx hb dJ6_bitCount_0f7a4_25 rfl (lv_at hl 0 rfl) (hp_n (n := 26) rfl ?_)
  refine lv_iconst (v := 4) hx hb dJ6_bitCount_0f7a4_26 (by decide) (hp_n (n := 27) rfl ?_)
  refine lv_iushr hx hb dJ6_bitCount_0f7a4_27 rfl (hp_n (n := 28) rfl ?_)
  refine lv_iadd hx hb dJ6_bitCount_0f7a4_28 (hp_n (n := 29) rfl ?_)
  refine lv_ldcw hx hb hown (hts _ kc_J6_267) dJ6_bitCount_0f7a4_29 (hp_n (n := 32) rfl ?_)
  refine lv_iand hx hb dJ6_bitCount_0f7a4_32 (hp_n (n := 33) rfl ?_)
  refine lv_topi (fun x3 ex3 => ?_)
  replace hf := ms_lE ex3 hf
  refine lv_istore_n (lv' := [(0, .int x3)]) hx hb dJ6_bitCount_0f7a4_33 rfl hl (by decide) rfl (fun ls hl => hp_n (n := 34) rfl ?_)
  refine lv_iload_n hx hb dJ6_bitCount_0f7a4_34 rfl (lv_at hl 0 rfl) (hp_n (n := 35) rfl ?_)
  refine lv_iload_n hx hb dJ6_bitCount_0f7a4_35 rfl (lv_at hl 0 rfl) (hp_n (n := 36) rfl ?_)
  refine lv_bipush (v := 8) hx hb dJ6_bitCount_0f7a4_36 (by decide) (hp_n (n := 38) rfl ?_)
  refine lv_iushr hx hb dJ6_bitCount_0f7a4_38 rfl (hp_n (n := 39) rfl ?_)
  refine lv_iadd hx hb dJ6_bitCount_0f7a4_39 (hp_n (n := 40) rfl ?_)
  refine lv_topi (fun x4 ex4 => ?_)
  replace hf := ms_lE ex4 hf
  refine lv_istore_n (lv' := [(0, .int x4)]) hx hb dJ6_bitCount_0f7a4_40 rfl hl (by decide) rfl (fun ls hl => hp_n (n := 41) rfl ?_)
  refine lv_iload_n hx hb dJ6_bitCount_0f7a4_41 rfl (lv_at hl 0 rfl) (hp_n (n := 42) rfl ?_)
  refine lv_iload_n hx hb dJ6_bitCount_0f7a4_42 rfl (lv_at hl 0 rfl) (hp_n (n := 43) rfl ?_)
  refine lv_bipush (v := 16) hx hb dJ6_bitCount_0f7a4_43 (by decide) (hp_n (n := 45) rfl ?_)
  refine lv_iushr hx hb dJ6_bitCount_0f7a4_45 rfl (hp_n (n := 46) rfl ?_)
  refine lv_iadd hx hb dJ6_bitCount_0f7a4_46 (hp_n (n := 47) rfl ?_)
  refine lv_topi (fun x5 ex5 => ?_)
  replace hf := ms_lE ex5 hf
  refine lv_istore_n (lv' := [(0, .int x5)]) hx hb dJ6_bitCount_0f7a4_47 rfl hl (by decide) rfl (fun ls hl => hp_n (n := 48) rfl ?_)
  refine lv_iload_n hx hb dJ6_bitCount_0f7a4_48 rfl (lv_at hl 0 rfl) (hp_n (n := 49) rfl ?_)
  refine lv_bipush (v := 63) hx hb dJ6_bitCount_0f7a4_49 (by decide) (hp_n (n := 51) rfl ?_)
  refine lv_iand hx hb dJ6_bitCount_0f7a4_51 (hp_n (n := 52) rfl ?_)
  cases hf
  exact q_iret C B hr hlk ⟨rfl, rfl⟩ dJ6_bitCount_0f7a4_52
def f_X5_putPeak_J64 (n : Nat) (a0 : Nat) (αh2 : hp_T) (v4_h2 : Int32) : Option hp_T :=
  ms_b (f_X5_put n αh2 a0 v4_h2) fun αh3 =>
  some αh3
def f_X5_putPeak_L9 (n : Nat) (a0 : Nat) : Nat → hp_T → Int32 → Int32 → Int32 → Int32 → Option hp_T
  | 0, _, _, _, _, _ => none
  | k9 + 1, αh1, v1_h1, v4_h1, v5_h1, v6_h1 =>
    if (31 : Int32) ≤ v6_h1 then
      f_X5_putPeak_J64 n a0 αh1 v4_h1
    else
      if (v5_h1 &&& (1 : Int32)) = (1 : Int32) then
        ms_l (hp_I αh1 301 a0) fun x6 =>
        ms_b (f_X5_at n αh1 a0 (x6 - (1 : Int32))) fun rh7 =>
        ms_b (f_X11_markOfTwo n v1_h1 rh7 v4_h1) fun rh8 =>
        ms_l (hp_I αh1 301 a0) fun x9 =>
        ms_b (f_X5_shorten n αh1 a0 (x9 - (1 : Int32))) fun αh10 =>
        ms_l (((v5_h1).toUInt32 >>> (((1 : Int32)).toUInt32 &&& Int32.toUInt32 31)).toInt32) fun x11 =>
        ms_l (v6_h1 + 1) fun x12 =>
        (f_X5_putPeak_L9 n a0 k9) αh10 v1_h1 rh8 x11 x12
      else
        f_X5_putPeak_J64 n a0 αh1 v4_h1
def f_X5_putPeak (n : Nat) (α : hp_T) (a0 : Nat) (a1 : Int32) (a2 : Int32) (a3 : Int32) : Option hp_T :=
  f_X5_putPeak_L9 n a0 n α a1 a3 a2 (0 : Int32)
set_option maxRecDepth 100000 in
set_option maxHeartbeats 4000000 in
theorem n_X5_putPeak (n : Nat) (Γ : hp_G) (l : Launch) (α : hp_T) (g : GC α) (a0 : Nat) (k0 : hp_K α a0 = 6) (a1 : Int32) (a2 : Int32) (a3 : Int32) (res : hp_T) (hf : f_X5_putPeak n α a0 a1 a2 a3 = some res) : Met l yX5_putPeak (hp_ws yX5_putPeak cX5_putPeak 7 none) (hp_rm 1 0 0) (hp_Pc Γ α [.ref a0, .int a1, .int a2, .int a3]) (hp_Qv Γ (fun β => β = res ∧ cw w_X5_putPeak α β)) 0 0 (hp_A Γ) := by
  unfold f_X5_putPeak at hf
  refine hp_start (by decide) ?_
  intro p e s m below meth c C hr hlk B0 hnm
  have C : hp_C Γ p m c cX5_putPeak 7 s ([.ref a0, .int a1, .int a2, .int a3] : List Value).toArray RX5 := C
  have hx := C.1.1
  have hb := C.1.2.1
  have hown := C.1.2.2.2.1
  have hts := C.1.2.2.2.2
  have B : hp_B Γ (cw w_X5_putPeak) s α α s.heap [] := ⟨B0.1, B0.2.1, cw_rf g⟩
  have hl := lv_entry ([.ref a0, .int a1, .int a2, .int a3]) (n := 7) (Nat.le_of_ble_eq_true rfl)
  show W p l e (hp_rm 1 0 0) s m ([.ref a0, .int a1, .int a2, .int a3] : List Value).toArray below meth c s.heap [] 0 0 (MQ below (hp_Qv Γ (fun β => β = res ∧ cw w_X5_putPeak α β)) ([.ref a0, .int a1, .int a2, .int a3] : List Value).toArray s 0 0 (hp_A Γ)) (entryFrame m ([.ref a0, .int a1, .int a2, .int a3] : List Value).toArray 7)
  rw [lg_entry_eq]
  generalize (lg_sl ([.ref a0, .int a1, .int a2, .int a3]) ++ List.replicate (7 - (lg_sl ([.ref a0, .int a1, .int a2, .int a3])).length) Slot.unset).toArray = ls at hl ⊢
  have hl : lv_has ls 7 [(0, .ref a0), (1, .int a1), (2, .int a2), (3, .int a3)] := hl
  refine lv_iload_n hx hb dX5_putPeak_0 rfl (lv_at hl 3 rfl) (hp_n (n := 1) rfl ?_)
  refine lv_istore (lv' := [(4, .int a3), (0, .ref a0), (1, .int a1), (2, .int a2), (3, .int a3)]) hx hb dX5_putPeak_1 hl (by decide) rfl (fun ls hl => hp_n (n := 3) rfl ?_)
  refine lv_iload_n hx hb dX5_putPeak_3 rfl (lv_at hl 3 rfl) (hp_n (n := 4) rfl ?_)
  refine lv_istore (lv' := [(5, .int a2), (4, .int a3), (0, .ref a0), (1, .int a1), (2, .int a2), (3, .int a3)]) hx hb dX5_putPeak_4 hl (by decide) rfl (fun ls hl => hp_n (n := 6) rfl ?_)
  refine lv_iconst (v := 0) hx hb dX5_putPeak_6 (by decide) (hp_n (n := 7) rfl ?_)
  have J9 : ∀ (k9 : Nat) (αh1 : hp_T) (Hh1 : Heap) (Lh1 : List Loc) (Bh1 : hp_B Γ (cw w_X5_putPeak) s α αh1 Hh1 Lh1) (v1_h1 : Int32) (v4_h1 : Int32) (v5_h1 : Int32) (v6_h1 : Int32) (ls : Array Slot) (hl : lv_has ls 7 [(0, .ref a0), (1, .int v1_h1), (4, .int v4_h1), (5, .int v5_h1), (6, .int v6_h1)]) (hf : f_X5_putPeak_L9 n a0 k9 αh1 v1_h1 v4_h1 v5_h1 v6_h1 = some res), W p l e (hp_rm 1 0 0) s m ([.ref a0, .int a1, .int a2, .int a3] : List Value).toArray below meth c Hh1 Lh1 0 0 (MQ below (hp_Qv Γ (fun β => β = res ∧ cw w_X5_putPeak α β)) ([.ref a0, .int a1, .int a2, .int a3] : List Value).toArray s 0 0 (hp_A Γ)) (F0 m 9 ls []) := by
    intro k9
    induction k9 with
    | zero => intro αh1 Hh1 Lh1 Bh1 v1_h1 v4_h1 v5_h1 v6_h1 ls hl hf; rw [f_X5_putPeak_L9.eq_1] at hf; cases hf
    | succ k9 ih9 =>
      intro αh1 Hh1 Lh1 Bh1 v1_h1 v4_h1 v5_h1 v6_h1 ls hl hf
      rw [f_X5_putPeak_L9.eq_2] at hf
      refine lv_iload hx hb dX5_putPeak_9 (lv_at hl 4 rfl) (hp_n (n := 11) rfl ?_)
      refine lv_bipush (v := 31) hx hb dX5_putPeak_11 (by decide) (hp_n (n := 13) rfl ?_)
      have J64 : ∀ (αh2 : hp_T) (Hh2 : Heap) (Lh2 : List Loc) (Bh2 : hp_B Γ (cw w_X5_putPeak) s α αh2 Hh2 Lh2) (v4_h2 : Int32) (ls : Array Slot) (hl : lv_has ls 7 [(0, .ref a0), (4, .int v4_h2)]) (hf : f_X5_putPeak_J64 n a0 αh2 v4_h2 = some res), W p l e (hp_rm 1 0 0) s m ([.ref a0, .int a1, .int a2, .int a3] : List Value).toArray below meth c Hh2 Lh2 0 0 (MQ below (hp_Qv Γ (fun β => β = res ∧ cw w_X5_putPeak α β)) ([.ref a0, .int a1, .int a2, .int a3] : List Value).toArray s 0 0 (hp_A Γ)) (F0 m 64 ls []) := by
        intro αh2 Hh2 Lh2 Bh2 v4_h2 ls hl hf
        unfold f_X5_putPeak_J64 at hf
        refine lv_aload_n hx hb dX5_putPeak_64 rfl (lv_at hl 0 rfl) (hp_n (n := 65) rfl ?_)
        refine lv_iload hx hb dX5_putPeak_65 (lv_at hl 1 rfl) (hp_n (n := 67) rfl ?_)
        obtain ⟨αh3, qh3, hf⟩ := ms_bE hf
        refine d_cv (pc' := 70) Bh2 (hp_runV (As := [.int v4_h2]) (rest := []) C Bh2 (n_X5_put n Γ l αh2 Bh2.2.2.1 a0 (cw_k Bh2.2.2 k0) v4_h2 αh3 qh3) lb_X5_put lv_X5_put lk_X5_31 (cw_k Bh2.2.2 k0) rfl (by decide) rfl hl.1 rfl (Nat.le_of_ble_eq_true rfl) dX5_putPeak_67 ⟨Nat.le_refl _, Nat.le_refl _⟩) (by decide) rfl (fun Hh3 Lh3 Bh3 => ?_)
        cases hf
        exact q_vret C Bh3 hr hlk ⟨rfl, Bh3.2.2⟩ dX5_putPeak_70
      refine lv_icmp_ge (tgt := 64) hx hb dX5_putPeak_13 (by decide) (fun c4 => ?_) (fun c4 => hp_n (n := 16) rfl ?_)
      ·
        replace hf := ms_iT c4 hf
        exact J64 αh1 Hh1 Lh1 Bh1 v4_h1 ls (lv_sub hl [0, 2] rfl) hf
      ·
        replace hf := ms_iF c4 hf
        refine lv_iload hx hb dX5_putPeak_16 (lv_at hl 3 rfl) (hp_n (n := 18) rfl ?_)
        refine lv_iconst (v := 1) hx hb dX5_putPeak_18 (by decide) (hp_n (n := 19) rfl ?_)
        refine lv_iand hx hb dX5_putPeak_19 (hp_n (n := 20) rfl ?_)
        refine lv_iconst (v := 1) hx hb dX5_putPeak_20 (by decide) (hp_n (n := 21) rfl ?_)
        refine lv_icmp_ne (tgt := 64) hx hb dX5_putPeak_21 (by decide) (fun c5 => ?_) (fun c5 => hp_n (n := 24) rfl ?_)
        ·
          replace hf := ms_iF c5 hf
          exact J64 αh1 Hh1 Lh1 Bh1 v4_h1 ls (lv_sub hl [0, 2] rfl) hf
        ·
          replace hf := ms_iT c5 hf
          refine lv_iload_n hx hb dX5_putPeak_24 rfl (lv_at hl 1 rfl) (hp_n (n := 25) rfl ?_)
          refine lv_aload_n hx hb dX5_putPeak_25 rfl (lv_at hl 0 rfl) (hp_n (n := 26) rfl ?_)
          refine lv_aload_n hx hb dX5_putPeak_26 rfl (lv_at hl 0 rfl) (hp_n (n := 27) rfl ?_)
          refine q_geti (κ := 6) (k := 1) (φ := 301) (pc' := 30) C Bh1 (cw_k Bh1.2.2 k0) fl_X5_15 rfl rfl rfl dX5_putPeak_27 rfl (fun x6 ex6 => ?_)
          replace hf := ms_lE ex6 hf
          refine lv_iconst (v := 1) hx hb dX5_putPeak_30 (by decide) (hp_n (n := 31) rfl ?_)
          refine lv_isub hx hb dX5_putPeak_31 (hp_n (n := 32) rfl ?_)
          obtain ⟨rh7, qh7, hf⟩ := ms_bE hf
          refine d_pi (pc' := 35) Bh1 (hp_runV (As := [.int (x6 - (1 : Int32))]) (rest := [.int v1_h1]) C Bh1 (n_X5_at n Γ l αh1 Bh1.2.2.1 a0 (cw_k Bh1.2.2 k0) (x6 - (1 : Int32)) rh7 qh7) lb_X5_at lv_X5_at lk_X5_19 (cw_k Bh1.2.2 k0) rfl (by decide) rfl hl.1 rfl (Nat.le_of_ble_eq_true rfl) dX5_putPeak_32 ⟨Nat.le_refl _, Nat.le_refl _⟩) rfl (fun Hh7 Lh7 Bh7 => ?_)
          refine lv_iload hx hb dX5_putPeak_35 (lv_at hl 2 rfl) (hp_n (n := 37) rfl ?_)
          obtain ⟨rh8, qh8, hf⟩ := ms_bE hf
          refine d_pi (pc' := 40) Bh7 (hp_runS (As := [.int v1_h1, .int rh7, .int v4_h1]) (rest := []) C Bh7 (n_X11_markOfTwo n Γ l αh1 Bh7.2.2.1 v1_h1 rh7 v4_h1 rh8 qh8) lb_X11_markOfTwo ls_X11_markOfTwo lk_X5_23 rfl (by decide) rfl hl.1 rfl (Nat.le_of_ble_eq_true rfl) dX5_putPeak_37 ⟨Nat.le_refl _, Nat.le_refl _⟩) rfl (fun Hh8 Lh8 Bh8 => ?_)
          refine lv_istore (lv' := [(4, .int rh8), (0, .ref a0), (1, .int v1_h1), (5, .int v5_h1), (6, .int v6_h1)]) hx hb dX5_putPeak_40 hl (by decide) rfl (fun ls hl => hp_n (n := 42) rfl ?_)
          refine lv_aload_n hx hb dX5_putPeak_42 rfl (lv_at hl 1 rfl) (hp_n (n := 43) rfl ?_)
          refine lv_aload_n hx hb dX5_putPeak_43 rfl (lv_at hl 1 rfl) (hp_n (n := 44) rfl ?_)
          refine q_geti (κ := 6) (k := 1) (φ := 301) (pc' := 47) C Bh8 (cw_k Bh8.2.2 k0) fl_X5_15 rfl rfl rfl dX5_putPeak_44 rfl (fun x9 ex9 => ?_)
          replace hf := ms_lE ex9 hf
          refine lv_iconst (v := 1) hx hb dX5_putPeak_47 (by decide) (hp_n (n := 48) rfl ?_)
          refine lv_isub hx hb dX5_putPeak_48 (hp_n (n := 49) rfl ?_)
          obtain ⟨αh10, qh10, hf⟩ := ms_bE hf
          refine d_cv (pc' := 52) Bh8 (hp_runV (As := [.int (x9 - (1 : Int32))]) (rest := []) C Bh8 (n_X5_shorten n Γ l αh1 Bh8.2.2.1 a0 (cw_k Bh8.2.2 k0) (x9 - (1 : Int32)) αh10 qh10) lb_X5_shorten lv_X5_shorten lk_X5_27 (cw_k Bh8.2.2 k0) rfl (by decide) rfl hl.1 rfl (Nat.le_of_ble_eq_true rfl) dX5_putPeak_49 ⟨Nat.le_refl _, Nat.le_refl _⟩) (by decide) rfl (fun Hh10 Lh10 Bh10 => ?_)
          refine lv_iload hx hb dX5_putPeak_52 (lv_at hl 3 rfl) (hp_n (n := 54) rfl ?_)
          refine lv_iconst (v := 1) hx hb dX5_putPeak_54 (by decide) (hp_n (n := 55) rfl ?_)
          refine lv_iushr hx hb dX5_putPeak_55 rfl (hp_n (n := 56) rfl ?_)
          refine lv_topi (fun x11 ex11 => ?_)
          replace hf := ms_lE ex11 hf
          refine lv_istore (lv' := [(5, .int x11), (4, .int rh8), (0, .ref a0), (1, .int v1_h1), (6, .int v6_h1)]) hx hb dX5_putPeak_56 hl (by decide) rfl (fun ls hl => hp_n (n := 58) rfl ?_)
          obtain ⟨x12, ex12⟩ : ∃ y : Int32, y = v6_h1 + 1 := ⟨_, rfl⟩
          replace hf := ms_lE ex12 hf
          refine lv_iinc (v := x12) (lv' := [(6, .int x12), (5, .int x11), (4, .int rh8), (0, .ref a0), (1, .int v1_h1)]) hx hb dX5_putPeak_58 hl (k := 4) rfl (by rw [ex12]; rfl) (by decide) rfl (fun ls hl => hp_n (n := 61) rfl ?_)
          refine lv_goto (tgt := 9) hx hb dX5_putPeak_61 (by decide) ?_
          exact ih9 αh10 Hh10 Lh10 Bh10 v1_h1 rh8 x11 x12 ls (lv_sub hl [3, 4, 2, 1, 0] rfl) hf
  refine lv_istore (lv' := [(6, .int (0 : Int32)), (5, .int a2), (4, .int a3), (0, .ref a0), (1, .int a1), (2, .int a2), (3, .int a3)]) hx hb dX5_putPeak_7 hl (by decide) rfl (fun ls hl => hp_n (n := 9) rfl ?_)
  exact J9 n α s.heap [] B a1 a3 a2 (0 : Int32) ls (lv_sub hl [3, 4, 2, 1, 0] rfl) hf
def f_X11_extend_J19 (n : Nat) (a0 : Nat) (αh1 : hp_T) : Option (Int32 × hp_T) :=
  hq_c (f_X11_refuse n αh1 a0 (1 : Int32)) fun rh2 αh2 =>
  some (rh2, αh2)
def f_X11_extend (n : Nat) (α : hp_T) (a0 : Nat) (a1 : Int32) (a2 : Int32) : Option (Int32 × hp_T) :=
  if a1 < 0 then
    f_X11_extend_J19 n a0 α
  else
    if (1000000 : Int32) < a1 then
      f_X11_extend_J19 n a0 α
    else
      ms_b (f_X11_isMark n α a0 a2) fun rh5 =>
      if rh5 = 0 then
        f_X11_extend_J19 n a0 α
      else
        ms_l (hp_R α 603 a0) fun b7 =>
        ms_l (hp_I α 301 b7) fun x8 =>
        ms_b (f_J6_bitCount_0f7a4 n a1) fun rh9 =>
        if x8 = rh9 then
          ms_l (hp_R α 603 a0) fun b11 =>
          ms_l (hp_R α 601 a0) fun b12 =>
          ms_l (hp_I α 550 b12) fun x13 =>
          ms_b (f_X5_putPeak n α b11 x13 a1 a2) fun αh14 =>
          ms_l (hp_R αh14 603 a0) fun b15 =>
          ms_l (hp_I αh14 301 b15) fun x16 =>
          hq_c (f_X11_answer n αh14 a0 x16) fun rh17 αh17 =>
          some (rh17, αh17)
        else
          hq_c (f_X11_refuse n α a0 (5 : Int32)) fun rh18 αh18 =>
          some (rh18, αh18)
set_option maxRecDepth 100000 in
set_option maxHeartbeats 4000000 in
theorem n_X11_extend (n : Nat) (Γ : hp_G) (l : Launch) (α : hp_T) (g : GC α) (a0 : Nat) (k0 : hp_K α a0 = 12) (a1 : Int32) (a2 : Int32) (res : (Int32 × hp_T)) (hf : f_X11_extend n α a0 a1 a2 = some res) : Met l yX11_extend (hp_ws yX11_extend cX11_extend 3 (some .int)) (hp_rm 2 0 0) (hp_Pc Γ α [.ref a0, .int a1, .int a2]) (hp_Qi Γ (fun r β => r = res.1 ∧ β = res.2 ∧ cw w_X11_extend α β)) 0 0 (hp_A Γ) := by
  unfold f_X11_extend at hf
  refine hp_start (by decide) ?_
  intro p e s m below meth c C hr hlk B0 hnm
  have C : hp_C Γ p m c cX11_extend 3 s ([.ref a0, .int a1, .int a2] : List Value).toArray RX11 := C
  have hx := C.1.1
  have hb := C.1.2.1
  have hown := C.1.2.2.2.1
  have hts := C.1.2.2.2.2
  have B : hp_B Γ (cw w_X11_extend) s α α s.heap [] := ⟨B0.1, B0.2.1, cw_rf g⟩
  have hl := lv_entry ([.ref a0, .int a1, .int a2]) (n := 3) (Nat.le_of_ble_eq_true rfl)
  show W p l e (hp_rm 2 0 0) s m ([.ref a0, .int a1, .int a2] : List Value).toArray below meth c s.heap [] 0 0 (MQ below (hp_Qi Γ (fun r β => r = res.1 ∧ β = res.2 ∧ cw w_X11_extend α β)) ([.ref a0, .int a1, .int a2] : List Value).toArray s 0 0 (hp_A Γ)) (entryFrame m ([.ref a0, .int a1, .int a2] : List Value).toArray 3)
  rw [lg_entry_eq]
  generalize (lg_sl ([.ref a0, .int a1, .int a2]) ++ List.replicate (3 - (lg_sl ([.ref a0, .int a1, .int a2])).length) Slot.unset).toArray = ls at hl ⊢
  have hl : lv_has ls 3 [(0, .ref a0), (1, .int a1), (2, .int a2)] := hl
  refine lv_iload_n hx hb dX11_extend_0 rfl (lv_at hl 1 rfl) (hp_n (n := 1) rfl ?_)
  have J19 : ∀ (αh1 : hp_T) (Hh1 : Heap) (Lh1 : List Loc) (Bh1 : hp_B Γ (cw w_X11_extend) s α αh1 Hh1 Lh1) (ls : Array Slot) (hl : lv_has ls 3 [(0, .ref a0)]) (hf : f_X11_extend_J19 n a0 αh1 = some res), W p l e (hp_rm 2 0 0) s m ([.ref a0, .int a1, .int a2] : List Value).toArray below meth c Hh1 Lh1 0 0 (MQ below (hp_Qi Γ (fun r β => r = res.1 ∧ β = res.2 ∧ cw w_X11_extend α β)) ([.ref a0, .int a1, .int a2] : List Value).toArray s 0 0 (hp_A Γ)) (F0 m 19 ls []) := by
    intro αh1 Hh1 Lh1 Bh1 ls hl hf
    unfold f_X11_extend_J19 at hf
    refine lv_aload_n hx hb dX11_extend_19 rfl (lv_at hl 0 rfl) (hp_n (n := 20) rfl ?_)
    refine lv_iconst (v := 1) hx hb dX11_extend_20 (by decide) (hp_n (n := 21) rfl ?_)
    obtain ⟨rh2, αh2, qh2, hf⟩ := hq_cE hf
    refine d_ci (pc' := 24) Bh1 (hp_runV (As := [.int (1 : Int32)]) (rest := []) C Bh1 (n_X11_refuse n Γ l αh1 Bh1.2.2.1 a0 (cw_k Bh1.2.2 k0) (1 : Int32) (rh2, αh2) qh2) lb_X11_refuse lv_X11_refuse lk_X11_98 (cw_k Bh1.2.2 k0) rfl (by decide) rfl hl.1 rfl (Nat.le_of_ble_eq_true rfl) dX11_extend_21 ⟨Nat.le_refl _, Nat.le_refl _⟩) (by decide) rfl (fun Hh2 Lh2 Bh2 => ?_)
    cases hf
    exact q_iret C Bh2 hr hlk ⟨rfl, rfl, Bh2.2.2⟩ dX11_extend_24
  refine lv_if_lt (tgt := 19) hx hb dX11_extend_1 (by decide) (fun c3 => ?_) (fun c3 => hp_n (n := 4) rfl ?_)
  ·
    replace hf := ms_iT c3 hf
    exact J19 α s.heap [] B ls (lv_sub hl [0] rfl) hf
  ·
    replace hf := ms_iF c3 hf
    refine lv_iload_n hx hb dX11_extend_4 rfl (lv_at hl 1 rfl) (hp_n (n := 5) rfl ?_)
    refine lv_ldcw hx hb hown (hts _ kc_X11_291) dX11_extend_5 (hp_n (n := 8) rfl ?_)
    refine lv_icmp_gt (tgt := 19) hx hb dX11_extend_8 (by decide) (fun c4 => ?_) (fun c4 => hp_n (n := 11) rfl ?_)
    ·
      replace hf := ms_iT c4 hf
      exact J19 α s.heap [] B ls (lv_sub hl [0] rfl) hf
    ·
      replace hf := ms_iF c4 hf
      refine lv_aload_n hx hb dX11_extend_11 rfl (lv_at hl 0 rfl) (hp_n (n := 12) rfl ?_)
      refine lv_iload_n hx hb dX11_extend_12 rfl (lv_at hl 2 rfl) (hp_n (n := 13) rfl ?_)
      obtain ⟨rh5, qh5, hf⟩ := ms_bE hf
      refine d_pi (pc' := 16) B (hp_runV (As := [.int a2]) (rest := []) C B (n_X11_isMark n Γ l α B.2.2.1 a0 (cw_k B.2.2 k0) a2 rh5 qh5) lb_X11_isMark lv_X11_isMark lk_X11_188 (cw_k B.2.2 k0) rfl (by decide) rfl hl.1 rfl (Nat.le_of_ble_eq_true rfl) dX11_extend_13 ⟨Nat.le_refl _, Nat.le_refl _⟩) rfl (fun Hh5 Lh5 Bh5 => ?_)
      refine lv_if_ne (tgt := 25) hx hb dX11_extend_16 (by decide) (fun c6 => ?_) (fun c6 => hp_n (n := 19) rfl ?_)
      ·
        replace hf := ms_iF c6 hf
        refine lv_aload_n hx hb dX11_extend_25 rfl (lv_at hl 0 rfl) (hp_n (n := 26) rfl ?_)
        refine q_getr (κ := 12) (k := 3) (φ := 603) (pc' := 29) C Bh5 (cw_k Bh5.2.2 k0) fl_X11_26 rfl rfl rfl (cw_r Bh5.2.2 k0 rfl rfl (by decide) (by decide)) dX11_extend_26 rfl (fun b7 eb7 kb7 => ?_)
        replace hf := ms_lE eb7 hf
        refine q_geti (κ := 6) (k := 1) (φ := 301) (pc' := 32) C Bh5 (cw_k Bh5.2.2 kb7) fl_X11_132 rfl rfl rfl dX11_extend_29 rfl (fun x8 ex8 => ?_)
        replace hf := ms_lE ex8 hf
        refine lv_iload_n hx hb dX11_extend_32 rfl (lv_at hl 1 rfl) (hp_n (n := 33) rfl ?_)
        obtain ⟨rh9, qh9, hf⟩ := ms_bE hf
        refine d_pi (pc' := 36) Bh5 (hp_runS (As := [.int a1]) (rest := [.int x8]) C Bh5 (n_J6_bitCount_0f7a4 n Γ l α Bh5.2.2.1 a1 rh9 qh9) lb_J6_bitCount_0f7a4 ls_J6_bitCount_0f7a4 lk_X11_292 rfl (by decide) rfl hl.1 rfl (Nat.le_of_ble_eq_true rfl) dX11_extend_33 ⟨Nat.le_refl _, Nat.le_refl _⟩) rfl (fun Hh9 Lh9 Bh9 => ?_)
        refine lv_icmp_eq (tgt := 45) hx hb dX11_extend_36 (by decide) (fun c10 => ?_) (fun c10 => hp_n (n := 39) rfl ?_)
        ·
          replace hf := ms_iT c10 hf
          refine lv_aload_n hx hb dX11_extend_45 rfl (lv_at hl 0 rfl) (hp_n (n := 46) rfl ?_)
          refine q_getr (κ := 12) (k := 3) (φ := 603) (pc' := 49) C Bh9 (cw_k Bh9.2.2 k0) fl_X11_26 rfl rfl rfl (cw_r Bh9.2.2 k0 rfl rfl (by decide) (by decide)) dX11_extend_46 rfl (fun b11 eb11 kb11 => ?_)
          replace hf := ms_lE eb11 hf
          refine lv_aload_n hx hb dX11_extend_49 rfl (lv_at hl 0 rfl) (hp_n (n := 50) rfl ?_)
          refine q_getr (κ := 12) (k := 1) (φ := 601) (pc' := 53) C Bh9 (cw_k Bh9.2.2 k0) fl_X11_16 rfl rfl rfl (cw_r Bh9.2.2 k0 rfl rfl (by decide) (by decide)) dX11_extend_50 rfl (fun b12 eb12 kb12 => ?_)
          replace hf := ms_lE eb12 hf
          refine q_geti (κ := 11) (k := 0) (φ := 550) (pc' := 56) C Bh9 (cw_k Bh9.2.2 kb12) fl_X11_122 rfl rfl rfl dX11_extend_53 rfl (fun x13 ex13 => ?_)
          replace hf := ms_lE ex13 hf
          refine lv_iload_n hx hb dX11_extend_56 rfl (lv_at hl 1 rfl) (hp_n (n := 57) rfl ?_)
          refine lv_iload_n hx hb dX11_extend_57 rfl (lv_at hl 2 rfl) (hp_n (n := 58) rfl ?_)
          obtain ⟨αh14, qh14, hf⟩ := ms_bE hf
          refine d_cv (pc' := 61) Bh9 (hp_runV (As := [.int x13, .int a1, .int a2]) (rest := []) C Bh9 (n_X5_putPeak n Γ l α Bh9.2.2.1 b11 (cw_k Bh9.2.2 kb11) x13 a1 a2 αh14 qh14) lb_X5_putPeak lv_X5_putPeak lk_X11_297 (cw_k Bh9.2.2 kb11) rfl (by decide) rfl hl.1 rfl (Nat.le_of_ble_eq_true rfl) dX11_extend_58 ⟨Nat.le_refl _, Nat.le_refl _⟩) (by decide) rfl (fun Hh14 Lh14 Bh14 => ?_)
          refine lv_aload_n hx hb dX11_extend_61 rfl (lv_at hl 0 rfl) (hp_n (n := 62) rfl ?_)
          refine lv_aload_n hx hb dX11_extend_62 rfl (lv_at hl 0 rfl) (hp_n (n := 63) rfl ?_)
          refine q_getr (κ := 12) (k := 3) (φ := 603) (pc' := 66) C Bh14 (cw_k Bh14.2.2 k0) fl_X11_26 rfl rfl rfl (cw_r Bh14.2.2 k0 rfl rfl (by decide) (by decide)) dX11_extend_63 rfl (fun b15 eb15 kb15 => ?_)
          replace hf := ms_lE eb15 hf
          refine q_geti (κ := 6) (k := 1) (φ := 301) (pc' := 69) C Bh14 (cw_k Bh14.2.2 kb15) fl_X11_132 rfl rfl rfl dX11_extend_66 rfl (fun x16 ex16 => ?_)
          replace hf := ms_lE ex16 hf
          obtain ⟨rh17, αh17, qh17, hf⟩ := hq_cE hf
          refine d_ci (pc' := 72) Bh14 (hp_runV (As := [.int x16]) (rest := []) C Bh14 (n_X11_answer n Γ l αh14 Bh14.2.2.1 a0 (cw_k Bh14.2.2 k0) x16 (rh17, αh17) qh17) lb_X11_answer lv_X11_answer lk_X11_115 (cw_k Bh14.2.2 k0) rfl (by decide) rfl hl.1 rfl (Nat.le_of_ble_eq_true rfl) dX11_extend_69 ⟨Nat.le_refl _, Nat.le_refl _⟩) (by decide) rfl (fun Hh17 Lh17 Bh17 => ?_)
          cases hf
          exact q_iret C Bh17 hr hlk ⟨rfl, rfl, Bh17.2.2⟩ dX11_extend_72
        ·
          replace hf := ms_iF c10 hf
          refine lv_aload_n hx hb dX11_extend_39 rfl (lv_at hl 0 rfl) (hp_n (n := 40) rfl ?_)
          refine lv_iconst (v := 5) hx hb dX11_extend_40 (by decide) (hp_n (n := 41) rfl ?_)
          obtain ⟨rh18, αh18, qh18, hf⟩ := hq_cE hf
          refine d_ci (pc' := 44) Bh9 (hp_runV (As := [.int (5 : Int32)]) (rest := []) C Bh9 (n_X11_refuse n Γ l α Bh9.2.2.1 a0 (cw_k Bh9.2.2 k0) (5 : Int32) (rh18, αh18) qh18) lb_X11_refuse lv_X11_refuse lk_X11_98 (cw_k Bh9.2.2 k0) rfl (by decide) rfl hl.1 rfl (Nat.le_of_ble_eq_true rfl) dX11_extend_41 ⟨Nat.le_refl _, Nat.le_refl _⟩) (by decide) rfl (fun Hh18 Lh18 Bh18 => ?_)
          cases hf
          exact q_iret C Bh18 hr hlk ⟨rfl, rfl, Bh18.2.2⟩ dX11_extend_44
      ·
        replace hf := ms_iT c6 hf
        exact J19 α Hh5 Lh5 Bh5 ls (lv_sub hl [0] rfl) hf
def f_X11_isSet (n : Nat) (a0 : Int32) : Option Int32 :=
  if a0 ≤ 0 then
    some (0 : Int32)
  else
    some (1 : Int32)
set_option maxRecDepth 100000 in
set_option maxHeartbeats 4000000 in
theorem n_X11_isSet (n : Nat) (Γ : hp_G) (l : Launch) (α : hp_T) (g : GC α) (a0 : Int32) (res : Int32) (hf : f_X11_isSet n a0 = some res) : Met l yX11_isSet (hp_ws yX11_isSet cX11_isSet 1 (some .boolean)) (hp_rm 0 0 0) (hp_Pc Γ α [.int a0]) (hp_Qi Γ (fun r β => β = α ∧ r = res)) 0 0 (hp_A Γ) := by
  unfold f_X11_isSet at hf
  refine hp_start (by decide) ?_
  intro p e s m below meth c C hr hlk B0 hnm
  have C : hp_C Γ p m c cX11_isSet 1 s ([.int a0] : List Value).toArray RX11 := C
  have hx := C.1.1
  have hb := C.1.2.1
  have hown := C.1.2.2.2.1
  have hts := C.1.2.2.2.2
  have B : hp_B Γ (cw w_X11_isSet) s α α s.heap [] := ⟨B0.1, B0.2.1, cw_rf g⟩
  have hl := lv_entry ([.int a0]) (n := 1) (Nat.le_of_ble_eq_true rfl)
  show W p l e (hp_rm 0 0 0) s m ([.int a0] : List Value).toArray below meth c s.heap [] 0 0 (MQ below (hp_Qi Γ (fun r β => β = α ∧ r = res)) ([.int a0] : List Value).toArray s 0 0 (hp_A Γ)) (entryFrame m ([.int a0] : List Value).toArray 1)
  rw [lg_entry_eq]
  generalize (lg_sl ([.int a0]) ++ List.replicate (1 - (lg_sl ([.int a0])).length) Slot.unset).toArray = ls at hl ⊢
  have hl : lv_has ls 1 [(0, .int a0)] := hl
  refine lv_iload_n hx hb dX11_isSet_0 rfl (lv_at hl 0 rfl) (hp_n (n := 1) rfl ?_)
  refine lv_if_le (tgt := 8) hx hb dX11_isSet_1 (by decide) (fun c1 => ?_) (fun c1 => hp_n (n := 4) rfl ?_)
  ·
    replace hf := ms_iT c1 hf
    refine lv_iconst (v := 0) hx hb dX11_isSet_8 (by decide) (hp_n (n := 9) rfl ?_)
    cases hf
    exact q_zret C B hr hlk (by decide) ⟨rfl, rfl⟩ dX11_isSet_9
  ·
    replace hf := ms_iF c1 hf
    refine lv_iconst (v := 1) hx hb dX11_isSet_4 (by decide) (hp_n (n := 5) rfl ?_)
    refine lv_goto (tgt := 9) hx hb dX11_isSet_5 (by decide) ?_
    cases hf
    exact q_zret C B hr hlk (by decide) ⟨rfl, rfl⟩ dX11_isSet_9
def f_X11_lieBelow (n : Nat) (a0 : Int32) (a1 : Int32) : Option Int32 :=
  ms_b (f_J6_highestOneBit_0f7a4 n a0) fun rh1 =>
  ms_b (f_J9_min_7cf53 n a1 (30 : Int32)) fun rh2 =>
  ms_b (f_J9_max_7cf53 n (0 : Int32) rh2) fun rh3 =>
  if ((1 : Int32) <<< (rh3 &&& 31)) ≤ rh1 then
    some (0 : Int32)
  else
    some (1 : Int32)
set_option maxRecDepth 100000 in
set_option maxHeartbeats 4000000 in
theorem n_X11_lieBelow (n : Nat) (Γ : hp_G) (l : Launch) (α : hp_T) (g : GC α) (a0 : Int32) (a1 : Int32) (res : Int32) (hf : f_X11_lieBelow n a0 a1 = some res) : Met l yX11_lieBelow (hp_ws yX11_lieBelow cX11_lieBelow 2 (some .boolean)) (hp_rm 2 0 0) (hp_Pc Γ α [.int a0, .int a1]) (hp_Qi Γ (fun r β => β = α ∧ r = res)) 0 0 (hp_A Γ) := by
  unfold f_X11_lieBelow at hf
  refine hp_start (by decide) ?_
  intro p e s m below meth c C hr hlk B0 hnm
  have C : hp_C Γ p m c cX11_lieBelow 2 s ([.int a0, .int a1] : List Value).toArray RX11 := C
  have hx := C.1.1
  have hb := C.1.2.1
  have hown := C.1.2.2.2.1
  have hts := C.1.2.2.2.2
  have B : hp_B Γ (cw w_X11_lieBelow) s α α s.heap [] := ⟨B0.1, B0.2.1, cw_rf g⟩
  have hl := lv_entry ([.int a0, .int a1]) (n := 2) (Nat.le_of_ble_eq_true rfl)
  show W p l e (hp_rm 2 0 0) s m ([.int a0, .int a1] : List Value).toArray below meth c s.heap [] 0 0 (MQ below (hp_Qi Γ (fun r β => β = α ∧ r = res)) ([.int a0, .int a1] : List Value).toArray s 0 0 (hp_A Γ)) (entryFrame m ([.int a0, .int a1] : List Value).toArray 2)
  rw [lg_entry_eq]
  generalize (lg_sl ([.int a0, .int a1]) ++ List.replicate (2 - (lg_sl ([.int a0, .int a1])).length) Slot.unset).toArray = ls at hl ⊢
  have hl : lv_has ls 2 [(0, .int a0), (1, .int a1)] := hl
  refine lv_iload_n hx hb dX11_lieBelow_0 rfl (lv_at hl 0 rfl) (hp_n (n := 1) rfl ?_)
  obtain ⟨rh1, qh1, hf⟩ := ms_bE hf
  refine d_pi (pc' := 4) B (hp_runS (As := [.int a0]) (rest := []) C B (n_J6_highestOneBit_0f7a4 n Γ l α B.2.2.1 a0 rh1 qh1) lb_J6_highestOneBit_0f7a4 ls_J6_highestOneBit_0f7a4 lk_X11_463 rfl (by decide) rfl hl.1 rfl (Nat.le_of_ble_eq_true rfl) dX11_lieBelow_1 ⟨Nat.le_refl _, Nat.le_refl _⟩) rfl (fun Hh1 Lh1 Bh1 => ?_)
  refine lv_iconst (v := 1) hx hb dX11_lieBelow_4 (by decide) (hp_n (n := 5) rfl ?_)
  refine lv_iconst (v := 0) hx hb dX11_lieBelow_5 (by decide) (hp_n (n := 6) rfl ?_)
  refine lv_iload_n hx hb dX11_lieBelow_6 rfl (lv_at hl 1 rfl) (hp_n (n := 7) rfl ?_)
  refine lv_bipush (v := 30) hx hb dX11_lieBelow_7 (by decide) (hp_n (n := 9) rfl ?_)
  obtain ⟨rh2, qh2, hf⟩ := ms_bE hf
  refine d_pi (pc' := 12) Bh1 (hp_runS (As := [.int a1, .int (30 : Int32)]) (rest := [.int (0 : Int32), .int (1 : Int32), .int rh1]) C Bh1 (n_J9_min_7cf53 n Γ l α Bh1.2.2.1 a1 (30 : Int32) rh2 qh2) lb_J9_min_7cf53 ls_J9_min_7cf53 lk_X11_466 rfl (by decide) rfl hl.1 rfl (Nat.le_of_ble_eq_true rfl) dX11_lieBelow_9 ⟨Nat.le_refl _, Nat.le_refl _⟩) rfl (fun Hh2 Lh2 Bh2 => ?_)
  obtain ⟨rh3, qh3, hf⟩ := ms_bE hf
  refine d_pi (pc' := 15) Bh2 (hp_runS (As := [.int (0 : Int32), .int rh2]) (rest := [.int (1 : Int32), .int rh1]) C Bh2 (n_J9_max_7cf53 n Γ l α Bh2.2.2.1 (0 : Int32) rh2 rh3 qh3) lb_J9_max_7cf53 ls_J9_max_7cf53 lk_X11_471 rfl (by decide) rfl hl.1 rfl (Nat.le_of_ble_eq_true rfl) dX11_lieBelow_12 ⟨Nat.le_refl _, Nat.le_refl _⟩) rfl (fun Hh3 Lh3 Bh3 => ?_)
  refine lv_ishl hx hb dX11_lieBelow_15 (hp_n (n := 16) rfl ?_)
  refine lv_icmp_ge (tgt := 23) hx hb dX11_lieBelow_16 (by decide) (fun c4 => ?_) (fun c4 => hp_n (n := 19) rfl ?_)
  ·
    replace hf := ms_iT c4 hf
    refine lv_iconst (v := 0) hx hb dX11_lieBelow_23 (by decide) (hp_n (n := 24) rfl ?_)
    cases hf
    exact q_zret C Bh3 hr hlk (by decide) ⟨rfl, rfl⟩ dX11_lieBelow_24
  ·
    replace hf := ms_iF c4 hf
    refine lv_iconst (v := 1) hx hb dX11_lieBelow_19 (by decide) (hp_n (n := 20) rfl ?_)
    refine lv_goto (tgt := 24) hx hb dX11_lieBelow_20 (by decide) ?_
    cases hf
    exact q_zret C Bh3 hr hlk (by decide) ⟨rfl, rfl⟩ dX11_lieBelow_24
def f_X11_hasOneOf_J37 (n : Nat) (w0_h5 : Int32) : Option Int32 :=
  if w0_h5 = 0 then
    some (0 : Int32)
  else
    some (1 : Int32)
def f_X11_hasOneOf (n : Nat) (a0 : Int32) (a1 : Int32) (a2 : Int32) : Option Int32 :=
  if a1 < 0 then
    some (0 : Int32)
  else
    if (30 : Int32) ≤ a1 then
      some (0 : Int32)
    else
      if 0 < a2 then
        ms_l (((a0).toUInt32 >>> ((a1).toUInt32 &&& Int32.toUInt32 31)).toInt32) fun x4 =>
        if a2 < (30 : Int32) then
          f_X11_hasOneOf_J37 n (x4 &&& (((1 : Int32) <<< (a2 &&& 31)) - (1 : Int32)))
        else
          f_X11_hasOneOf_J37 n x4
      else
        some (0 : Int32)
set_option maxRecDepth 100000 in
set_option maxHeartbeats 4000000 in
theorem n_X11_hasOneOf (n : Nat) (Γ : hp_G) (l : Launch) (α : hp_T) (g : GC α) (a0 : Int32) (a1 : Int32) (a2 : Int32) (res : Int32) (hf : f_X11_hasOneOf n a0 a1 a2 = some res) : Met l yX11_hasOneOf (hp_ws yX11_hasOneOf cX11_hasOneOf 4 (some .boolean)) (hp_rm 0 0 0) (hp_Pc Γ α [.int a0, .int a1, .int a2]) (hp_Qi Γ (fun r β => β = α ∧ r = res)) 0 0 (hp_A Γ) := by
  unfold f_X11_hasOneOf at hf
  refine hp_start (by decide) ?_
  intro p e s m below meth c C hr hlk B0 hnm
  have C : hp_C Γ p m c cX11_hasOneOf 4 s ([.int a0, .int a1, .int a2] : List Value).toArray RX11 := C
  have hx := C.1.1
  have hb := C.1.2.1
  have hown := C.1.2.2.2.1
  have hts := C.1.2.2.2.2
  have B : hp_B Γ (cw w_X11_hasOneOf) s α α s.heap [] := ⟨B0.1, B0.2.1, cw_rf g⟩
  have hl := lv_entry ([.int a0, .int a1, .int a2]) (n := 4) (Nat.le_of_ble_eq_true rfl)
  show W p l e (hp_rm 0 0 0) s m ([.int a0, .int a1, .int a2] : List Value).toArray below meth c s.heap [] 0 0 (MQ below (hp_Qi Γ (fun r β => β = α ∧ r = res)) ([.int a0, .int a1, .int a2] : List Value).toArray s 0 0 (hp_A Γ)) (entryFrame m ([.int a0, .int a1, .int a2] : List Value).toArray 4)
  rw [lg_entry_eq]
  generalize (lg_sl ([.int a0, .int a1, .int a2]) ++ List.replicate (4 - (lg_sl ([.int a0, .int a1, .int a2])).length) Slot.unset).toArray = ls at hl ⊢
  have hl : lv_has ls 4 [(0, .int a0), (1, .int a1), (2, .int a2)] := hl
  refine lv_iload_n hx hb dX11_hasOneOf_0 rfl (lv_at hl 1 rfl) (hp_n (n := 1) rfl ?_)
  refine lv_if_lt (tgt := 14) hx hb dX11_hasOneOf_1 (by decide) (fun c1 => ?_) (fun c1 => hp_n (n := 4) rfl ?_)
  ·
    replace hf := ms_iT c1 hf
    refine lv_iconst (v := 0) hx hb dX11_hasOneOf_14 (by decide) (hp_n (n := 15) rfl ?_)
    cases hf
    exact q_zret C B hr hlk (by decide) ⟨rfl, rfl⟩ dX11_hasOneOf_15
  ·
    replace hf := ms_iF c1 hf
    refine lv_iload_n hx hb dX11_hasOneOf_4 rfl (lv_at hl 1 rfl) (hp_n (n := 5) rfl ?_)
    refine lv_bipush (v := 30) hx hb dX11_hasOneOf_5 (by decide) (hp_n (n := 7) rfl ?_)
    refine lv_icmp_ge (tgt := 14) hx hb dX11_hasOneOf_7 (by decide) (fun c2 => ?_) (fun c2 => hp_n (n := 10) rfl ?_)
    ·
      replace hf := ms_iT c2 hf
      refine lv_iconst (v := 0) hx hb dX11_hasOneOf_14 (by decide) (hp_n (n := 15) rfl ?_)
      cases hf
      exact q_zret C B hr hlk (by decide) ⟨rfl, rfl⟩ dX11_hasOneOf_15
    ·
      replace hf := ms_iF c2 hf
      refine lv_iload_n hx hb dX11_hasOneOf_10 rfl (lv_at hl 2 rfl) (hp_n (n := 11) rfl ?_)
      refine lv_if_gt (tgt := 16) hx hb dX11_hasOneOf_11 (by decide) (fun c3 => ?_) (fun c3 => hp_n (n := 14) rfl ?_)
      ·
        replace hf := ms_iT c3 hf
        refine lv_iload_n hx hb dX11_hasOneOf_16 rfl (lv_at hl 0 rfl) (hp_n (n := 17) rfl ?_)
        refine lv_iload_n hx hb dX11_hasOneOf_17 rfl (lv_at hl 1 rfl) (hp_n (n := 18) rfl ?_)
        refine lv_iushr hx hb dX11_hasOneOf_18 rfl (hp_n (n := 19) rfl ?_)
        refine lv_topi (fun x4 ex4 => ?_)
        replace hf := ms_lE ex4 hf
        refine lv_istore_n (lv' := [(3, .int x4), (0, .int a0), (1, .int a1), (2, .int a2)]) hx hb dX11_hasOneOf_19 rfl hl (by decide) rfl (fun ls hl => hp_n (n := 20) rfl ?_)
        refine lv_iload_n hx hb dX11_hasOneOf_20 rfl (lv_at hl 3 rfl) (hp_n (n := 21) rfl ?_)
        refine lv_bipush (v := 30) hx hb dX11_hasOneOf_21 (by decide) (hp_n (n := 23) rfl ?_)
        have J37 : ∀ (Hh5 : Heap) (Lh5 : List Loc) (Bh5 : hp_B Γ (cw w_X11_hasOneOf) s α α Hh5 Lh5) (w0_h5 : Int32) (ls : Array Slot) (hl : lv_has ls 4 []) (hf : f_X11_hasOneOf_J37 n w0_h5 = some res), W p l e (hp_rm 0 0 0) s m ([.int a0, .int a1, .int a2] : List Value).toArray below meth c Hh5 Lh5 0 0 (MQ below (hp_Qi Γ (fun r β => β = α ∧ r = res)) ([.int a0, .int a1, .int a2] : List Value).toArray s 0 0 (hp_A Γ)) (F0 m 37 ls [.int w0_h5]) := by
          intro Hh5 Lh5 Bh5 w0_h5 ls hl hf
          unfold f_X11_hasOneOf_J37 at hf
          refine lv_if_eq (tgt := 44) hx hb dX11_hasOneOf_37 (by decide) (fun c6 => ?_) (fun c6 => hp_n (n := 40) rfl ?_)
          ·
            replace hf := ms_iT c6 hf
            refine lv_iconst (v := 0) hx hb dX11_hasOneOf_44 (by decide) (hp_n (n := 45) rfl ?_)
            cases hf
            exact q_zret C Bh5 hr hlk (by decide) ⟨rfl, rfl⟩ dX11_hasOneOf_45
          ·
            replace hf := ms_iF c6 hf
            refine lv_iconst (v := 1) hx hb dX11_hasOneOf_40 (by decide) (hp_n (n := 41) rfl ?_)
            refine lv_goto (tgt := 45) hx hb dX11_hasOneOf_41 (by decide) ?_
            cases hf
            exact q_zret C Bh5 hr hlk (by decide) ⟨rfl, rfl⟩ dX11_hasOneOf_45
        refine lv_icmp_lt (tgt := 30) hx hb dX11_hasOneOf_23 (by decide) (fun c7 => ?_) (fun c7 => hp_n (n := 26) rfl ?_)
        ·
          replace hf := ms_iT c7 hf
          refine lv_iload_n hx hb dX11_hasOneOf_30 rfl (lv_at hl 0 rfl) (hp_n (n := 31) rfl ?_)
          refine lv_iconst (v := 1) hx hb dX11_hasOneOf_31 (by decide) (hp_n (n := 32) rfl ?_)
          refine lv_iload_n hx hb dX11_hasOneOf_32 rfl (lv_at hl 3 rfl) (hp_n (n := 33) rfl ?_)
          refine lv_ishl hx hb dX11_hasOneOf_33 (hp_n (n := 34) rfl ?_)
          refine lv_iconst (v := 1) hx hb dX11_hasOneOf_34 (by decide) (hp_n (n := 35) rfl ?_)
          refine lv_isub hx hb dX11_hasOneOf_35 (hp_n (n := 36) rfl ?_)
          refine lv_iand hx hb dX11_hasOneOf_36 (hp_n (n := 37) rfl ?_)
          exact J37 s.heap [] B (x4 &&& (((1 : Int32) <<< (a2 &&& 31)) - (1 : Int32))) ls (lv_sub hl [] rfl) hf
        ·
          replace hf := ms_iF c7 hf
          refine lv_iload_n hx hb dX11_hasOneOf_26 rfl (lv_at hl 0 rfl) (hp_n (n := 27) rfl ?_)
          refine lv_goto (tgt := 37) hx hb dX11_hasOneOf_27 (by decide) ?_
          exact J37 s.heap [] B x4 ls (lv_sub hl [] rfl) hf
      ·
        replace hf := ms_iF c3 hf
        refine lv_iconst (v := 0) hx hb dX11_hasOneOf_14 (by decide) (hp_n (n := 15) rfl ?_)
        cases hf
        exact q_zret C B hr hlk (by decide) ⟨rfl, rfl⟩ dX11_hasOneOf_15
def f_X8_putGreatestWithout_J76 (n : Nat) (a0 : Nat) (αh2 : hp_T) (v4_h2 : Int32) (v5_h2 : Int32) : Option (Int32 × hp_T) :=
  ms_b (f_X8_put n αh2 a0 v4_h2 v5_h2 (0 : Int32)) fun αh3 =>
  some (v5_h2, αh3)
def f_X8_putGreatestWithout_J70 (n : Nat) (a0 : Nat) (rec9 : hp_T → Int32 → Int32 → Int32 → Int32 → Int32 → Option (Int32 × hp_T)) (αh7 : hp_T) (v1_h7 : Int32) (v2_h7 : Int32) (v4_h7 : Int32) (v5_h7 : Int32) (v6_h7 : Int32) : Option (Int32 × hp_T) :=
  ms_l (v6_h7 + 1) fun x8 =>
  rec9 αh7 v1_h7 v2_h7 v4_h7 v5_h7 x8
def f_X8_putGreatestWithout_J33 (n : Nat) (a0 : Nat) (rec9 : hp_T → Int32 → Int32 → Int32 → Int32 → Int32 → Option (Int32 × hp_T)) (αh5 : hp_T) (v1_h5 : Int32) (v2_h5 : Int32) (v4_h5 : Int32) (v5_h5 : Int32) (v6_h5 : Int32) : Option (Int32 × hp_T) :=
  ms_b (f_X11_firstPartOf n v5_h5) fun rh6 =>
  if rh6 ≤ (v2_h5 - v4_h5) then
    ms_l ((v4_h5 + rh6)) fun x10 =>
    ms_l ((v5_h5 - rh6)) fun x11 =>
    f_X8_putGreatestWithout_J70 n a0 rec9 αh5 v1_h5 v2_h5 x10 x11 v6_h5
  else
    f_X8_putGreatestWithout_J70 n a0 rec9 αh5 v1_h5 v2_h5 v4_h5 rh6 v6_h5
def f_X8_putGreatestWithout_L9 (n : Nat) (a0 : Nat) : Nat → hp_T → Int32 → Int32 → Int32 → Int32 → Int32 → Option (Int32 × hp_T)
  | 0, _, _, _, _, _, _ => none
  | k9 + 1, αh1, v1_h1, v2_h1, v4_h1, v5_h1, v6_h1 =>
    if (40 : Int32) ≤ v6_h1 then
      f_X8_putGreatestWithout_J76 n a0 αh1 v4_h1 v5_h1
    else
      if v4_h1 = v2_h1 then
        ms_b (f_X11_hasOneOf n v1_h1 v4_h1 v5_h1) fun rh13 =>
        if rh13 = 0 then
          f_X8_putGreatestWithout_J76 n a0 αh1 v4_h1 v5_h1
        else
          f_X8_putGreatestWithout_J33 n a0 (f_X8_putGreatestWithout_L9 n a0 k9) αh1 v1_h1 v2_h1 v4_h1 v5_h1 v6_h1
      else
        f_X8_putGreatestWithout_J33 n a0 (f_X8_putGreatestWithout_L9 n a0 k9) αh1 v1_h1 v2_h1 v4_h1 v5_h1 v6_h1
def f_X8_putGreatestWithout (n : Nat) (α : hp_T) (a0 : Nat) (a1 : Int32) (a2 : Int32) (a3 : Int32) : Option (Int32 × hp_T) :=
  f_X8_putGreatestWithout_L9 n a0 n α a1 a2 (0 : Int32) a3 (0 : Int32)
set_option maxRecDepth 100000 in
set_option maxHeartbeats 4000000 in
theorem n_X8_putGreatestWithout (n : Nat) (Γ : hp_G) (l : Launch) (α : hp_T) (g : GC α) (a0 : Nat) (k0 : hp_K α a0 = 9) (a1 : Int32) (a2 : Int32) (a3 : Int32) (res : (Int32 × hp_T)) (hf : f_X8_putGreatestWithout n α a0 a1 a2 a3 = some res) : Met l yX8_putGreatestWithout (hp_ws yX8_putGreatestWithout cX8_putGreatestWithout 8 (some .int)) (hp_rm 3 0 0) (hp_Pc Γ α [.ref a0, .int a1, .int a2, .int a3]) (hp_Qi Γ (fun r β => r = res.1 ∧ β = res.2 ∧ cw w_X8_putGreatestWithout α β)) 0 0 (hp_A Γ) := by
  unfold f_X8_putGreatestWithout at hf
  refine hp_start (by decide) ?_
  intro p e s m below meth c C hr hlk B0 hnm
  have C : hp_C Γ p m c cX8_putGreatestWithout 8 s ([.ref a0, .int a1, .int a2, .int a3] : List Value).toArray RX8 := C
  have hx := C.1.1
  have hb := C.1.2.1
  have hown := C.1.2.2.2.1
  have hts := C.1.2.2.2.2
  have B : hp_B Γ (cw w_X8_putGreatestWithout) s α α s.heap [] := ⟨B0.1, B0.2.1, cw_rf g⟩
  have hl := lv_entry ([.ref a0, .int a1, .int a2, .int a3]) (n := 8) (Nat.le_of_ble_eq_true rfl)
  show W p l e (hp_rm 3 0 0) s m ([.ref a0, .int a1, .int a2, .int a3] : List Value).toArray below meth c s.heap [] 0 0 (MQ below (hp_Qi Γ (fun r β => r = res.1 ∧ β = res.2 ∧ cw w_X8_putGreatestWithout α β)) ([.ref a0, .int a1, .int a2, .int a3] : List Value).toArray s 0 0 (hp_A Γ)) (entryFrame m ([.ref a0, .int a1, .int a2, .int a3] : List Value).toArray 8)
  rw [lg_entry_eq]
  generalize (lg_sl ([.ref a0, .int a1, .int a2, .int a3]) ++ List.replicate (8 - (lg_sl ([.ref a0, .int a1, .int a2, .int a3])).length) Slot.unset).toArray = ls at hl ⊢
  have hl : lv_has ls 8 [(0, .ref a0), (1, .int a1), (2, .int a2), (3, .int a3)] := hl
  refine lv_iconst (v := 0) hx hb dX8_putGreatestWithout_0 (by decide) (hp_n (n := 1) rfl ?_)
  refine lv_istore (lv' := [(4, .int (0 : Int32)), (0, .ref a0), (1, .int a1), (2, .int a2), (3, .int a3)]) hx hb dX8_putGreatestWithout_1 hl (by decide) rfl (fun ls hl => hp_n (n := 3) rfl ?_)
  refine lv_iload_n hx hb dX8_putGreatestWithout_3 rfl (lv_at hl 4 rfl) (hp_n (n := 4) rfl ?_)
  refine lv_istore (lv' := [(5, .int a3), (4, .int (0 : Int32)), (0, .ref a0), (1, .int a1), (2, .int a2), (3, .int a3)]) hx hb dX8_putGreatestWithout_4 hl (by decide) rfl (fun ls hl => hp_n (n := 6) rfl ?_)
  refine lv_iconst (v := 0) hx hb dX8_putGreatestWithout_6 (by decide) (hp_n (n := 7) rfl ?_)
  have J9 : ∀ (k9 : Nat) (αh1 : hp_T) (Hh1 : Heap) (Lh1 : List Loc) (Bh1 : hp_B Γ (cw w_X8_putGreatestWithout) s α αh1 Hh1 Lh1) (v1_h1 : Int32) (v2_h1 : Int32) (v4_h1 : Int32) (v5_h1 : Int32) (v6_h1 : Int32) (ls : Array Slot) (hl : lv_has ls 8 [(0, .ref a0), (1, .int v1_h1), (2, .int v2_h1), (4, .int v4_h1), (5, .int v5_h1), (6, .int v6_h1)]) (hf : f_X8_putGreatestWithout_L9 n a0 k9 αh1 v1_h1 v2_h1 v4_h1 v5_h1 v6_h1 = some res), W p l e (hp_rm 3 0 0) s m ([.ref a0, .int a1, .int a2, .int a3] : List Value).toArray below meth c Hh1 Lh1 0 0 (MQ below (hp_Qi Γ (fun r β => r = res.1 ∧ β = res.2 ∧ cw w_X8_putGreatestWithout α β)) ([.ref a0, .int a1, .int a2, .int a3] : List Value).toArray s 0 0 (hp_A Γ)) (F0 m 9 ls []) := by
    intro k9
    induction k9 with
    | zero => intro αh1 Hh1 Lh1 Bh1 v1_h1 v2_h1 v4_h1 v5_h1 v6_h1 ls hl hf; rw [f_X8_putGreatestWithout_L9.eq_1] at hf; cases hf
    | succ k9 ih9 =>
      intro αh1 Hh1 Lh1 Bh1 v1_h1 v2_h1 v4_h1 v5_h1 v6_h1 ls hl hf
      rw [f_X8_putGreatestWithout_L9.eq_2] at hf
      refine lv_iload hx hb dX8_putGreatestWithout_9 (lv_at hl 5 rfl) (hp_n (n := 11) rfl ?_)
      refine lv_bipush (v := 40) hx hb dX8_putGreatestWithout_11 (by decide) (hp_n (n := 13) rfl ?_)
      have J76 : ∀ (αh2 : hp_T) (Hh2 : Heap) (Lh2 : List Loc) (Bh2 : hp_B Γ (cw w_X8_putGreatestWithout) s α αh2 Hh2 Lh2) (v4_h2 : Int32) (v5_h2 : Int32) (ls : Array Slot) (hl : lv_has ls 8 [(0, .ref a0), (4, .int v4_h2), (5, .int v5_h2)]) (hf : f_X8_putGreatestWithout_J76 n a0 αh2 v4_h2 v5_h2 = some res), W p l e (hp_rm 3 0 0) s m ([.ref a0, .int a1, .int a2, .int a3] : List Value).toArray below meth c Hh2 Lh2 0 0 (MQ below (hp_Qi Γ (fun r β => r = res.1 ∧ β = res.2 ∧ cw w_X8_putGreatestWithout α β)) ([.ref a0, .int a1, .int a2, .int a3] : List Value).toArray s 0 0 (hp_A Γ)) (F0 m 76 ls []) := by
        intro αh2 Hh2 Lh2 Bh2 v4_h2 v5_h2 ls hl hf
        unfold f_X8_putGreatestWithout_J76 at hf
        refine lv_aload_n hx hb dX8_putGreatestWithout_76 rfl (lv_at hl 0 rfl) (hp_n (n := 77) rfl ?_)
        refine lv_iload hx hb dX8_putGreatestWithout_77 (lv_at hl 1 rfl) (hp_n (n := 79) rfl ?_)
        refine lv_iload hx hb dX8_putGreatestWithout_79 (lv_at hl 2 rfl) (hp_n (n := 81) rfl ?_)
        refine lv_iconst (v := 0) hx hb dX8_putGreatestWithout_81 (by decide) (hp_n (n := 82) rfl ?_)
        obtain ⟨αh3, qh3, hf⟩ := ms_bE hf
        refine d_cv (pc' := 85) Bh2 (hp_runV (As := [.int v4_h2, .int v5_h2, .int (0 : Int32)]) (rest := []) C Bh2 (n_X8_put n Γ l αh2 Bh2.2.2.1 a0 (cw_k Bh2.2.2 k0) v4_h2 v5_h2 (0 : Int32) αh3 qh3) lb_X8_put lv_X8_put lk_X8_37 (cw_k Bh2.2.2 k0) rfl (by decide) rfl hl.1 rfl (Nat.le_of_ble_eq_true rfl) dX8_putGreatestWithout_82 ⟨Nat.le_refl _, Nat.le_refl _⟩) (by decide) rfl (fun Hh3 Lh3 Bh3 => ?_)
        refine lv_iload hx hb dX8_putGreatestWithout_85 (lv_at hl 2 rfl) (hp_n (n := 87) rfl ?_)
        cases hf
        exact q_iret C Bh3 hr hlk ⟨rfl, rfl, Bh3.2.2⟩ dX8_putGreatestWithout_87
      refine lv_icmp_ge (tgt := 76) hx hb dX8_putGreatestWithout_13 (by decide) (fun c4 => ?_) (fun c4 => hp_n (n := 16) rfl ?_)
      ·
        replace hf := ms_iT c4 hf
        exact J76 αh1 Hh1 Lh1 Bh1 v4_h1 v5_h1 ls (lv_sub hl [0, 3, 4] rfl) hf
      ·
        replace hf := ms_iF c4 hf
        refine lv_iload hx hb dX8_putGreatestWithout_16 (lv_at hl 3 rfl) (hp_n (n := 18) rfl ?_)
        refine lv_iload_n hx hb dX8_putGreatestWithout_18 rfl (lv_at hl 2 rfl) (hp_n (n := 19) rfl ?_)
        have J33 : ∀ (αh5 : hp_T) (Hh5 : Heap) (Lh5 : List Loc) (Bh5 : hp_B Γ (cw w_X8_putGreatestWithout) s α αh5 Hh5 Lh5) (v1_h5 : Int32) (v2_h5 : Int32) (v4_h5 : Int32) (v5_h5 : Int32) (v6_h5 : Int32) (ls : Array Slot) (hl : lv_has ls 8 [(0, .ref a0), (1, .int v1_h5), (2, .int v2_h5), (4, .int v4_h5), (5, .int v5_h5), (6, .int v6_h5)]) (hf : f_X8_putGreatestWithout_J33 n a0 (f_X8_putGreatestWithout_L9 n a0 k9) αh5 v1_h5 v2_h5 v4_h5 v5_h5 v6_h5 = some res), W p l e (hp_rm 3 0 0) s m ([.ref a0, .int a1, .int a2, .int a3] : List Value).toArray below meth c Hh5 Lh5 0 0 (MQ below (hp_Qi Γ (fun r β => r = res.1 ∧ β = res.2 ∧ cw w_X8_putGreatestWithout α β)) ([.ref a0, .int a1, .int a2, .int a3] : List Value).toArray s 0 0 (hp_A Γ)) (F0 m 33 ls []) := by
          intro αh5 Hh5 Lh5 Bh5 v1_h5 v2_h5 v4_h5 v5_h5 v6_h5 ls hl hf
          unfold f_X8_putGreatestWithout_J33 at hf
          refine lv_iload hx hb dX8_putGreatestWithout_33 (lv_at hl 4 rfl) (hp_n (n := 35) rfl ?_)
          obtain ⟨rh6, qh6, hf⟩ := ms_bE hf
          refine d_pi (pc' := 38) Bh5 (hp_runS (As := [.int v5_h5]) (rest := []) C Bh5 (n_X11_firstPartOf n Γ l αh5 Bh5.2.2.1 v5_h5 rh6 qh6) lb_X11_firstPartOf ls_X11_firstPartOf lk_X8_33 rfl (by decide) rfl hl.1 rfl (Nat.le_of_ble_eq_true rfl) dX8_putGreatestWithout_35 ⟨Nat.le_refl _, Nat.le_refl _⟩) rfl (fun Hh6 Lh6 Bh6 => ?_)
          refine lv_istore (lv' := [(7, .int rh6), (0, .ref a0), (1, .int v1_h5), (2, .int v2_h5), (4, .int v4_h5), (5, .int v5_h5), (6, .int v6_h5)]) hx hb dX8_putGreatestWithout_38 hl (by decide) rfl (fun ls hl => hp_n (n := 40) rfl ?_)
          refine lv_iload_n hx hb dX8_putGreatestWithout_40 rfl (lv_at hl 3 rfl) (hp_n (n := 41) rfl ?_)
          refine lv_iload hx hb dX8_putGreatestWithout_41 (lv_at hl 4 rfl) (hp_n (n := 43) rfl ?_)
          refine lv_isub hx hb dX8_putGreatestWithout_43 (hp_n (n := 44) rfl ?_)
          refine lv_iload hx hb dX8_putGreatestWithout_44 (lv_at hl 0 rfl) (hp_n (n := 46) rfl ?_)
          have J70 : ∀ (αh7 : hp_T) (Hh7 : Heap) (Lh7 : List Loc) (Bh7 : hp_B Γ (cw w_X8_putGreatestWithout) s α αh7 Hh7 Lh7) (v1_h7 : Int32) (v2_h7 : Int32) (v4_h7 : Int32) (v5_h7 : Int32) (v6_h7 : Int32) (ls : Array Slot) (hl : lv_has ls 8 [(0, .ref a0), (1, .int v1_h7), (2, .int v2_h7), (4, .int v4_h7), (5, .int v5_h7), (6, .int v6_h7)]) (hf : f_X8_putGreatestWithout_J70 n a0 (f_X8_putGreatestWithout_L9 n a0 k9) αh7 v1_h7 v2_h7 v4_h7 v5_h7 v6_h7 = some res), W p l e (hp_rm 3 0 0) s m ([.ref a0, .int a1, .int a2, .int a3] : List Value).toArray below meth c Hh7 Lh7 0 0 (MQ below (hp_Qi Γ (fun r β => r = res.1 ∧ β = res.2 ∧ cw w_X8_putGreatestWithout α β)) ([.ref a0, .int a1, .int a2, .int a3] : List Value).toArray s 0 0 (hp_A Γ)) (F0 m 70 ls []) := by
            intro αh7 Hh7 Lh7 Bh7 v1_h7 v2_h7 v4_h7 v5_h7 v6_h7 ls hl hf
            unfold f_X8_putGreatestWithout_J70 at hf
            obtain ⟨x8, ex8⟩ : ∃ y : Int32, y = v6_h7 + 1 := ⟨_, rfl⟩
            replace hf := ms_lE ex8 hf
            refine lv_iinc (v := x8) (lv' := [(6, .int x8), (0, .ref a0), (1, .int v1_h7), (2, .int v2_h7), (4, .int v4_h7), (5, .int v5_h7)]) hx hb dX8_putGreatestWithout_70 hl (k := 5) rfl (by rw [ex8]; rfl) (by decide) rfl (fun ls hl => hp_n (n := 73) rfl ?_)
            refine lv_goto (tgt := 9) hx hb dX8_putGreatestWithout_73 (by decide) ?_
            exact ih9 αh7 Hh7 Lh7 Bh7 v1_h7 v2_h7 v4_h7 v5_h7 x8 ls (lv_sub hl [1, 2, 3, 4, 5, 0] rfl) hf
          refine lv_icmp_ge (tgt := 56) hx hb dX8_putGreatestWithout_46 (by decide) (fun c9 => ?_) (fun c9 => hp_n (n := 49) rfl ?_)
          ·
            replace hf := ms_iT c9 hf
            refine lv_iload hx hb dX8_putGreatestWithout_56 (lv_at hl 4 rfl) (hp_n (n := 58) rfl ?_)
            refine lv_iload hx hb dX8_putGreatestWithout_58 (lv_at hl 0 rfl) (hp_n (n := 60) rfl ?_)
            refine lv_iadd hx hb dX8_putGreatestWithout_60 (hp_n (n := 61) rfl ?_)
            refine lv_topi (fun x10 ex10 => ?_)
            replace hf := ms_lE ex10 hf
            refine lv_istore (lv' := [(4, .int x10), (7, .int rh6), (0, .ref a0), (1, .int v1_h5), (2, .int v2_h5), (5, .int v5_h5), (6, .int v6_h5)]) hx hb dX8_putGreatestWithout_61 hl (by decide) rfl (fun ls hl => hp_n (n := 63) rfl ?_)
            refine lv_iload hx hb dX8_putGreatestWithout_63 (lv_at hl 5 rfl) (hp_n (n := 65) rfl ?_)
            refine lv_iload hx hb dX8_putGreatestWithout_65 (lv_at hl 1 rfl) (hp_n (n := 67) rfl ?_)
            refine lv_isub hx hb dX8_putGreatestWithout_67 (hp_n (n := 68) rfl ?_)
            refine lv_topi (fun x11 ex11 => ?_)
            replace hf := ms_lE ex11 hf
            refine lv_istore (lv' := [(5, .int x11), (4, .int x10), (7, .int rh6), (0, .ref a0), (1, .int v1_h5), (2, .int v2_h5), (6, .int v6_h5)]) hx hb dX8_putGreatestWithout_68 hl (by decide) rfl (fun ls hl => hp_n (n := 70) rfl ?_)
            exact J70 αh5 Hh6 Lh6 Bh6 v1_h5 v2_h5 x10 x11 v6_h5 ls (lv_sub hl [3, 4, 5, 1, 0, 6] rfl) hf
          ·
            replace hf := ms_iF c9 hf
            refine lv_iload hx hb dX8_putGreatestWithout_49 (lv_at hl 0 rfl) (hp_n (n := 51) rfl ?_)
            refine lv_istore (lv' := [(5, .int rh6), (7, .int rh6), (0, .ref a0), (1, .int v1_h5), (2, .int v2_h5), (4, .int v4_h5), (6, .int v6_h5)]) hx hb dX8_putGreatestWithout_51 hl (by decide) rfl (fun ls hl => hp_n (n := 53) rfl ?_)
            refine lv_goto (tgt := 70) hx hb dX8_putGreatestWithout_53 (by decide) ?_
            exact J70 αh5 Hh6 Lh6 Bh6 v1_h5 v2_h5 v4_h5 rh6 v6_h5 ls (lv_sub hl [2, 3, 4, 5, 0, 6] rfl) hf
        refine lv_icmp_ne (tgt := 33) hx hb dX8_putGreatestWithout_19 (by decide) (fun c12 => ?_) (fun c12 => hp_n (n := 22) rfl ?_)
        ·
          replace hf := ms_iF c12 hf
          exact J33 αh1 Hh1 Lh1 Bh1 v1_h1 v2_h1 v4_h1 v5_h1 v6_h1 ls (lv_sub hl [0, 1, 2, 3, 4, 5] rfl) hf
        ·
          replace hf := ms_iT c12 hf
          refine lv_iload_n hx hb dX8_putGreatestWithout_22 rfl (lv_at hl 1 rfl) (hp_n (n := 23) rfl ?_)
          refine lv_iload hx hb dX8_putGreatestWithout_23 (lv_at hl 3 rfl) (hp_n (n := 25) rfl ?_)
          refine lv_iload hx hb dX8_putGreatestWithout_25 (lv_at hl 4 rfl) (hp_n (n := 27) rfl ?_)
          obtain ⟨rh13, qh13, hf⟩ := ms_bE hf
          refine d_pi (pc' := 30) Bh1 (hp_runS (As := [.int v1_h1, .int v4_h1, .int v5_h1]) (rest := []) C Bh1 (n_X11_hasOneOf n Γ l αh1 Bh1.2.2.1 v1_h1 v4_h1 v5_h1 rh13 qh13) lb_X11_hasOneOf ls_X11_hasOneOf lk_X8_44 rfl (by decide) rfl hl.1 rfl (Nat.le_of_ble_eq_true rfl) dX8_putGreatestWithout_27 ⟨Nat.le_refl _, Nat.le_refl _⟩) rfl (fun Hh13 Lh13 Bh13 => ?_)
          refine lv_if_eq (tgt := 76) hx hb dX8_putGreatestWithout_30 (by decide) (fun c14 => ?_) (fun c14 => hp_n (n := 33) rfl ?_)
          ·
            replace hf := ms_iT c14 hf
            exact J76 αh1 Hh13 Lh13 Bh13 v4_h1 v5_h1 ls (lv_sub hl [0, 3, 4] rfl) hf
          ·
            replace hf := ms_iF c14 hf
            exact J33 αh1 Hh13 Lh13 Bh13 v1_h1 v2_h1 v4_h1 v5_h1 v6_h1 ls (lv_sub hl [0, 1, 2, 3, 4, 5] rfl) hf
  refine lv_istore (lv' := [(6, .int (0 : Int32)), (5, .int a3), (4, .int (0 : Int32)), (0, .ref a0), (1, .int a1), (2, .int a2), (3, .int a3)]) hx hb dX8_putGreatestWithout_7 hl (by decide) rfl (fun ls hl => hp_n (n := 9) rfl ?_)
  exact J9 n α s.heap [] B a1 a2 (0 : Int32) a3 (0 : Int32) ls (lv_sub hl [3, 4, 5, 2, 1, 0] rfl) hf
def f_X8_toBundle_J47 (n : Nat) (a0 : Nat) (rec9 : hp_T → Int32 → Int32 → Int32 → Int32 → Option hp_T) (αh6 : hp_T) (v1_h6 : Int32) (v2_h6 : Int32) (v3_h6 : Int32) (v4_h6 : Int32) : Option hp_T :=
  ms_l (v4_h6 + 1) fun x7 =>
  rec9 αh6 v1_h6 v2_h6 v3_h6 x7
def f_X8_toBundle_L9 (n : Nat) (a0 : Nat) : Nat → hp_T → Int32 → Int32 → Int32 → Int32 → Option hp_T
  | 0, _, _, _, _, _ => none
  | k9 + 1, αh2, v1_h2, v2_h2, v3_h2, v4_h2 =>
    if (128 : Int32) ≤ v4_h2 then
      some αh2
    else
      if v2_h2 ≤ v3_h2 then
        some αh2
      else
        ms_b (f_X11_hasOneOf n v1_h2 v3_h2 (1 : Int32)) fun rh5 =>
        if rh5 = 0 then
          hq_c (f_X8_putGreatestWithout n αh2 a0 v1_h2 v3_h2 v2_h2) fun rh9 αh9 =>
          ms_l ((v3_h2 + rh9)) fun x10 =>
          f_X8_toBundle_J47 n a0 (f_X8_toBundle_L9 n a0 k9) αh9 v1_h2 v2_h2 x10 v4_h2
        else
          ms_l (v3_h2 + 1) fun x11 =>
          f_X8_toBundle_J47 n a0 (f_X8_toBundle_L9 n a0 k9) αh2 v1_h2 v2_h2 x11 v4_h2
def f_X8_toBundle (n : Nat) (α : hp_T) (a0 : Nat) (a1 : Int32) (a2 : Int32) : Option hp_T :=
  ms_b (f_X8_clear n α a0) fun αh1 =>
  f_X8_toBundle_L9 n a0 n αh1 a1 a2 (0 : Int32) (0 : Int32)
set_option maxRecDepth 100000 in
set_option maxHeartbeats 4000000 in
theorem n_X8_toBundle (n : Nat) (Γ : hp_G) (l : Launch) (α : hp_T) (g : GC α) (a0 : Nat) (k0 : hp_K α a0 = 9) (a1 : Int32) (a2 : Int32) (res : hp_T) (hf : f_X8_toBundle n α a0 a1 a2 = some res) : Met l yX8_toBundle (hp_ws yX8_toBundle cX8_toBundle 5 none) (hp_rm 4 0 0) (hp_Pc Γ α [.ref a0, .int a1, .int a2]) (hp_Qv Γ (fun β => β = res ∧ cw w_X8_toBundle α β)) 0 0 (hp_A Γ) := by
  unfold f_X8_toBundle at hf
  refine hp_start (by decide) ?_
  intro p e s m below meth c C hr hlk B0 hnm
  have C : hp_C Γ p m c cX8_toBundle 5 s ([.ref a0, .int a1, .int a2] : List Value).toArray RX8 := C
  have hx := C.1.1
  have hb := C.1.2.1
  have hown := C.1.2.2.2.1
  have hts := C.1.2.2.2.2
  have B : hp_B Γ (cw w_X8_toBundle) s α α s.heap [] := ⟨B0.1, B0.2.1, cw_rf g⟩
  have hl := lv_entry ([.ref a0, .int a1, .int a2]) (n := 5) (Nat.le_of_ble_eq_true rfl)
  show W p l e (hp_rm 4 0 0) s m ([.ref a0, .int a1, .int a2] : List Value).toArray below meth c s.heap [] 0 0 (MQ below (hp_Qv Γ (fun β => β = res ∧ cw w_X8_toBundle α β)) ([.ref a0, .int a1, .int a2] : List Value).toArray s 0 0 (hp_A Γ)) (entryFrame m ([.ref a0, .int a1, .int a2] : List Value).toArray 5)
  rw [lg_entry_eq]
  generalize (lg_sl ([.ref a0, .int a1, .int a2]) ++ List.replicate (5 - (lg_sl ([.ref a0, .int a1, .int a2])).length) Slot.unset).toArray = ls at hl ⊢
  have hl : lv_has ls 5 [(0, .ref a0), (1, .int a1), (2, .int a2)] := hl
  refine lv_aload_n hx hb dX8_toBundle_0 rfl (lv_at hl 0 rfl) (hp_n (n := 1) rfl ?_)
  obtain ⟨αh1, qh1, hf⟩ := ms_bE hf
  refine d_cv (pc' := 4) B (hp_runV (As := []) (rest := []) C B (n_X8_clear n Γ l α B.2.2.1 a0 (cw_k B.2.2 k0) αh1 qh1) lb_X8_clear lv_X8_clear lk_X8_30 (cw_k B.2.2 k0) rfl (by decide) rfl hl.1 rfl (Nat.le_of_ble_eq_true rfl) dX8_toBundle_1 ⟨Nat.le_refl _, Nat.le_refl _⟩) (by decide) rfl (fun Hh1 Lh1 Bh1 => ?_)
  refine lv_iconst (v := 0) hx hb dX8_toBundle_4 (by decide) (hp_n (n := 5) rfl ?_)
  refine lv_istore_n (lv' := [(3, .int (0 : Int32)), (0, .ref a0), (1, .int a1), (2, .int a2)]) hx hb dX8_toBundle_5 rfl hl (by decide) rfl (fun ls hl => hp_n (n := 6) rfl ?_)
  refine lv_iconst (v := 0) hx hb dX8_toBundle_6 (by decide) (hp_n (n := 7) rfl ?_)
  have J9 : ∀ (k9 : Nat) (αh2 : hp_T) (Hh2 : Heap) (Lh2 : List Loc) (Bh2 : hp_B Γ (cw w_X8_toBundle) s α αh2 Hh2 Lh2) (v1_h2 : Int32) (v2_h2 : Int32) (v3_h2 : Int32) (v4_h2 : Int32) (ls : Array Slot) (hl : lv_has ls 5 [(0, .ref a0), (1, .int v1_h2), (2, .int v2_h2), (3, .int v3_h2), (4, .int v4_h2)]) (hf : f_X8_toBundle_L9 n a0 k9 αh2 v1_h2 v2_h2 v3_h2 v4_h2 = some res), W p l e (hp_rm 4 0 0) s m ([.ref a0, .int a1, .int a2] : List Value).toArray below meth c Hh2 Lh2 0 0 (MQ below (hp_Qv Γ (fun β => β = res ∧ cw w_X8_toBundle α β)) ([.ref a0, .int a1, .int a2] : List Value).toArray s 0 0 (hp_A Γ)) (F0 m 9 ls []) := by
    intro k9
    induction k9 with
    | zero => intro αh2 Hh2 Lh2 Bh2 v1_h2 v2_h2 v3_h2 v4_h2 ls hl hf; rw [f_X8_toBundle_L9.eq_1] at hf; cases hf
    | succ k9 ih9 =>
      intro αh2 Hh2 Lh2 Bh2 v1_h2 v2_h2 v3_h2 v4_h2 ls hl hf
      rw [f_X8_toBundle_L9.eq_2] at hf
      refine lv_iload hx hb dX8_toBundle_9 (lv_at hl 4 rfl) (hp_n (n := 11) rfl ?_)
      refine lv_sipush (v := 128) hx hb dX8_toBundle_11 (by decide) (hp_n (n := 14) rfl ?_)
      refine lv_icmp_ge (tgt := 53) hx hb dX8_toBundle_14 (by decide) (fun c3 => ?_) (fun c3 => hp_n (n := 17) rfl ?_)
      ·
        replace hf := ms_iT c3 hf
        cases hf
        exact q_vret C Bh2 hr hlk ⟨rfl, Bh2.2.2⟩ dX8_toBundle_53
      ·
        replace hf := ms_iF c3 hf
        refine lv_iload_n hx hb dX8_toBundle_17 rfl (lv_at hl 3 rfl) (hp_n (n := 18) rfl ?_)
        refine lv_iload_n hx hb dX8_toBundle_18 rfl (lv_at hl 2 rfl) (hp_n (n := 19) rfl ?_)
        refine lv_icmp_ge (tgt := 53) hx hb dX8_toBundle_19 (by decide) (fun c4 => ?_) (fun c4 => hp_n (n := 22) rfl ?_)
        ·
          replace hf := ms_iT c4 hf
          cases hf
          exact q_vret C Bh2 hr hlk ⟨rfl, Bh2.2.2⟩ dX8_toBundle_53
        ·
          replace hf := ms_iF c4 hf
          refine lv_iload_n hx hb dX8_toBundle_22 rfl (lv_at hl 1 rfl) (hp_n (n := 23) rfl ?_)
          refine lv_iload_n hx hb dX8_toBundle_23 rfl (lv_at hl 3 rfl) (hp_n (n := 24) rfl ?_)
          refine lv_iconst (v := 1) hx hb dX8_toBundle_24 (by decide) (hp_n (n := 25) rfl ?_)
          obtain ⟨rh5, qh5, hf⟩ := ms_bE hf
          refine d_pi (pc' := 28) Bh2 (hp_runS (As := [.int v1_h2, .int v3_h2, .int (1 : Int32)]) (rest := []) C Bh2 (n_X11_hasOneOf n Γ l αh2 Bh2.2.2.1 v1_h2 v3_h2 (1 : Int32) rh5 qh5) lb_X11_hasOneOf ls_X11_hasOneOf lk_X8_44 rfl (by decide) rfl hl.1 rfl (Nat.le_of_ble_eq_true rfl) dX8_toBundle_25 ⟨Nat.le_refl _, Nat.le_refl _⟩) rfl (fun Hh5 Lh5 Bh5 => ?_)
          have J47 : ∀ (αh6 : hp_T) (Hh6 : Heap) (Lh6 : List Loc) (Bh6 : hp_B Γ (cw w_X8_toBundle) s α αh6 Hh6 Lh6) (v1_h6 : Int32) (v2_h6 : Int32) (v3_h6 : Int32) (v4_h6 : Int32) (ls : Array Slot) (hl : lv_has ls 5 [(0, .ref a0), (1, .int v1_h6), (2, .int v2_h6), (3, .int v3_h6), (4, .int v4_h6)]) (hf : f_X8_toBundle_J47 n a0 (f_X8_toBundle_L9 n a0 k9) αh6 v1_h6 v2_h6 v3_h6 v4_h6 = some res), W p l e (hp_rm 4 0 0) s m ([.ref a0, .int a1, .int a2] : List Value).toArray below meth c Hh6 Lh6 0 0 (MQ below (hp_Qv Γ (fun β => β = res ∧ cw w_X8_toBundle α β)) ([.ref a0, .int a1, .int a2] : List Value).toArray s 0 0 (hp_A Γ)) (F0 m 47 ls []) := by
            intro αh6 Hh6 Lh6 Bh6 v1_h6 v2_h6 v3_h6 v4_h6 ls hl hf
            unfold f_X8_toBundle_J47 at hf
            obtain ⟨x7, ex7⟩ : ∃ y : Int32, y = v4_h6 + 1 := ⟨_, rfl⟩
            replace hf := ms_lE ex7 hf
            refine lv_iinc (v := x7) (lv' := [(4, .int x7), (0, .ref a0), (1, .int v1_h6), (2, .int v2_h6), (3, .int v3_h6)]) hx hb dX8_toBundle_47 hl (k := 4) rfl (by rw [ex7]; rfl) (by decide) rfl (fun ls hl => hp_n (n := 50) rfl ?_)
            refine lv_goto (tgt := 9) hx hb dX8_toBundle_50 (by decide) ?_
            exact ih9 αh6 Hh6 Lh6 Bh6 v1_h6 v2_h6 v3_h6 x7 ls (lv_sub hl [1, 2, 3, 4, 0] rfl) hf
          refine lv_if_eq (tgt := 37) hx hb dX8_toBundle_28 (by decide) (fun c8 => ?_) (fun c8 => hp_n (n := 31) rfl ?_)
          ·
            replace hf := ms_iT c8 hf
            refine lv_iload_n hx hb dX8_toBundle_37 rfl (lv_at hl 3 rfl) (hp_n (n := 38) rfl ?_)
            refine lv_aload_n hx hb dX8_toBundle_38 rfl (lv_at hl 0 rfl) (hp_n (n := 39) rfl ?_)
            refine lv_iload_n hx hb dX8_toBundle_39 rfl (lv_at hl 1 rfl) (hp_n (n := 40) rfl ?_)
            refine lv_iload_n hx hb dX8_toBundle_40 rfl (lv_at hl 3 rfl) (hp_n (n := 41) rfl ?_)
            refine lv_iload_n hx hb dX8_toBundle_41 rfl (lv_at hl 2 rfl) (hp_n (n := 42) rfl ?_)
            obtain ⟨rh9, αh9, qh9, hf⟩ := hq_cE hf
            refine d_ci (pc' := 45) Bh5 (hp_runV (As := [.int v1_h2, .int v3_h2, .int v2_h2]) (rest := [.int v3_h2]) C Bh5 (n_X8_putGreatestWithout n Γ l αh2 Bh5.2.2.1 a0 (cw_k Bh5.2.2 k0) v1_h2 v3_h2 v2_h2 (rh9, αh9) qh9) lb_X8_putGreatestWithout lv_X8_putGreatestWithout lk_X8_48 (cw_k Bh5.2.2 k0) rfl (by decide) rfl hl.1 rfl (Nat.le_of_ble_eq_true rfl) dX8_toBundle_42 ⟨Nat.le_refl _, Nat.le_refl _⟩) (by decide) rfl (fun Hh9 Lh9 Bh9 => ?_)
            refine lv_iadd hx hb dX8_toBundle_45 (hp_n (n := 46) rfl ?_)
            refine lv_topi (fun x10 ex10 => ?_)
            replace hf := ms_lE ex10 hf
            refine lv_istore_n (lv' := [(3, .int x10), (0, .ref a0), (1, .int v1_h2), (2, .int v2_h2), (4, .int v4_h2)]) hx hb dX8_toBundle_46 rfl hl (by decide) rfl (fun ls hl => hp_n (n := 47) rfl ?_)
            exact J47 αh9 Hh9 Lh9 Bh9 v1_h2 v2_h2 x10 v4_h2 ls (lv_sub hl [1, 2, 3, 0, 4] rfl) hf
          ·
            replace hf := ms_iF c8 hf
            obtain ⟨x11, ex11⟩ : ∃ y : Int32, y = v3_h2 + 1 := ⟨_, rfl⟩
            replace hf := ms_lE ex11 hf
            refine lv_iinc (v := x11) (lv' := [(3, .int x11), (0, .ref a0), (1, .int v1_h2), (2, .int v2_h2), (4, .int v4_h2)]) hx hb dX8_toBundle_31 hl (k := 3) rfl (by rw [ex11]; rfl) (by decide) rfl (fun ls hl => hp_n (n := 34) rfl ?_)
            refine lv_goto (tgt := 47) hx hb dX8_toBundle_34 (by decide) ?_
            exact J47 αh2 Hh5 Lh5 Bh5 v1_h2 v2_h2 x11 v4_h2 ls (lv_sub hl [1, 2, 3, 0, 4] rfl) hf
  refine lv_istore (lv' := [(4, .int (0 : Int32)), (3, .int (0 : Int32)), (0, .ref a0), (1, .int a1), (2, .int a2)]) hx hb dX8_toBundle_7 hl (by decide) rfl (fun ls hl => hp_n (n := 9) rfl ?_)
  exact J9 n αh1 Hh1 Lh1 Bh1 a1 a2 (0 : Int32) (0 : Int32) ls (lv_sub hl [2, 3, 4, 1, 0] rfl) hf
def f_X11_bundle_J11 (n : Nat) (a0 : Nat) (αh1 : hp_T) : Option (Int32 × hp_T) :=
  hq_c (f_X11_refuse n αh1 a0 (1 : Int32)) fun rh2 αh2 =>
  some (rh2, αh2)
def f_X11_bundle_J55 (n : Nat) (a0 : Nat) (αh10 : hp_T) : Option (Int32 × hp_T) :=
  hq_c (f_X11_refuse n αh10 a0 (5 : Int32)) fun rh11 αh11 =>
  some (rh11, αh11)
def f_X11_bundle (n : Nat) (α : hp_T) (a0 : Nat) (a1 : Int32) (a2 : Int32) (a3 : Int32) : Option (Int32 × hp_T) :=
  if a3 < 0 then
    f_X11_bundle_J11 n a0 α
  else
    ms_b (f_X11_isSet n a2) fun rh4 =>
    if rh4 = 0 then
      f_X11_bundle_J11 n a0 α
    else
      ms_l (hp_R α 601 a0) fun b6 =>
      ms_b (f_X10_logAt n α b6 a1) fun rh7 =>
      hq_m rh7 (
        hq_c (f_X11_refuse n α a0 (2 : Int32)) fun rh8 αh8 =>
        some (rh8, αh8)) fun bh7 =>
      ms_l (hp_I α 152 bh7) fun x9 =>
      if x9 < a3 then
        f_X11_bundle_J55 n a0 α
      else
        ms_b (f_X11_lieBelow n a2 a3) fun rh13 =>
        if rh13 = 0 then
          f_X11_bundle_J55 n a0 α
        else
          ms_l (hp_R α 612 a0) fun b15 =>
          ms_b (f_X8_toBundle n α b15 a2 a3) fun αh16 =>
          ms_l (hp_R αh16 601 a0) fun b17 =>
          ms_l (hp_R αh16 612 a0) fun b18 =>
          ms_l (hp_R αh16 603 a0) fun b19 =>
          ms_b (f_X10_marksAlong n αh16 b17 b18 (some bh7) b19) fun αh20 =>
          ms_l (hp_R αh20 603 a0) fun b21 =>
          ms_l (hp_I αh20 301 b21) fun x22 =>
          hq_c (f_X11_answer n αh20 a0 x22) fun rh23 αh23 =>
          some (rh23, αh23)
set_option maxRecDepth 100000 in
set_option maxHeartbeats 4000000 in
theorem n_X11_bundle (n : Nat) (Γ : hp_G) (l : Launch) (α : hp_T) (g : GC α) (a0 : Nat) (k0 : hp_K α a0 = 12) (a1 : Int32) (a2 : Int32) (a3 : Int32) (res : (Int32 × hp_T)) (hf : f_X11_bundle n α a0 a1 a2 a3 = some res) : Met l yX11_bundle (hp_ws yX11_bundle cX11_bundle 5 (some .int)) (hp_rm 5 0 0) (hp_Pc Γ α [.ref a0, .int a1, .int a2, .int a3]) (hp_Qi Γ (fun r β => r = res.1 ∧ β = res.2 ∧ cw w_X11_bundle α β)) 0 0 (hp_A Γ) := by
  unfold f_X11_bundle at hf
  refine hp_start (by decide) ?_
  intro p e s m below meth c C hr hlk B0 hnm
  have C : hp_C Γ p m c cX11_bundle 5 s ([.ref a0, .int a1, .int a2, .int a3] : List Value).toArray RX11 := C
  have hx := C.1.1
  have hb := C.1.2.1
  have hown := C.1.2.2.2.1
  have hts := C.1.2.2.2.2
  have B : hp_B Γ (cw w_X11_bundle) s α α s.heap [] := ⟨B0.1, B0.2.1, cw_rf g⟩
  have hl := lv_entry ([.ref a0, .int a1, .int a2, .int a3]) (n := 5) (Nat.le_of_ble_eq_true rfl)
  show W p l e (hp_rm 5 0 0) s m ([.ref a0, .int a1, .int a2, .int a3] : List Value).toArray below meth c s.heap [] 0 0 (MQ below (hp_Qi Γ (fun r β => r = res.1 ∧ β = res.2 ∧ cw w_X11_bundle α β)) ([.ref a0, .int a1, .int a2, .int a3] : List Value).toArray s 0 0 (hp_A Γ)) (entryFrame m ([.ref a0, .int a1, .int a2, .int a3] : List Value).toArray 5)
  rw [lg_entry_eq]
  generalize (lg_sl ([.ref a0, .int a1, .int a2, .int a3]) ++ List.replicate (5 - (lg_sl ([.ref a0, .int a1, .int a2, .int a3])).length) Slot.unset).toArray = ls at hl ⊢
  have hl : lv_has ls 5 [(0, .ref a0), (1, .int a1), (2, .int a2), (3, .int a3)] := hl
  refine lv_iload_n hx hb dX11_bundle_0 rfl (lv_at hl 3 rfl) (hp_n (n := 1) rfl ?_)
  have J11 : ∀ (αh1 : hp_T) (Hh1 : Heap) (Lh1 : List Loc) (Bh1 : hp_B Γ (cw w_X11_bundle) s α αh1 Hh1 Lh1) (ls : Array Slot) (hl : lv_has ls 5 [(0, .ref a0)]) (hf : f_X11_bundle_J11 n a0 αh1 = some res), W p l e (hp_rm 5 0 0) s m ([.ref a0, .int a1, .int a2, .int a3] : List Value).toArray below meth c Hh1 Lh1 0 0 (MQ below (hp_Qi Γ (fun r β => r = res.1 ∧ β = res.2 ∧ cw w_X11_bundle α β)) ([.ref a0, .int a1, .int a2, .int a3] : List Value).toArray s 0 0 (hp_A Γ)) (F0 m 11 ls []) := by
    intro αh1 Hh1 Lh1 Bh1 ls hl hf
    unfold f_X11_bundle_J11 at hf
    refine lv_aload_n hx hb dX11_bundle_11 rfl (lv_at hl 0 rfl) (hp_n (n := 12) rfl ?_)
    refine lv_iconst (v := 1) hx hb dX11_bundle_12 (by decide) (hp_n (n := 13) rfl ?_)
    obtain ⟨rh2, αh2, qh2, hf⟩ := hq_cE hf
    refine d_ci (pc' := 16) Bh1 (hp_runV (As := [.int (1 : Int32)]) (rest := []) C Bh1 (n_X11_refuse n Γ l αh1 Bh1.2.2.1 a0 (cw_k Bh1.2.2 k0) (1 : Int32) (rh2, αh2) qh2) lb_X11_refuse lv_X11_refuse lk_X11_98 (cw_k Bh1.2.2 k0) rfl (by decide) rfl hl.1 rfl (Nat.le_of_ble_eq_true rfl) dX11_bundle_13 ⟨Nat.le_refl _, Nat.le_refl _⟩) (by decide) rfl (fun Hh2 Lh2 Bh2 => ?_)
    cases hf
    exact q_iret C Bh2 hr hlk ⟨rfl, rfl, Bh2.2.2⟩ dX11_bundle_16
  refine lv_if_lt (tgt := 11) hx hb dX11_bundle_1 (by decide) (fun c3 => ?_) (fun c3 => hp_n (n := 4) rfl ?_)
  ·
    replace hf := ms_iT c3 hf
    exact J11 α s.heap [] B ls (lv_sub hl [0] rfl) hf
  ·
    replace hf := ms_iF c3 hf
    refine lv_iload_n hx hb dX11_bundle_4 rfl (lv_at hl 2 rfl) (hp_n (n := 5) rfl ?_)
    obtain ⟨rh4, qh4, hf⟩ := ms_bE hf
    refine d_pi (pc' := 8) B (hp_runS (As := [.int a2]) (rest := []) C B (n_X11_isSet n Γ l α B.2.2.1 a2 rh4 qh4) lb_X11_isSet ls_X11_isSet lk_X11_277 rfl (by decide) rfl hl.1 rfl (Nat.le_of_ble_eq_true rfl) dX11_bundle_5 ⟨Nat.le_refl _, Nat.le_refl _⟩) rfl (fun Hh4 Lh4 Bh4 => ?_)
    refine lv_if_ne (tgt := 17) hx hb dX11_bundle_8 (by decide) (fun c5 => ?_) (fun c5 => hp_n (n := 11) rfl ?_)
    ·
      replace hf := ms_iF c5 hf
      refine lv_aload_n hx hb dX11_bundle_17 rfl (lv_at hl 0 rfl) (hp_n (n := 18) rfl ?_)
      refine q_getr (κ := 12) (k := 1) (φ := 601) (pc' := 21) C Bh4 (cw_k Bh4.2.2 k0) fl_X11_16 rfl rfl rfl (cw_r Bh4.2.2 k0 rfl rfl (by decide) (by decide)) dX11_bundle_18 rfl (fun b6 eb6 kb6 => ?_)
      replace hf := ms_lE eb6 hf
      refine lv_iload_n hx hb dX11_bundle_21 rfl (lv_at hl 1 rfl) (hp_n (n := 22) rfl ?_)
      obtain ⟨rh7, qh7, hf⟩ := ms_bE hf
      refine d_pq (pc' := 25) Bh4 (hp_runV (As := [.int a1]) (rest := []) C Bh4 (n_X10_logAt n Γ l α Bh4.2.2.1 b6 (cw_k Bh4.2.2 kb6) a1 rh7 qh7) lb_X10_logAt lv_X10_logAt lk_X11_163 (cw_k Bh4.2.2 kb6) rfl (by decide) rfl hl.1 rfl (Nat.le_of_ble_eq_true rfl) dX11_bundle_22 ⟨Nat.le_refl _, Nat.le_refl _⟩) rfl (fun Hh7 Lh7 Bh7 kh7 => ?_)
      rcases rh7 with _ | bh7
      ·
        replace hf := hq_N hf
        refine lv_astoreN (lv' := [(4, .null), (0, .ref a0), (1, .int a1), (2, .int a2), (3, .int a3)]) hx hb dX11_bundle_25 hl (by decide) rfl (fun ls hl => hp_n (n := 27) rfl ?_)
        refine lv_aloadN hx hb dX11_bundle_27 (lv_at hl 0 rfl) (hp_n (n := 29) rfl ?_)
        refine lv_ifnonnullN hx hb dX11_bundle_29 (hp_n (n := 32) rfl ?_)
        refine lv_aload_n hx hb dX11_bundle_32 rfl (lv_at hl 1 rfl) (hp_n (n := 33) rfl ?_)
        refine lv_iconst (v := 2) hx hb dX11_bundle_33 (by decide) (hp_n (n := 34) rfl ?_)
        obtain ⟨rh8, αh8, qh8, hf⟩ := hq_cE hf
        refine d_ci (pc' := 37) Bh7 (hp_runV (As := [.int (2 : Int32)]) (rest := []) C Bh7 (n_X11_refuse n Γ l α Bh7.2.2.1 a0 (cw_k Bh7.2.2 k0) (2 : Int32) (rh8, αh8) qh8) lb_X11_refuse lv_X11_refuse lk_X11_98 (cw_k Bh7.2.2 k0) rfl (by decide) rfl hl.1 rfl (Nat.le_of_ble_eq_true rfl) dX11_bundle_34 ⟨Nat.le_refl _, Nat.le_refl _⟩) (by decide) rfl (fun Hh8 Lh8 Bh8 => ?_)
        cases hf
        exact q_iret C Bh8 hr hlk ⟨rfl, rfl, Bh8.2.2⟩ dX11_bundle_37
      ·
        replace hf := hq_S hf
        have kbh7 := kh7 bh7 rfl
        refine lv_astore (lv' := [(4, .ref bh7), (0, .ref a0), (1, .int a1), (2, .int a2), (3, .int a3)]) hx hb dX11_bundle_25 hl (by decide) rfl (fun ls hl => hp_n (n := 27) rfl ?_)
        refine lv_aload hx hb dX11_bundle_27 (lv_at hl 0 rfl) (hp_n (n := 29) rfl ?_)
        refine lv_ifnonnull (tgt := 38) hx hb dX11_bundle_29 (by decide) ?_
        refine lv_iload_n hx hb dX11_bundle_38 rfl (lv_at hl 4 rfl) (hp_n (n := 39) rfl ?_)
        refine lv_aload hx hb dX11_bundle_39 (lv_at hl 0 rfl) (hp_n (n := 41) rfl ?_)
        refine q_geti (κ := 3) (k := 2) (φ := 152) (pc' := 44) C Bh7 (cw_k Bh7.2.2 kbh7) fl_X11_167 rfl rfl rfl dX11_bundle_41 rfl (fun x9 ex9 => ?_)
        replace hf := ms_lE ex9 hf
        have J55 : ∀ (αh10 : hp_T) (Hh10 : Heap) (Lh10 : List Loc) (Bh10 : hp_B Γ (cw w_X11_bundle) s α αh10 Hh10 Lh10) (ls : Array Slot) (hl : lv_has ls 5 [(0, .ref a0)]) (hf : f_X11_bundle_J55 n a0 αh10 = some res), W p l e (hp_rm 5 0 0) s m ([.ref a0, .int a1, .int a2, .int a3] : List Value).toArray below meth c Hh10 Lh10 0 0 (MQ below (hp_Qi Γ (fun r β => r = res.1 ∧ β = res.2 ∧ cw w_X11_bundle α β)) ([.ref a0, .int a1, .int a2, .int a3] : List Value).toArray s 0 0 (hp_A Γ)) (F0 m 55 ls []) := by
          intro αh10 Hh10 Lh10 Bh10 ls hl hf
          unfold f_X11_bundle_J55 at hf
          refine lv_aload_n hx hb dX11_bundle_55 rfl (lv_at hl 0 rfl) (hp_n (n := 56) rfl ?_)
          refine lv_iconst (v := 5) hx hb dX11_bundle_56 (by decide) (hp_n (n := 57) rfl ?_)
          obtain ⟨rh11, αh11, qh11, hf⟩ := hq_cE hf
          refine d_ci (pc' := 60) Bh10 (hp_runV (As := [.int (5 : Int32)]) (rest := []) C Bh10 (n_X11_refuse n Γ l αh10 Bh10.2.2.1 a0 (cw_k Bh10.2.2 k0) (5 : Int32) (rh11, αh11) qh11) lb_X11_refuse lv_X11_refuse lk_X11_98 (cw_k Bh10.2.2 k0) rfl (by decide) rfl hl.1 rfl (Nat.le_of_ble_eq_true rfl) dX11_bundle_57 ⟨Nat.le_refl _, Nat.le_refl _⟩) (by decide) rfl (fun Hh11 Lh11 Bh11 => ?_)
          cases hf
          exact q_iret C Bh11 hr hlk ⟨rfl, rfl, Bh11.2.2⟩ dX11_bundle_60
        refine lv_icmp_gt (tgt := 55) hx hb dX11_bundle_44 (by decide) (fun c12 => ?_) (fun c12 => hp_n (n := 47) rfl ?_)
        ·
          replace hf := ms_iT c12 hf
          exact J55 α Hh7 Lh7 Bh7 ls (lv_sub hl [1] rfl) hf
        ·
          replace hf := ms_iF c12 hf
          refine lv_iload_n hx hb dX11_bundle_47 rfl (lv_at hl 3 rfl) (hp_n (n := 48) rfl ?_)
          refine lv_iload_n hx hb dX11_bundle_48 rfl (lv_at hl 4 rfl) (hp_n (n := 49) rfl ?_)
          obtain ⟨rh13, qh13, hf⟩ := ms_bE hf
          refine d_pi (pc' := 52) Bh7 (hp_runS (As := [.int a2, .int a3]) (rest := []) C Bh7 (n_X11_lieBelow n Γ l α Bh7.2.2.1 a2 a3 rh13 qh13) lb_X11_lieBelow ls_X11_lieBelow lk_X11_280 rfl (by decide) rfl hl.1 rfl (Nat.le_of_ble_eq_true rfl) dX11_bundle_49 ⟨Nat.le_refl _, Nat.le_refl _⟩) rfl (fun Hh13 Lh13 Bh13 => ?_)
          refine lv_if_ne (tgt := 61) hx hb dX11_bundle_52 (by decide) (fun c14 => ?_) (fun c14 => hp_n (n := 55) rfl ?_)
          ·
            replace hf := ms_iF c14 hf
            refine lv_aload_n hx hb dX11_bundle_61 rfl (lv_at hl 1 rfl) (hp_n (n := 62) rfl ?_)
            refine q_getr (κ := 12) (k := 12) (φ := 612) (pc' := 65) C Bh13 (cw_k Bh13.2.2 k0) fl_X11_62 rfl rfl rfl (cw_r Bh13.2.2 k0 rfl rfl (by decide) (by decide)) dX11_bundle_62 rfl (fun b15 eb15 kb15 => ?_)
            replace hf := ms_lE eb15 hf
            refine lv_iload_n hx hb dX11_bundle_65 rfl (lv_at hl 3 rfl) (hp_n (n := 66) rfl ?_)
            refine lv_iload_n hx hb dX11_bundle_66 rfl (lv_at hl 4 rfl) (hp_n (n := 67) rfl ?_)
            obtain ⟨αh16, qh16, hf⟩ := ms_bE hf
            refine d_cv (pc' := 70) Bh13 (hp_runV (As := [.int a2, .int a3]) (rest := []) C Bh13 (n_X8_toBundle n Γ l α Bh13.2.2.1 b15 (cw_k Bh13.2.2 kb15) a2 a3 αh16 qh16) lb_X8_toBundle lv_X8_toBundle lk_X11_284 (cw_k Bh13.2.2 kb15) rfl (by decide) rfl hl.1 rfl (Nat.le_of_ble_eq_true rfl) dX11_bundle_67 ⟨Nat.le_refl _, Nat.le_refl _⟩) (by decide) rfl (fun Hh16 Lh16 Bh16 => ?_)
            refine lv_aload_n hx hb dX11_bundle_70 rfl (lv_at hl 1 rfl) (hp_n (n := 71) rfl ?_)
            refine q_getr (κ := 12) (k := 1) (φ := 601) (pc' := 74) C Bh16 (cw_k Bh16.2.2 k0) fl_X11_16 rfl rfl rfl (cw_r Bh16.2.2 k0 rfl rfl (by decide) (by decide)) dX11_bundle_71 rfl (fun b17 eb17 kb17 => ?_)
            replace hf := ms_lE eb17 hf
            refine lv_aload_n hx hb dX11_bundle_74 rfl (lv_at hl 1 rfl) (hp_n (n := 75) rfl ?_)
            refine q_getr (κ := 12) (k := 12) (φ := 612) (pc' := 78) C Bh16 (cw_k Bh16.2.2 k0) fl_X11_62 rfl rfl rfl (cw_r Bh16.2.2 k0 rfl rfl (by decide) (by decide)) dX11_bundle_75 rfl (fun b18 eb18 kb18 => ?_)
            replace hf := ms_lE eb18 hf
            refine lv_aload hx hb dX11_bundle_78 (lv_at hl 0 rfl) (hp_n (n := 80) rfl ?_)
            refine lv_aload_n hx hb dX11_bundle_80 rfl (lv_at hl 1 rfl) (hp_n (n := 81) rfl ?_)
            refine q_getr (κ := 12) (k := 3) (φ := 603) (pc' := 84) C Bh16 (cw_k Bh16.2.2 k0) fl_X11_26 rfl rfl rfl (cw_r Bh16.2.2 k0 rfl rfl (by decide) (by decide)) dX11_bundle_81 rfl (fun b19 eb19 kb19 => ?_)
            replace hf := ms_lE eb19 hf
            obtain ⟨αh20, qh20, hf⟩ := ms_bE hf
            refine d_cv (pc' := 87) Bh16 (hp_runV (As := [.ref b18, va_rf (some bh7), .ref b19]) (rest := []) C Bh16 (n_X10_marksAlong n Γ l αh16 Bh16.2.2.1 b17 (cw_k Bh16.2.2 kb17) b18 (cw_k Bh16.2.2 kb18) (some bh7) (fun b h => by cases h; exact (cw_k Bh16.2.2 kbh7)) b19 (cw_k Bh16.2.2 kb19) αh20 qh20) lb_X10_marksAlong lv_X10_marksAlong lk_X11_270 (cw_k Bh16.2.2 kb17) rfl (by decide) rfl hl.1 rfl (Nat.le_of_ble_eq_true rfl) dX11_bundle_84 ⟨Nat.le_refl _, Nat.le_refl _⟩) (by decide) rfl (fun Hh20 Lh20 Bh20 => ?_)
            refine lv_aload_n hx hb dX11_bundle_87 rfl (lv_at hl 1 rfl) (hp_n (n := 88) rfl ?_)
            refine lv_aload_n hx hb dX11_bundle_88 rfl (lv_at hl 1 rfl) (hp_n (n := 89) rfl ?_)
            refine q_getr (κ := 12) (k := 3) (φ := 603) (pc' := 92) C Bh20 (cw_k Bh20.2.2 k0) fl_X11_26 rfl rfl rfl (cw_r Bh20.2.2 k0 rfl rfl (by decide) (by decide)) dX11_bundle_89 rfl (fun b21 eb21 kb21 => ?_)
            replace hf := ms_lE eb21 hf
            refine q_geti (κ := 6) (k := 1) (φ := 301) (pc' := 95) C Bh20 (cw_k Bh20.2.2 kb21) fl_X11_132 rfl rfl rfl dX11_bundle_92 rfl (fun x22 ex22 => ?_)
            replace hf := ms_lE ex22 hf
            obtain ⟨rh23, αh23, qh23, hf⟩ := hq_cE hf
            refine d_ci (pc' := 98) Bh20 (hp_runV (As := [.int x22]) (rest := []) C Bh20 (n_X11_answer n Γ l αh20 Bh20.2.2.1 a0 (cw_k Bh20.2.2 k0) x22 (rh23, αh23) qh23) lb_X11_answer lv_X11_answer lk_X11_115 (cw_k Bh20.2.2 k0) rfl (by decide) rfl hl.1 rfl (Nat.le_of_ble_eq_true rfl) dX11_bundle_95 ⟨Nat.le_refl _, Nat.le_refl _⟩) (by decide) rfl (fun Hh23 Lh23 Bh23 => ?_)
            cases hf
            exact q_iret C Bh23 hr hlk ⟨rfl, rfl, Bh23.2.2⟩ dX11_bundle_98
          ·
            replace hf := ms_iT c14 hf
            exact J55 α Hh13 Lh13 Bh13 ls (lv_sub hl [1] rfl) hf
    ·
      replace hf := ms_iT c5 hf
      exact J11 α Hh4 Lh4 Bh4 ls (lv_sub hl [0] rfl) hf
def f_X11_checks_J25 (n : Nat) (a0 : Nat) (αh2 : hp_T) : Option (Int32 × hp_T) :=
  hq_c (f_X11_refuse n αh2 a0 (1 : Int32)) fun rh3 αh3 =>
  some (rh3, αh3)
def f_X11_checks (n : Nat) (α : hp_T) (a0 : Nat) (a1 : Int32) (a2 : Int32) (a3 : Int32) (a4 : Int32) : Option (Int32 × hp_T) :=
  ms_b (f_X11_isThing n a2 a3) fun rh1 =>
  if rh1 = 0 then
    f_X11_checks_J25 n a0 α
  else
    ms_b (f_X11_isMark n α a0 a1) fun rh5 =>
    if rh5 = 0 then
      f_X11_checks_J25 n a0 α
    else
      ms_b (f_X11_isMark n α a0 a4) fun rh7 =>
      if rh7 = 0 then
        f_X11_checks_J25 n a0 α
      else
        ms_l (hp_R α 612 a0) fun b9 =>
        ms_b (f_X8_toThing n α b9 a2 a3) fun αh10 =>
        ms_l (hp_R αh10 612 a0) fun b11 =>
        ms_l (hp_R αh10 601 a0) fun b12 =>
        ms_l (hp_I αh10 550 b12) fun x13 =>
        ms_l (hp_R αh10 603 a0) fun b14 =>
        ms_b (f_X8_whyInclusion n αh10 b11 x13 b14 a1 a4) fun rh15 =>
        hq_c (f_X11_answer n αh10 a0 rh15) fun rh16 αh16 =>
        some (rh16, αh16)
set_option maxRecDepth 100000 in
set_option maxHeartbeats 4000000 in
theorem n_X11_checks (n : Nat) (Γ : hp_G) (l : Launch) (α : hp_T) (g : GC α) (a0 : Nat) (k0 : hp_K α a0 = 12) (a1 : Int32) (a2 : Int32) (a3 : Int32) (a4 : Int32) (res : (Int32 × hp_T)) (hf : f_X11_checks n α a0 a1 a2 a3 a4 = some res) : Met l yX11_checks (hp_ws yX11_checks cX11_checks 5 (some .int)) (hp_rm 4 0 0) (hp_Pc Γ α [.ref a0, .int a1, .int a2, .int a3, .int a4]) (hp_Qi Γ (fun r β => r = res.1 ∧ β = res.2 ∧ cw w_X11_checks α β)) 0 0 (hp_A Γ) := by
  unfold f_X11_checks at hf
  refine hp_start (by decide) ?_
  intro p e s m below meth c C hr hlk B0 hnm
  have C : hp_C Γ p m c cX11_checks 5 s ([.ref a0, .int a1, .int a2, .int a3, .int a4] : List Value).toArray RX11 := C
  have hx := C.1.1
  have hb := C.1.2.1
  have hown := C.1.2.2.2.1
  have hts := C.1.2.2.2.2
  have B : hp_B Γ (cw w_X11_checks) s α α s.heap [] := ⟨B0.1, B0.2.1, cw_rf g⟩
  have hl := lv_entry ([.ref a0, .int a1, .int a2, .int a3, .int a4]) (n := 5) (Nat.le_of_ble_eq_true rfl)
  show W p l e (hp_rm 4 0 0) s m ([.ref a0, .int a1, .int a2, .int a3, .int a4] : List Value).toArray below meth c s.heap [] 0 0 (MQ below (hp_Qi Γ (fun r β => r = res.1 ∧ β = res.2 ∧ cw w_X11_checks α β)) ([.ref a0, .int a1, .int a2, .int a3, .int a4] : List Value).toArray s 0 0 (hp_A Γ)) (entryFrame m ([.ref a0, .int a1, .int a2, .int a3, .int a4] : List Value).toArray 5)
  rw [lg_entry_eq]
  generalize (lg_sl ([.ref a0, .int a1, .int a2, .int a3, .int a4]) ++ List.replicate (5 - (lg_sl ([.ref a0, .int a1, .int a2, .int a3, .int a4])).length) Slot.unset).toArray = ls at hl ⊢
  have hl : lv_has ls 5 [(0, .ref a0), (1, .int a1), (2, .int a2), (3, .int a3), (4, .int a4)] := hl
  refine lv_iload_n hx hb dX11_checks_0 rfl (lv_at hl 2 rfl) (hp_n (n := 1) rfl ?_)
  refine lv_iload_n hx hb dX11_checks_1 rfl (lv_at hl 3 rfl) (hp_n (n := 2) rfl ?_)
  obtain ⟨rh1, qh1, hf⟩ := ms_bE hf
  refine d_pi (pc' := 5) B (hp_runS (As := [.int a2, .int a3]) (rest := []) C B (n_X11_isThing n Γ l α B.2.2.1 a2 a3 rh1 qh1) lb_X11_isThing ls_X11_isThing lk_X11_301 rfl (by decide) rfl hl.1 rfl (Nat.le_of_ble_eq_true rfl) dX11_checks_2 ⟨Nat.le_refl _, Nat.le_refl _⟩) rfl (fun Hh1 Lh1 Bh1 => ?_)
  have J25 : ∀ (αh2 : hp_T) (Hh2 : Heap) (Lh2 : List Loc) (Bh2 : hp_B Γ (cw w_X11_checks) s α αh2 Hh2 Lh2) (ls : Array Slot) (hl : lv_has ls 5 [(0, .ref a0)]) (hf : f_X11_checks_J25 n a0 αh2 = some res), W p l e (hp_rm 4 0 0) s m ([.ref a0, .int a1, .int a2, .int a3, .int a4] : List Value).toArray below meth c Hh2 Lh2 0 0 (MQ below (hp_Qi Γ (fun r β => r = res.1 ∧ β = res.2 ∧ cw w_X11_checks α β)) ([.ref a0, .int a1, .int a2, .int a3, .int a4] : List Value).toArray s 0 0 (hp_A Γ)) (F0 m 25 ls []) := by
    intro αh2 Hh2 Lh2 Bh2 ls hl hf
    unfold f_X11_checks_J25 at hf
    refine lv_aload_n hx hb dX11_checks_25 rfl (lv_at hl 0 rfl) (hp_n (n := 26) rfl ?_)
    refine lv_iconst (v := 1) hx hb dX11_checks_26 (by decide) (hp_n (n := 27) rfl ?_)
    obtain ⟨rh3, αh3, qh3, hf⟩ := hq_cE hf
    refine d_ci (pc' := 30) Bh2 (hp_runV (As := [.int (1 : Int32)]) (rest := []) C Bh2 (n_X11_refuse n Γ l αh2 Bh2.2.2.1 a0 (cw_k Bh2.2.2 k0) (1 : Int32) (rh3, αh3) qh3) lb_X11_refuse lv_X11_refuse lk_X11_98 (cw_k Bh2.2.2 k0) rfl (by decide) rfl hl.1 rfl (Nat.le_of_ble_eq_true rfl) dX11_checks_27 ⟨Nat.le_refl _, Nat.le_refl _⟩) (by decide) rfl (fun Hh3 Lh3 Bh3 => ?_)
    cases hf
    exact q_iret C Bh3 hr hlk ⟨rfl, rfl, Bh3.2.2⟩ dX11_checks_30
  refine lv_if_eq (tgt := 25) hx hb dX11_checks_5 (by decide) (fun c4 => ?_) (fun c4 => hp_n (n := 8) rfl ?_)
  ·
    replace hf := ms_iT c4 hf
    exact J25 α Hh1 Lh1 Bh1 ls (lv_sub hl [0] rfl) hf
  ·
    replace hf := ms_iF c4 hf
    refine lv_aload_n hx hb dX11_checks_8 rfl (lv_at hl 0 rfl) (hp_n (n := 9) rfl ?_)
    refine lv_iload_n hx hb dX11_checks_9 rfl (lv_at hl 1 rfl) (hp_n (n := 10) rfl ?_)
    obtain ⟨rh5, qh5, hf⟩ := ms_bE hf
    refine d_pi (pc' := 13) Bh1 (hp_runV (As := [.int a1]) (rest := []) C Bh1 (n_X11_isMark n Γ l α Bh1.2.2.1 a0 (cw_k Bh1.2.2 k0) a1 rh5 qh5) lb_X11_isMark lv_X11_isMark lk_X11_188 (cw_k Bh1.2.2 k0) rfl (by decide) rfl hl.1 rfl (Nat.le_of_ble_eq_true rfl) dX11_checks_10 ⟨Nat.le_refl _, Nat.le_refl _⟩) rfl (fun Hh5 Lh5 Bh5 => ?_)
    refine lv_if_eq (tgt := 25) hx hb dX11_checks_13 (by decide) (fun c6 => ?_) (fun c6 => hp_n (n := 16) rfl ?_)
    ·
      replace hf := ms_iT c6 hf
      exact J25 α Hh5 Lh5 Bh5 ls (lv_sub hl [0] rfl) hf
    ·
      replace hf := ms_iF c6 hf
      refine lv_aload_n hx hb dX11_checks_16 rfl (lv_at hl 0 rfl) (hp_n (n := 17) rfl ?_)
      refine lv_iload hx hb dX11_checks_17 (lv_at hl 4 rfl) (hp_n (n := 19) rfl ?_)
      obtain ⟨rh7, qh7, hf⟩ := ms_bE hf
      refine d_pi (pc' := 22) Bh5 (hp_runV (As := [.int a4]) (rest := []) C Bh5 (n_X11_isMark n Γ l α Bh5.2.2.1 a0 (cw_k Bh5.2.2 k0) a4 rh7 qh7) lb_X11_isMark lv_X11_isMark lk_X11_188 (cw_k Bh5.2.2 k0) rfl (by decide) rfl hl.1 rfl (Nat.le_of_ble_eq_true rfl) dX11_checks_19 ⟨Nat.le_refl _, Nat.le_refl _⟩) rfl (fun Hh7 Lh7 Bh7 => ?_)
      refine lv_if_ne (tgt := 31) hx hb dX11_checks_22 (by decide) (fun c8 => ?_) (fun c8 => hp_n (n := 25) rfl ?_)
      ·
        replace hf := ms_iF c8 hf
        refine lv_aload_n hx hb dX11_checks_31 rfl (lv_at hl 0 rfl) (hp_n (n := 32) rfl ?_)
        refine q_getr (κ := 12) (k := 12) (φ := 612) (pc' := 35) C Bh7 (cw_k Bh7.2.2 k0) fl_X11_62 rfl rfl rfl (cw_r Bh7.2.2 k0 rfl rfl (by decide) (by decide)) dX11_checks_32 rfl (fun b9 eb9 kb9 => ?_)
        replace hf := ms_lE eb9 hf
        refine lv_iload_n hx hb dX11_checks_35 rfl (lv_at hl 2 rfl) (hp_n (n := 36) rfl ?_)
        refine lv_iload_n hx hb dX11_checks_36 rfl (lv_at hl 3 rfl) (hp_n (n := 37) rfl ?_)
        obtain ⟨αh10, qh10, hf⟩ := ms_bE hf
        refine d_cv (pc' := 40) Bh7 (hp_runV (As := [.int a2, .int a3]) (rest := []) C Bh7 (n_X8_toThing n Γ l α Bh7.2.2.1 b9 (cw_k Bh7.2.2 kb9) a2 a3 αh10 qh10) lb_X8_toThing lv_X8_toThing lk_X11_267 (cw_k Bh7.2.2 kb9) rfl (by decide) rfl hl.1 rfl (Nat.le_of_ble_eq_true rfl) dX11_checks_37 ⟨Nat.le_refl _, Nat.le_refl _⟩) (by decide) rfl (fun Hh10 Lh10 Bh10 => ?_)
        refine lv_aload_n hx hb dX11_checks_40 rfl (lv_at hl 0 rfl) (hp_n (n := 41) rfl ?_)
        refine lv_aload_n hx hb dX11_checks_41 rfl (lv_at hl 0 rfl) (hp_n (n := 42) rfl ?_)
        refine q_getr (κ := 12) (k := 12) (φ := 612) (pc' := 45) C Bh10 (cw_k Bh10.2.2 k0) fl_X11_62 rfl rfl rfl (cw_r Bh10.2.2 k0 rfl rfl (by decide) (by decide)) dX11_checks_42 rfl (fun b11 eb11 kb11 => ?_)
        replace hf := ms_lE eb11 hf
        refine lv_aload_n hx hb dX11_checks_45 rfl (lv_at hl 0 rfl) (hp_n (n := 46) rfl ?_)
        refine q_getr (κ := 12) (k := 1) (φ := 601) (pc' := 49) C Bh10 (cw_k Bh10.2.2 k0) fl_X11_16 rfl rfl rfl (cw_r Bh10.2.2 k0 rfl rfl (by decide) (by decide)) dX11_checks_46 rfl (fun b12 eb12 kb12 => ?_)
        replace hf := ms_lE eb12 hf
        refine q_geti (κ := 11) (k := 0) (φ := 550) (pc' := 52) C Bh10 (cw_k Bh10.2.2 kb12) fl_X11_122 rfl rfl rfl dX11_checks_49 rfl (fun x13 ex13 => ?_)
        replace hf := ms_lE ex13 hf
        refine lv_aload_n hx hb dX11_checks_52 rfl (lv_at hl 0 rfl) (hp_n (n := 53) rfl ?_)
        refine q_getr (κ := 12) (k := 3) (φ := 603) (pc' := 56) C Bh10 (cw_k Bh10.2.2 k0) fl_X11_26 rfl rfl rfl (cw_r Bh10.2.2 k0 rfl rfl (by decide) (by decide)) dX11_checks_53 rfl (fun b14 eb14 kb14 => ?_)
        replace hf := ms_lE eb14 hf
        refine lv_iload_n hx hb dX11_checks_56 rfl (lv_at hl 1 rfl) (hp_n (n := 57) rfl ?_)
        refine lv_iload hx hb dX11_checks_57 (lv_at hl 4 rfl) (hp_n (n := 59) rfl ?_)
        obtain ⟨rh15, qh15, hf⟩ := ms_bE hf
        refine d_pi (pc' := 62) Bh10 (hp_runV (As := [.int x13, .ref b14, .int a1, .int a4]) (rest := [.ref a0]) C Bh10 (n_X8_whyInclusion n Γ l αh10 Bh10.2.2.1 b11 (cw_k Bh10.2.2 kb11) x13 b14 (cw_k Bh10.2.2 kb14) a1 a4 rh15 qh15) lb_X8_whyInclusion lv_X8_whyInclusion lk_X11_304 (cw_k Bh10.2.2 kb11) rfl (by decide) rfl hl.1 rfl (Nat.le_of_ble_eq_true rfl) dX11_checks_59 ⟨Nat.le_refl _, Nat.le_refl _⟩) rfl (fun Hh15 Lh15 Bh15 => ?_)
        obtain ⟨rh16, αh16, qh16, hf⟩ := hq_cE hf
        refine d_ci (pc' := 65) Bh15 (hp_runV (As := [.int rh15]) (rest := []) C Bh15 (n_X11_answer n Γ l αh10 Bh15.2.2.1 a0 (cw_k Bh15.2.2 k0) rh15 (rh16, αh16) qh16) lb_X11_answer lv_X11_answer lk_X11_115 (cw_k Bh15.2.2 k0) rfl (by decide) rfl hl.1 rfl (Nat.le_of_ble_eq_true rfl) dX11_checks_62 ⟨Nat.le_refl _, Nat.le_refl _⟩) (by decide) rfl (fun Hh16 Lh16 Bh16 => ?_)
        cases hf
        exact q_iret C Bh16 hr hlk ⟨rfl, rfl, Bh16.2.2⟩ dX11_checks_65
      ·
        replace hf := ms_iT c8 hf
        exact J25 α Hh7 Lh7 Bh7 ls (lv_sub hl [0] rfl) hf
