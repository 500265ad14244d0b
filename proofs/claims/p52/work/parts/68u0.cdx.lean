def f_X8_folded_L6 (n : Nat) (α : hp_T) (a0 : Nat) : Nat → Int32 → Nat → Int32 → Int32 → Int32 → Option Int32
  | 0, _, _, _, _, _ => none
  | k6 + 1, v1_h1, v2_h1, v4_h1, v5_h1, v6_h1 =>
    if v4_h1 ≤ v6_h1 then
      some v5_h1
    else
      ms_l (hp_I α 453 a0) fun x3 =>
      if x3 ≤ v6_h1 then
        some v5_h1
      else
        ms_b (f_X5_at n α v2_h1 v6_h1) fun rh5 =>
        ms_b (f_X8_joined n α a0 v1_h1 v6_h1 v5_h1 rh5) fun rh6 =>
        ms_l (v6_h1 + 1) fun x7 =>
        (f_X8_folded_L6 n α a0 k6) v1_h1 v2_h1 v4_h1 rh6 x7
def f_X8_folded (n : Nat) (α : hp_T) (a0 : Nat) (a1 : Int32) (a2 : Nat) (a3 : Int32) (a4 : Int32) : Option Int32 :=
  f_X8_folded_L6 n α a0 n a1 a2 a4 a3 (0 : Int32)
set_option maxRecDepth 100000 in
set_option maxHeartbeats 4000000 in
theorem n_X8_folded (n : Nat) (Γ : hp_G) (l : Launch) (α : hp_T) (g : GC α) (a0 : Nat) (k0 : hp_K α a0 = 9) (a1 : Int32) (a2 : Nat) (k2 : hp_K α a2 = 6) (a3 : Int32) (a4 : Int32) (res : Int32) (hf : f_X8_folded n α a0 a1 a2 a3 a4 = some res) : Met l yX8_folded (hp_ws yX8_folded cX8_folded 7 (some .int)) (hp_rm 2 0 0) (hp_Pc Γ α [.ref a0, .int a1, .ref a2, .int a3, .int a4]) (hp_Qi Γ (fun r β => β = α ∧ r = res)) 0 0 (hp_A Γ) := by
  unfold f_X8_folded at hf
  refine hp_start (by decide) ?_
  intro p e s m below meth c C hr hlk B0 hnm
  have C : hp_C Γ p m c cX8_folded 7 s ([.ref a0, .int a1, .ref a2, .int a3, .int a4] : List Value).toArray RX8 := C
  have hx := C.1.1
  have hb := C.1.2.1
  have hown := C.1.2.2.2.1
  have hts := C.1.2.2.2.2
  have B : hp_B Γ (cw w_X8_folded) s α α s.heap [] := ⟨B0.1, B0.2.1, cw_rf g⟩
  have hl := lv_entry ([.ref a0, .int a1, .ref a2, .int a3, .int a4]) (n := 7) (Nat.le_of_ble_eq_true rfl)
  show W p l e (hp_rm 2 0 0) s m ([.ref a0, .int a1, .ref a2, .int a3, .int a4] : List Value).toArray below meth c s.heap [] 0 0 (MQ below (hp_Qi Γ (fun r β => β = α ∧ r = res)) ([.ref a0, .int a1, .ref a2, .int a3, .int a4] : List Value).toArray s 0 0 (hp_A Γ)) (entryFrame m ([.ref a0, .int a1, .ref a2, .int a3, .int a4] : List Value).toArray 7)
  rw [lg_entry_eq]
  generalize (lg_sl ([.ref a0, .int a1, .ref a2, .int a3, .int a4]) ++ List.replicate (7 - (lg_sl ([.ref a0, .int a1, .ref a2, .int a3, .int a4])).length) Slot.unset).toArray = ls at hl ⊢
  have hl : lv_has ls 7 [(0, .ref a0), (1, .int a1), (2, .ref a2), (3, .int a3), (4, .int a4)] := hl
  refine lv_iload_n hx hb dX8_folded_0 rfl (lv_at hl 3 rfl) (hp_n (n := 1) rfl ?_)
  refine lv_istore (lv' := [(5, .int a3), (0, .ref a0), (1, .int a1), (2, .ref a2), (3, .int a3), (4, .int a4)]) hx hb dX8_folded_1 hl (by decide) rfl (fun ls hl => hp_n (n := 3) rfl ?_)
  refine lv_iconst (v := 0) hx hb dX8_folded_3 (by decide) (hp_n (n := 4) rfl ?_)
  have J6 : ∀ (k6 : Nat) (Hh1 : Heap) (Lh1 : List Loc) (Bh1 : hp_B Γ (cw w_X8_folded) s α α Hh1 Lh1) (v1_h1 : Int32) (v2_h1 : Nat) (kv2_h1 : hp_K α v2_h1 = 6) (v4_h1 : Int32) (v5_h1 : Int32) (v6_h1 : Int32) (ls : Array Slot) (hl : lv_has ls 7 [(0, .ref a0), (1, .int v1_h1), (2, .ref v2_h1), (4, .int v4_h1), (5, .int v5_h1), (6, .int v6_h1)]) (hf : f_X8_folded_L6 n α a0 k6 v1_h1 v2_h1 v4_h1 v5_h1 v6_h1 = some res), W p l e (hp_rm 2 0 0) s m ([.ref a0, .int a1, .ref a2, .int a3, .int a4] : List Value).toArray below meth c Hh1 Lh1 0 0 (MQ below (hp_Qi Γ (fun r β => β = α ∧ r = res)) ([.ref a0, .int a1, .ref a2, .int a3, .int a4] : List Value).toArray s 0 0 (hp_A Γ)) (F0 m 6 ls []) := by
    intro k6
    induction k6 with
    | zero => intro Hh1 Lh1 Bh1 v1_h1 v2_h1 kv2_h1 v4_h1 v5_h1 v6_h1 ls hl hf; rw [f_X8_folded_L6.eq_1] at hf; cases hf
    | succ k6 ih6 =>
      intro Hh1 Lh1 Bh1 v1_h1 v2_h1 kv2_h1 v4_h1 v5_h1 v6_h1 ls hl hf
      rw [f_X8_folded_L6.eq_2] at hf
      refine lv_iload hx hb dX8_folded_6 (lv_at hl 5 rfl) (hp_n (n := 8) rfl ?_)
      refine lv_iload hx hb dX8_folded_8 (lv_at hl 3 rfl) (hp_n (n := 10) rfl ?_)
      refine lv_icmp_ge (tgt := 45) hx hb dX8_folded_10 (by decide) (fun c2 => ?_) (fun c2 => hp_n (n := 13) rfl ?_)
      ·
        replace hf := ms_iT c2 hf
        refine lv_iload hx hb dX8_folded_45 (lv_at hl 4 rfl) (hp_n (n := 47) rfl ?_)
        cases hf
        exact q_iret C Bh1 hr hlk ⟨rfl, rfl⟩ dX8_folded_47
      ·
        replace hf := ms_iF c2 hf
        refine lv_iload hx hb dX8_folded_13 (lv_at hl 5 rfl) (hp_n (n := 15) rfl ?_)
        refine lv_aload_n hx hb dX8_folded_15 rfl (lv_at hl 0 rfl) (hp_n (n := 16) rfl ?_)
        refine q_geti (κ := 9) (k := 3) (φ := 453) (pc' := 19) C Bh1 (cw_k Bh1.2.2 k0) fl_X8_22 rfl rfl rfl dX8_folded_16 rfl (fun x3 ex3 => ?_)
        replace hf := ms_lE ex3 hf
        refine lv_icmp_ge (tgt := 45) hx hb dX8_folded_19 (by decide) (fun c4 => ?_) (fun c4 => hp_n (n := 22) rfl ?_)
        ·
          replace hf := ms_iT c4 hf
          refine lv_iload hx hb dX8_folded_45 (lv_at hl 4 rfl) (hp_n (n := 47) rfl ?_)
          cases hf
          exact q_iret C Bh1 hr hlk ⟨rfl, rfl⟩ dX8_folded_47
        ·
          replace hf := ms_iF c4 hf
          refine lv_aload_n hx hb dX8_folded_22 rfl (lv_at hl 0 rfl) (hp_n (n := 23) rfl ?_)
          refine lv_iload_n hx hb dX8_folded_23 rfl (lv_at hl 1 rfl) (hp_n (n := 24) rfl ?_)
          refine lv_iload hx hb dX8_folded_24 (lv_at hl 5 rfl) (hp_n (n := 26) rfl ?_)
          refine lv_iload hx hb dX8_folded_26 (lv_at hl 4 rfl) (hp_n (n := 28) rfl ?_)
          refine lv_aload_n hx hb dX8_folded_28 rfl (lv_at hl 2 rfl) (hp_n (n := 29) rfl ?_)
          refine lv_iload hx hb dX8_folded_29 (lv_at hl 5 rfl) (hp_n (n := 31) rfl ?_)
          obtain ⟨rh5, qh5, hf⟩ := ms_bE hf
          refine d_pi (pc' := 34) Bh1 (hp_runV (As := [.int v6_h1]) (rest := [.int v5_h1, .int v6_h1, .int v1_h1, .ref a0]) C Bh1 (n_X5_at n Γ l α Bh1.2.2.1 v2_h1 (cw_k Bh1.2.2 kv2_h1) v6_h1 rh5 qh5) lb_X5_at lv_X5_at lk_X8_65 (cw_k Bh1.2.2 kv2_h1) rfl (by decide) rfl hl.1 rfl (Nat.le_of_ble_eq_true rfl) dX8_folded_31 ⟨Nat.le_refl _, Nat.le_refl _⟩) rfl (fun Hh5 Lh5 Bh5 => ?_)
          obtain ⟨rh6, qh6, hf⟩ := ms_bE hf
          refine d_pi (pc' := 37) Bh5 (hp_runV (As := [.int v1_h1, .int v6_h1, .int v5_h1, .int rh5]) (rest := []) C Bh5 (n_X8_joined n Γ l α Bh5.2.2.1 a0 (cw_k Bh5.2.2 k0) v1_h1 v6_h1 v5_h1 rh5 rh6 qh6) lb_X8_joined lv_X8_joined lk_X8_70 (cw_k Bh5.2.2 k0) rfl (by decide) rfl hl.1 rfl (Nat.le_of_ble_eq_true rfl) dX8_folded_34 ⟨Nat.le_refl _, Nat.le_refl _⟩) rfl (fun Hh6 Lh6 Bh6 => ?_)
          refine lv_istore (lv' := [(5, .int rh6), (0, .ref a0), (1, .int v1_h1), (2, .ref v2_h1), (4, .int v4_h1), (6, .int v6_h1)]) hx hb dX8_folded_37 hl (by decide) rfl (fun ls hl => hp_n (n := 39) rfl ?_)
          obtain ⟨x7, ex7⟩ : ∃ y : Int32, y = v6_h1 + 1 := ⟨_, rfl⟩
          replace hf := ms_lE ex7 hf
          refine lv_iinc (v := x7) (lv' := [(6, .int x7), (5, .int rh6), (0, .ref a0), (1, .int v1_h1), (2, .ref v2_h1), (4, .int v4_h1)]) hx hb dX8_folded_39 hl (k := 5) rfl (by rw [ex7]; rfl) (by decide) rfl (fun ls hl => hp_n (n := 42) rfl ?_)
          refine lv_goto (tgt := 6) hx hb dX8_folded_42 (by decide) ?_
          exact ih6 Hh6 Lh6 Bh6 v1_h1 v2_h1 kv2_h1 v4_h1 rh6 x7 ls (lv_sub hl [2, 3, 4, 5, 1, 0] rfl) hf
  refine lv_istore (lv' := [(6, .int (0 : Int32)), (5, .int a3), (0, .ref a0), (1, .int a1), (2, .ref a2), (3, .int a3), (4, .int a4)]) hx hb dX8_folded_4 hl (by decide) rfl (fun ls hl => hp_n (n := 6) rfl ?_)
  exact J6 n s.heap [] B a1 a2 k2 a4 a3 (0 : Int32) ls (lv_sub hl [2, 3, 4, 6, 1, 0] rfl) hf
def f_X8_whyInclusion (n : Nat) (α : hp_T) (a0 : Nat) (a1 : Int32) (a2 : Nat) (a3 : Int32) (a4 : Int32) : Option Int32 :=
  ms_l (hp_I α 301 a2) fun x1 =>
  ms_l (hp_I α 453 a0) fun x2 =>
  if x1 = x2 then
    ms_l (hp_I α 453 a0) fun x4 =>
    ms_b (f_X8_folded n α a0 a1 a2 a3 x4) fun rh5 =>
    if rh5 = a4 then
      some (0 : Int32)
    else
      some (3 : Int32)
  else
    ms_l (hp_I α 301 a2) fun x7 =>
    ms_l (hp_I α 453 a0) fun x8 =>
    if x8 ≤ x7 then
      some (2 : Int32)
    else
      some (1 : Int32)
set_option maxRecDepth 100000 in
set_option maxHeartbeats 4000000 in
theorem n_X8_whyInclusion (n : Nat) (Γ : hp_G) (l : Launch) (α : hp_T) (g : GC α) (a0 : Nat) (k0 : hp_K α a0 = 9) (a1 : Int32) (a2 : Nat) (k2 : hp_K α a2 = 6) (a3 : Int32) (a4 : Int32) (res : Int32) (hf : f_X8_whyInclusion n α a0 a1 a2 a3 a4 = some res) : Met l yX8_whyInclusion (hp_ws yX8_whyInclusion cX8_whyInclusion 5 (some .int)) (hp_rm 3 0 0) (hp_Pc Γ α [.ref a0, .int a1, .ref a2, .int a3, .int a4]) (hp_Qi Γ (fun r β => β = α ∧ r = res)) 0 0 (hp_A Γ) := by
  unfold f_X8_whyInclusion at hf
  refine hp_start (by decide) ?_
  intro p e s m below meth c C hr hlk B0 hnm
  have C : hp_C Γ p m c cX8_whyInclusion 5 s ([.ref a0, .int a1, .ref a2, .int a3, .int a4] : List Value).toArray RX8 := C
  have hx := C.1.1
  have hb := C.1.2.1
  have hown := C.1.2.2.2.1
  have hts := C.1.2.2.2.2
  have B : hp_B Γ (cw w_X8_whyInclusion) s α α s.heap [] := ⟨B0.1, B0.2.1, cw_rf g⟩
  have hl := lv_entry ([.ref a0, .int a1, .ref a2, .int a3, .int a4]) (n := 5) (Nat.le_of_ble_eq_true rfl)
  show W p l e (hp_rm 3 0 0) s m ([.ref a0, .int a1, .ref a2, .int a3, .int a4] : List Value).toArray below meth c s.heap [] 0 0 (MQ below (hp_Qi Γ (fun r β => β = α ∧ r = res)) ([.ref a0, .int a1, .ref a2, .int a3, .int a4] : List Value).toArray s 0 0 (hp_A Γ)) (entryFrame m ([.ref a0, .int a1, .ref a2, .int a3, .int a4] : List Value).toArray 5)
  rw [lg_entry_eq]
  generalize (lg_sl ([.ref a0, .int a1, .ref a2, .int a3, .int a4]) ++ List.replicate (5 - (lg_sl ([.ref a0, .int a1, .ref a2, .int a3, .int a4])).length) Slot.unset).toArray = ls at hl ⊢
  have hl : lv_has ls 5 [(0, .ref a0), (1, .int a1), (2, .ref a2), (3, .int a3), (4, .int a4)] := hl
  refine lv_aload_n hx hb dX8_whyInclusion_0 rfl (lv_at hl 2 rfl) (hp_n (n := 1) rfl ?_)
  refine q_geti (κ := 6) (k := 1) (φ := 301) (pc' := 4) C B (cw_k B.2.2 k2) fl_X8_74 rfl rfl rfl dX8_whyInclusion_1 rfl (fun x1 ex1 => ?_)
  replace hf := ms_lE ex1 hf
  refine lv_aload_n hx hb dX8_whyInclusion_4 rfl (lv_at hl 0 rfl) (hp_n (n := 5) rfl ?_)
  refine q_geti (κ := 9) (k := 3) (φ := 453) (pc' := 8) C B (cw_k B.2.2 k0) fl_X8_22 rfl rfl rfl dX8_whyInclusion_5 rfl (fun x2 ex2 => ?_)
  replace hf := ms_lE ex2 hf
  refine lv_icmp_eq (tgt := 28) hx hb dX8_whyInclusion_8 (by decide) (fun c3 => ?_) (fun c3 => hp_n (n := 11) rfl ?_)
  ·
    replace hf := ms_iT c3 hf
    refine lv_aload_n hx hb dX8_whyInclusion_28 rfl (lv_at hl 0 rfl) (hp_n (n := 29) rfl ?_)
    refine lv_iload_n hx hb dX8_whyInclusion_29 rfl (lv_at hl 1 rfl) (hp_n (n := 30) rfl ?_)
    refine lv_aload_n hx hb dX8_whyInclusion_30 rfl (lv_at hl 2 rfl) (hp_n (n := 31) rfl ?_)
    refine lv_iload_n hx hb dX8_whyInclusion_31 rfl (lv_at hl 3 rfl) (hp_n (n := 32) rfl ?_)
    refine lv_aload_n hx hb dX8_whyInclusion_32 rfl (lv_at hl 0 rfl) (hp_n (n := 33) rfl ?_)
    refine q_geti (κ := 9) (k := 3) (φ := 453) (pc' := 36) C B (cw_k B.2.2 k0) fl_X8_22 rfl rfl rfl dX8_whyInclusion_33 rfl (fun x4 ex4 => ?_)
    replace hf := ms_lE ex4 hf
    obtain ⟨rh5, qh5, hf⟩ := ms_bE hf
    refine d_pi (pc' := 39) B (hp_runV (As := [.int a1, .ref a2, .int a3, .int x4]) (rest := []) C B (n_X8_folded n Γ l α B.2.2.1 a0 (cw_k B.2.2 k0) a1 a2 (cw_k B.2.2 k2) a3 x4 rh5 qh5) lb_X8_folded lv_X8_folded lk_X8_75 (cw_k B.2.2 k0) rfl (by decide) rfl hl.1 rfl (Nat.le_of_ble_eq_true rfl) dX8_whyInclusion_36 ⟨Nat.le_refl _, Nat.le_refl _⟩) rfl (fun Hh5 Lh5 Bh5 => ?_)
    refine lv_iload hx hb dX8_whyInclusion_39 (lv_at hl 4 rfl) (hp_n (n := 41) rfl ?_)
    refine lv_icmp_ne (tgt := 48) hx hb dX8_whyInclusion_41 (by decide) (fun c6 => ?_) (fun c6 => hp_n (n := 44) rfl ?_)
    ·
      replace hf := ms_iF c6 hf
      refine lv_iconst (v := 3) hx hb dX8_whyInclusion_48 (by decide) (hp_n (n := 49) rfl ?_)
      cases hf
      exact q_iret C Bh5 hr hlk ⟨rfl, rfl⟩ dX8_whyInclusion_49
    ·
      replace hf := ms_iT c6 hf
      refine lv_iconst (v := 0) hx hb dX8_whyInclusion_44 (by decide) (hp_n (n := 45) rfl ?_)
      refine lv_goto (tgt := 49) hx hb dX8_whyInclusion_45 (by decide) ?_
      cases hf
      exact q_iret C Bh5 hr hlk ⟨rfl, rfl⟩ dX8_whyInclusion_49
  ·
    replace hf := ms_iF c3 hf
    refine lv_aload_n hx hb dX8_whyInclusion_11 rfl (lv_at hl 2 rfl) (hp_n (n := 12) rfl ?_)
    refine q_geti (κ := 6) (k := 1) (φ := 301) (pc' := 15) C B (cw_k B.2.2 k2) fl_X8_74 rfl rfl rfl dX8_whyInclusion_12 rfl (fun x7 ex7 => ?_)
    replace hf := ms_lE ex7 hf
    refine lv_aload_n hx hb dX8_whyInclusion_15 rfl (lv_at hl 0 rfl) (hp_n (n := 16) rfl ?_)
    refine q_geti (κ := 9) (k := 3) (φ := 453) (pc' := 19) C B (cw_k B.2.2 k0) fl_X8_22 rfl rfl rfl dX8_whyInclusion_16 rfl (fun x8 ex8 => ?_)
    replace hf := ms_lE ex8 hf
    refine lv_icmp_ge (tgt := 26) hx hb dX8_whyInclusion_19 (by decide) (fun c9 => ?_) (fun c9 => hp_n (n := 22) rfl ?_)
    ·
      replace hf := ms_iT c9 hf
      refine lv_iconst (v := 2) hx hb dX8_whyInclusion_26 (by decide) (hp_n (n := 27) rfl ?_)
      cases hf
      exact q_iret C B hr hlk ⟨rfl, rfl⟩ dX8_whyInclusion_27
    ·
      replace hf := ms_iF c9 hf
      refine lv_iconst (v := 1) hx hb dX8_whyInclusion_22 (by decide) (hp_n (n := 23) rfl ?_)
      refine lv_goto (tgt := 27) hx hb dX8_whyInclusion_23 (by decide) ?_
      cases hf
      exact q_iret C B hr hlk ⟨rfl, rfl⟩ dX8_whyInclusion_27
def f_X3_readMark (n : Nat) (α : hp_T) (a0 : Nat) (i1 : Nat) : Option (Int32 × hp_T) :=
  hq_c (f_X3_readWord n α a0 i1) fun rh1 αh1 =>
  if rh1 = 0 then
    some ((0 : Int32), αh1)
  else
    ms_l (hp_I αh1 203 a0) fun x3 =>
    hq_c (f_X3_readNumber n αh1 a0 (0 : Int32) (x3 - (1 : Int32))) fun rh4 αh4 =>
    if rh4 = 0 then
      some ((0 : Int32), αh4)
    else
      some ((1 : Int32), αh4)
set_option maxRecDepth 100000 in
set_option maxHeartbeats 4000000 in
theorem n_X3_readMark (n : Nat) (Γ : hp_G) (l : Launch) (α : hp_T) (g : GC α) (a0 : Nat) (k0 : hp_K α a0 = 4) (i1 : Nat) (h1 : i1 < 21) (res : (Int32 × hp_T)) (hf : f_X3_readMark n α a0 i1 = some res) : Met l yX3_readMark (hp_ws yX3_readMark cX3_readMark 2 (some .boolean)) (hp_rm 6 0 0) (hp_Pc Γ α [.ref a0, .ref (Γ.2.2.2.2.1 i1)]) (hp_Qi Γ (fun r β => r = res.1 ∧ β = res.2 ∧ cw w_X3_readMark α β)) 0 0 (hp_A Γ) := by
  unfold f_X3_readMark at hf
  refine hp_start (by decide) ?_
  intro p e s m below meth c C hr hlk B0 hnm
  have C : hp_C Γ p m c cX3_readMark 2 s ([.ref a0, .ref (Γ.2.2.2.2.1 i1)] : List Value).toArray RX3 := C
  have hx := C.1.1
  have hb := C.1.2.1
  have hown := C.1.2.2.2.1
  have hts := C.1.2.2.2.2
  have B : hp_B Γ (cw w_X3_readMark) s α α s.heap [] := ⟨B0.1, B0.2.1, cw_rf g⟩
  have hl := lv_entry ([.ref a0, .ref (Γ.2.2.2.2.1 i1)]) (n := 2) (Nat.le_of_ble_eq_true rfl)
  show W p l e (hp_rm 6 0 0) s m ([.ref a0, .ref (Γ.2.2.2.2.1 i1)] : List Value).toArray below meth c s.heap [] 0 0 (MQ below (hp_Qi Γ (fun r β => r = res.1 ∧ β = res.2 ∧ cw w_X3_readMark α β)) ([.ref a0, .ref (Γ.2.2.2.2.1 i1)] : List Value).toArray s 0 0 (hp_A Γ)) (entryFrame m ([.ref a0, .ref (Γ.2.2.2.2.1 i1)] : List Value).toArray 2)
  rw [lg_entry_eq]
  generalize (lg_sl ([.ref a0, .ref (Γ.2.2.2.2.1 i1)]) ++ List.replicate (2 - (lg_sl ([.ref a0, .ref (Γ.2.2.2.2.1 i1)])).length) Slot.unset).toArray = ls at hl ⊢
  have hl : lv_has ls 2 [(0, .ref a0), (1, .ref (Γ.2.2.2.2.1 i1))] := hl
  refine lv_aload_n hx hb dX3_readMark_0 rfl (lv_at hl 0 rfl) (hp_n (n := 1) rfl ?_)
  refine lv_aload_n hx hb dX3_readMark_1 rfl (lv_at hl 1 rfl) (hp_n (n := 2) rfl ?_)
  obtain ⟨rh1, αh1, qh1, hf⟩ := hq_cE hf
  refine d_ci (pc' := 5) B (hp_runV (As := [.ref (Γ.2.2.2.2.1 i1)]) (rest := []) C B (n_X3_readWord n Γ l α B.2.2.1 a0 (cw_k B.2.2 k0) i1 h1 (rh1, αh1) qh1) lb_X3_readWord lv_X3_readWord lk_X3_158 (cw_k B.2.2 k0) rfl (by decide) rfl hl.1 rfl (Nat.le_of_ble_eq_true rfl) dX3_readMark_2 ⟨Nat.le_refl _, Nat.le_refl _⟩) (by decide) rfl (fun Hh1 Lh1 Bh1 => ?_)
  refine lv_if_eq (tgt := 26) hx hb dX3_readMark_5 (by decide) (fun c2 => ?_) (fun c2 => hp_n (n := 8) rfl ?_)
  ·
    replace hf := ms_iT c2 hf
    refine lv_iconst (v := 0) hx hb dX3_readMark_26 (by decide) (hp_n (n := 27) rfl ?_)
    cases hf
    exact q_zret C Bh1 hr hlk (by decide) ⟨rfl, rfl, Bh1.2.2⟩ dX3_readMark_27
  ·
    replace hf := ms_iF c2 hf
    refine lv_aload_n hx hb dX3_readMark_8 rfl (lv_at hl 0 rfl) (hp_n (n := 9) rfl ?_)
    refine lv_iconst (v := 0) hx hb dX3_readMark_9 (by decide) (hp_n (n := 10) rfl ?_)
    refine lv_aload_n hx hb dX3_readMark_10 rfl (lv_at hl 0 rfl) (hp_n (n := 11) rfl ?_)
    refine q_geti (κ := 4) (k := 3) (φ := 203) (pc' := 14) C Bh1 (cw_k Bh1.2.2 k0) fl_X3_33 rfl rfl rfl dX3_readMark_11 rfl (fun x3 ex3 => ?_)
    replace hf := ms_lE ex3 hf
    refine lv_iconst (v := 1) hx hb dX3_readMark_14 (by decide) (hp_n (n := 15) rfl ?_)
    refine lv_isub hx hb dX3_readMark_15 (hp_n (n := 16) rfl ?_)
    obtain ⟨rh4, αh4, qh4, hf⟩ := hq_cE hf
    refine d_ci (pc' := 19) Bh1 (hp_runV (As := [.int (0 : Int32), .int (x3 - (1 : Int32))]) (rest := []) C Bh1 (n_X3_readNumber n Γ l αh1 Bh1.2.2.1 a0 (cw_k Bh1.2.2 k0) (0 : Int32) (x3 - (1 : Int32)) (rh4, αh4) qh4) lb_X3_readNumber lv_X3_readNumber lk_X3_75 (cw_k Bh1.2.2 k0) rfl (by decide) rfl hl.1 rfl (Nat.le_of_ble_eq_true rfl) dX3_readMark_16 ⟨Nat.le_refl _, Nat.le_refl _⟩) (by decide) rfl (fun Hh4 Lh4 Bh4 => ?_)
    refine lv_if_eq (tgt := 26) hx hb dX3_readMark_19 (by decide) (fun c5 => ?_) (fun c5 => hp_n (n := 22) rfl ?_)
    ·
      replace hf := ms_iT c5 hf
      refine lv_iconst (v := 0) hx hb dX3_readMark_26 (by decide) (hp_n (n := 27) rfl ?_)
      cases hf
      exact q_zret C Bh4 hr hlk (by decide) ⟨rfl, rfl, Bh4.2.2⟩ dX3_readMark_27
    ·
      replace hf := ms_iF c5 hf
      refine lv_iconst (v := 1) hx hb dX3_readMark_22 (by decide) (hp_n (n := 23) rfl ?_)
      refine lv_goto (tgt := 27) hx hb dX3_readMark_23 (by decide) ?_
      cases hf
      exact q_zret C Bh4 hr hlk (by decide) ⟨rfl, rfl, Bh4.2.2⟩ dX3_readMark_27
def f_X3_readRow_J128 (n : Nat) (a0 : Nat) (αh11 : hp_T) : Option (Int32 × hp_T) :=
  some ((1 : Int32), αh11)
def f_X3_readRow_J110 (n : Nat) (a0 : Nat) (αh8 : hp_T) : Option (Int32 × hp_T) :=
  ms_l (hp_R αh8 200 a0) fun b9 =>
  ms_l (hp_I αh8 353 b9) fun x10 =>
  if x10 = (3 : Int32) then
    f_X3_readRow_J128 n a0 αh8
  else
    hq_c (f_X3_stray n αh8 a0) fun rh13 αh13 =>
    if rh13 = 0 then
      some ((0 : Int32), αh13)
    else
      f_X3_readRow_J128 n a0 αh13
def f_X3_readRow_L28 (n : Nat) (a0 : Nat) : Nat → hp_T → Int32 → Option (Int32 × hp_T)
  | 0, _, _ => none
  | k28 + 1, αh7, v1_h7 =>
    if (64 : Int32) < v1_h7 then
      f_X3_readRow_J110 n a0 αh7
    else
      ms_l (hp_R αh7 200 a0) fun b16 =>
      ms_l (hp_I αh7 353 b16) fun x17 =>
      if x17 = (2 : Int32) then
        ms_l (hp_R αh7 200 a0) fun b19 =>
        ms_l (hp_I αh7 356 b19) fun x20 =>
        ms_l (hp_I αh7 203 a0) fun x21 =>
        if x20 < x21 then
          ms_l (hp_R αh7 201 a0) fun b23 =>
          ms_l (hp_I αh7 301 b23) fun x24 =>
          hq_c (f_X3_hasRoom n αh7 a0 x24 (64 : Int32)) fun rh25 αh25 =>
          if rh25 = 0 then
            some ((0 : Int32), αh25)
          else
            ms_l (hp_R αh25 201 a0) fun b27 =>
            ms_l (hp_R αh25 200 a0) fun b28 =>
            ms_l (hp_I αh25 356 b28) fun x29 =>
            ms_b (f_X5_put n αh25 b27 x29) fun αh30 =>
            ms_l (hp_R αh30 200 a0) fun b31 =>
            ms_b (f_X6_advance n αh30 b31) fun αh32 =>
            ms_l (v1_h7 + 1) fun x33 =>
            (f_X3_readRow_L28 n a0 k28) αh32 x33
        else
          hq_c (f_X3_fail n αh7 a0 (3 : Int32)) fun rh34 αh34 =>
          ms_z rh34 <|
          some (rh34, αh34)
      else
        f_X3_readRow_J110 n a0 αh7
def f_X3_readRow (n : Nat) (α : hp_T) (a0 : Nat) : Option (Int32 × hp_T) :=
  hq_c (f_X3_readWord n α a0 8) fun rh1 αh1 =>
  if rh1 = 0 then
    some ((0 : Int32), αh1)
  else
    ms_l (hp_R αh1 201 a0) fun b3 =>
    ms_b (f_X5_shorten n αh1 b3 (0 : Int32)) fun αh4 =>
    ms_l (hp_R αh4 200 a0) fun b5 =>
    ms_b (f_X6_advance n αh4 b5) fun αh6 =>
    f_X3_readRow_L28 n a0 n αh6 (0 : Int32)
set_option maxRecDepth 100000 in
set_option maxHeartbeats 4000000 in
theorem n_X3_readRow (n : Nat) (Γ : hp_G) (l : Launch) (α : hp_T) (g : GC α) (a0 : Nat) (k0 : hp_K α a0 = 4) (res : (Int32 × hp_T)) (hf : f_X3_readRow n α a0 = some res) : Met l yX3_readRow (hp_ws yX3_readRow cX3_readRow 2 (some .boolean)) (hp_rm 6 0 0) (hp_Pc Γ α [.ref a0]) (hp_Qi Γ (fun r β => r = res.1 ∧ β = res.2 ∧ cw w_X3_readRow α β)) 0 0 (hp_A Γ) := by
  unfold f_X3_readRow at hf
  refine hp_start (by decide) ?_
  intro p e s m below meth c C hr hlk B0 hnm
  have C : hp_C Γ p m c cX3_readRow 2 s ([.ref a0] : List Value).toArray RX3 := C
  have hx := C.1.1
  have hb := C.1.2.1
  have hown := C.1.2.2.2.1
  have hts := C.1.2.2.2.2
  have B : hp_B Γ (cw w_X3_readRow) s α α s.heap [] := ⟨B0.1, B0.2.1, cw_rf g⟩
  have hl := lv_entry ([.ref a0]) (n := 2) (Nat.le_of_ble_eq_true rfl)
  show W p l e (hp_rm 6 0 0) s m ([.ref a0] : List Value).toArray below meth c s.heap [] 0 0 (MQ below (hp_Qi Γ (fun r β => r = res.1 ∧ β = res.2 ∧ cw w_X3_readRow α β)) ([.ref a0] : List Value).toArray s 0 0 (hp_A Γ)) (entryFrame m ([.ref a0] : List Value).toArray 2)
  rw [lg_entry_eq]
  generalize (lg_sl ([.ref a0]) ++ List.replicate (2 - (lg_sl ([.ref a0])).length) Slot.unset).toArray = ls at hl ⊢
  have hl : lv_has ls 2 [(0, .ref a0)] := hl
  refine lv_aload_n hx hb dX3_readRow_0 rfl (lv_at hl 0 rfl) (hp_n (n := 1) rfl ?_)
  refine va_ldcS hx hb hown (sr_X3_186 C.2) dX3_readRow_1 (hp_n (n := 3) rfl ?_)
  obtain ⟨rh1, αh1, qh1, hf⟩ := hq_cE hf
  refine d_ci (pc' := 6) B (hp_runV (As := [.ref (Γ.2.2.2.2.1 8)]) (rest := []) C B (n_X3_readWord n Γ l α B.2.2.1 a0 (cw_k B.2.2 k0) 8 (by decide) (rh1, αh1) qh1) lb_X3_readWord lv_X3_readWord lk_X3_158 (cw_k B.2.2 k0) rfl (by decide) rfl hl.1 rfl (Nat.le_of_ble_eq_true rfl) dX3_readRow_3 ⟨Nat.le_refl _, Nat.le_refl _⟩) (by decide) rfl (fun Hh1 Lh1 Bh1 => ?_)
  refine lv_if_ne (tgt := 11) hx hb dX3_readRow_6 (by decide) (fun c2 => ?_) (fun c2 => hp_n (n := 9) rfl ?_)
  ·
    replace hf := ms_iF c2 hf
    refine lv_aload_n hx hb dX3_readRow_11 rfl (lv_at hl 0 rfl) (hp_n (n := 12) rfl ?_)
    refine q_getr (κ := 4) (k := 1) (φ := 201) (pc' := 15) C Bh1 (cw_k Bh1.2.2 k0) fl_X3_21 rfl rfl rfl (cw_r Bh1.2.2 k0 rfl rfl (by decide) (by decide)) dX3_readRow_12 rfl (fun b3 eb3 kb3 => ?_)
    replace hf := ms_lE eb3 hf
    refine lv_iconst (v := 0) hx hb dX3_readRow_15 (by decide) (hp_n (n := 16) rfl ?_)
    obtain ⟨αh4, qh4, hf⟩ := ms_bE hf
    refine d_cv (pc' := 19) Bh1 (hp_runV (As := [.int (0 : Int32)]) (rest := []) C Bh1 (n_X5_shorten n Γ l αh1 Bh1.2.2.1 b3 (cw_k Bh1.2.2 kb3) (0 : Int32) αh4 qh4) lb_X5_shorten lv_X5_shorten lk_X3_120 (cw_k Bh1.2.2 kb3) rfl (by decide) rfl hl.1 rfl (Nat.le_of_ble_eq_true rfl) dX3_readRow_16 ⟨Nat.le_refl _, Nat.le_refl _⟩) (by decide) rfl (fun Hh4 Lh4 Bh4 => ?_)
    refine lv_aload_n hx hb dX3_readRow_19 rfl (lv_at hl 0 rfl) (hp_n (n := 20) rfl ?_)
    refine q_getr (κ := 4) (k := 0) (φ := 200) (pc' := 23) C Bh4 (cw_k Bh4.2.2 k0) fl_X3_12 rfl rfl rfl (cw_r Bh4.2.2 k0 rfl rfl (by decide) (by decide)) dX3_readRow_20 rfl (fun b5 eb5 kb5 => ?_)
    replace hf := ms_lE eb5 hf
    obtain ⟨αh6, qh6, hf⟩ := ms_bE hf
    refine d_cv (pc' := 26) Bh4 (hp_runV (As := []) (rest := []) C Bh4 (n_X6_advance n Γ l αh4 Bh4.2.2.1 b5 (cw_k Bh4.2.2 kb5) αh6 qh6) lb_X6_advance lv_X6_advance lk_X3_63 (cw_k Bh4.2.2 kb5) rfl (by decide) rfl hl.1 rfl (Nat.le_of_ble_eq_true rfl) dX3_readRow_23 ⟨Nat.le_refl _, Nat.le_refl _⟩) (by decide) rfl (fun Hh6 Lh6 Bh6 => ?_)
    refine lv_iconst (v := 0) hx hb dX3_readRow_26 (by decide) (hp_n (n := 27) rfl ?_)
    have J28 : ∀ (k28 : Nat) (αh7 : hp_T) (Hh7 : Heap) (Lh7 : List Loc) (Bh7 : hp_B Γ (cw w_X3_readRow) s α αh7 Hh7 Lh7) (v1_h7 : Int32) (ls : Array Slot) (hl : lv_has ls 2 [(0, .ref a0), (1, .int v1_h7)]) (hf : f_X3_readRow_L28 n a0 k28 αh7 v1_h7 = some res), W p l e (hp_rm 6 0 0) s m ([.ref a0] : List Value).toArray below meth c Hh7 Lh7 0 0 (MQ below (hp_Qi Γ (fun r β => r = res.1 ∧ β = res.2 ∧ cw w_X3_readRow α β)) ([.ref a0] : List Value).toArray s 0 0 (hp_A Γ)) (F0 m 28 ls []) := by
      intro k28
      induction k28 with
      | zero => intro αh7 Hh7 Lh7 Bh7 v1_h7 ls hl hf; rw [f_X3_readRow_L28.eq_1] at hf; cases hf
      | succ k28 ih28 =>
        intro αh7 Hh7 Lh7 Bh7 v1_h7 ls hl hf
        rw [f_X3_readRow_L28.eq_2] at hf
        refine lv_iload_n hx hb dX3_readRow_28 rfl (lv_at hl 1 rfl) (hp_n (n := 29) rfl ?_)
        refine lv_bipush (v := 64) hx hb dX3_readRow_29 (by decide) (hp_n (n := 31) rfl ?_)
        have J110 : ∀ (αh8 : hp_T) (Hh8 : Heap) (Lh8 : List Loc) (Bh8 : hp_B Γ (cw w_X3_readRow) s α αh8 Hh8 Lh8) (ls : Array Slot) (hl : lv_has ls 2 [(0, .ref a0)]) (hf : f_X3_readRow_J110 n a0 αh8 = some res), W p l e (hp_rm 6 0 0) s m ([.ref a0] : List Value).toArray below meth c Hh8 Lh8 0 0 (MQ below (hp_Qi Γ (fun r β => r = res.1 ∧ β = res.2 ∧ cw w_X3_readRow α β)) ([.ref a0] : List Value).toArray s 0 0 (hp_A Γ)) (F0 m 110 ls []) := by
          intro αh8 Hh8 Lh8 Bh8 ls hl hf
          unfold f_X3_readRow_J110 at hf
          refine lv_aload_n hx hb dX3_readRow_110 rfl (lv_at hl 0 rfl) (hp_n (n := 111) rfl ?_)
          refine q_getr (κ := 4) (k := 0) (φ := 200) (pc' := 114) C Bh8 (cw_k Bh8.2.2 k0) fl_X3_12 rfl rfl rfl (cw_r Bh8.2.2 k0 rfl rfl (by decide) (by decide)) dX3_readRow_111 rfl (fun b9 eb9 kb9 => ?_)
          replace hf := ms_lE eb9 hf
          refine q_geti (κ := 7) (k := 3) (φ := 353) (pc' := 117) C Bh8 (cw_k Bh8.2.2 kb9) fl_X3_66 rfl rfl rfl dX3_readRow_114 rfl (fun x10 ex10 => ?_)
          replace hf := ms_lE ex10 hf
          refine lv_iconst (v := 3) hx hb dX3_readRow_117 (by decide) (hp_n (n := 118) rfl ?_)
          have J128 : ∀ (αh11 : hp_T) (Hh11 : Heap) (Lh11 : List Loc) (Bh11 : hp_B Γ (cw w_X3_readRow) s α αh11 Hh11 Lh11) (ls : Array Slot) (hl : lv_has ls 2 []) (hf : f_X3_readRow_J128 n a0 αh11 = some res), W p l e (hp_rm 6 0 0) s m ([.ref a0] : List Value).toArray below meth c Hh11 Lh11 0 0 (MQ below (hp_Qi Γ (fun r β => r = res.1 ∧ β = res.2 ∧ cw w_X3_readRow α β)) ([.ref a0] : List Value).toArray s 0 0 (hp_A Γ)) (F0 m 128 ls []) := by
            intro αh11 Hh11 Lh11 Bh11 ls hl hf
            unfold f_X3_readRow_J128 at hf
            refine lv_iconst (v := 1) hx hb dX3_readRow_128 (by decide) (hp_n (n := 129) rfl ?_)
            refine lv_goto (tgt := 133) hx hb dX3_readRow_129 (by decide) ?_
            cases hf
            exact q_zret C Bh11 hr hlk (by decide) ⟨rfl, rfl, Bh11.2.2⟩ dX3_readRow_133
          refine lv_icmp_eq (tgt := 128) hx hb dX3_readRow_118 (by decide) (fun c12 => ?_) (fun c12 => hp_n (n := 121) rfl ?_)
          ·
            replace hf := ms_iT c12 hf
            exact J128 αh8 Hh8 Lh8 Bh8 ls (lv_sub hl [] rfl) hf
          ·
            replace hf := ms_iF c12 hf
            refine lv_aload_n hx hb dX3_readRow_121 rfl (lv_at hl 0 rfl) (hp_n (n := 122) rfl ?_)
            obtain ⟨rh13, αh13, qh13, hf⟩ := hq_cE hf
            refine d_ci (pc' := 125) Bh8 (hp_runV (As := []) (rest := []) C Bh8 (n_X3_stray n Γ l αh8 Bh8.2.2.1 a0 (cw_k Bh8.2.2 k0) (rh13, αh13) qh13) lb_X3_stray lv_X3_stray lk_X3_117 (cw_k Bh8.2.2 k0) rfl (by decide) rfl hl.1 rfl (Nat.le_of_ble_eq_true rfl) dX3_readRow_122 ⟨Nat.le_refl _, Nat.le_refl _⟩) (by decide) rfl (fun Hh13 Lh13 Bh13 => ?_)
            refine lv_if_eq (tgt := 132) hx hb dX3_readRow_125 (by decide) (fun c14 => ?_) (fun c14 => hp_n (n := 128) rfl ?_)
            ·
              replace hf := ms_iT c14 hf
              refine lv_iconst (v := 0) hx hb dX3_readRow_132 (by decide) (hp_n (n := 133) rfl ?_)
              cases hf
              exact q_zret C Bh13 hr hlk (by decide) ⟨rfl, rfl, Bh13.2.2⟩ dX3_readRow_133
            ·
              replace hf := ms_iF c14 hf
              exact J128 αh13 Hh13 Lh13 Bh13 ls (lv_sub hl [] rfl) hf
        refine lv_icmp_gt (tgt := 110) hx hb dX3_readRow_31 (by decide) (fun c15 => ?_) (fun c15 => hp_n (n := 34) rfl ?_)
        ·
          replace hf := ms_iT c15 hf
          exact J110 αh7 Hh7 Lh7 Bh7 ls (lv_sub hl [0] rfl) hf
        ·
          replace hf := ms_iF c15 hf
          refine lv_aload_n hx hb dX3_readRow_34 rfl (lv_at hl 0 rfl) (hp_n (n := 35) rfl ?_)
          refine q_getr (κ := 4) (k := 0) (φ := 200) (pc' := 38) C Bh7 (cw_k Bh7.2.2 k0) fl_X3_12 rfl rfl rfl (cw_r Bh7.2.2 k0 rfl rfl (by decide) (by decide)) dX3_readRow_35 rfl (fun b16 eb16 kb16 => ?_)
          replace hf := ms_lE eb16 hf
          refine q_geti (κ := 7) (k := 3) (φ := 353) (pc' := 41) C Bh7 (cw_k Bh7.2.2 kb16) fl_X3_66 rfl rfl rfl dX3_readRow_38 rfl (fun x17 ex17 => ?_)
          replace hf := ms_lE ex17 hf
          refine lv_iconst (v := 2) hx hb dX3_readRow_41 (by decide) (hp_n (n := 42) rfl ?_)
          refine lv_icmp_ne (tgt := 110) hx hb dX3_readRow_42 (by decide) (fun c18 => ?_) (fun c18 => hp_n (n := 45) rfl ?_)
          ·
            replace hf := ms_iF c18 hf
            exact J110 αh7 Hh7 Lh7 Bh7 ls (lv_sub hl [0] rfl) hf
          ·
            replace hf := ms_iT c18 hf
            refine lv_aload_n hx hb dX3_readRow_45 rfl (lv_at hl 0 rfl) (hp_n (n := 46) rfl ?_)
            refine q_getr (κ := 4) (k := 0) (φ := 200) (pc' := 49) C Bh7 (cw_k Bh7.2.2 k0) fl_X3_12 rfl rfl rfl (cw_r Bh7.2.2 k0 rfl rfl (by decide) (by decide)) dX3_readRow_46 rfl (fun b19 eb19 kb19 => ?_)
            replace hf := ms_lE eb19 hf
            refine q_geti (κ := 7) (k := 6) (φ := 356) (pc' := 52) C Bh7 (cw_k Bh7.2.2 kb19) fl_X3_188 rfl rfl rfl dX3_readRow_49 rfl (fun x20 ex20 => ?_)
            replace hf := ms_lE ex20 hf
            refine lv_aload_n hx hb dX3_readRow_52 rfl (lv_at hl 0 rfl) (hp_n (n := 53) rfl ?_)
            refine q_geti (κ := 4) (k := 3) (φ := 203) (pc' := 56) C Bh7 (cw_k Bh7.2.2 k0) fl_X3_33 rfl rfl rfl dX3_readRow_53 rfl (fun x21 ex21 => ?_)
            replace hf := ms_lE ex21 hf
            refine lv_icmp_lt (tgt := 65) hx hb dX3_readRow_56 (by decide) (fun c22 => ?_) (fun c22 => hp_n (n := 59) rfl ?_)
            ·
              replace hf := ms_iT c22 hf
              refine lv_aload_n hx hb dX3_readRow_65 rfl (lv_at hl 0 rfl) (hp_n (n := 66) rfl ?_)
              refine lv_aload_n hx hb dX3_readRow_66 rfl (lv_at hl 0 rfl) (hp_n (n := 67) rfl ?_)
              refine q_getr (κ := 4) (k := 1) (φ := 201) (pc' := 70) C Bh7 (cw_k Bh7.2.2 k0) fl_X3_21 rfl rfl rfl (cw_r Bh7.2.2 k0 rfl rfl (by decide) (by decide)) dX3_readRow_67 rfl (fun b23 eb23 kb23 => ?_)
              replace hf := ms_lE eb23 hf
              refine q_geti (κ := 6) (k := 1) (φ := 301) (pc' := 73) C Bh7 (cw_k Bh7.2.2 kb23) fl_X3_131 rfl rfl rfl dX3_readRow_70 rfl (fun x24 ex24 => ?_)
              replace hf := ms_lE ex24 hf
              refine lv_bipush (v := 64) hx hb dX3_readRow_73 (by decide) (hp_n (n := 75) rfl ?_)
              obtain ⟨rh25, αh25, qh25, hf⟩ := hq_cE hf
              refine d_ci (pc' := 78) Bh7 (hp_runV (As := [.int x24, .int (64 : Int32)]) (rest := []) C Bh7 (n_X3_hasRoom n Γ l αh7 Bh7.2.2.1 a0 (cw_k Bh7.2.2 k0) x24 (64 : Int32) (rh25, αh25) qh25) lb_X3_hasRoom lv_X3_hasRoom lk_X3_99 (cw_k Bh7.2.2 k0) rfl (by decide) rfl hl.1 rfl (Nat.le_of_ble_eq_true rfl) dX3_readRow_75 ⟨Nat.le_refl _, Nat.le_refl _⟩) (by decide) rfl (fun Hh25 Lh25 Bh25 => ?_)
              refine lv_if_ne (tgt := 83) hx hb dX3_readRow_78 (by decide) (fun c26 => ?_) (fun c26 => hp_n (n := 81) rfl ?_)
              ·
                replace hf := ms_iF c26 hf
                refine lv_aload_n hx hb dX3_readRow_83 rfl (lv_at hl 0 rfl) (hp_n (n := 84) rfl ?_)
                refine q_getr (κ := 4) (k := 1) (φ := 201) (pc' := 87) C Bh25 (cw_k Bh25.2.2 k0) fl_X3_21 rfl rfl rfl (cw_r Bh25.2.2 k0 rfl rfl (by decide) (by decide)) dX3_readRow_84 rfl (fun b27 eb27 kb27 => ?_)
                replace hf := ms_lE eb27 hf
                refine lv_aload_n hx hb dX3_readRow_87 rfl (lv_at hl 0 rfl) (hp_n (n := 88) rfl ?_)
                refine q_getr (κ := 4) (k := 0) (φ := 200) (pc' := 91) C Bh25 (cw_k Bh25.2.2 k0) fl_X3_12 rfl rfl rfl (cw_r Bh25.2.2 k0 rfl rfl (by decide) (by decide)) dX3_readRow_88 rfl (fun b28 eb28 kb28 => ?_)
                replace hf := ms_lE eb28 hf
                refine q_geti (κ := 7) (k := 6) (φ := 356) (pc' := 94) C Bh25 (cw_k Bh25.2.2 kb28) fl_X3_188 rfl rfl rfl dX3_readRow_91 rfl (fun x29 ex29 => ?_)
                replace hf := ms_lE ex29 hf
                obtain ⟨αh30, qh30, hf⟩ := ms_bE hf
                refine d_cv (pc' := 97) Bh25 (hp_runV (As := [.int x29]) (rest := []) C Bh25 (n_X5_put n Γ l αh25 Bh25.2.2.1 b27 (cw_k Bh25.2.2 kb27) x29 αh30 qh30) lb_X5_put lv_X5_put lk_X3_179 (cw_k Bh25.2.2 kb27) rfl (by decide) rfl hl.1 rfl (Nat.le_of_ble_eq_true rfl) dX3_readRow_94 ⟨Nat.le_refl _, Nat.le_refl _⟩) (by decide) rfl (fun Hh30 Lh30 Bh30 => ?_)
                refine lv_aload_n hx hb dX3_readRow_97 rfl (lv_at hl 0 rfl) (hp_n (n := 98) rfl ?_)
                refine q_getr (κ := 4) (k := 0) (φ := 200) (pc' := 101) C Bh30 (cw_k Bh30.2.2 k0) fl_X3_12 rfl rfl rfl (cw_r Bh30.2.2 k0 rfl rfl (by decide) (by decide)) dX3_readRow_98 rfl (fun b31 eb31 kb31 => ?_)
                replace hf := ms_lE eb31 hf
                obtain ⟨αh32, qh32, hf⟩ := ms_bE hf
                refine d_cv (pc' := 104) Bh30 (hp_runV (As := []) (rest := []) C Bh30 (n_X6_advance n Γ l αh30 Bh30.2.2.1 b31 (cw_k Bh30.2.2 kb31) αh32 qh32) lb_X6_advance lv_X6_advance lk_X3_63 (cw_k Bh30.2.2 kb31) rfl (by decide) rfl hl.1 rfl (Nat.le_of_ble_eq_true rfl) dX3_readRow_101 ⟨Nat.le_refl _, Nat.le_refl _⟩) (by decide) rfl (fun Hh32 Lh32 Bh32 => ?_)
                obtain ⟨x33, ex33⟩ : ∃ y : Int32, y = v1_h7 + 1 := ⟨_, rfl⟩
                replace hf := ms_lE ex33 hf
                refine lv_iinc (v := x33) (lv' := [(1, .int x33), (0, .ref a0)]) hx hb dX3_readRow_104 hl (k := 1) rfl (by rw [ex33]; rfl) (by decide) rfl (fun ls hl => hp_n (n := 107) rfl ?_)
                refine lv_goto (tgt := 28) hx hb dX3_readRow_107 (by decide) ?_
                exact ih28 αh32 Hh32 Lh32 Bh32 x33 ls (lv_sub hl [1, 0] rfl) hf
              ·
                replace hf := ms_iT c26 hf
                refine lv_iconst (v := 0) hx hb dX3_readRow_81 (by decide) (hp_n (n := 82) rfl ?_)
                cases hf
                exact q_zret C Bh25 hr hlk (by decide) ⟨rfl, rfl, Bh25.2.2⟩ dX3_readRow_82
            ·
              replace hf := ms_iF c22 hf
              refine lv_aload_n hx hb dX3_readRow_59 rfl (lv_at hl 0 rfl) (hp_n (n := 60) rfl ?_)
              refine lv_iconst (v := 3) hx hb dX3_readRow_60 (by decide) (hp_n (n := 61) rfl ?_)
              obtain ⟨rh34, αh34, qh34, hf⟩ := hq_cE hf
              refine d_ci (pc' := 64) Bh7 (hp_runV (As := [.int (3 : Int32)]) (rest := []) C Bh7 (n_X3_fail n Γ l αh7 Bh7.2.2.1 a0 (cw_k Bh7.2.2 k0) (3 : Int32) (rh34, αh34) qh34) lb_X3_fail lv_X3_fail lk_X3_145 (cw_k Bh7.2.2 k0) rfl (by decide) rfl hl.1 rfl (Nat.le_of_ble_eq_true rfl) dX3_readRow_61 ⟨Nat.le_refl _, Nat.le_refl _⟩) (by decide) rfl (fun Hh34 Lh34 Bh34 => ?_)
              obtain ⟨g35, hf⟩ := ms_zE hf
              cases hf
              exact q_zret C Bh34 hr hlk (nz_z g35) ⟨rfl, rfl, Bh34.2.2⟩ dX3_readRow_64
    refine lv_istore_n (lv' := [(1, .int (0 : Int32)), (0, .ref a0)]) hx hb dX3_readRow_27 rfl hl (by decide) rfl (fun ls hl => hp_n (n := 28) rfl ?_)
    exact J28 n αh6 Hh6 Lh6 Bh6 (0 : Int32) ls (lv_sub hl [1, 0] rfl) hf
  ·
    replace hf := ms_iT c2 hf
    refine lv_iconst (v := 0) hx hb dX3_readRow_9 (by decide) (hp_n (n := 10) rfl ?_)
    cases hf
    exact q_zret C Bh1 hr hlk (by decide) ⟨rfl, rfl, Bh1.2.2⟩ dX3_readRow_10
def f_X3_readInclusion (n : Nat) (α : hp_T) (a0 : Nat) (a1 : Nat) : Option (Int32 × hp_T) :=
  hq_c (f_X3_readNumber n α a0 (0 : Int32) (2147483647 : Int32)) fun rh1 αh1 =>
  if rh1 = 0 then
    some ((0 : Int32), αh1)
  else
    ms_l (hp_I αh1 209 a0) fun x3 =>
    hq_c (f_X3_readWord n αh1 a0 18) fun rh4 αh4 =>
    if rh4 = 0 then
      some ((0 : Int32), αh4)
    else
      hq_c (f_X3_readNumber n αh4 a0 (x3 + (1 : Int32)) (2147483647 : Int32)) fun rh6 αh6 =>
      if rh6 = 0 then
        some ((0 : Int32), αh6)
      else
        ms_l (hp_I αh6 209 a0) fun x8 =>
        hq_c (f_X3_readMark n αh6 a0 16) fun rh9 αh9 =>
        if rh9 = 0 then
          some ((0 : Int32), αh9)
        else
          ms_l (hp_I αh9 209 a0) fun x11 =>
          hq_c (f_X3_readMark n αh9 a0 13) fun rh12 αh12 =>
          if rh12 = 0 then
            some ((0 : Int32), αh12)
          else
            hq_c (f_X3_readRow n αh12 a0) fun rh14 αh14 =>
            if rh14 = 0 then
              some ((0 : Int32), αh14)
            else
              ms_l (hp_R αh14 202 a0) fun b16 =>
              ms_b (f_X8_toThing n αh14 b16 x3 x8) fun αh17 =>
              ms_l (hp_R αh17 202 a0) fun b18 =>
              ms_l (hp_I αh17 203 a0) fun x19 =>
              ms_l (hp_R αh17 201 a0) fun b20 =>
              ms_l (hp_I αh17 209 a0) fun x21 =>
              ms_b (f_X8_whyInclusion n αh17 b18 x19 b20 x11 x21) fun rh22 =>
              ms_b (f_X5_put n αh17 a1 rh22) fun αh23 =>
              some ((1 : Int32), αh23)
set_option maxRecDepth 100000 in
set_option maxHeartbeats 4000000 in
theorem n_X3_readInclusion (n : Nat) (Γ : hp_G) (l : Launch) (α : hp_T) (g : GC α) (a0 : Nat) (k0 : hp_K α a0 = 4) (a1 : Nat) (k1 : hp_K α a1 = 6) (res : (Int32 × hp_T)) (hf : f_X3_readInclusion n α a0 a1 = some res) : Met l yX3_readInclusion (hp_ws yX3_readInclusion cX3_readInclusion 5 (some .boolean)) (hp_rm 7 0 0) (hp_Pc Γ α [.ref a0, .ref a1]) (hp_Qi Γ (fun r β => r = res.1 ∧ β = res.2 ∧ cw w_X3_readInclusion α β)) 0 0 (hp_A Γ) := by
  unfold f_X3_readInclusion at hf
  refine hp_start (by decide) ?_
  intro p e s m below meth c C hr hlk B0 hnm
  have C : hp_C Γ p m c cX3_readInclusion 5 s ([.ref a0, .ref a1] : List Value).toArray RX3 := C
  have hx := C.1.1
  have hb := C.1.2.1
  have hown := C.1.2.2.2.1
  have hts := C.1.2.2.2.2
  have B : hp_B Γ (cw w_X3_readInclusion) s α α s.heap [] := ⟨B0.1, B0.2.1, cw_rf g⟩
  have hl := lv_entry ([.ref a0, .ref a1]) (n := 5) (Nat.le_of_ble_eq_true rfl)
  show W p l e (hp_rm 7 0 0) s m ([.ref a0, .ref a1] : List Value).toArray below meth c s.heap [] 0 0 (MQ below (hp_Qi Γ (fun r β => r = res.1 ∧ β = res.2 ∧ cw w_X3_readInclusion α β)) ([.ref a0, .ref a1] : List Value).toArray s 0 0 (hp_A Γ)) (entryFrame m ([.ref a0, .ref a1] : List Value).toArray 5)
  rw [lg_entry_eq]
  generalize (lg_sl ([.ref a0, .ref a1]) ++ List.replicate (5 - (lg_sl ([.ref a0, .ref a1])).length) Slot.unset).toArray = ls at hl ⊢
  have hl : lv_has ls 5 [(0, .ref a0), (1, .ref a1)] := hl
  refine lv_aload_n hx hb dX3_readInclusion_0 rfl (lv_at hl 0 rfl) (hp_n (n := 1) rfl ?_)
  refine lv_iconst (v := 0) hx hb dX3_readInclusion_1 (by decide) (hp_n (n := 2) rfl ?_)
  refine lv_ldc hx hb hown (hts _ kc_X3_155) dX3_readInclusion_2 (hp_n (n := 4) rfl ?_)
  obtain ⟨rh1, αh1, qh1, hf⟩ := hq_cE hf
  refine d_ci (pc' := 7) B (hp_runV (As := [.int (0 : Int32), .int (2147483647 : Int32)]) (rest := []) C B (n_X3_readNumber n Γ l α B.2.2.1 a0 (cw_k B.2.2 k0) (0 : Int32) (2147483647 : Int32) (rh1, αh1) qh1) lb_X3_readNumber lv_X3_readNumber lk_X3_75 (cw_k B.2.2 k0) rfl (by decide) rfl hl.1 rfl (Nat.le_of_ble_eq_true rfl) dX3_readInclusion_4 ⟨Nat.le_refl _, Nat.le_refl _⟩) (by decide) rfl (fun Hh1 Lh1 Bh1 => ?_)
  refine lv_if_ne (tgt := 12) hx hb dX3_readInclusion_7 (by decide) (fun c2 => ?_) (fun c2 => hp_n (n := 10) rfl ?_)
  ·
    replace hf := ms_iF c2 hf
    refine lv_aload_n hx hb dX3_readInclusion_12 rfl (lv_at hl 0 rfl) (hp_n (n := 13) rfl ?_)
    refine q_geti (κ := 4) (k := 9) (φ := 209) (pc' := 16) C Bh1 (cw_k Bh1.2.2 k0) fl_X3_56 rfl rfl rfl dX3_readInclusion_13 rfl (fun x3 ex3 => ?_)
    replace hf := ms_lE ex3 hf
    refine lv_istore_n (lv' := [(2, .int x3), (0, .ref a0), (1, .ref a1)]) hx hb dX3_readInclusion_16 rfl hl (by decide) rfl (fun ls hl => hp_n (n := 17) rfl ?_)
    refine lv_aload_n hx hb dX3_readInclusion_17 rfl (lv_at hl 1 rfl) (hp_n (n := 18) rfl ?_)
    refine va_ldcS hx hb hown (sr_X3_156 C.2) dX3_readInclusion_18 (hp_n (n := 20) rfl ?_)
    obtain ⟨rh4, αh4, qh4, hf⟩ := hq_cE hf
    refine d_ci (pc' := 23) Bh1 (hp_runV (As := [.ref (Γ.2.2.2.2.1 18)]) (rest := []) C Bh1 (n_X3_readWord n Γ l αh1 Bh1.2.2.1 a0 (cw_k Bh1.2.2 k0) 18 (by decide) (rh4, αh4) qh4) lb_X3_readWord lv_X3_readWord lk_X3_158 (cw_k Bh1.2.2 k0) rfl (by decide) rfl hl.1 rfl (Nat.le_of_ble_eq_true rfl) dX3_readInclusion_20 ⟨Nat.le_refl _, Nat.le_refl _⟩) (by decide) rfl (fun Hh4 Lh4 Bh4 => ?_)
    refine lv_if_eq (tgt := 38) hx hb dX3_readInclusion_23 (by decide) (fun c5 => ?_) (fun c5 => hp_n (n := 26) rfl ?_)
    ·
      replace hf := ms_iT c5 hf
      refine lv_iconst (v := 0) hx hb dX3_readInclusion_38 (by decide) (hp_n (n := 39) rfl ?_)
      cases hf
      exact q_zret C Bh4 hr hlk (by decide) ⟨rfl, rfl, Bh4.2.2⟩ dX3_readInclusion_39
    ·
      replace hf := ms_iF c5 hf
      refine lv_aload_n hx hb dX3_readInclusion_26 rfl (lv_at hl 1 rfl) (hp_n (n := 27) rfl ?_)
      refine lv_iload_n hx hb dX3_readInclusion_27 rfl (lv_at hl 0 rfl) (hp_n (n := 28) rfl ?_)
      refine lv_iconst (v := 1) hx hb dX3_readInclusion_28 (by decide) (hp_n (n := 29) rfl ?_)
      refine lv_iadd hx hb dX3_readInclusion_29 (hp_n (n := 30) rfl ?_)
      refine lv_ldc hx hb hown (hts _ kc_X3_155) dX3_readInclusion_30 (hp_n (n := 32) rfl ?_)
      obtain ⟨rh6, αh6, qh6, hf⟩ := hq_cE hf
      refine d_ci (pc' := 35) Bh4 (hp_runV (As := [.int (x3 + (1 : Int32)), .int (2147483647 : Int32)]) (rest := []) C Bh4 (n_X3_readNumber n Γ l αh4 Bh4.2.2.1 a0 (cw_k Bh4.2.2 k0) (x3 + (1 : Int32)) (2147483647 : Int32) (rh6, αh6) qh6) lb_X3_readNumber lv_X3_readNumber lk_X3_75 (cw_k Bh4.2.2 k0) rfl (by decide) rfl hl.1 rfl (Nat.le_of_ble_eq_true rfl) dX3_readInclusion_32 ⟨Nat.le_refl _, Nat.le_refl _⟩) (by decide) rfl (fun Hh6 Lh6 Bh6 => ?_)
      refine lv_if_ne (tgt := 40) hx hb dX3_readInclusion_35 (by decide) (fun c7 => ?_) (fun c7 => hp_n (n := 38) rfl ?_)
      ·
        replace hf := ms_iF c7 hf
        refine lv_aload_n hx hb dX3_readInclusion_40 rfl (lv_at hl 1 rfl) (hp_n (n := 41) rfl ?_)
        refine q_geti (κ := 4) (k := 9) (φ := 209) (pc' := 44) C Bh6 (cw_k Bh6.2.2 k0) fl_X3_56 rfl rfl rfl dX3_readInclusion_41 rfl (fun x8 ex8 => ?_)
        replace hf := ms_lE ex8 hf
        refine lv_istore_n (lv' := [(3, .int x8), (2, .int x3), (0, .ref a0), (1, .ref a1)]) hx hb dX3_readInclusion_44 rfl hl (by decide) rfl (fun ls hl => hp_n (n := 45) rfl ?_)
        refine lv_aload_n hx hb dX3_readInclusion_45 rfl (lv_at hl 2 rfl) (hp_n (n := 46) rfl ?_)
        refine va_ldcS hx hb hown (sr_X3_161 C.2) dX3_readInclusion_46 (hp_n (n := 48) rfl ?_)
        obtain ⟨rh9, αh9, qh9, hf⟩ := hq_cE hf
        refine d_ci (pc' := 51) Bh6 (hp_runV (As := [.ref (Γ.2.2.2.2.1 16)]) (rest := []) C Bh6 (n_X3_readMark n Γ l αh6 Bh6.2.2.1 a0 (cw_k Bh6.2.2 k0) 16 (by decide) (rh9, αh9) qh9) lb_X3_readMark lv_X3_readMark lk_X3_163 (cw_k Bh6.2.2 k0) rfl (by decide) rfl hl.1 rfl (Nat.le_of_ble_eq_true rfl) dX3_readInclusion_48 ⟨Nat.le_refl _, Nat.le_refl _⟩) (by decide) rfl (fun Hh9 Lh9 Bh9 => ?_)
        refine lv_if_ne (tgt := 56) hx hb dX3_readInclusion_51 (by decide) (fun c10 => ?_) (fun c10 => hp_n (n := 54) rfl ?_)
        ·
          replace hf := ms_iF c10 hf
          refine lv_aload_n hx hb dX3_readInclusion_56 rfl (lv_at hl 2 rfl) (hp_n (n := 57) rfl ?_)
          refine q_geti (κ := 4) (k := 9) (φ := 209) (pc' := 60) C Bh9 (cw_k Bh9.2.2 k0) fl_X3_56 rfl rfl rfl dX3_readInclusion_57 rfl (fun x11 ex11 => ?_)
          replace hf := ms_lE ex11 hf
          refine lv_istore (lv' := [(4, .int x11), (3, .int x8), (2, .int x3), (0, .ref a0), (1, .ref a1)]) hx hb dX3_readInclusion_60 hl (by decide) rfl (fun ls hl => hp_n (n := 62) rfl ?_)
          refine lv_aload_n hx hb dX3_readInclusion_62 rfl (lv_at hl 3 rfl) (hp_n (n := 63) rfl ?_)
          refine va_ldcS hx hb hown (sr_X3_166 C.2) dX3_readInclusion_63 (hp_n (n := 65) rfl ?_)
          obtain ⟨rh12, αh12, qh12, hf⟩ := hq_cE hf
          refine d_ci (pc' := 68) Bh9 (hp_runV (As := [.ref (Γ.2.2.2.2.1 13)]) (rest := []) C Bh9 (n_X3_readMark n Γ l αh9 Bh9.2.2.1 a0 (cw_k Bh9.2.2 k0) 13 (by decide) (rh12, αh12) qh12) lb_X3_readMark lv_X3_readMark lk_X3_163 (cw_k Bh9.2.2 k0) rfl (by decide) rfl hl.1 rfl (Nat.le_of_ble_eq_true rfl) dX3_readInclusion_65 ⟨Nat.le_refl _, Nat.le_refl _⟩) (by decide) rfl (fun Hh12 Lh12 Bh12 => ?_)
          refine lv_if_eq (tgt := 78) hx hb dX3_readInclusion_68 (by decide) (fun c13 => ?_) (fun c13 => hp_n (n := 71) rfl ?_)
          ·
            replace hf := ms_iT c13 hf
            refine lv_iconst (v := 0) hx hb dX3_readInclusion_78 (by decide) (hp_n (n := 79) rfl ?_)
            cases hf
            exact q_zret C Bh12 hr hlk (by decide) ⟨rfl, rfl, Bh12.2.2⟩ dX3_readInclusion_79
          ·
            replace hf := ms_iF c13 hf
            refine lv_aload_n hx hb dX3_readInclusion_71 rfl (lv_at hl 3 rfl) (hp_n (n := 72) rfl ?_)
            obtain ⟨rh14, αh14, qh14, hf⟩ := hq_cE hf
            refine d_ci (pc' := 75) Bh12 (hp_runV (As := []) (rest := []) C Bh12 (n_X3_readRow n Γ l αh12 Bh12.2.2.1 a0 (cw_k Bh12.2.2 k0) (rh14, αh14) qh14) lb_X3_readRow lv_X3_readRow lk_X3_168 (cw_k Bh12.2.2 k0) rfl (by decide) rfl hl.1 rfl (Nat.le_of_ble_eq_true rfl) dX3_readInclusion_72 ⟨Nat.le_refl _, Nat.le_refl _⟩) (by decide) rfl (fun Hh14 Lh14 Bh14 => ?_)
            refine lv_if_ne (tgt := 80) hx hb dX3_readInclusion_75 (by decide) (fun c15 => ?_) (fun c15 => hp_n (n := 78) rfl ?_)
            ·
              replace hf := ms_iF c15 hf
              refine lv_aload_n hx hb dX3_readInclusion_80 rfl (lv_at hl 3 rfl) (hp_n (n := 81) rfl ?_)
              refine q_getr (κ := 4) (k := 2) (φ := 202) (pc' := 84) C Bh14 (cw_k Bh14.2.2 k0) fl_X3_28 rfl rfl rfl (cw_r Bh14.2.2 k0 rfl rfl (by decide) (by decide)) dX3_readInclusion_81 rfl (fun b16 eb16 kb16 => ?_)
              replace hf := ms_lE eb16 hf
              refine lv_iload_n hx hb dX3_readInclusion_84 rfl (lv_at hl 2 rfl) (hp_n (n := 85) rfl ?_)
              refine lv_iload_n hx hb dX3_readInclusion_85 rfl (lv_at hl 1 rfl) (hp_n (n := 86) rfl ?_)
              obtain ⟨αh17, qh17, hf⟩ := ms_bE hf
              refine d_cv (pc' := 89) Bh14 (hp_runV (As := [.int x3, .int x8]) (rest := []) C Bh14 (n_X8_toThing n Γ l αh14 Bh14.2.2.1 b16 (cw_k Bh14.2.2 kb16) x3 x8 αh17 qh17) lb_X8_toThing lv_X8_toThing lk_X3_171 (cw_k Bh14.2.2 kb16) rfl (by decide) rfl hl.1 rfl (Nat.le_of_ble_eq_true rfl) dX3_readInclusion_86 ⟨Nat.le_refl _, Nat.le_refl _⟩) (by decide) rfl (fun Hh17 Lh17 Bh17 => ?_)
              refine lv_aload_n hx hb dX3_readInclusion_89 rfl (lv_at hl 4 rfl) (hp_n (n := 90) rfl ?_)
              refine lv_aload_n hx hb dX3_readInclusion_90 rfl (lv_at hl 3 rfl) (hp_n (n := 91) rfl ?_)
              refine q_getr (κ := 4) (k := 2) (φ := 202) (pc' := 94) C Bh17 (cw_k Bh17.2.2 k0) fl_X3_28 rfl rfl rfl (cw_r Bh17.2.2 k0 rfl rfl (by decide) (by decide)) dX3_readInclusion_91 rfl (fun b18 eb18 kb18 => ?_)
              replace hf := ms_lE eb18 hf
              refine lv_aload_n hx hb dX3_readInclusion_94 rfl (lv_at hl 3 rfl) (hp_n (n := 95) rfl ?_)
              refine q_geti (κ := 4) (k := 3) (φ := 203) (pc' := 98) C Bh17 (cw_k Bh17.2.2 k0) fl_X3_33 rfl rfl rfl dX3_readInclusion_95 rfl (fun x19 ex19 => ?_)
              replace hf := ms_lE ex19 hf
              refine lv_aload_n hx hb dX3_readInclusion_98 rfl (lv_at hl 3 rfl) (hp_n (n := 99) rfl ?_)
              refine q_getr (κ := 4) (k := 1) (φ := 201) (pc' := 102) C Bh17 (cw_k Bh17.2.2 k0) fl_X3_21 rfl rfl rfl (cw_r Bh17.2.2 k0 rfl rfl (by decide) (by decide)) dX3_readInclusion_99 rfl (fun b20 eb20 kb20 => ?_)
              replace hf := ms_lE eb20 hf
              refine lv_iload hx hb dX3_readInclusion_102 (lv_at hl 0 rfl) (hp_n (n := 104) rfl ?_)
              refine lv_aload_n hx hb dX3_readInclusion_104 rfl (lv_at hl 3 rfl) (hp_n (n := 105) rfl ?_)
              refine q_geti (κ := 4) (k := 9) (φ := 209) (pc' := 108) C Bh17 (cw_k Bh17.2.2 k0) fl_X3_56 rfl rfl rfl dX3_readInclusion_105 rfl (fun x21 ex21 => ?_)
              replace hf := ms_lE ex21 hf
              obtain ⟨rh22, qh22, hf⟩ := ms_bE hf
              refine d_pi (pc' := 111) Bh17 (hp_runV (As := [.int x19, .ref b20, .int x11, .int x21]) (rest := [.ref a1]) C Bh17 (n_X8_whyInclusion n Γ l αh17 Bh17.2.2.1 b18 (cw_k Bh17.2.2 kb18) x19 b20 (cw_k Bh17.2.2 kb20) x11 x21 rh22 qh22) lb_X8_whyInclusion lv_X8_whyInclusion lk_X3_175 (cw_k Bh17.2.2 kb18) rfl (by decide) rfl hl.1 rfl (Nat.le_of_ble_eq_true rfl) dX3_readInclusion_108 ⟨Nat.le_refl _, Nat.le_refl _⟩) rfl (fun Hh22 Lh22 Bh22 => ?_)
              obtain ⟨αh23, qh23, hf⟩ := ms_bE hf
              refine d_cv (pc' := 114) Bh22 (hp_runV (As := [.int rh22]) (rest := []) C Bh22 (n_X5_put n Γ l αh17 Bh22.2.2.1 a1 (cw_k Bh22.2.2 k1) rh22 αh23 qh23) lb_X5_put lv_X5_put lk_X3_179 (cw_k Bh22.2.2 k1) rfl (by decide) rfl hl.1 rfl (Nat.le_of_ble_eq_true rfl) dX3_readInclusion_111 ⟨Nat.le_refl _, Nat.le_refl _⟩) (by decide) rfl (fun Hh23 Lh23 Bh23 => ?_)
              refine lv_iconst (v := 1) hx hb dX3_readInclusion_114 (by decide) (hp_n (n := 115) rfl ?_)
              cases hf
              exact q_zret C Bh23 hr hlk (by decide) ⟨rfl, rfl, Bh23.2.2⟩ dX3_readInclusion_115
            ·
              replace hf := ms_iT c15 hf
              refine lv_iconst (v := 0) hx hb dX3_readInclusion_78 (by decide) (hp_n (n := 79) rfl ?_)
              cases hf
              exact q_zret C Bh14 hr hlk (by decide) ⟨rfl, rfl, Bh14.2.2⟩ dX3_readInclusion_79
        ·
          replace hf := ms_iT c10 hf
          refine lv_iconst (v := 0) hx hb dX3_readInclusion_54 (by decide) (hp_n (n := 55) rfl ?_)
          cases hf
          exact q_zret C Bh9 hr hlk (by decide) ⟨rfl, rfl, Bh9.2.2⟩ dX3_readInclusion_55
      ·
        replace hf := ms_iT c7 hf
        refine lv_iconst (v := 0) hx hb dX3_readInclusion_38 (by decide) (hp_n (n := 39) rfl ?_)
        cases hf
        exact q_zret C Bh6 hr hlk (by decide) ⟨rfl, rfl, Bh6.2.2⟩ dX3_readInclusion_39
  ·
    replace hf := ms_iT c2 hf
    refine lv_iconst (v := 0) hx hb dX3_readInclusion_10 (by decide) (hp_n (n := 11) rfl ?_)
    cases hf
    exact q_zret C Bh1 hr hlk (by decide) ⟨rfl, rfl, Bh1.2.2⟩ dX3_readInclusion_11
def f_X3_readGrowth (n : Nat) (α : hp_T) (a0 : Nat) (a1 : Nat) : Option (Int32 × hp_T) :=
  hq_c (f_X3_readNumber n α a0 (0 : Int32) (2147483647 : Int32)) fun rh1 αh1 =>
  if rh1 = 0 then
    some ((0 : Int32), αh1)
  else
    ms_l (hp_I αh1 209 a0) fun x3 =>
    hq_c (f_X3_readMark n αh1 a0 16) fun rh4 αh4 =>
    if rh4 = 0 then
      some ((0 : Int32), αh4)
    else
      ms_l (hp_I αh4 209 a0) fun x6 =>
      hq_c (f_X3_readWord n αh4 a0 20) fun rh7 αh7 =>
      if rh7 = 0 then
        some ((0 : Int32), αh7)
      else
        hq_c (f_X3_readNumber n αh7 a0 x3 (2147483647 : Int32)) fun rh9 αh9 =>
        if rh9 = 0 then
          some ((0 : Int32), αh9)
        else
          ms_l (hp_I αh9 209 a0) fun x11 =>
          hq_c (f_X3_readMark n αh9 a0 13) fun rh12 αh12 =>
          if rh12 = 0 then
            some ((0 : Int32), αh12)
          else
            hq_c (f_X3_readRow n αh12 a0) fun rh14 αh14 =>
            if rh14 = 0 then
              some ((0 : Int32), αh14)
            else
              ms_l (hp_R αh14 202 a0) fun b16 =>
              ms_l (hp_I αh14 203 a0) fun x17 =>
              ms_l (hp_R αh14 201 a0) fun b18 =>
              ms_l (hp_I αh14 209 a0) fun x19 =>
              hq_c (f_X8_whyGrowth n αh14 b16 x17 b18 x3 x6 x11 x19) fun rh20 αh20 =>
              ms_b (f_X5_put n αh20 a1 rh20) fun αh21 =>
              some ((1 : Int32), αh21)
set_option maxRecDepth 100000 in
set_option maxHeartbeats 4000000 in
theorem n_X3_readGrowth (n : Nat) (Γ : hp_G) (l : Launch) (α : hp_T) (g : GC α) (a0 : Nat) (k0 : hp_K α a0 = 4) (a1 : Nat) (k1 : hp_K α a1 = 6) (res : (Int32 × hp_T)) (hf : f_X3_readGrowth n α a0 a1 = some res) : Met l yX3_readGrowth (hp_ws yX3_readGrowth cX3_readGrowth 5 (some .boolean)) (hp_rm 7 0 0) (hp_Pc Γ α [.ref a0, .ref a1]) (hp_Qi Γ (fun r β => r = res.1 ∧ β = res.2 ∧ cw w_X3_readGrowth α β)) 0 0 (hp_A Γ) := by
  unfold f_X3_readGrowth at hf
  refine hp_start (by decide) ?_
  intro p e s m below meth c C hr hlk B0 hnm
  have C : hp_C Γ p m c cX3_readGrowth 5 s ([.ref a0, .ref a1] : List Value).toArray RX3 := C
  have hx := C.1.1
  have hb := C.1.2.1
  have hown := C.1.2.2.2.1
  have hts := C.1.2.2.2.2
  have B : hp_B Γ (cw w_X3_readGrowth) s α α s.heap [] := ⟨B0.1, B0.2.1, cw_rf g⟩
  have hl := lv_entry ([.ref a0, .ref a1]) (n := 5) (Nat.le_of_ble_eq_true rfl)
  show W p l e (hp_rm 7 0 0) s m ([.ref a0, .ref a1] : List Value).toArray below meth c s.heap [] 0 0 (MQ below (hp_Qi Γ (fun r β => r = res.1 ∧ β = res.2 ∧ cw w_X3_readGrowth α β)) ([.ref a0, .ref a1] : List Value).toArray s 0 0 (hp_A Γ)) (entryFrame m ([.ref a0, .ref a1] : List Value).toArray 5)
  rw [lg_entry_eq]
  generalize (lg_sl ([.ref a0, .ref a1]) ++ List.replicate (5 - (lg_sl ([.ref a0, .ref a1])).length) Slot.unset).toArray = ls at hl ⊢
  have hl : lv_has ls 5 [(0, .ref a0), (1, .ref a1)] := hl
  refine lv_aload_n hx hb dX3_readGrowth_0 rfl (lv_at hl 0 rfl) (hp_n (n := 1) rfl ?_)
  refine lv_iconst (v := 0) hx hb dX3_readGrowth_1 (by decide) (hp_n (n := 2) rfl ?_)
  refine lv_ldc hx hb hown (hts _ kc_X3_155) dX3_readGrowth_2 (hp_n (n := 4) rfl ?_)
  obtain ⟨rh1, αh1, qh1, hf⟩ := hq_cE hf
  refine d_ci (pc' := 7) B (hp_runV (As := [.int (0 : Int32), .int (2147483647 : Int32)]) (rest := []) C B (n_X3_readNumber n Γ l α B.2.2.1 a0 (cw_k B.2.2 k0) (0 : Int32) (2147483647 : Int32) (rh1, αh1) qh1) lb_X3_readNumber lv_X3_readNumber lk_X3_75 (cw_k B.2.2 k0) rfl (by decide) rfl hl.1 rfl (Nat.le_of_ble_eq_true rfl) dX3_readGrowth_4 ⟨Nat.le_refl _, Nat.le_refl _⟩) (by decide) rfl (fun Hh1 Lh1 Bh1 => ?_)
  refine lv_if_ne (tgt := 12) hx hb dX3_readGrowth_7 (by decide) (fun c2 => ?_) (fun c2 => hp_n (n := 10) rfl ?_)
  ·
    replace hf := ms_iF c2 hf
    refine lv_aload_n hx hb dX3_readGrowth_12 rfl (lv_at hl 0 rfl) (hp_n (n := 13) rfl ?_)
    refine q_geti (κ := 4) (k := 9) (φ := 209) (pc' := 16) C Bh1 (cw_k Bh1.2.2 k0) fl_X3_56 rfl rfl rfl dX3_readGrowth_13 rfl (fun x3 ex3 => ?_)
    replace hf := ms_lE ex3 hf
    refine lv_istore_n (lv' := [(2, .int x3), (0, .ref a0), (1, .ref a1)]) hx hb dX3_readGrowth_16 rfl hl (by decide) rfl (fun ls hl => hp_n (n := 17) rfl ?_)
    refine lv_aload_n hx hb dX3_readGrowth_17 rfl (lv_at hl 1 rfl) (hp_n (n := 18) rfl ?_)
    refine va_ldcS hx hb hown (sr_X3_161 C.2) dX3_readGrowth_18 (hp_n (n := 20) rfl ?_)
    obtain ⟨rh4, αh4, qh4, hf⟩ := hq_cE hf
    refine d_ci (pc' := 23) Bh1 (hp_runV (As := [.ref (Γ.2.2.2.2.1 16)]) (rest := []) C Bh1 (n_X3_readMark n Γ l αh1 Bh1.2.2.1 a0 (cw_k Bh1.2.2 k0) 16 (by decide) (rh4, αh4) qh4) lb_X3_readMark lv_X3_readMark lk_X3_163 (cw_k Bh1.2.2 k0) rfl (by decide) rfl hl.1 rfl (Nat.le_of_ble_eq_true rfl) dX3_readGrowth_20 ⟨Nat.le_refl _, Nat.le_refl _⟩) (by decide) rfl (fun Hh4 Lh4 Bh4 => ?_)
    refine lv_if_ne (tgt := 28) hx hb dX3_readGrowth_23 (by decide) (fun c5 => ?_) (fun c5 => hp_n (n := 26) rfl ?_)
    ·
      replace hf := ms_iF c5 hf
      refine lv_aload_n hx hb dX3_readGrowth_28 rfl (lv_at hl 1 rfl) (hp_n (n := 29) rfl ?_)
      refine q_geti (κ := 4) (k := 9) (φ := 209) (pc' := 32) C Bh4 (cw_k Bh4.2.2 k0) fl_X3_56 rfl rfl rfl dX3_readGrowth_29 rfl (fun x6 ex6 => ?_)
      replace hf := ms_lE ex6 hf
      refine lv_istore_n (lv' := [(3, .int x6), (2, .int x3), (0, .ref a0), (1, .ref a1)]) hx hb dX3_readGrowth_32 rfl hl (by decide) rfl (fun ls hl => hp_n (n := 33) rfl ?_)
      refine lv_aload_n hx hb dX3_readGrowth_33 rfl (lv_at hl 2 rfl) (hp_n (n := 34) rfl ?_)
      refine va_ldcS hx hb hown (sr_X3_92 C.2) dX3_readGrowth_34 (hp_n (n := 36) rfl ?_)
      obtain ⟨rh7, αh7, qh7, hf⟩ := hq_cE hf
      refine d_ci (pc' := 39) Bh4 (hp_runV (As := [.ref (Γ.2.2.2.2.1 20)]) (rest := []) C Bh4 (n_X3_readWord n Γ l αh4 Bh4.2.2.1 a0 (cw_k Bh4.2.2 k0) 20 (by decide) (rh7, αh7) qh7) lb_X3_readWord lv_X3_readWord lk_X3_158 (cw_k Bh4.2.2 k0) rfl (by decide) rfl hl.1 rfl (Nat.le_of_ble_eq_true rfl) dX3_readGrowth_36 ⟨Nat.le_refl _, Nat.le_refl _⟩) (by decide) rfl (fun Hh7 Lh7 Bh7 => ?_)
      refine lv_if_eq (tgt := 52) hx hb dX3_readGrowth_39 (by decide) (fun c8 => ?_) (fun c8 => hp_n (n := 42) rfl ?_)
      ·
        replace hf := ms_iT c8 hf
        refine lv_iconst (v := 0) hx hb dX3_readGrowth_52 (by decide) (hp_n (n := 53) rfl ?_)
        cases hf
        exact q_zret C Bh7 hr hlk (by decide) ⟨rfl, rfl, Bh7.2.2⟩ dX3_readGrowth_53
      ·
        replace hf := ms_iF c8 hf
        refine lv_aload_n hx hb dX3_readGrowth_42 rfl (lv_at hl 2 rfl) (hp_n (n := 43) rfl ?_)
        refine lv_iload_n hx hb dX3_readGrowth_43 rfl (lv_at hl 1 rfl) (hp_n (n := 44) rfl ?_)
        refine lv_ldc hx hb hown (hts _ kc_X3_155) dX3_readGrowth_44 (hp_n (n := 46) rfl ?_)
        obtain ⟨rh9, αh9, qh9, hf⟩ := hq_cE hf
        refine d_ci (pc' := 49) Bh7 (hp_runV (As := [.int x3, .int (2147483647 : Int32)]) (rest := []) C Bh7 (n_X3_readNumber n Γ l αh7 Bh7.2.2.1 a0 (cw_k Bh7.2.2 k0) x3 (2147483647 : Int32) (rh9, αh9) qh9) lb_X3_readNumber lv_X3_readNumber lk_X3_75 (cw_k Bh7.2.2 k0) rfl (by decide) rfl hl.1 rfl (Nat.le_of_ble_eq_true rfl) dX3_readGrowth_46 ⟨Nat.le_refl _, Nat.le_refl _⟩) (by decide) rfl (fun Hh9 Lh9 Bh9 => ?_)
        refine lv_if_ne (tgt := 54) hx hb dX3_readGrowth_49 (by decide) (fun c10 => ?_) (fun c10 => hp_n (n := 52) rfl ?_)
        ·
          replace hf := ms_iF c10 hf
          refine lv_aload_n hx hb dX3_readGrowth_54 rfl (lv_at hl 2 rfl) (hp_n (n := 55) rfl ?_)
          refine q_geti (κ := 4) (k := 9) (φ := 209) (pc' := 58) C Bh9 (cw_k Bh9.2.2 k0) fl_X3_56 rfl rfl rfl dX3_readGrowth_55 rfl (fun x11 ex11 => ?_)
          replace hf := ms_lE ex11 hf
          refine lv_istore (lv' := [(4, .int x11), (3, .int x6), (2, .int x3), (0, .ref a0), (1, .ref a1)]) hx hb dX3_readGrowth_58 hl (by decide) rfl (fun ls hl => hp_n (n := 60) rfl ?_)
          refine lv_aload_n hx hb dX3_readGrowth_60 rfl (lv_at hl 3 rfl) (hp_n (n := 61) rfl ?_)
          refine va_ldcS hx hb hown (sr_X3_166 C.2) dX3_readGrowth_61 (hp_n (n := 63) rfl ?_)
          obtain ⟨rh12, αh12, qh12, hf⟩ := hq_cE hf
          refine d_ci (pc' := 66) Bh9 (hp_runV (As := [.ref (Γ.2.2.2.2.1 13)]) (rest := []) C Bh9 (n_X3_readMark n Γ l αh9 Bh9.2.2.1 a0 (cw_k Bh9.2.2 k0) 13 (by decide) (rh12, αh12) qh12) lb_X3_readMark lv_X3_readMark lk_X3_163 (cw_k Bh9.2.2 k0) rfl (by decide) rfl hl.1 rfl (Nat.le_of_ble_eq_true rfl) dX3_readGrowth_63 ⟨Nat.le_refl _, Nat.le_refl _⟩) (by decide) rfl (fun Hh12 Lh12 Bh12 => ?_)
          refine lv_if_eq (tgt := 76) hx hb dX3_readGrowth_66 (by decide) (fun c13 => ?_) (fun c13 => hp_n (n := 69) rfl ?_)
          ·
            replace hf := ms_iT c13 hf
            refine lv_iconst (v := 0) hx hb dX3_readGrowth_76 (by decide) (hp_n (n := 77) rfl ?_)
            cases hf
            exact q_zret C Bh12 hr hlk (by decide) ⟨rfl, rfl, Bh12.2.2⟩ dX3_readGrowth_77
          ·
            replace hf := ms_iF c13 hf
            refine lv_aload_n hx hb dX3_readGrowth_69 rfl (lv_at hl 3 rfl) (hp_n (n := 70) rfl ?_)
            obtain ⟨rh14, αh14, qh14, hf⟩ := hq_cE hf
            refine d_ci (pc' := 73) Bh12 (hp_runV (As := []) (rest := []) C Bh12 (n_X3_readRow n Γ l αh12 Bh12.2.2.1 a0 (cw_k Bh12.2.2 k0) (rh14, αh14) qh14) lb_X3_readRow lv_X3_readRow lk_X3_168 (cw_k Bh12.2.2 k0) rfl (by decide) rfl hl.1 rfl (Nat.le_of_ble_eq_true rfl) dX3_readGrowth_70 ⟨Nat.le_refl _, Nat.le_refl _⟩) (by decide) rfl (fun Hh14 Lh14 Bh14 => ?_)
            refine lv_if_ne (tgt := 78) hx hb dX3_readGrowth_73 (by decide) (fun c15 => ?_) (fun c15 => hp_n (n := 76) rfl ?_)
            ·
              replace hf := ms_iF c15 hf
              refine lv_aload_n hx hb dX3_readGrowth_78 rfl (lv_at hl 4 rfl) (hp_n (n := 79) rfl ?_)
              refine lv_aload_n hx hb dX3_readGrowth_79 rfl (lv_at hl 3 rfl) (hp_n (n := 80) rfl ?_)
              refine q_getr (κ := 4) (k := 2) (φ := 202) (pc' := 83) C Bh14 (cw_k Bh14.2.2 k0) fl_X3_28 rfl rfl rfl (cw_r Bh14.2.2 k0 rfl rfl (by decide) (by decide)) dX3_readGrowth_80 rfl (fun b16 eb16 kb16 => ?_)
              replace hf := ms_lE eb16 hf
              refine lv_aload_n hx hb dX3_readGrowth_83 rfl (lv_at hl 3 rfl) (hp_n (n := 84) rfl ?_)
              refine q_geti (κ := 4) (k := 3) (φ := 203) (pc' := 87) C Bh14 (cw_k Bh14.2.2 k0) fl_X3_33 rfl rfl rfl dX3_readGrowth_84 rfl (fun x17 ex17 => ?_)
              replace hf := ms_lE ex17 hf
              refine lv_aload_n hx hb dX3_readGrowth_87 rfl (lv_at hl 3 rfl) (hp_n (n := 88) rfl ?_)
              refine q_getr (κ := 4) (k := 1) (φ := 201) (pc' := 91) C Bh14 (cw_k Bh14.2.2 k0) fl_X3_21 rfl rfl rfl (cw_r Bh14.2.2 k0 rfl rfl (by decide) (by decide)) dX3_readGrowth_88 rfl (fun b18 eb18 kb18 => ?_)
              replace hf := ms_lE eb18 hf
              refine lv_iload_n hx hb dX3_readGrowth_91 rfl (lv_at hl 2 rfl) (hp_n (n := 92) rfl ?_)
              refine lv_iload_n hx hb dX3_readGrowth_92 rfl (lv_at hl 1 rfl) (hp_n (n := 93) rfl ?_)
              refine lv_iload hx hb dX3_readGrowth_93 (lv_at hl 0 rfl) (hp_n (n := 95) rfl ?_)
              refine lv_aload_n hx hb dX3_readGrowth_95 rfl (lv_at hl 3 rfl) (hp_n (n := 96) rfl ?_)
              refine q_geti (κ := 4) (k := 9) (φ := 209) (pc' := 99) C Bh14 (cw_k Bh14.2.2 k0) fl_X3_56 rfl rfl rfl dX3_readGrowth_96 rfl (fun x19 ex19 => ?_)
              replace hf := ms_lE ex19 hf
              obtain ⟨rh20, αh20, qh20, hf⟩ := hq_cE hf
              refine d_ci (pc' := 102) Bh14 (hp_runV (As := [.int x17, .ref b18, .int x3, .int x6, .int x11, .int x19]) (rest := [.ref a1]) C Bh14 (n_X8_whyGrowth n Γ l αh14 Bh14.2.2.1 b16 (cw_k Bh14.2.2 kb16) x17 b18 (cw_k Bh14.2.2 kb18) x3 x6 x11 x19 (rh20, αh20) qh20) lb_X8_whyGrowth lv_X8_whyGrowth lk_X3_182 (cw_k Bh14.2.2 kb16) rfl (by decide) rfl hl.1 rfl (Nat.le_of_ble_eq_true rfl) dX3_readGrowth_99 ⟨Nat.le_refl _, Nat.le_refl _⟩) (by decide) rfl (fun Hh20 Lh20 Bh20 => ?_)
              obtain ⟨αh21, qh21, hf⟩ := ms_bE hf
              refine d_cv (pc' := 105) Bh20 (hp_runV (As := [.int rh20]) (rest := []) C Bh20 (n_X5_put n Γ l αh20 Bh20.2.2.1 a1 (cw_k Bh20.2.2 k1) rh20 αh21 qh21) lb_X5_put lv_X5_put lk_X3_179 (cw_k Bh20.2.2 k1) rfl (by decide) rfl hl.1 rfl (Nat.le_of_ble_eq_true rfl) dX3_readGrowth_102 ⟨Nat.le_refl _, Nat.le_refl _⟩) (by decide) rfl (fun Hh21 Lh21 Bh21 => ?_)
              refine lv_iconst (v := 1) hx hb dX3_readGrowth_105 (by decide) (hp_n (n := 106) rfl ?_)
              cases hf
              exact q_zret C Bh21 hr hlk (by decide) ⟨rfl, rfl, Bh21.2.2⟩ dX3_readGrowth_106
            ·
              replace hf := ms_iT c15 hf
              refine lv_iconst (v := 0) hx hb dX3_readGrowth_76 (by decide) (hp_n (n := 77) rfl ?_)
              cases hf
              exact q_zret C Bh14 hr hlk (by decide) ⟨rfl, rfl, Bh14.2.2⟩ dX3_readGrowth_77
        ·
          replace hf := ms_iT c10 hf
          refine lv_iconst (v := 0) hx hb dX3_readGrowth_52 (by decide) (hp_n (n := 53) rfl ?_)
          cases hf
          exact q_zret C Bh9 hr hlk (by decide) ⟨rfl, rfl, Bh9.2.2⟩ dX3_readGrowth_53
    ·
      replace hf := ms_iT c5 hf
      refine lv_iconst (v := 0) hx hb dX3_readGrowth_26 (by decide) (hp_n (n := 27) rfl ?_)
      cases hf
      exact q_zret C Bh4 hr hlk (by decide) ⟨rfl, rfl, Bh4.2.2⟩ dX3_readGrowth_27
  ·
    replace hf := ms_iT c2 hf
    refine lv_iconst (v := 0) hx hb dX3_readGrowth_10 (by decide) (hp_n (n := 11) rfl ?_)
    cases hf
    exact q_zret C Bh1 hr hlk (by decide) ⟨rfl, rfl, Bh1.2.2⟩ dX3_readGrowth_11
def f_X3_readProofs_J98 (n : Nat) (a0 : Nat) (rec12 : hp_T → Nat → Int32 → Option (Int32 × hp_T)) (αh13 : hp_T) (v2_h13 : Nat) (v3_h13 : Int32) : Option (Int32 × hp_T) :=
  ms_l (hp_R αh13 200 a0) fun b14 =>
  ms_b (f_X6_advance n αh13 b14) fun αh15 =>
  ms_l (v3_h13 + 1) fun x16 =>
  rec12 αh15 v2_h13 x16
def f_X3_readProofs_J59 (n : Nat) (a0 : Nat) (rec12 : hp_T → Nat → Int32 → Option (Int32 × hp_T)) (αh9 : hp_T) (v2_h9 : Nat) (v3_h9 : Int32) (v4_h9 : Int32) : Option (Int32 × hp_T) :=
  ms_l (hp_I αh9 301 v2_h9) fun x10 =>
  hq_c (f_X3_hasRoom n αh9 a0 x10 (20 : Int32)) fun rh11 αh11 =>
  if rh11 = 0 then
    some ((0 : Int32), αh11)
  else
    if v4_h9 = 0 then
      hq_c (f_X3_readGrowth n αh11 a0 v2_h9) fun rh18 αh18 =>
      if rh18 = 0 then
        some ((0 : Int32), αh18)
      else
        f_X3_readProofs_J98 n a0 rec12 αh18 v2_h9 v3_h9
    else
      hq_c (f_X3_readInclusion n αh11 a0 v2_h9) fun rh20 αh20 =>
      if rh20 = 0 then
        some ((0 : Int32), αh20)
      else
        f_X3_readProofs_J98 n a0 rec12 αh20 v2_h9 v3_h9
def f_X3_readProofs_L12 (n : Nat) (a0 : Nat) : Nat → hp_T → Nat → Int32 → Option (Int32 × hp_T)
  | 0, _, _, _ => none
  | k12 + 1, αh3, v2_h3, v3_h3 =>
    if (900 : Int32) ≤ v3_h3 then
      some ((1 : Int32), αh3)
    else
      ms_b (f_X3_isAtEnd n αh3 a0) fun rh5 =>
      if rh5 = 0 then
        ms_l (hp_R αh3 200 a0) fun b7 =>
        ms_b (f_X6_spells n αh3 b7 14) fun rh8 =>
        if rh8 = 0 then
          ms_l (hp_R αh3 200 a0) fun b23 =>
          ms_b (f_X6_spells n αh3 b23 11) fun rh24 =>
          if rh24 = 0 then
            hq_c (f_X3_stray n αh3 a0) fun rh26 αh26 =>
            ms_z rh26 <|
            some (rh26, αh26)
          else
            f_X3_readProofs_J59 n a0 (f_X3_readProofs_L12 n a0 k12) αh3 v2_h3 v3_h3 rh8
        else
          f_X3_readProofs_J59 n a0 (f_X3_readProofs_L12 n a0 k12) αh3 v2_h3 v3_h3 rh8
      else
        some ((1 : Int32), αh3)
def f_X3_readProofs (n : Nat) (α : hp_T) (a0 : Nat) (a1 : Int32) (a2 : Nat) : Option (Int32 × hp_T) :=
  ms_l (hp_sI α 203 a0 a1) fun αh1 =>
  ms_b (f_X5_shorten n αh1 a2 (0 : Int32)) fun αh2 =>
  f_X3_readProofs_L12 n a0 n αh2 a2 (0 : Int32)
set_option maxRecDepth 100000 in
set_option maxHeartbeats 4000000 in
theorem n_X3_readProofs (n : Nat) (Γ : hp_G) (l : Launch) (α : hp_T) (g : GC α) (a0 : Nat) (k0 : hp_K α a0 = 4) (a1 : Int32) (a2 : Nat) (k2 : hp_K α a2 = 6) (res : (Int32 × hp_T)) (hf : f_X3_readProofs n α a0 a1 a2 = some res) : Met l yX3_readProofs (hp_ws yX3_readProofs cX3_readProofs 5 (some .boolean)) (hp_rm 8 0 0) (hp_Pc Γ α [.ref a0, .int a1, .ref a2]) (hp_Qi Γ (fun r β => r = res.1 ∧ β = res.2 ∧ cw w_X3_readProofs α β)) 0 0 (hp_A Γ) := by
  unfold f_X3_readProofs at hf
  refine hp_start (by decide) ?_
  intro p e s m below meth c C hr hlk B0 hnm
  have C : hp_C Γ p m c cX3_readProofs 5 s ([.ref a0, .int a1, .ref a2] : List Value).toArray RX3 := C
  have hx := C.1.1
  have hb := C.1.2.1
  have hown := C.1.2.2.2.1
  have hts := C.1.2.2.2.2
  have B : hp_B Γ (cw w_X3_readProofs) s α α s.heap [] := ⟨B0.1, B0.2.1, cw_rf g⟩
  have hl := lv_entry ([.ref a0, .int a1, .ref a2]) (n := 5) (Nat.le_of_ble_eq_true rfl)
  show W p l e (hp_rm 8 0 0) s m ([.ref a0, .int a1, .ref a2] : List Value).toArray below meth c s.heap [] 0 0 (MQ below (hp_Qi Γ (fun r β => r = res.1 ∧ β = res.2 ∧ cw w_X3_readProofs α β)) ([.ref a0, .int a1, .ref a2] : List Value).toArray s 0 0 (hp_A Γ)) (entryFrame m ([.ref a0, .int a1, .ref a2] : List Value).toArray 5)
  rw [lg_entry_eq]
  generalize (lg_sl ([.ref a0, .int a1, .ref a2]) ++ List.replicate (5 - (lg_sl ([.ref a0, .int a1, .ref a2])).length) Slot.unset).toArray = ls at hl ⊢
  have hl : lv_has ls 5 [(0, .ref a0), (1, .int a1), (2, .ref a2)] := hl
  refine lv_aload_n hx hb dX3_readProofs_0 rfl (lv_at hl 0 rfl) (hp_n (n := 1) rfl ?_)
  refine lv_iload_n hx hb dX3_readProofs_1 rfl (lv_at hl 1 rfl) (hp_n (n := 2) rfl ?_)
  refine q_puti (κ := 4) (k := 3) (φ := 203) (pc' := 5) C B (cw_k B.2.2 k0) fl_X3_33 rfl rfl rfl rfl rfl rfl (cw_sI B.2.2 (by decide) (fun h => absurd h (by decide))) dX3_readProofs_2 rfl (fun αh1 Hh1 Lh1 eh1 Bh1 => ?_)
  replace hf := ms_lE eh1 hf
  refine lv_aload_n hx hb dX3_readProofs_5 rfl (lv_at hl 2 rfl) (hp_n (n := 6) rfl ?_)
  refine lv_iconst (v := 0) hx hb dX3_readProofs_6 (by decide) (hp_n (n := 7) rfl ?_)
  obtain ⟨αh2, qh2, hf⟩ := ms_bE hf
  refine d_cv (pc' := 10) Bh1 (hp_runV (As := [.int (0 : Int32)]) (rest := []) C Bh1 (n_X5_shorten n Γ l αh1 Bh1.2.2.1 a2 (cw_k Bh1.2.2 k2) (0 : Int32) αh2 qh2) lb_X5_shorten lv_X5_shorten lk_X3_120 (cw_k Bh1.2.2 k2) rfl (by decide) rfl hl.1 rfl (Nat.le_of_ble_eq_true rfl) dX3_readProofs_7 ⟨Nat.le_refl _, Nat.le_refl _⟩) (by decide) rfl (fun Hh2 Lh2 Bh2 => ?_)
  refine lv_iconst (v := 0) hx hb dX3_readProofs_10 (by decide) (hp_n (n := 11) rfl ?_)
  have J12 : ∀ (k12 : Nat) (αh3 : hp_T) (Hh3 : Heap) (Lh3 : List Loc) (Bh3 : hp_B Γ (cw w_X3_readProofs) s α αh3 Hh3 Lh3) (v2_h3 : Nat) (kv2_h3 : hp_K α v2_h3 = 6) (v3_h3 : Int32) (ls : Array Slot) (hl : lv_has ls 5 [(0, .ref a0), (2, .ref v2_h3), (3, .int v3_h3)]) (hf : f_X3_readProofs_L12 n a0 k12 αh3 v2_h3 v3_h3 = some res), W p l e (hp_rm 8 0 0) s m ([.ref a0, .int a1, .ref a2] : List Value).toArray below meth c Hh3 Lh3 0 0 (MQ below (hp_Qi Γ (fun r β => r = res.1 ∧ β = res.2 ∧ cw w_X3_readProofs α β)) ([.ref a0, .int a1, .ref a2] : List Value).toArray s 0 0 (hp_A Γ)) (F0 m 12 ls []) := by
    intro k12
    induction k12 with
    | zero => intro αh3 Hh3 Lh3 Bh3 v2_h3 kv2_h3 v3_h3 ls hl hf; rw [f_X3_readProofs_L12.eq_1] at hf; cases hf
    | succ k12 ih12 =>
      intro αh3 Hh3 Lh3 Bh3 v2_h3 kv2_h3 v3_h3 ls hl hf
      rw [f_X3_readProofs_L12.eq_2] at hf
      refine lv_iload_n hx hb dX3_readProofs_12 rfl (lv_at hl 2 rfl) (hp_n (n := 13) rfl ?_)
      refine lv_sipush (v := 900) hx hb dX3_readProofs_13 (by decide) (hp_n (n := 16) rfl ?_)
      refine lv_icmp_ge (tgt := 111) hx hb dX3_readProofs_16 (by decide) (fun c4 => ?_) (fun c4 => hp_n (n := 19) rfl ?_)
      ·
        replace hf := ms_iT c4 hf
        refine lv_iconst (v := 1) hx hb dX3_readProofs_111 (by decide) (hp_n (n := 112) rfl ?_)
        cases hf
        exact q_zret C Bh3 hr hlk (by decide) ⟨rfl, rfl, Bh3.2.2⟩ dX3_readProofs_112
      ·
        replace hf := ms_iF c4 hf
        refine lv_aload_n hx hb dX3_readProofs_19 rfl (lv_at hl 0 rfl) (hp_n (n := 20) rfl ?_)
        obtain ⟨rh5, qh5, hf⟩ := ms_bE hf
        refine d_pi (pc' := 23) Bh3 (hp_runV (As := []) (rest := []) C Bh3 (n_X3_isAtEnd n Γ l αh3 Bh3.2.2.1 a0 (cw_k Bh3.2.2 k0) rh5 qh5) lb_X3_isAtEnd lv_X3_isAtEnd lk_X3_124 (cw_k Bh3.2.2 k0) rfl (by decide) rfl hl.1 rfl (Nat.le_of_ble_eq_true rfl) dX3_readProofs_20 ⟨Nat.le_refl _, Nat.le_refl _⟩) rfl (fun Hh5 Lh5 Bh5 => ?_)
        refine lv_if_ne (tgt := 111) hx hb dX3_readProofs_23 (by decide) (fun c6 => ?_) (fun c6 => hp_n (n := 26) rfl ?_)
        ·
          replace hf := ms_iF c6 hf
          refine lv_iconst (v := 1) hx hb dX3_readProofs_111 (by decide) (hp_n (n := 112) rfl ?_)
          cases hf
          exact q_zret C Bh5 hr hlk (by decide) ⟨rfl, rfl, Bh5.2.2⟩ dX3_readProofs_112
        ·
          replace hf := ms_iT c6 hf
          refine lv_aload_n hx hb dX3_readProofs_26 rfl (lv_at hl 0 rfl) (hp_n (n := 27) rfl ?_)
          refine q_getr (κ := 4) (k := 0) (φ := 200) (pc' := 30) C Bh5 (cw_k Bh5.2.2 k0) fl_X3_12 rfl rfl rfl (cw_r Bh5.2.2 k0 rfl rfl (by decide) (by decide)) dX3_readProofs_27 rfl (fun b7 eb7 kb7 => ?_)
          replace hf := ms_lE eb7 hf
          refine va_ldcS hx hb hown (sr_X3_127 C.2) dX3_readProofs_30 (hp_n (n := 32) rfl ?_)
          obtain ⟨rh8, qh8, hf⟩ := ms_bE hf
          refine d_pi (pc' := 35) Bh5 (hp_runV (As := [.ref (Γ.2.2.2.2.1 14)]) (rest := []) C Bh5 (n_X6_spells n Γ l αh3 Bh5.2.2.1 b7 (cw_k Bh5.2.2 kb7) 14 (by decide) rh8 qh8) lb_X6_spells lv_X6_spells lk_X3_71 (cw_k Bh5.2.2 kb7) rfl (by decide) rfl hl.1 rfl (Nat.le_of_ble_eq_true rfl) dX3_readProofs_32 ⟨Nat.le_refl _, Nat.le_refl _⟩) rfl (fun Hh8 Lh8 Bh8 => ?_)
          refine lv_istore (lv' := [(4, .int rh8), (0, .ref a0), (2, .ref v2_h3), (3, .int v3_h3)]) hx hb dX3_readProofs_35 hl (by decide) rfl (fun ls hl => hp_n (n := 37) rfl ?_)
          refine lv_iload hx hb dX3_readProofs_37 (lv_at hl 0 rfl) (hp_n (n := 39) rfl ?_)
          have J59 : ∀ (αh9 : hp_T) (Hh9 : Heap) (Lh9 : List Loc) (Bh9 : hp_B Γ (cw w_X3_readProofs) s α αh9 Hh9 Lh9) (v2_h9 : Nat) (kv2_h9 : hp_K α v2_h9 = 6) (v3_h9 : Int32) (v4_h9 : Int32) (ls : Array Slot) (hl : lv_has ls 5 [(0, .ref a0), (2, .ref v2_h9), (3, .int v3_h9), (4, .int v4_h9)]) (hf : f_X3_readProofs_J59 n a0 (f_X3_readProofs_L12 n a0 k12) αh9 v2_h9 v3_h9 v4_h9 = some res), W p l e (hp_rm 8 0 0) s m ([.ref a0, .int a1, .ref a2] : List Value).toArray below meth c Hh9 Lh9 0 0 (MQ below (hp_Qi Γ (fun r β => r = res.1 ∧ β = res.2 ∧ cw w_X3_readProofs α β)) ([.ref a0, .int a1, .ref a2] : List Value).toArray s 0 0 (hp_A Γ)) (F0 m 59 ls []) := by
            intro αh9 Hh9 Lh9 Bh9 v2_h9 kv2_h9 v3_h9 v4_h9 ls hl hf
            unfold f_X3_readProofs_J59 at hf
            refine lv_aload_n hx hb dX3_readProofs_59 rfl (lv_at hl 0 rfl) (hp_n (n := 60) rfl ?_)
            refine lv_aload_n hx hb dX3_readProofs_60 rfl (lv_at hl 1 rfl) (hp_n (n := 61) rfl ?_)
            refine q_geti (κ := 6) (k := 1) (φ := 301) (pc' := 64) C Bh9 (cw_k Bh9.2.2 kv2_h9) fl_X3_131 rfl rfl rfl dX3_readProofs_61 rfl (fun x10 ex10 => ?_)
            replace hf := ms_lE ex10 hf
            refine lv_bipush (v := 20) hx hb dX3_readProofs_64 (by decide) (hp_n (n := 66) rfl ?_)
            obtain ⟨rh11, αh11, qh11, hf⟩ := hq_cE hf
            refine d_ci (pc' := 69) Bh9 (hp_runV (As := [.int x10, .int (20 : Int32)]) (rest := []) C Bh9 (n_X3_hasRoom n Γ l αh9 Bh9.2.2.1 a0 (cw_k Bh9.2.2 k0) x10 (20 : Int32) (rh11, αh11) qh11) lb_X3_hasRoom lv_X3_hasRoom lk_X3_99 (cw_k Bh9.2.2 k0) rfl (by decide) rfl hl.1 rfl (Nat.le_of_ble_eq_true rfl) dX3_readProofs_66 ⟨Nat.le_refl _, Nat.le_refl _⟩) (by decide) rfl (fun Hh11 Lh11 Bh11 => ?_)
            refine lv_if_eq (tgt := 96) hx hb dX3_readProofs_69 (by decide) (fun c12 => ?_) (fun c12 => hp_n (n := 72) rfl ?_)
            ·
              replace hf := ms_iT c12 hf
              refine lv_iconst (v := 0) hx hb dX3_readProofs_96 (by decide) (hp_n (n := 97) rfl ?_)
              cases hf
              exact q_zret C Bh11 hr hlk (by decide) ⟨rfl, rfl, Bh11.2.2⟩ dX3_readProofs_97
            ·
              replace hf := ms_iF c12 hf
              refine lv_iload hx hb dX3_readProofs_72 (lv_at hl 3 rfl) (hp_n (n := 74) rfl ?_)
              have J98 : ∀ (αh13 : hp_T) (Hh13 : Heap) (Lh13 : List Loc) (Bh13 : hp_B Γ (cw w_X3_readProofs) s α αh13 Hh13 Lh13) (v2_h13 : Nat) (kv2_h13 : hp_K α v2_h13 = 6) (v3_h13 : Int32) (ls : Array Slot) (hl : lv_has ls 5 [(0, .ref a0), (2, .ref v2_h13), (3, .int v3_h13)]) (hf : f_X3_readProofs_J98 n a0 (f_X3_readProofs_L12 n a0 k12) αh13 v2_h13 v3_h13 = some res), W p l e (hp_rm 8 0 0) s m ([.ref a0, .int a1, .ref a2] : List Value).toArray below meth c Hh13 Lh13 0 0 (MQ below (hp_Qi Γ (fun r β => r = res.1 ∧ β = res.2 ∧ cw w_X3_readProofs α β)) ([.ref a0, .int a1, .ref a2] : List Value).toArray s 0 0 (hp_A Γ)) (F0 m 98 ls []) := by
                intro αh13 Hh13 Lh13 Bh13 v2_h13 kv2_h13 v3_h13 ls hl hf
                unfold f_X3_readProofs_J98 at hf
                refine lv_aload_n hx hb dX3_readProofs_98 rfl (lv_at hl 0 rfl) (hp_n (n := 99) rfl ?_)
                refine q_getr (κ := 4) (k := 0) (φ := 200) (pc' := 102) C Bh13 (cw_k Bh13.2.2 k0) fl_X3_12 rfl rfl rfl (cw_r Bh13.2.2 k0 rfl rfl (by decide) (by decide)) dX3_readProofs_99 rfl (fun b14 eb14 kb14 => ?_)
                replace hf := ms_lE eb14 hf
                obtain ⟨αh15, qh15, hf⟩ := ms_bE hf
                refine d_cv (pc' := 105) Bh13 (hp_runV (As := []) (rest := []) C Bh13 (n_X6_advance n Γ l αh13 Bh13.2.2.1 b14 (cw_k Bh13.2.2 kb14) αh15 qh15) lb_X6_advance lv_X6_advance lk_X3_63 (cw_k Bh13.2.2 kb14) rfl (by decide) rfl hl.1 rfl (Nat.le_of_ble_eq_true rfl) dX3_readProofs_102 ⟨Nat.le_refl _, Nat.le_refl _⟩) (by decide) rfl (fun Hh15 Lh15 Bh15 => ?_)
                obtain ⟨x16, ex16⟩ : ∃ y : Int32, y = v3_h13 + 1 := ⟨_, rfl⟩
                replace hf := ms_lE ex16 hf
                refine lv_iinc (v := x16) (lv' := [(3, .int x16), (0, .ref a0), (2, .ref v2_h13)]) hx hb dX3_readProofs_105 hl (k := 2) rfl (by rw [ex16]; rfl) (by decide) rfl (fun ls hl => hp_n (n := 108) rfl ?_)
                refine lv_goto (tgt := 12) hx hb dX3_readProofs_108 (by decide) ?_
                exact ih12 αh15 Hh15 Lh15 Bh15 v2_h13 kv2_h13 x16 ls (lv_sub hl [1, 2, 0] rfl) hf
              refine lv_if_eq (tgt := 88) hx hb dX3_readProofs_74 (by decide) (fun c17 => ?_) (fun c17 => hp_n (n := 77) rfl ?_)
              ·
                replace hf := ms_iT c17 hf
                refine lv_aload_n hx hb dX3_readProofs_88 rfl (lv_at hl 0 rfl) (hp_n (n := 89) rfl ?_)
                refine lv_aload_n hx hb dX3_readProofs_89 rfl (lv_at hl 1 rfl) (hp_n (n := 90) rfl ?_)
                obtain ⟨rh18, αh18, qh18, hf⟩ := hq_cE hf
                refine d_ci (pc' := 93) Bh11 (hp_runV (As := [.ref v2_h9]) (rest := []) C Bh11 (n_X3_readGrowth n Γ l αh11 Bh11.2.2.1 a0 (cw_k Bh11.2.2 k0) v2_h9 (cw_k Bh11.2.2 kv2_h9) (rh18, αh18) qh18) lb_X3_readGrowth lv_X3_readGrowth lk_X3_138 (cw_k Bh11.2.2 k0) rfl (by decide) rfl hl.1 rfl (Nat.le_of_ble_eq_true rfl) dX3_readProofs_90 ⟨Nat.le_refl _, Nat.le_refl _⟩) (by decide) rfl (fun Hh18 Lh18 Bh18 => ?_)
                refine lv_if_ne (tgt := 98) hx hb dX3_readProofs_93 (by decide) (fun c19 => ?_) (fun c19 => hp_n (n := 96) rfl ?_)
                ·
                  replace hf := ms_iF c19 hf
                  exact J98 αh18 Hh18 Lh18 Bh18 v2_h9 kv2_h9 v3_h9 ls (lv_sub hl [0, 1, 2] rfl) hf
                ·
                  replace hf := ms_iT c19 hf
                  refine lv_iconst (v := 0) hx hb dX3_readProofs_96 (by decide) (hp_n (n := 97) rfl ?_)
                  cases hf
                  exact q_zret C Bh18 hr hlk (by decide) ⟨rfl, rfl, Bh18.2.2⟩ dX3_readProofs_97
              ·
                replace hf := ms_iF c17 hf
                refine lv_aload_n hx hb dX3_readProofs_77 rfl (lv_at hl 0 rfl) (hp_n (n := 78) rfl ?_)
                refine lv_aload_n hx hb dX3_readProofs_78 rfl (lv_at hl 1 rfl) (hp_n (n := 79) rfl ?_)
                obtain ⟨rh20, αh20, qh20, hf⟩ := hq_cE hf
                refine d_ci (pc' := 82) Bh11 (hp_runV (As := [.ref v2_h9]) (rest := []) C Bh11 (n_X3_readInclusion n Γ l αh11 Bh11.2.2.1 a0 (cw_k Bh11.2.2 k0) v2_h9 (cw_k Bh11.2.2 kv2_h9) (rh20, αh20) qh20) lb_X3_readInclusion lv_X3_readInclusion lk_X3_134 (cw_k Bh11.2.2 k0) rfl (by decide) rfl hl.1 rfl (Nat.le_of_ble_eq_true rfl) dX3_readProofs_79 ⟨Nat.le_refl _, Nat.le_refl _⟩) (by decide) rfl (fun Hh20 Lh20 Bh20 => ?_)
                refine lv_if_eq (tgt := 96) hx hb dX3_readProofs_82 (by decide) (fun c21 => ?_) (fun c21 => hp_n (n := 85) rfl ?_)
                ·
                  replace hf := ms_iT c21 hf
                  refine lv_iconst (v := 0) hx hb dX3_readProofs_96 (by decide) (hp_n (n := 97) rfl ?_)
                  cases hf
                  exact q_zret C Bh20 hr hlk (by decide) ⟨rfl, rfl, Bh20.2.2⟩ dX3_readProofs_97
                ·
                  replace hf := ms_iF c21 hf
                  refine lv_goto (tgt := 98) hx hb dX3_readProofs_85 (by decide) ?_
                  exact J98 αh20 Hh20 Lh20 Bh20 v2_h9 kv2_h9 v3_h9 ls (lv_sub hl [0, 1, 2] rfl) hf
          refine lv_if_ne (tgt := 59) hx hb dX3_readProofs_39 (by decide) (fun c22 => ?_) (fun c22 => hp_n (n := 42) rfl ?_)
          ·
            replace hf := ms_iF c22 hf
            exact J59 αh3 Hh8 Lh8 Bh8 v2_h3 kv2_h3 v3_h3 rh8 ls (lv_sub hl [1, 2, 3, 0] rfl) hf
          ·
            replace hf := ms_iT c22 hf
            refine lv_aload_n hx hb dX3_readProofs_42 rfl (lv_at hl 1 rfl) (hp_n (n := 43) rfl ?_)
            refine q_getr (κ := 4) (k := 0) (φ := 200) (pc' := 46) C Bh8 (cw_k Bh8.2.2 k0) fl_X3_12 rfl rfl rfl (cw_r Bh8.2.2 k0 rfl rfl (by decide) (by decide)) dX3_readProofs_43 rfl (fun b23 eb23 kb23 => ?_)
            replace hf := ms_lE eb23 hf
            refine va_ldcS hx hb hown (sr_X3_129 C.2) dX3_readProofs_46 (hp_n (n := 48) rfl ?_)
            obtain ⟨rh24, qh24, hf⟩ := ms_bE hf
            refine d_pi (pc' := 51) Bh8 (hp_runV (As := [.ref (Γ.2.2.2.2.1 11)]) (rest := []) C Bh8 (n_X6_spells n Γ l αh3 Bh8.2.2.1 b23 (cw_k Bh8.2.2 kb23) 11 (by decide) rh24 qh24) lb_X6_spells lv_X6_spells lk_X3_71 (cw_k Bh8.2.2 kb23) rfl (by decide) rfl hl.1 rfl (Nat.le_of_ble_eq_true rfl) dX3_readProofs_48 ⟨Nat.le_refl _, Nat.le_refl _⟩) rfl (fun Hh24 Lh24 Bh24 => ?_)
            refine lv_if_ne (tgt := 59) hx hb dX3_readProofs_51 (by decide) (fun c25 => ?_) (fun c25 => hp_n (n := 54) rfl ?_)
            ·
              replace hf := ms_iF c25 hf
              exact J59 αh3 Hh24 Lh24 Bh24 v2_h3 kv2_h3 v3_h3 rh8 ls (lv_sub hl [1, 2, 3, 0] rfl) hf
            ·
              replace hf := ms_iT c25 hf
              refine lv_aload_n hx hb dX3_readProofs_54 rfl (lv_at hl 1 rfl) (hp_n (n := 55) rfl ?_)
              obtain ⟨rh26, αh26, qh26, hf⟩ := hq_cE hf
              refine d_ci (pc' := 58) Bh24 (hp_runV (As := []) (rest := []) C Bh24 (n_X3_stray n Γ l αh3 Bh24.2.2.1 a0 (cw_k Bh24.2.2 k0) (rh26, αh26) qh26) lb_X3_stray lv_X3_stray lk_X3_117 (cw_k Bh24.2.2 k0) rfl (by decide) rfl hl.1 rfl (Nat.le_of_ble_eq_true rfl) dX3_readProofs_55 ⟨Nat.le_refl _, Nat.le_refl _⟩) (by decide) rfl (fun Hh26 Lh26 Bh26 => ?_)
              obtain ⟨g27, hf⟩ := ms_zE hf
              cases hf
              exact q_zret C Bh26 hr hlk (nz_z g27) ⟨rfl, rfl, Bh26.2.2⟩ dX3_readProofs_58
  refine lv_istore_n (lv' := [(3, .int (0 : Int32)), (0, .ref a0), (1, .int a1), (2, .ref a2)]) hx hb dX3_readProofs_11 rfl hl (by decide) rfl (fun ls hl => hp_n (n := 12) rfl ?_)
  exact J12 n αh2 Hh2 Lh2 Bh2 a2 k2 (0 : Int32) ls (lv_sub hl [1, 3, 0] rfl) hf
def f_X5_countOf_J24 (n : Nat) (α : hp_T) (a0 : Nat) (rec4 : Int32 → Int32 → Int32 → Option Int32) (v1_h5 : Int32) (v2_h5 : Int32) (v3_h5 : Int32) : Option Int32 :=
  ms_l (v3_h5 + 1) fun x6 =>
  rec4 v1_h5 v2_h5 x6
def f_X5_countOf_L4 (n : Nat) (α : hp_T) (a0 : Nat) : Nat → Int32 → Int32 → Int32 → Option Int32
  | 0, _, _, _ => none
  | k4 + 1, v1_h1, v2_h1, v3_h1 =>
    ms_l (hp_I α 301 a0) fun x2 =>
    if x2 ≤ v3_h1 then
      some v2_h1
    else
      ms_b (f_X5_at n α a0 v3_h1) fun rh4 =>
      if rh4 = v1_h1 then
        ms_l (v2_h1 + 1) fun x8 =>
        f_X5_countOf_J24 n α a0 (f_X5_countOf_L4 n α a0 k4) v1_h1 x8 v3_h1
      else
        f_X5_countOf_J24 n α a0 (f_X5_countOf_L4 n α a0 k4) v1_h1 v2_h1 v3_h1
def f_X5_countOf (n : Nat) (α : hp_T) (a0 : Nat) (a1 : Int32) : Option Int32 :=
  f_X5_countOf_L4 n α a0 n a1 (0 : Int32) (0 : Int32)
set_option maxRecDepth 100000 in
set_option maxHeartbeats 4000000 in
theorem n_X5_countOf (n : Nat) (Γ : hp_G) (l : Launch) (α : hp_T) (g : GC α) (a0 : Nat) (k0 : hp_K α a0 = 6) (a1 : Int32) (res : Int32) (hf : f_X5_countOf n α a0 a1 = some res) : Met l yX5_countOf (hp_ws yX5_countOf cX5_countOf 4 (some .int)) (hp_rm 1 0 0) (hp_Pc Γ α [.ref a0, .int a1]) (hp_Qi Γ (fun r β => β = α ∧ r = res)) 0 0 (hp_A Γ) := by
  unfold f_X5_countOf at hf
  refine hp_start (by decide) ?_
  intro p e s m below meth c C hr hlk B0 hnm
  have C : hp_C Γ p m c cX5_countOf 4 s ([.ref a0, .int a1] : List Value).toArray RX5 := C
  have hx := C.1.1
  have hb := C.1.2.1
  have hown := C.1.2.2.2.1
  have hts := C.1.2.2.2.2
  have B : hp_B Γ (cw w_X5_countOf) s α α s.heap [] := ⟨B0.1, B0.2.1, cw_rf g⟩
  have hl := lv_entry ([.ref a0, .int a1]) (n := 4) (Nat.le_of_ble_eq_true rfl)
  show W p l e (hp_rm 1 0 0) s m ([.ref a0, .int a1] : List Value).toArray below meth c s.heap [] 0 0 (MQ below (hp_Qi Γ (fun r β => β = α ∧ r = res)) ([.ref a0, .int a1] : List Value).toArray s 0 0 (hp_A Γ)) (entryFrame m ([.ref a0, .int a1] : List Value).toArray 4)
  rw [lg_entry_eq]
  generalize (lg_sl ([.ref a0, .int a1]) ++ List.replicate (4 - (lg_sl ([.ref a0, .int a1])).length) Slot.unset).toArray = ls at hl ⊢
  have hl : lv_has ls 4 [(0, .ref a0), (1, .int a1)] := hl
  refine lv_iconst (v := 0) hx hb dX5_countOf_0 (by decide) (hp_n (n := 1) rfl ?_)
  refine lv_istore_n (lv' := [(2, .int (0 : Int32)), (0, .ref a0), (1, .int a1)]) hx hb dX5_countOf_1 rfl hl (by decide) rfl (fun ls hl => hp_n (n := 2) rfl ?_)
  refine lv_iconst (v := 0) hx hb dX5_countOf_2 (by decide) (hp_n (n := 3) rfl ?_)
  have J4 : ∀ (k4 : Nat) (Hh1 : Heap) (Lh1 : List Loc) (Bh1 : hp_B Γ (cw w_X5_countOf) s α α Hh1 Lh1) (v1_h1 : Int32) (v2_h1 : Int32) (v3_h1 : Int32) (ls : Array Slot) (hl : lv_has ls 4 [(0, .ref a0), (1, .int v1_h1), (2, .int v2_h1), (3, .int v3_h1)]) (hf : f_X5_countOf_L4 n α a0 k4 v1_h1 v2_h1 v3_h1 = some res), W p l e (hp_rm 1 0 0) s m ([.ref a0, .int a1] : List Value).toArray below meth c Hh1 Lh1 0 0 (MQ below (hp_Qi Γ (fun r β => β = α ∧ r = res)) ([.ref a0, .int a1] : List Value).toArray s 0 0 (hp_A Γ)) (F0 m 4 ls []) := by
    intro k4
    induction k4 with
    | zero => intro Hh1 Lh1 Bh1 v1_h1 v2_h1 v3_h1 ls hl hf; rw [f_X5_countOf_L4.eq_1] at hf; cases hf
    | succ k4 ih4 =>
      intro Hh1 Lh1 Bh1 v1_h1 v2_h1 v3_h1 ls hl hf
      rw [f_X5_countOf_L4.eq_2] at hf
      refine lv_iload_n hx hb dX5_countOf_4 rfl (lv_at hl 3 rfl) (hp_n (n := 5) rfl ?_)
      refine lv_aload_n hx hb dX5_countOf_5 rfl (lv_at hl 0 rfl) (hp_n (n := 6) rfl ?_)
      refine q_geti (κ := 6) (k := 1) (φ := 301) (pc' := 9) C Bh1 (cw_k Bh1.2.2 k0) fl_X5_15 rfl rfl rfl dX5_countOf_6 rfl (fun x2 ex2 => ?_)
      replace hf := ms_lE ex2 hf
      refine lv_icmp_ge (tgt := 30) hx hb dX5_countOf_9 (by decide) (fun c3 => ?_) (fun c3 => hp_n (n := 12) rfl ?_)
      ·
        replace hf := ms_iT c3 hf
        refine lv_iload_n hx hb dX5_countOf_30 rfl (lv_at hl 2 rfl) (hp_n (n := 31) rfl ?_)
        cases hf
        exact q_iret C Bh1 hr hlk ⟨rfl, rfl⟩ dX5_countOf_31
      ·
        replace hf := ms_iF c3 hf
        refine lv_aload_n hx hb dX5_countOf_12 rfl (lv_at hl 0 rfl) (hp_n (n := 13) rfl ?_)
        refine lv_iload_n hx hb dX5_countOf_13 rfl (lv_at hl 3 rfl) (hp_n (n := 14) rfl ?_)
        obtain ⟨rh4, qh4, hf⟩ := ms_bE hf
        refine d_pi (pc' := 17) Bh1 (hp_runV (As := [.int v3_h1]) (rest := []) C Bh1 (n_X5_at n Γ l α Bh1.2.2.1 a0 (cw_k Bh1.2.2 k0) v3_h1 rh4 qh4) lb_X5_at lv_X5_at lk_X5_19 (cw_k Bh1.2.2 k0) rfl (by decide) rfl hl.1 rfl (Nat.le_of_ble_eq_true rfl) dX5_countOf_14 ⟨Nat.le_refl _, Nat.le_refl _⟩) rfl (fun Hh4 Lh4 Bh4 => ?_)
        refine lv_iload_n hx hb dX5_countOf_17 rfl (lv_at hl 1 rfl) (hp_n (n := 18) rfl ?_)
        have J24 : ∀ (Hh5 : Heap) (Lh5 : List Loc) (Bh5 : hp_B Γ (cw w_X5_countOf) s α α Hh5 Lh5) (v1_h5 : Int32) (v2_h5 : Int32) (v3_h5 : Int32) (ls : Array Slot) (hl : lv_has ls 4 [(0, .ref a0), (1, .int v1_h5), (2, .int v2_h5), (3, .int v3_h5)]) (hf : f_X5_countOf_J24 n α a0 (f_X5_countOf_L4 n α a0 k4) v1_h5 v2_h5 v3_h5 = some res), W p l e (hp_rm 1 0 0) s m ([.ref a0, .int a1] : List Value).toArray below meth c Hh5 Lh5 0 0 (MQ below (hp_Qi Γ (fun r β => β = α ∧ r = res)) ([.ref a0, .int a1] : List Value).toArray s 0 0 (hp_A Γ)) (F0 m 24 ls []) := by
          intro Hh5 Lh5 Bh5 v1_h5 v2_h5 v3_h5 ls hl hf
          unfold f_X5_countOf_J24 at hf
          obtain ⟨x6, ex6⟩ : ∃ y : Int32, y = v3_h5 + 1 := ⟨_, rfl⟩
          replace hf := ms_lE ex6 hf
          refine lv_iinc (v := x6) (lv' := [(3, .int x6), (0, .ref a0), (1, .int v1_h5), (2, .int v2_h5)]) hx hb dX5_countOf_24 hl (k := 3) rfl (by rw [ex6]; rfl) (by decide) rfl (fun ls hl => hp_n (n := 27) rfl ?_)
          refine lv_goto (tgt := 4) hx hb dX5_countOf_27 (by decide) ?_
          exact ih4 Hh5 Lh5 Bh5 v1_h5 v2_h5 x6 ls (lv_sub hl [1, 2, 3, 0] rfl) hf
        refine lv_icmp_ne (tgt := 24) hx hb dX5_countOf_18 (by decide) (fun c7 => ?_) (fun c7 => hp_n (n := 21) rfl ?_)
        ·
          replace hf := ms_iF c7 hf
          exact J24 Hh4 Lh4 Bh4 v1_h1 v2_h1 v3_h1 ls (lv_sub hl [0, 1, 2, 3] rfl) hf
        ·
          replace hf := ms_iT c7 hf
          obtain ⟨x8, ex8⟩ : ∃ y : Int32, y = v2_h1 + 1 := ⟨_, rfl⟩
          replace hf := ms_lE ex8 hf
          refine lv_iinc (v := x8) (lv' := [(2, .int x8), (0, .ref a0), (1, .int v1_h1), (3, .int v3_h1)]) hx hb dX5_countOf_21 hl (k := 2) rfl (by rw [ex8]; rfl) (by decide) rfl (fun ls hl => hp_n (n := 24) rfl ?_)
          exact J24 Hh4 Lh4 Bh4 v1_h1 x8 v3_h1 ls (lv_sub hl [1, 2, 0, 3] rfl) hf
  refine lv_istore_n (lv' := [(3, .int (0 : Int32)), (2, .int (0 : Int32)), (0, .ref a0), (1, .int a1)]) hx hb dX5_countOf_3 rfl hl (by decide) rfl (fun ls hl => hp_n (n := 4) rfl ?_)
  exact J4 n s.heap [] B a1 (0 : Int32) (0 : Int32) ls (lv_sub hl [2, 3, 1, 0] rfl) hf
def f_X11_hear_J12 (n : Nat) (a0 : Nat) (αh1 : hp_T) : Option (Int32 × hp_T) :=
  hq_c (f_X11_refuse n αh1 a0 (1 : Int32)) fun rh2 αh2 =>
  some (rh2, αh2)
def f_X11_hear (n : Nat) (α : hp_T) (a0 : Nat) (a1 : Int32) : Option (Int32 × hp_T) :=
  if a1 < 0 then
    f_X11_hear_J12 n a0 α
  else
    ms_l (hp_I α 605 a0) fun x4 =>
    if a1 ≤ x4 then
      ms_l (hp_R α 616 a0) fun b6 =>
      ms_l (hp_R α 604 a0) fun b7 =>
      ms_b (f_X3_begin n α b6 b7 a1) fun αh8 =>
      ms_l (hp_R αh8 616 a0) fun b9 =>
      ms_l (hp_R αh8 601 a0) fun b10 =>
      ms_l (hp_I αh8 550 b10) fun x11 =>
      ms_l (hp_R αh8 609 a0) fun b12 =>
      hq_c (f_X3_readProofs n αh8 b9 x11 b12) fun rh13 αh13 =>
      ms_l (hp_sI αh13 605 a0 (0 : Int32)) fun αh14 =>
      if rh13 = 0 then
        hq_c (f_X11_refuse n αh14 a0 (9 : Int32)) fun rh23 αh23 =>
        some (rh23, αh23)
      else
        ms_l (hp_R αh14 608 a0) fun b16 =>
        ms_l (hp_R αh14 609 a0) fun b17 =>
        ms_l (hp_sR αh14 608 a0 b17) fun αh18 =>
        ms_l (hp_sR αh18 609 a0 b16) fun αh19 =>
        ms_l (hp_R αh19 608 a0) fun b20 =>
        ms_b (f_X5_countOf n αh19 b20 (0 : Int32)) fun rh21 =>
        hq_c (f_X11_answer n αh19 a0 rh21) fun rh22 αh22 =>
        some (rh22, αh22)
    else
      f_X11_hear_J12 n a0 α
set_option maxRecDepth 100000 in
set_option maxHeartbeats 4000000 in
theorem n_X11_hear (n : Nat) (Γ : hp_G) (l : Launch) (α : hp_T) (g : GC α) (a0 : Nat) (k0 : hp_K α a0 = 12) (a1 : Int32) (res : (Int32 × hp_T)) (hf : f_X11_hear n α a0 a1 = some res) : Met l yX11_hear (hp_ws yX11_hear cX11_hear 4 (some .int)) (hp_rm 9 0 0) (hp_Pc Γ α [.ref a0, .int a1]) (hp_Qi Γ (fun r β => r = res.1 ∧ β = res.2 ∧ cw w_X11_hear α β)) 0 0 (hp_A Γ) := by
  unfold f_X11_hear at hf
  refine hp_start (by decide) ?_
  intro p e s m below meth c C hr hlk B0 hnm
  have C : hp_C Γ p m c cX11_hear 4 s ([.ref a0, .int a1] : List Value).toArray RX11 := C
  have hx := C.1.1
  have hb := C.1.2.1
  have hown := C.1.2.2.2.1
  have hts := C.1.2.2.2.2
  have B : hp_B Γ (cw w_X11_hear) s α α s.heap [] := ⟨B0.1, B0.2.1, cw_rf g⟩
  have hl := lv_entry ([.ref a0, .int a1]) (n := 4) (Nat.le_of_ble_eq_true rfl)
  show W p l e (hp_rm 9 0 0) s m ([.ref a0, .int a1] : List Value).toArray below meth c s.heap [] 0 0 (MQ below (hp_Qi Γ (fun r β => r = res.1 ∧ β = res.2 ∧ cw w_X11_hear α β)) ([.ref a0, .int a1] : List Value).toArray s 0 0 (hp_A Γ)) (entryFrame m ([.ref a0, .int a1] : List Value).toArray 4)
  rw [lg_entry_eq]
  generalize (lg_sl ([.ref a0, .int a1]) ++ List.replicate (4 - (lg_sl ([.ref a0, .int a1])).length) Slot.unset).toArray = ls at hl ⊢
  have hl : lv_has ls 4 [(0, .ref a0), (1, .int a1)] := hl
  refine lv_iload_n hx hb dX11_hear_0 rfl (lv_at hl 1 rfl) (hp_n (n := 1) rfl ?_)
  have J12 : ∀ (αh1 : hp_T) (Hh1 : Heap) (Lh1 : List Loc) (Bh1 : hp_B Γ (cw w_X11_hear) s α αh1 Hh1 Lh1) (ls : Array Slot) (hl : lv_has ls 4 [(0, .ref a0)]) (hf : f_X11_hear_J12 n a0 αh1 = some res), W p l e (hp_rm 9 0 0) s m ([.ref a0, .int a1] : List Value).toArray below meth c Hh1 Lh1 0 0 (MQ below (hp_Qi Γ (fun r β => r = res.1 ∧ β = res.2 ∧ cw w_X11_hear α β)) ([.ref a0, .int a1] : List Value).toArray s 0 0 (hp_A Γ)) (F0 m 12 ls []) := by
    intro αh1 Hh1 Lh1 Bh1 ls hl hf
    unfold f_X11_hear_J12 at hf
    refine lv_aload_n hx hb dX11_hear_12 rfl (lv_at hl 0 rfl) (hp_n (n := 13) rfl ?_)
    refine lv_iconst (v := 1) hx hb dX11_hear_13 (by decide) (hp_n (n := 14) rfl ?_)
    obtain ⟨rh2, αh2, qh2, hf⟩ := hq_cE hf
    refine d_ci (pc' := 17) Bh1 (hp_runV (As := [.int (1 : Int32)]) (rest := []) C Bh1 (n_X11_refuse n Γ l αh1 Bh1.2.2.1 a0 (cw_k Bh1.2.2 k0) (1 : Int32) (rh2, αh2) qh2) lb_X11_refuse lv_X11_refuse lk_X11_98 (cw_k Bh1.2.2 k0) rfl (by decide) rfl hl.1 rfl (Nat.le_of_ble_eq_true rfl) dX11_hear_14 ⟨Nat.le_refl _, Nat.le_refl _⟩) (by decide) rfl (fun Hh2 Lh2 Bh2 => ?_)
    cases hf
    exact q_iret C Bh2 hr hlk ⟨rfl, rfl, Bh2.2.2⟩ dX11_hear_17
  refine lv_if_lt (tgt := 12) hx hb dX11_hear_1 (by decide) (fun c3 => ?_) (fun c3 => hp_n (n := 4) rfl ?_)
  ·
    replace hf := ms_iT c3 hf
    exact J12 α s.heap [] B ls (lv_sub hl [0] rfl) hf
  ·
    replace hf := ms_iF c3 hf
    refine lv_iload_n hx hb dX11_hear_4 rfl (lv_at hl 1 rfl) (hp_n (n := 5) rfl ?_)
    refine lv_aload_n hx hb dX11_hear_5 rfl (lv_at hl 0 rfl) (hp_n (n := 6) rfl ?_)
    refine q_geti (κ := 12) (k := 5) (φ := 605) (pc' := 9) C B (cw_k B.2.2 k0) fl_X11_34 rfl rfl rfl dX11_hear_6 rfl (fun x4 ex4 => ?_)
    replace hf := ms_lE ex4 hf
    refine lv_icmp_le (tgt := 18) hx hb dX11_hear_9 (by decide) (fun c5 => ?_) (fun c5 => hp_n (n := 12) rfl ?_)
    ·
      replace hf := ms_iT c5 hf
      refine lv_aload_n hx hb dX11_hear_18 rfl (lv_at hl 0 rfl) (hp_n (n := 19) rfl ?_)
      refine q_getr (κ := 12) (k := 16) (φ := 616) (pc' := 22) C B (cw_k B.2.2 k0) fl_X11_82 rfl rfl rfl (cw_r B.2.2 k0 rfl rfl (by decide) (by decide)) dX11_hear_19 rfl (fun b6 eb6 kb6 => ?_)
      replace hf := ms_lE eb6 hf
      refine lv_aload_n hx hb dX11_hear_22 rfl (lv_at hl 0 rfl) (hp_n (n := 23) rfl ?_)
      refine q_getr (κ := 12) (k := 4) (φ := 604) (pc' := 26) C B (cw_k B.2.2 k0) fl_X11_30 rfl rfl rfl (cw_r B.2.2 k0 rfl rfl (by decide) (by decide)) dX11_hear_23 rfl (fun b7 eb7 kb7 => ?_)
      replace hf := ms_lE eb7 hf
      refine lv_iload_n hx hb dX11_hear_26 rfl (lv_at hl 1 rfl) (hp_n (n := 27) rfl ?_)
      obtain ⟨αh8, qh8, hf⟩ := ms_bE hf
      refine d_cv (pc' := 30) B (hp_runV (As := [.ref b7, .int a1]) (rest := []) C B (n_X3_begin n Γ l α B.2.2.1 b6 (cw_k B.2.2 kb6) b7 (cw_k B.2.2 kb7) a1 αh8 qh8) lb_X3_begin lv_X3_begin lk_X11_118 (cw_k B.2.2 kb6) rfl (by decide) rfl hl.1 rfl (Nat.le_of_ble_eq_true rfl) dX11_hear_27 ⟨Nat.le_refl _, Nat.le_refl _⟩) (by decide) rfl (fun Hh8 Lh8 Bh8 => ?_)
      refine lv_aload_n hx hb dX11_hear_30 rfl (lv_at hl 0 rfl) (hp_n (n := 31) rfl ?_)
      refine q_getr (κ := 12) (k := 16) (φ := 616) (pc' := 34) C Bh8 (cw_k Bh8.2.2 k0) fl_X11_82 rfl rfl rfl (cw_r Bh8.2.2 k0 rfl rfl (by decide) (by decide)) dX11_hear_31 rfl (fun b9 eb9 kb9 => ?_)
      replace hf := ms_lE eb9 hf
      refine lv_aload_n hx hb dX11_hear_34 rfl (lv_at hl 0 rfl) (hp_n (n := 35) rfl ?_)
      refine q_getr (κ := 12) (k := 1) (φ := 601) (pc' := 38) C Bh8 (cw_k Bh8.2.2 k0) fl_X11_16 rfl rfl rfl (cw_r Bh8.2.2 k0 rfl rfl (by decide) (by decide)) dX11_hear_35 rfl (fun b10 eb10 kb10 => ?_)
      replace hf := ms_lE eb10 hf
      refine q_geti (κ := 11) (k := 0) (φ := 550) (pc' := 41) C Bh8 (cw_k Bh8.2.2 kb10) fl_X11_122 rfl rfl rfl dX11_hear_38 rfl (fun x11 ex11 => ?_)
      replace hf := ms_lE ex11 hf
      refine lv_aload_n hx hb dX11_hear_41 rfl (lv_at hl 0 rfl) (hp_n (n := 42) rfl ?_)
      refine q_getr (κ := 12) (k := 9) (φ := 609) (pc' := 45) C Bh8 (cw_k Bh8.2.2 k0) fl_X11_50 rfl rfl rfl (cw_r Bh8.2.2 k0 rfl rfl (by decide) (by decide)) dX11_hear_42 rfl (fun b12 eb12 kb12 => ?_)
      replace hf := ms_lE eb12 hf
      obtain ⟨rh13, αh13, qh13, hf⟩ := hq_cE hf
      refine d_ci (pc' := 48) Bh8 (hp_runV (As := [.int x11, .ref b12]) (rest := []) C Bh8 (n_X3_readProofs n Γ l αh8 Bh8.2.2.1 b9 (cw_k Bh8.2.2 kb9) x11 b12 (cw_k Bh8.2.2 kb12) (rh13, αh13) qh13) lb_X3_readProofs lv_X3_readProofs lk_X11_125 (cw_k Bh8.2.2 kb9) rfl (by decide) rfl hl.1 rfl (Nat.le_of_ble_eq_true rfl) dX11_hear_45 ⟨Nat.le_refl _, Nat.le_refl _⟩) (by decide) rfl (fun Hh13 Lh13 Bh13 => ?_)
      refine lv_istore_n (lv' := [(2, .int rh13), (0, .ref a0), (1, .int a1)]) hx hb dX11_hear_48 rfl hl (by decide) rfl (fun ls hl => hp_n (n := 49) rfl ?_)
      refine lv_aload_n hx hb dX11_hear_49 rfl (lv_at hl 1 rfl) (hp_n (n := 50) rfl ?_)
      refine lv_iconst (v := 0) hx hb dX11_hear_50 (by decide) (hp_n (n := 51) rfl ?_)
      refine q_puti (κ := 12) (k := 5) (φ := 605) (pc' := 54) C Bh13 (cw_k Bh13.2.2 k0) fl_X11_34 rfl rfl rfl rfl rfl rfl (cw_sI Bh13.2.2 (by decide) (fun h => absurd h (by decide))) dX11_hear_51 rfl (fun αh14 Hh14 Lh14 eh14 Bh14 => ?_)
      replace hf := ms_lE eh14 hf
      refine lv_iload_n hx hb dX11_hear_54 rfl (lv_at hl 0 rfl) (hp_n (n := 55) rfl ?_)
      refine lv_if_ne (tgt := 65) hx hb dX11_hear_55 (by decide) (fun c15 => ?_) (fun c15 => hp_n (n := 58) rfl ?_)
      ·
        replace hf := ms_iF c15 hf
        refine lv_aload_n hx hb dX11_hear_65 rfl (lv_at hl 1 rfl) (hp_n (n := 66) rfl ?_)
        refine q_getr (κ := 12) (k := 8) (φ := 608) (pc' := 69) C Bh14 (cw_k Bh14.2.2 k0) fl_X11_47 rfl rfl rfl (cw_r Bh14.2.2 k0 rfl rfl (by decide) (by decide)) dX11_hear_66 rfl (fun b16 eb16 kb16 => ?_)
        replace hf := ms_lE eb16 hf
        refine lv_astore_n (lv' := [(3, .ref b16), (2, .int rh13), (0, .ref a0), (1, .int a1)]) hx hb dX11_hear_69 rfl hl (by decide) rfl (fun ls hl => hp_n (n := 70) rfl ?_)
        refine lv_aload_n hx hb dX11_hear_70 rfl (lv_at hl 2 rfl) (hp_n (n := 71) rfl ?_)
        refine lv_aload_n hx hb dX11_hear_71 rfl (lv_at hl 2 rfl) (hp_n (n := 72) rfl ?_)
        refine q_getr (κ := 12) (k := 9) (φ := 609) (pc' := 75) C Bh14 (cw_k Bh14.2.2 k0) fl_X11_50 rfl rfl rfl (cw_r Bh14.2.2 k0 rfl rfl (by decide) (by decide)) dX11_hear_72 rfl (fun b17 eb17 kb17 => ?_)
        replace hf := ms_lE eb17 hf
        refine q_putr (κ := 12) (k := 8) (φ := 608) (pc' := 78) C Bh14 (cw_k Bh14.2.2 k0) fl_X11_47 rfl rfl rfl rfl rfl rfl (cw_sR Bh14.2.2 (by decide) (Or.inl kb17)) dX11_hear_75 rfl (fun αh18 Hh18 Lh18 eh18 Bh18 => ?_)
        replace hf := ms_lE eh18 hf
        refine lv_aload_n hx hb dX11_hear_78 rfl (lv_at hl 2 rfl) (hp_n (n := 79) rfl ?_)
        refine lv_aload_n hx hb dX11_hear_79 rfl (lv_at hl 0 rfl) (hp_n (n := 80) rfl ?_)
        refine q_putr (κ := 12) (k := 9) (φ := 609) (pc' := 83) C Bh18 (cw_k Bh18.2.2 k0) fl_X11_50 rfl rfl rfl rfl rfl rfl (cw_sR Bh18.2.2 (by decide) (Or.inl kb16)) dX11_hear_80 rfl (fun αh19 Hh19 Lh19 eh19 Bh19 => ?_)
        replace hf := ms_lE eh19 hf
        refine lv_aload_n hx hb dX11_hear_83 rfl (lv_at hl 2 rfl) (hp_n (n := 84) rfl ?_)
        refine lv_aload_n hx hb dX11_hear_84 rfl (lv_at hl 2 rfl) (hp_n (n := 85) rfl ?_)
        refine q_getr (κ := 12) (k := 8) (φ := 608) (pc' := 88) C Bh19 (cw_k Bh19.2.2 k0) fl_X11_47 rfl rfl rfl (cw_r Bh19.2.2 k0 rfl rfl (by decide) (by decide)) dX11_hear_85 rfl (fun b20 eb20 kb20 => ?_)
        replace hf := ms_lE eb20 hf
        refine lv_iconst (v := 0) hx hb dX11_hear_88 (by decide) (hp_n (n := 89) rfl ?_)
        obtain ⟨rh21, qh21, hf⟩ := ms_bE hf
        refine d_pi (pc' := 92) Bh19 (hp_runV (As := [.int (0 : Int32)]) (rest := [.ref a0]) C Bh19 (n_X5_countOf n Γ l αh19 Bh19.2.2.1 b20 (cw_k Bh19.2.2 kb20) (0 : Int32) rh21 qh21) lb_X5_countOf lv_X5_countOf lk_X11_129 (cw_k Bh19.2.2 kb20) rfl (by decide) rfl hl.1 rfl (Nat.le_of_ble_eq_true rfl) dX11_hear_89 ⟨Nat.le_refl _, Nat.le_refl _⟩) rfl (fun Hh21 Lh21 Bh21 => ?_)
        obtain ⟨rh22, αh22, qh22, hf⟩ := hq_cE hf
        refine d_ci (pc' := 95) Bh21 (hp_runV (As := [.int rh21]) (rest := []) C Bh21 (n_X11_answer n Γ l αh19 Bh21.2.2.1 a0 (cw_k Bh21.2.2 k0) rh21 (rh22, αh22) qh22) lb_X11_answer lv_X11_answer lk_X11_115 (cw_k Bh21.2.2 k0) rfl (by decide) rfl hl.1 rfl (Nat.le_of_ble_eq_true rfl) dX11_hear_92 ⟨Nat.le_refl _, Nat.le_refl _⟩) (by decide) rfl (fun Hh22 Lh22 Bh22 => ?_)
        cases hf
        exact q_iret C Bh22 hr hlk ⟨rfl, rfl, Bh22.2.2⟩ dX11_hear_95
      ·
        replace hf := ms_iT c15 hf
        refine lv_aload_n hx hb dX11_hear_58 rfl (lv_at hl 1 rfl) (hp_n (n := 59) rfl ?_)
        refine lv_bipush (v := 9) hx hb dX11_hear_59 (by decide) (hp_n (n := 61) rfl ?_)
        obtain ⟨rh23, αh23, qh23, hf⟩ := hq_cE hf
        refine d_ci (pc' := 64) Bh14 (hp_runV (As := [.int (9 : Int32)]) (rest := []) C Bh14 (n_X11_refuse n Γ l αh14 Bh14.2.2.1 a0 (cw_k Bh14.2.2 k0) (9 : Int32) (rh23, αh23) qh23) lb_X11_refuse lv_X11_refuse lk_X11_98 (cw_k Bh14.2.2 k0) rfl (by decide) rfl hl.1 rfl (Nat.le_of_ble_eq_true rfl) dX11_hear_61 ⟨Nat.le_refl _, Nat.le_refl _⟩) (by decide) rfl (fun Hh23 Lh23 Bh23 => ?_)
        cases hf
        exact q_iret C Bh23 hr hlk ⟨rfl, rfl, Bh23.2.2⟩ dX11_hear_64
    ·
      replace hf := ms_iF c5 hf
      exact J12 α s.heap [] B ls (lv_sub hl [0] rfl) hf
def f_X10_sickBits_J63 (n : Nat) (a0 : Nat) (rec22 : hp_T → Nat → Nat → Int32 → Int32 → Option (Int32 × hp_T)) (αh12 : hp_T) (v1_h12 : Nat) (v2_h12 : Nat) (v3_h12 : Int32) (v4_h12 : Int32) : Option (Int32 × hp_T) :=
  ms_l (v4_h12 + 1) fun x13 =>
  rec22 αh12 v1_h12 v2_h12 v3_h12 x13
def f_X10_sickBits_L22 (n : Nat) (a0 : Nat) : Nat → hp_T → Nat → Nat → Int32 → Int32 → Option (Int32 × hp_T)
  | 0, _, _, _, _, _ => none
  | k22 + 1, αh5, v1_h5, v2_h5, v3_h5, v4_h5 =>
    ms_l (hp_I αh5 301 v2_h5) fun x6 =>
    if x6 ≤ v4_h5 then
      some (v3_h5, αh5)
    else
      if (31 : Int32) ≤ v4_h5 then
        some (v3_h5, αh5)
      else
        ms_b (f_X5_at n αh5 v2_h5 v4_h5) fun rh9 =>
        ms_l (hp_R αh5 104 v1_h5) fun b10 =>
        ms_b (f_X5_at n αh5 b10 v4_h5) fun rh11 =>
        if rh9 = rh11 then
          f_X10_sickBits_J63 n a0 (f_X10_sickBits_L22 n a0 k22) αh5 v1_h5 v2_h5 v3_h5 v4_h5
        else
          ms_l ((v3_h5 ||| ((1 : Int32) <<< (v4_h5 &&& 31)))) fun x15 =>
          f_X10_sickBits_J63 n a0 (f_X10_sickBits_L22 n a0 k22) αh5 v1_h5 v2_h5 x15 v4_h5
def f_X10_sickBits (n : Nat) (α : hp_T) (a0 : Nat) (a1 : Nat) (a2 : Nat) : Option (Int32 × hp_T) :=
  ms_l (hp_I α 100 a1) fun x1 =>
  ms_b (f_X10_logAt n α a0 x1) fun rh2 =>
  hq_m rh2 (
    ms_l (hp_I α 101 a1) fun x3 =>
    ms_b (f_X10_peaksOf n α a0 none x3 a2) fun αh4 =>
    f_X10_sickBits_L22 n a0 n αh4 a1 a2 (0 : Int32) (0 : Int32)) fun bh2 =>
  ms_l (hp_I α 101 a1) fun x16 =>
  ms_b (f_X10_peaksOf n α a0 (some bh2) x16 a2) fun αh17 =>
  f_X10_sickBits_L22 n a0 n αh17 a1 a2 (0 : Int32) (0 : Int32)
set_option maxRecDepth 100000 in
set_option maxHeartbeats 4000000 in
theorem n_X10_sickBits (n : Nat) (Γ : hp_G) (l : Launch) (α : hp_T) (g : GC α) (a0 : Nat) (k0 : hp_K α a0 = 11) (a1 : Nat) (k1 : hp_K α a1 = 2) (a2 : Nat) (k2 : hp_K α a2 = 6) (res : (Int32 × hp_T)) (hf : f_X10_sickBits n α a0 a1 a2 = some res) : Met l yX10_sickBits (hp_ws yX10_sickBits cX10_sickBits 5 (some .int)) (hp_rm 3 0 0) (hp_Pc Γ α [.ref a0, .ref a1, .ref a2]) (hp_Qi Γ (fun r β => r = res.1 ∧ β = res.2 ∧ cw w_X10_sickBits α β)) 0 0 (hp_A Γ) := by
  unfold f_X10_sickBits at hf
  refine hp_start (by decide) ?_
  intro p e s m below meth c C hr hlk B0 hnm
  have C : hp_C Γ p m c cX10_sickBits 5 s ([.ref a0, .ref a1, .ref a2] : List Value).toArray RX10 := C
  have hx := C.1.1
  have hb := C.1.2.1
  have hown := C.1.2.2.2.1
  have hts := C.1.2.2.2.2
  have B : hp_B Γ (cw w_X10_sickBits) s α α s.heap [] := ⟨B0.1, B0.2.1, cw_rf g⟩
  have hl := lv_entry ([.ref a0, .ref a1, .ref a2]) (n := 5) (Nat.le_of_ble_eq_true rfl)
  show W p l e (hp_rm 3 0 0) s m ([.ref a0, .ref a1, .ref a2] : List Value).toArray below meth c s.heap [] 0 0 (MQ below (hp_Qi Γ (fun r β => r = res.1 ∧ β = res.2 ∧ cw w_X10_sickBits α β)) ([.ref a0, .ref a1, .ref a2] : List Value).toArray s 0 0 (hp_A Γ)) (entryFrame m ([.ref a0, .ref a1, .ref a2] : List Value).toArray 5)
  rw [lg_entry_eq]
  generalize (lg_sl ([.ref a0, .ref a1, .ref a2]) ++ List.replicate (5 - (lg_sl ([.ref a0, .ref a1, .ref a2])).length) Slot.unset).toArray = ls at hl ⊢
  have hl : lv_has ls 5 [(0, .ref a0), (1, .ref a1), (2, .ref a2)] := hl
  refine lv_aload_n hx hb dX10_sickBits_0 rfl (lv_at hl 0 rfl) (hp_n (n := 1) rfl ?_)
  refine lv_aload_n hx hb dX10_sickBits_1 rfl (lv_at hl 0 rfl) (hp_n (n := 2) rfl ?_)
  refine lv_aload_n hx hb dX10_sickBits_2 rfl (lv_at hl 1 rfl) (hp_n (n := 3) rfl ?_)
  refine q_geti (κ := 2) (k := 0) (φ := 100) (pc' := 6) C B (cw_k B.2.2 k1) fl_X10_128 rfl rfl rfl dX10_sickBits_3 rfl (fun x1 ex1 => ?_)
  replace hf := ms_lE ex1 hf
  obtain ⟨rh2, qh2, hf⟩ := ms_bE hf
  refine d_pq (pc' := 9) B (hp_runV (As := [.int x1]) (rest := [.ref a0]) C B (n_X10_logAt n Γ l α B.2.2.1 a0 (cw_k B.2.2 k0) x1 rh2 qh2) lb_X10_logAt lv_X10_logAt lk_X10_64 (cw_k B.2.2 k0) rfl (by decide) rfl hl.1 rfl (Nat.le_of_ble_eq_true rfl) dX10_sickBits_6 ⟨Nat.le_refl _, Nat.le_refl _⟩) rfl (fun Hh2 Lh2 Bh2 kh2 => ?_)
  rcases rh2 with _ | bh2
  ·
    replace hf := hq_N hf
    refine lv_aload_n hx hb dX10_sickBits_9 rfl (lv_at hl 1 rfl) (hp_n (n := 10) rfl ?_)
    refine q_geti (κ := 2) (k := 1) (φ := 101) (pc' := 13) C Bh2 (cw_k Bh2.2.2 k1) fl_X10_131 rfl rfl rfl dX10_sickBits_10 rfl (fun x3 ex3 => ?_)
    replace hf := ms_lE ex3 hf
    refine lv_aload_n hx hb dX10_sickBits_13 rfl (lv_at hl 2 rfl) (hp_n (n := 14) rfl ?_)
    obtain ⟨αh4, qh4, hf⟩ := ms_bE hf
    refine d_cv (pc' := 17) Bh2 (hp_runV (As := [va_rf none, .int x3, .ref a2]) (rest := []) C Bh2 (n_X10_peaksOf n Γ l α Bh2.2.2.1 a0 (cw_k Bh2.2.2 k0) none (fun b h => by cases h) x3 a2 (cw_k Bh2.2.2 k2) αh4 qh4) lb_X10_peaksOf lv_X10_peaksOf lk_X10_143 (cw_k Bh2.2.2 k0) rfl (by decide) rfl hl.1 rfl (Nat.le_of_ble_eq_true rfl) dX10_sickBits_14 ⟨Nat.le_refl _, Nat.le_refl _⟩) (by decide) rfl (fun Hh4 Lh4 Bh4 => ?_)
    refine lv_iconst (v := 0) hx hb dX10_sickBits_17 (by decide) (hp_n (n := 18) rfl ?_)
    refine lv_istore_n (lv' := [(3, .int (0 : Int32)), (0, .ref a0), (1, .ref a1), (2, .ref a2)]) hx hb dX10_sickBits_18 rfl hl (by decide) rfl (fun ls hl => hp_n (n := 19) rfl ?_)
    refine lv_iconst (v := 0) hx hb dX10_sickBits_19 (by decide) (hp_n (n := 20) rfl ?_)
    have J22 : ∀ (k22 : Nat) (αh5 : hp_T) (Hh5 : Heap) (Lh5 : List Loc) (Bh5 : hp_B Γ (cw w_X10_sickBits) s α αh5 Hh5 Lh5) (v1_h5 : Nat) (kv1_h5 : hp_K α v1_h5 = 2) (v2_h5 : Nat) (kv2_h5 : hp_K α v2_h5 = 6) (v3_h5 : Int32) (v4_h5 : Int32) (ls : Array Slot) (hl : lv_has ls 5 [(1, .ref v1_h5), (2, .ref v2_h5), (3, .int v3_h5), (4, .int v4_h5)]) (hf : f_X10_sickBits_L22 n a0 k22 αh5 v1_h5 v2_h5 v3_h5 v4_h5 = some res), W p l e (hp_rm 3 0 0) s m ([.ref a0, .ref a1, .ref a2] : List Value).toArray below meth c Hh5 Lh5 0 0 (MQ below (hp_Qi Γ (fun r β => r = res.1 ∧ β = res.2 ∧ cw w_X10_sickBits α β)) ([.ref a0, .ref a1, .ref a2] : List Value).toArray s 0 0 (hp_A Γ)) (F0 m 22 ls []) := by
      intro k22
      induction k22 with
      | zero => intro αh5 Hh5 Lh5 Bh5 v1_h5 kv1_h5 v2_h5 kv2_h5 v3_h5 v4_h5 ls hl hf; rw [f_X10_sickBits_L22.eq_1] at hf; cases hf
      | succ k22 ih22 =>
        intro αh5 Hh5 Lh5 Bh5 v1_h5 kv1_h5 v2_h5 kv2_h5 v3_h5 v4_h5 ls hl hf
        rw [f_X10_sickBits_L22.eq_2] at hf
        refine lv_iload hx hb dX10_sickBits_22 (lv_at hl 3 rfl) (hp_n (n := 24) rfl ?_)
        refine lv_aload_n hx hb dX10_sickBits_24 rfl (lv_at hl 1 rfl) (hp_n (n := 25) rfl ?_)
        refine q_geti (κ := 6) (k := 1) (φ := 301) (pc' := 28) C Bh5 (cw_k Bh5.2.2 kv2_h5) fl_X10_184 rfl rfl rfl dX10_sickBits_25 rfl (fun x6 ex6 => ?_)
        replace hf := ms_lE ex6 hf
        refine lv_icmp_ge (tgt := 69) hx hb dX10_sickBits_28 (by decide) (fun c7 => ?_) (fun c7 => hp_n (n := 31) rfl ?_)
        ·
          replace hf := ms_iT c7 hf
          refine lv_iload_n hx hb dX10_sickBits_69 rfl (lv_at hl 2 rfl) (hp_n (n := 70) rfl ?_)
          cases hf
          exact q_iret C Bh5 hr hlk ⟨rfl, rfl, Bh5.2.2⟩ dX10_sickBits_70
        ·
          replace hf := ms_iF c7 hf
          refine lv_iload hx hb dX10_sickBits_31 (lv_at hl 3 rfl) (hp_n (n := 33) rfl ?_)
          refine lv_bipush (v := 31) hx hb dX10_sickBits_33 (by decide) (hp_n (n := 35) rfl ?_)
          refine lv_icmp_ge (tgt := 69) hx hb dX10_sickBits_35 (by decide) (fun c8 => ?_) (fun c8 => hp_n (n := 38) rfl ?_)
          ·
            replace hf := ms_iT c8 hf
            refine lv_iload_n hx hb dX10_sickBits_69 rfl (lv_at hl 2 rfl) (hp_n (n := 70) rfl ?_)
            cases hf
            exact q_iret C Bh5 hr hlk ⟨rfl, rfl, Bh5.2.2⟩ dX10_sickBits_70
          ·
            replace hf := ms_iF c8 hf
            refine lv_aload_n hx hb dX10_sickBits_38 rfl (lv_at hl 1 rfl) (hp_n (n := 39) rfl ?_)
            refine lv_iload hx hb dX10_sickBits_39 (lv_at hl 3 rfl) (hp_n (n := 41) rfl ?_)
            obtain ⟨rh9, qh9, hf⟩ := ms_bE hf
            refine d_pi (pc' := 44) Bh5 (hp_runV (As := [.int v4_h5]) (rest := []) C Bh5 (n_X5_at n Γ l αh5 Bh5.2.2.1 v2_h5 (cw_k Bh5.2.2 kv2_h5) v4_h5 rh9 qh9) lb_X5_at lv_X5_at lk_X10_185 (cw_k Bh5.2.2 kv2_h5) rfl (by decide) rfl hl.1 rfl (Nat.le_of_ble_eq_true rfl) dX10_sickBits_41 ⟨Nat.le_refl _, Nat.le_refl _⟩) rfl (fun Hh9 Lh9 Bh9 => ?_)
            refine lv_aload_n hx hb dX10_sickBits_44 rfl (lv_at hl 0 rfl) (hp_n (n := 45) rfl ?_)
            refine q_getr (κ := 2) (k := 4) (φ := 104) (pc' := 48) C Bh9 (cw_k Bh9.2.2 kv1_h5) fl_X10_140 rfl rfl rfl (cw_r Bh9.2.2 kv1_h5 rfl rfl (by decide) (by decide)) dX10_sickBits_45 rfl (fun b10 eb10 kb10 => ?_)
            replace hf := ms_lE eb10 hf
            refine lv_iload hx hb dX10_sickBits_48 (lv_at hl 3 rfl) (hp_n (n := 50) rfl ?_)
            obtain ⟨rh11, qh11, hf⟩ := ms_bE hf
            refine d_pi (pc' := 53) Bh9 (hp_runV (As := [.int v4_h5]) (rest := [.int rh9]) C Bh9 (n_X5_at n Γ l αh5 Bh9.2.2.1 b10 (cw_k Bh9.2.2 kb10) v4_h5 rh11 qh11) lb_X5_at lv_X5_at lk_X10_185 (cw_k Bh9.2.2 kb10) rfl (by decide) rfl hl.1 rfl (Nat.le_of_ble_eq_true rfl) dX10_sickBits_50 ⟨Nat.le_refl _, Nat.le_refl _⟩) rfl (fun Hh11 Lh11 Bh11 => ?_)
            have J63 : ∀ (αh12 : hp_T) (Hh12 : Heap) (Lh12 : List Loc) (Bh12 : hp_B Γ (cw w_X10_sickBits) s α αh12 Hh12 Lh12) (v1_h12 : Nat) (kv1_h12 : hp_K α v1_h12 = 2) (v2_h12 : Nat) (kv2_h12 : hp_K α v2_h12 = 6) (v3_h12 : Int32) (v4_h12 : Int32) (ls : Array Slot) (hl : lv_has ls 5 [(1, .ref v1_h12), (2, .ref v2_h12), (3, .int v3_h12), (4, .int v4_h12)]) (hf : f_X10_sickBits_J63 n a0 (f_X10_sickBits_L22 n a0 k22) αh12 v1_h12 v2_h12 v3_h12 v4_h12 = some res), W p l e (hp_rm 3 0 0) s m ([.ref a0, .ref a1, .ref a2] : List Value).toArray below meth c Hh12 Lh12 0 0 (MQ below (hp_Qi Γ (fun r β => r = res.1 ∧ β = res.2 ∧ cw w_X10_sickBits α β)) ([.ref a0, .ref a1, .ref a2] : List Value).toArray s 0 0 (hp_A Γ)) (F0 m 63 ls []) := by
              intro αh12 Hh12 Lh12 Bh12 v1_h12 kv1_h12 v2_h12 kv2_h12 v3_h12 v4_h12 ls hl hf
              unfold f_X10_sickBits_J63 at hf
              obtain ⟨x13, ex13⟩ : ∃ y : Int32, y = v4_h12 + 1 := ⟨_, rfl⟩
              replace hf := ms_lE ex13 hf
              refine lv_iinc (v := x13) (lv' := [(4, .int x13), (1, .ref v1_h12), (2, .ref v2_h12), (3, .int v3_h12)]) hx hb dX10_sickBits_63 hl (k := 3) rfl (by rw [ex13]; rfl) (by decide) rfl (fun ls hl => hp_n (n := 66) rfl ?_)
              refine lv_goto (tgt := 22) hx hb dX10_sickBits_66 (by decide) ?_
              exact ih22 αh12 Hh12 Lh12 Bh12 v1_h12 kv1_h12 v2_h12 kv2_h12 v3_h12 x13 ls (lv_sub hl [1, 2, 3, 0] rfl) hf
            refine lv_icmp_eq (tgt := 63) hx hb dX10_sickBits_53 (by decide) (fun c14 => ?_) (fun c14 => hp_n (n := 56) rfl ?_)
            ·
              replace hf := ms_iT c14 hf
              exact J63 αh5 Hh11 Lh11 Bh11 v1_h5 kv1_h5 v2_h5 kv2_h5 v3_h5 v4_h5 ls (lv_sub hl [0, 1, 2, 3] rfl) hf
            ·
              replace hf := ms_iF c14 hf
              refine lv_iload_n hx hb dX10_sickBits_56 rfl (lv_at hl 2 rfl) (hp_n (n := 57) rfl ?_)
              refine lv_iconst (v := 1) hx hb dX10_sickBits_57 (by decide) (hp_n (n := 58) rfl ?_)
              refine lv_iload hx hb dX10_sickBits_58 (lv_at hl 3 rfl) (hp_n (n := 60) rfl ?_)
              refine lv_ishl hx hb dX10_sickBits_60 (hp_n (n := 61) rfl ?_)
              refine lv_ior hx hb dX10_sickBits_61 (hp_n (n := 62) rfl ?_)
              refine lv_topi (fun x15 ex15 => ?_)
              replace hf := ms_lE ex15 hf
              refine lv_istore_n (lv' := [(3, .int x15), (1, .ref v1_h5), (2, .ref v2_h5), (4, .int v4_h5)]) hx hb dX10_sickBits_62 rfl hl (by decide) rfl (fun ls hl => hp_n (n := 63) rfl ?_)
              exact J63 αh5 Hh11 Lh11 Bh11 v1_h5 kv1_h5 v2_h5 kv2_h5 x15 v4_h5 ls (lv_sub hl [1, 2, 0, 3] rfl) hf
    refine lv_istore (lv' := [(4, .int (0 : Int32)), (3, .int (0 : Int32)), (0, .ref a0), (1, .ref a1), (2, .ref a2)]) hx hb dX10_sickBits_20 hl (by decide) rfl (fun ls hl => hp_n (n := 22) rfl ?_)
    exact J22 n αh4 Hh4 Lh4 Bh4 a1 k1 a2 k2 (0 : Int32) (0 : Int32) ls (lv_sub hl [3, 4, 1, 0] rfl) hf
  ·
    replace hf := hq_S hf
    have kbh2 := kh2 bh2 rfl
    refine lv_aload_n hx hb dX10_sickBits_9 rfl (lv_at hl 1 rfl) (hp_n (n := 10) rfl ?_)
    refine q_geti (κ := 2) (k := 1) (φ := 101) (pc' := 13) C Bh2 (cw_k Bh2.2.2 k1) fl_X10_131 rfl rfl rfl dX10_sickBits_10 rfl (fun x16 ex16 => ?_)
    replace hf := ms_lE ex16 hf
    refine lv_aload_n hx hb dX10_sickBits_13 rfl (lv_at hl 2 rfl) (hp_n (n := 14) rfl ?_)
    obtain ⟨αh17, qh17, hf⟩ := ms_bE hf
    refine d_cv (pc' := 17) Bh2 (hp_runV (As := [va_rf (some bh2), .int x16, .ref a2]) (rest := []) C Bh2 (n_X10_peaksOf n Γ l α Bh2.2.2.1 a0 (cw_k Bh2.2.2 k0) (some bh2) (fun b h => by cases h; exact (cw_k Bh2.2.2 kbh2)) x16 a2 (cw_k Bh2.2.2 k2) αh17 qh17) lb_X10_peaksOf lv_X10_peaksOf lk_X10_143 (cw_k Bh2.2.2 k0) rfl (by decide) rfl hl.1 rfl (Nat.le_of_ble_eq_true rfl) dX10_sickBits_14 ⟨Nat.le_refl _, Nat.le_refl _⟩) (by decide) rfl (fun Hh17 Lh17 Bh17 => ?_)
    refine lv_iconst (v := 0) hx hb dX10_sickBits_17 (by decide) (hp_n (n := 18) rfl ?_)
    refine lv_istore_n (lv' := [(3, .int (0 : Int32)), (0, .ref a0), (1, .ref a1), (2, .ref a2)]) hx hb dX10_sickBits_18 rfl hl (by decide) rfl (fun ls hl => hp_n (n := 19) rfl ?_)
    refine lv_iconst (v := 0) hx hb dX10_sickBits_19 (by decide) (hp_n (n := 20) rfl ?_)
    have J22 : ∀ (k22 : Nat) (αh18 : hp_T) (Hh18 : Heap) (Lh18 : List Loc) (Bh18 : hp_B Γ (cw w_X10_sickBits) s α αh18 Hh18 Lh18) (v1_h18 : Nat) (kv1_h18 : hp_K α v1_h18 = 2) (v2_h18 : Nat) (kv2_h18 : hp_K α v2_h18 = 6) (v3_h18 : Int32) (v4_h18 : Int32) (ls : Array Slot) (hl : lv_has ls 5 [(1, .ref v1_h18), (2, .ref v2_h18), (3, .int v3_h18), (4, .int v4_h18)]) (hf : f_X10_sickBits_L22 n a0 k22 αh18 v1_h18 v2_h18 v3_h18 v4_h18 = some res), W p l e (hp_rm 3 0 0) s m ([.ref a0, .ref a1, .ref a2] : List Value).toArray below meth c Hh18 Lh18 0 0 (MQ below (hp_Qi Γ (fun r β => r = res.1 ∧ β = res.2 ∧ cw w_X10_sickBits α β)) ([.ref a0, .ref a1, .ref a2] : List Value).toArray s 0 0 (hp_A Γ)) (F0 m 22 ls []) := by
      intro k22
      induction k22 with
      | zero => intro αh18 Hh18 Lh18 Bh18 v1_h18 kv1_h18 v2_h18 kv2_h18 v3_h18 v4_h18 ls hl hf; rw [f_X10_sickBits_L22.eq_1] at hf; cases hf
      | succ k22 ih22 =>
        intro αh18 Hh18 Lh18 Bh18 v1_h18 kv1_h18 v2_h18 kv2_h18 v3_h18 v4_h18 ls hl hf
        rw [f_X10_sickBits_L22.eq_2] at hf
        refine lv_iload hx hb dX10_sickBits_22 (lv_at hl 3 rfl) (hp_n (n := 24) rfl ?_)
        refine lv_aload_n hx hb dX10_sickBits_24 rfl (lv_at hl 1 rfl) (hp_n (n := 25) rfl ?_)
        refine q_geti (κ := 6) (k := 1) (φ := 301) (pc' := 28) C Bh18 (cw_k Bh18.2.2 kv2_h18) fl_X10_184 rfl rfl rfl dX10_sickBits_25 rfl (fun x19 ex19 => ?_)
        replace hf := ms_lE ex19 hf
        refine lv_icmp_ge (tgt := 69) hx hb dX10_sickBits_28 (by decide) (fun c20 => ?_) (fun c20 => hp_n (n := 31) rfl ?_)
        ·
          replace hf := ms_iT c20 hf
          refine lv_iload_n hx hb dX10_sickBits_69 rfl (lv_at hl 2 rfl) (hp_n (n := 70) rfl ?_)
          cases hf
          exact q_iret C Bh18 hr hlk ⟨rfl, rfl, Bh18.2.2⟩ dX10_sickBits_70
        ·
          replace hf := ms_iF c20 hf
          refine lv_iload hx hb dX10_sickBits_31 (lv_at hl 3 rfl) (hp_n (n := 33) rfl ?_)
          refine lv_bipush (v := 31) hx hb dX10_sickBits_33 (by decide) (hp_n (n := 35) rfl ?_)
          refine lv_icmp_ge (tgt := 69) hx hb dX10_sickBits_35 (by decide) (fun c21 => ?_) (fun c21 => hp_n (n := 38) rfl ?_)
          ·
            replace hf := ms_iT c21 hf
            refine lv_iload_n hx hb dX10_sickBits_69 rfl (lv_at hl 2 rfl) (hp_n (n := 70) rfl ?_)
            cases hf
            exact q_iret C Bh18 hr hlk ⟨rfl, rfl, Bh18.2.2⟩ dX10_sickBits_70
          ·
            replace hf := ms_iF c21 hf
            refine lv_aload_n hx hb dX10_sickBits_38 rfl (lv_at hl 1 rfl) (hp_n (n := 39) rfl ?_)
            refine lv_iload hx hb dX10_sickBits_39 (lv_at hl 3 rfl) (hp_n (n := 41) rfl ?_)
            obtain ⟨rh22, qh22, hf⟩ := ms_bE hf
            refine d_pi (pc' := 44) Bh18 (hp_runV (As := [.int v4_h18]) (rest := []) C Bh18 (n_X5_at n Γ l αh18 Bh18.2.2.1 v2_h18 (cw_k Bh18.2.2 kv2_h18) v4_h18 rh22 qh22) lb_X5_at lv_X5_at lk_X10_185 (cw_k Bh18.2.2 kv2_h18) rfl (by decide) rfl hl.1 rfl (Nat.le_of_ble_eq_true rfl) dX10_sickBits_41 ⟨Nat.le_refl _, Nat.le_refl _⟩) rfl (fun Hh22 Lh22 Bh22 => ?_)
            refine lv_aload_n hx hb dX10_sickBits_44 rfl (lv_at hl 0 rfl) (hp_n (n := 45) rfl ?_)
            refine q_getr (κ := 2) (k := 4) (φ := 104) (pc' := 48) C Bh22 (cw_k Bh22.2.2 kv1_h18) fl_X10_140 rfl rfl rfl (cw_r Bh22.2.2 kv1_h18 rfl rfl (by decide) (by decide)) dX10_sickBits_45 rfl (fun b23 eb23 kb23 => ?_)
            replace hf := ms_lE eb23 hf
            refine lv_iload hx hb dX10_sickBits_48 (lv_at hl 3 rfl) (hp_n (n := 50) rfl ?_)
            obtain ⟨rh24, qh24, hf⟩ := ms_bE hf
            refine d_pi (pc' := 53) Bh22 (hp_runV (As := [.int v4_h18]) (rest := [.int rh22]) C Bh22 (n_X5_at n Γ l αh18 Bh22.2.2.1 b23 (cw_k Bh22.2.2 kb23) v4_h18 rh24 qh24) lb_X5_at lv_X5_at lk_X10_185 (cw_k Bh22.2.2 kb23) rfl (by decide) rfl hl.1 rfl (Nat.le_of_ble_eq_true rfl) dX10_sickBits_50 ⟨Nat.le_refl _, Nat.le_refl _⟩) rfl (fun Hh24 Lh24 Bh24 => ?_)
            have J63 : ∀ (αh25 : hp_T) (Hh25 : Heap) (Lh25 : List Loc) (Bh25 : hp_B Γ (cw w_X10_sickBits) s α αh25 Hh25 Lh25) (v1_h25 : Nat) (kv1_h25 : hp_K α v1_h25 = 2) (v2_h25 : Nat) (kv2_h25 : hp_K α v2_h25 = 6) (v3_h25 : Int32) (v4_h25 : Int32) (ls : Array Slot) (hl : lv_has ls 5 [(1, .ref v1_h25), (2, .ref v2_h25), (3, .int v3_h25), (4, .int v4_h25)]) (hf : f_X10_sickBits_J63 n a0 (f_X10_sickBits_L22 n a0 k22) αh25 v1_h25 v2_h25 v3_h25 v4_h25 = some res), W p l e (hp_rm 3 0 0) s m ([.ref a0, .ref a1, .ref a2] : List Value).toArray below meth c Hh25 Lh25 0 0 (MQ below (hp_Qi Γ (fun r β => r = res.1 ∧ β = res.2 ∧ cw w_X10_sickBits α β)) ([.ref a0, .ref a1, .ref a2] : List Value).toArray s 0 0 (hp_A Γ)) (F0 m 63 ls []) := by
              intro αh25 Hh25 Lh25 Bh25 v1_h25 kv1_h25 v2_h25 kv2_h25 v3_h25 v4_h25 ls hl hf
              unfold f_X10_sickBits_J63 at hf
              obtain ⟨x26, ex26⟩ : ∃ y : Int32, y = v4_h25 + 1 := ⟨_, rfl⟩
              replace hf := ms_lE ex26 hf
              refine lv_iinc (v := x26) (lv' := [(4, .int x26), (1, .ref v1_h25), (2, .ref v2_h25), (3, .int v3_h25)]) hx hb dX10_sickBits_63 hl (k := 3) rfl (by rw [ex26]; rfl) (by decide) rfl (fun ls hl => hp_n (n := 66) rfl ?_)
              refine lv_goto (tgt := 22) hx hb dX10_sickBits_66 (by decide) ?_
              exact ih22 αh25 Hh25 Lh25 Bh25 v1_h25 kv1_h25 v2_h25 kv2_h25 v3_h25 x26 ls (lv_sub hl [1, 2, 3, 0] rfl) hf
            refine lv_icmp_eq (tgt := 63) hx hb dX10_sickBits_53 (by decide) (fun c27 => ?_) (fun c27 => hp_n (n := 56) rfl ?_)
            ·
              replace hf := ms_iT c27 hf
              exact J63 αh18 Hh24 Lh24 Bh24 v1_h18 kv1_h18 v2_h18 kv2_h18 v3_h18 v4_h18 ls (lv_sub hl [0, 1, 2, 3] rfl) hf
            ·
              replace hf := ms_iF c27 hf
              refine lv_iload_n hx hb dX10_sickBits_56 rfl (lv_at hl 2 rfl) (hp_n (n := 57) rfl ?_)
              refine lv_iconst (v := 1) hx hb dX10_sickBits_57 (by decide) (hp_n (n := 58) rfl ?_)
              refine lv_iload hx hb dX10_sickBits_58 (lv_at hl 3 rfl) (hp_n (n := 60) rfl ?_)
              refine lv_ishl hx hb dX10_sickBits_60 (hp_n (n := 61) rfl ?_)
              refine lv_ior hx hb dX10_sickBits_61 (hp_n (n := 62) rfl ?_)
              refine lv_topi (fun x28 ex28 => ?_)
              replace hf := ms_lE ex28 hf
              refine lv_istore_n (lv' := [(3, .int x28), (1, .ref v1_h18), (2, .ref v2_h18), (4, .int v4_h18)]) hx hb dX10_sickBits_62 rfl hl (by decide) rfl (fun ls hl => hp_n (n := 63) rfl ?_)
              exact J63 αh18 Hh24 Lh24 Bh24 v1_h18 kv1_h18 v2_h18 kv2_h18 x28 v4_h18 ls (lv_sub hl [1, 2, 0, 3] rfl) hf
    refine lv_istore (lv' := [(4, .int (0 : Int32)), (3, .int (0 : Int32)), (0, .ref a0), (1, .ref a1), (2, .ref a2)]) hx hb dX10_sickBits_20 hl (by decide) rfl (fun ls hl => hp_n (n := 22) rfl ?_)
    exact J22 n αh17 Hh17 Lh17 Bh17 a1 k1 a2 k2 (0 : Int32) (0 : Int32) ls (lv_sub hl [3, 4, 1, 0] rfl) hf
def f_X11_sick (n : Nat) (α : hp_T) (a0 : Nat) (a1 : Int32) : Option (Int32 × hp_T) :=
  if 0 ≤ a1 then
    ms_l (hp_R α 601 a0) fun b2 =>
    ms_b (f_X10_frozenAt n α b2 a1) fun rh3 =>
    hq_m rh3 (
      hq_c (f_X11_refuse n α a0 (5 : Int32)) fun rh4 αh4 =>
      some (rh4, αh4)) fun bh3 =>
    ms_l (hp_R α 601 a0) fun b5 =>
    ms_l (hp_R α 614 a0) fun b6 =>
    hq_c (f_X10_sickBits n α b5 bh3 b6) fun rh7 αh7 =>
    hq_c (f_X11_answer n αh7 a0 rh7) fun rh8 αh8 =>
    some (rh8, αh8)
  else
    hq_c (f_X11_refuse n α a0 (1 : Int32)) fun rh9 αh9 =>
    some (rh9, αh9)
set_option maxRecDepth 100000 in
set_option maxHeartbeats 4000000 in
theorem n_X11_sick (n : Nat) (Γ : hp_G) (l : Launch) (α : hp_T) (g : GC α) (a0 : Nat) (k0 : hp_K α a0 = 12) (a1 : Int32) (res : (Int32 × hp_T)) (hf : f_X11_sick n α a0 a1 = some res) : Met l yX11_sick (hp_ws yX11_sick cX11_sick 3 (some .int)) (hp_rm 4 0 0) (hp_Pc Γ α [.ref a0, .int a1]) (hp_Qi Γ (fun r β => r = res.1 ∧ β = res.2 ∧ cw w_X11_sick α β)) 0 0 (hp_A Γ) := by
  unfold f_X11_sick at hf
  refine hp_start (by decide) ?_
  intro p e s m below meth c C hr hlk B0 hnm
  have C : hp_C Γ p m c cX11_sick 3 s ([.ref a0, .int a1] : List Value).toArray RX11 := C
  have hx := C.1.1
  have hb := C.1.2.1
  have hown := C.1.2.2.2.1
  have hts := C.1.2.2.2.2
  have B : hp_B Γ (cw w_X11_sick) s α α s.heap [] := ⟨B0.1, B0.2.1, cw_rf g⟩
  have hl := lv_entry ([.ref a0, .int a1]) (n := 3) (Nat.le_of_ble_eq_true rfl)
  show W p l e (hp_rm 4 0 0) s m ([.ref a0, .int a1] : List Value).toArray below meth c s.heap [] 0 0 (MQ below (hp_Qi Γ (fun r β => r = res.1 ∧ β = res.2 ∧ cw w_X11_sick α β)) ([.ref a0, .int a1] : List Value).toArray s 0 0 (hp_A Γ)) (entryFrame m ([.ref a0, .int a1] : List Value).toArray 3)
  rw [lg_entry_eq]
  generalize (lg_sl ([.ref a0, .int a1]) ++ List.replicate (3 - (lg_sl ([.ref a0, .int a1])).length) Slot.unset).toArray = ls at hl ⊢
  have hl : lv_has ls 3 [(0, .ref a0), (1, .int a1)] := hl
  refine lv_iload_n hx hb dX11_sick_0 rfl (lv_at hl 1 rfl) (hp_n (n := 1) rfl ?_)
  refine lv_if_ge (tgt := 10) hx hb dX11_sick_1 (by decide) (fun c1 => ?_) (fun c1 => hp_n (n := 4) rfl ?_)
  ·
    replace hf := ms_iT c1 hf
    refine lv_aload_n hx hb dX11_sick_10 rfl (lv_at hl 0 rfl) (hp_n (n := 11) rfl ?_)
    refine q_getr (κ := 12) (k := 1) (φ := 601) (pc' := 14) C B (cw_k B.2.2 k0) fl_X11_16 rfl rfl rfl (cw_r B.2.2 k0 rfl rfl (by decide) (by decide)) dX11_sick_11 rfl (fun b2 eb2 kb2 => ?_)
    replace hf := ms_lE eb2 hf
    refine lv_iload_n hx hb dX11_sick_14 rfl (lv_at hl 1 rfl) (hp_n (n := 15) rfl ?_)
    obtain ⟨rh3, qh3, hf⟩ := ms_bE hf
    refine d_pq (pc' := 18) B (hp_runV (As := [.int a1]) (rest := []) C B (n_X10_frozenAt n Γ l α B.2.2.1 b2 (cw_k B.2.2 kb2) a1 rh3 qh3) lb_X10_frozenAt lv_X10_frozenAt lk_X11_198 (cw_k B.2.2 kb2) rfl (by decide) rfl hl.1 rfl (Nat.le_of_ble_eq_true rfl) dX11_sick_15 ⟨Nat.le_refl _, Nat.le_refl _⟩) rfl (fun Hh3 Lh3 Bh3 kh3 => ?_)
    rcases rh3 with _ | bh3
    ·
      replace hf := hq_N hf
      refine lv_astore_nN (lv' := [(2, .null), (0, .ref a0), (1, .int a1)]) hx hb dX11_sick_18 rfl hl (by decide) rfl (fun ls hl => hp_n (n := 19) rfl ?_)
      refine lv_aload_nN hx hb dX11_sick_19 rfl (lv_at hl 0 rfl) (hp_n (n := 20) rfl ?_)
      refine lv_ifnonnullN hx hb dX11_sick_20 (hp_n (n := 23) rfl ?_)
      refine lv_aload_n hx hb dX11_sick_23 rfl (lv_at hl 1 rfl) (hp_n (n := 24) rfl ?_)
      refine lv_iconst (v := 5) hx hb dX11_sick_24 (by decide) (hp_n (n := 25) rfl ?_)
      obtain ⟨rh4, αh4, qh4, hf⟩ := hq_cE hf
      refine d_ci (pc' := 28) Bh3 (hp_runV (As := [.int (5 : Int32)]) (rest := []) C Bh3 (n_X11_refuse n Γ l α Bh3.2.2.1 a0 (cw_k Bh3.2.2 k0) (5 : Int32) (rh4, αh4) qh4) lb_X11_refuse lv_X11_refuse lk_X11_98 (cw_k Bh3.2.2 k0) rfl (by decide) rfl hl.1 rfl (Nat.le_of_ble_eq_true rfl) dX11_sick_25 ⟨Nat.le_refl _, Nat.le_refl _⟩) (by decide) rfl (fun Hh4 Lh4 Bh4 => ?_)
      refine lv_goto (tgt := 47) hx hb dX11_sick_28 (by decide) ?_
      cases hf
      exact q_iret C Bh4 hr hlk ⟨rfl, rfl, Bh4.2.2⟩ dX11_sick_47
    ·
      replace hf := hq_S hf
      have kbh3 := kh3 bh3 rfl
      refine lv_astore_n (lv' := [(2, .ref bh3), (0, .ref a0), (1, .int a1)]) hx hb dX11_sick_18 rfl hl (by decide) rfl (fun ls hl => hp_n (n := 19) rfl ?_)
      refine lv_aload_n hx hb dX11_sick_19 rfl (lv_at hl 0 rfl) (hp_n (n := 20) rfl ?_)
      refine lv_ifnonnull (tgt := 31) hx hb dX11_sick_20 (by decide) ?_
      refine lv_aload_n hx hb dX11_sick_31 rfl (lv_at hl 1 rfl) (hp_n (n := 32) rfl ?_)
      refine lv_aload_n hx hb dX11_sick_32 rfl (lv_at hl 1 rfl) (hp_n (n := 33) rfl ?_)
      refine q_getr (κ := 12) (k := 1) (φ := 601) (pc' := 36) C Bh3 (cw_k Bh3.2.2 k0) fl_X11_16 rfl rfl rfl (cw_r Bh3.2.2 k0 rfl rfl (by decide) (by decide)) dX11_sick_33 rfl (fun b5 eb5 kb5 => ?_)
      replace hf := ms_lE eb5 hf
      refine lv_aload_n hx hb dX11_sick_36 rfl (lv_at hl 0 rfl) (hp_n (n := 37) rfl ?_)
      refine lv_aload_n hx hb dX11_sick_37 rfl (lv_at hl 1 rfl) (hp_n (n := 38) rfl ?_)
      refine q_getr (κ := 12) (k := 14) (φ := 614) (pc' := 41) C Bh3 (cw_k Bh3.2.2 k0) fl_X11_69 rfl rfl rfl (cw_r Bh3.2.2 k0 rfl rfl (by decide) (by decide)) dX11_sick_38 rfl (fun b6 eb6 kb6 => ?_)
      replace hf := ms_lE eb6 hf
      obtain ⟨rh7, αh7, qh7, hf⟩ := hq_cE hf
      refine d_ci (pc' := 44) Bh3 (hp_runV (As := [.ref bh3, .ref b6]) (rest := [.ref a0]) C Bh3 (n_X10_sickBits n Γ l α Bh3.2.2.1 b5 (cw_k Bh3.2.2 kb5) bh3 (cw_k Bh3.2.2 kbh3) b6 (cw_k Bh3.2.2 kb6) (rh7, αh7) qh7) lb_X10_sickBits lv_X10_sickBits lk_X11_399 (cw_k Bh3.2.2 kb5) rfl (by decide) rfl hl.1 rfl (Nat.le_of_ble_eq_true rfl) dX11_sick_41 ⟨Nat.le_refl _, Nat.le_refl _⟩) (by decide) rfl (fun Hh7 Lh7 Bh7 => ?_)
      obtain ⟨rh8, αh8, qh8, hf⟩ := hq_cE hf
      refine d_ci (pc' := 47) Bh7 (hp_runV (As := [.int rh7]) (rest := []) C Bh7 (n_X11_answer n Γ l αh7 Bh7.2.2.1 a0 (cw_k Bh7.2.2 k0) rh7 (rh8, αh8) qh8) lb_X11_answer lv_X11_answer lk_X11_115 (cw_k Bh7.2.2 k0) rfl (by decide) rfl hl.1 rfl (Nat.le_of_ble_eq_true rfl) dX11_sick_44 ⟨Nat.le_refl _, Nat.le_refl _⟩) (by decide) rfl (fun Hh8 Lh8 Bh8 => ?_)
      cases hf
      exact q_iret C Bh8 hr hlk ⟨rfl, rfl, Bh8.2.2⟩ dX11_sick_47
  ·
    replace hf := ms_iF c1 hf
    refine lv_aload_n hx hb dX11_sick_4 rfl (lv_at hl 0 rfl) (hp_n (n := 5) rfl ?_)
    refine lv_iconst (v := 1) hx hb dX11_sick_5 (by decide) (hp_n (n := 6) rfl ?_)
    obtain ⟨rh9, αh9, qh9, hf⟩ := hq_cE hf
    refine d_ci (pc' := 9) B (hp_runV (As := [.int (1 : Int32)]) (rest := []) C B (n_X11_refuse n Γ l α B.2.2.1 a0 (cw_k B.2.2 k0) (1 : Int32) (rh9, αh9) qh9) lb_X11_refuse lv_X11_refuse lk_X11_98 (cw_k B.2.2 k0) rfl (by decide) rfl hl.1 rfl (Nat.le_of_ble_eq_true rfl) dX11_sick_6 ⟨Nat.le_refl _, Nat.le_refl _⟩) (by decide) rfl (fun Hh9 Lh9 Bh9 => ?_)
    cases hf
    exact q_iret C Bh9 hr hlk ⟨rfl, rfl, Bh9.2.2⟩ dX11_sick_9
