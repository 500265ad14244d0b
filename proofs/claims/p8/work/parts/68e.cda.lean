def f_X9_clear (n : Nat) (α : hp_T) (a0 : Nat) : Option hp_T :=
  ms_l (hp_sI α 501 a0 (0 : Int32)) fun αh1 =>
  some αh1
set_option maxRecDepth 100000 in
set_option maxHeartbeats 4000000 in
theorem n_X9_clear (n : Nat) (Γ : hp_G) (l : Launch) (α : hp_T) (g : GC α) (a0 : Nat) (k0 : hp_K α a0 = 10) (res : hp_T) (hf : f_X9_clear n α a0 = some res) : Met l yX9_clear (hp_ws yX9_clear cX9_clear 1 none) (hp_rm 0 0 0) (hp_Pc Γ α [.ref a0]) (hp_Qv Γ (fun β => β = res ∧ cw w_X9_clear α β)) 0 0 (hp_A Γ) := by
  unfold f_X9_clear at hf
  refine hp_start (by decide) ?_
  intro p e s m below meth c C hr hlk B0 hnm
  have C : hp_C Γ p m c cX9_clear 1 s ([.ref a0] : List Value).toArray RX9 := C
  have hx := C.1.1
  have hb := C.1.2.1
  have hown := C.1.2.2.2.1
  have hts := C.1.2.2.2.2
  have B : hp_B Γ (cw w_X9_clear) s α α s.heap [] := ⟨B0.1, B0.2.1, cw_rf g⟩
  have hl := lv_entry ([.ref a0]) (n := 1) (Nat.le_of_ble_eq_true rfl)
  show W p l e (hp_rm 0 0 0) s m ([.ref a0] : List Value).toArray below meth c s.heap [] 0 0 (MQ below (hp_Qv Γ (fun β => β = res ∧ cw w_X9_clear α β)) ([.ref a0] : List Value).toArray s 0 0 (hp_A Γ)) (entryFrame m ([.ref a0] : List Value).toArray 1)
  rw [lg_entry_eq]
  generalize (lg_sl ([.ref a0]) ++ List.replicate (1 - (lg_sl ([.ref a0])).length) Slot.unset).toArray = ls at hl ⊢
  have hl : lv_has ls 1 [(0, .ref a0)] := hl
  refine lv_aload_n hx hb dX9_clear_0 rfl (lv_at hl 0 rfl) (hp_n (n := 1) rfl ?_)
  refine lv_iconst (v := 0) hx hb dX9_clear_1 (by decide) (hp_n (n := 2) rfl ?_)
  refine q_puti (κ := 10) (k := 1) (φ := 501) (pc' := 5) C B (cw_k B.2.2 k0) fl_X9_15 rfl rfl rfl rfl rfl rfl (cw_sI B.2.2 (by decide) (fun h => absurd h (by decide))) dX9_clear_2 rfl (fun αh1 Hh1 Lh1 eh1 Bh1 => ?_)
  replace hf := ms_lE eh1 hf
  cases hf
  exact q_vret C Bh1 hr hlk ⟨rfl, Bh1.2.2⟩ dX9_clear_5
def f_X9_put (n : Nat) (α : hp_T) (a0 : Nat) (a1 : Int32) : Option hp_T :=
  ms_l (hp_I α 501 a0) fun x1 =>
  if x1 < 0 then
    some α
  else
    ms_l (hp_I α 501 a0) fun x3 =>
    ms_l (hp_R α 500 a0) fun b4 =>
    if (8 : Int32) ≤ x3 then
      some α
    else
      ms_l (hp_R α 500 a0) fun b6 =>
      ms_l (hp_I α 501 a0) fun x7 =>
      ms_g x7 8 <|
      ms_l (hp_sE α 27 b6 (x7).toNatClampNeg ((a1).toInt8.toInt32).toInt8.toInt32) fun αh9 =>
      ms_l (hp_I αh9 501 a0) fun x10 =>
      ms_l (hp_sI αh9 501 a0 (x10 + (1 : Int32))) fun αh11 =>
      some αh11
set_option maxRecDepth 100000 in
set_option maxHeartbeats 4000000 in
theorem n_X9_put (n : Nat) (Γ : hp_G) (l : Launch) (α : hp_T) (g : GC α) (a0 : Nat) (k0 : hp_K α a0 = 10) (a1 : Int32) (res : hp_T) (hf : f_X9_put n α a0 a1 = some res) : Met l yX9_put (hp_ws yX9_put cX9_put 2 none) (hp_rm 0 0 0) (hp_Pc Γ α [.ref a0, .int a1]) (hp_Qv Γ (fun β => β = res ∧ cw w_X9_put α β)) 0 0 (hp_A Γ) := by
  unfold f_X9_put at hf
  refine hp_start (by decide) ?_
  intro p e s m below meth c C hr hlk B0 hnm
  have C : hp_C Γ p m c cX9_put 2 s ([.ref a0, .int a1] : List Value).toArray RX9 := C
  have hx := C.1.1
  have hb := C.1.2.1
  have hown := C.1.2.2.2.1
  have hts := C.1.2.2.2.2
  have B : hp_B Γ (cw w_X9_put) s α α s.heap [] := ⟨B0.1, B0.2.1, cw_rf g⟩
  have hl := lv_entry ([.ref a0, .int a1]) (n := 2) (Nat.le_of_ble_eq_true rfl)
  show W p l e (hp_rm 0 0 0) s m ([.ref a0, .int a1] : List Value).toArray below meth c s.heap [] 0 0 (MQ below (hp_Qv Γ (fun β => β = res ∧ cw w_X9_put α β)) ([.ref a0, .int a1] : List Value).toArray s 0 0 (hp_A Γ)) (entryFrame m ([.ref a0, .int a1] : List Value).toArray 2)
  rw [lg_entry_eq]
  generalize (lg_sl ([.ref a0, .int a1]) ++ List.replicate (2 - (lg_sl ([.ref a0, .int a1])).length) Slot.unset).toArray = ls at hl ⊢
  have hl : lv_has ls 2 [(0, .ref a0), (1, .int a1)] := hl
  refine lv_aload_n hx hb dX9_put_0 rfl (lv_at hl 0 rfl) (hp_n (n := 1) rfl ?_)
  refine q_geti (κ := 10) (k := 1) (φ := 501) (pc' := 4) C B (cw_k B.2.2 k0) fl_X9_15 rfl rfl rfl dX9_put_1 rfl (fun x1 ex1 => ?_)
  replace hf := ms_lE ex1 hf
  refine lv_if_lt (tgt := 40) hx hb dX9_put_4 (by decide) (fun c2 => ?_) (fun c2 => hp_n (n := 7) rfl ?_)
  ·
    replace hf := ms_iT c2 hf
    cases hf
    exact q_vret C B hr hlk ⟨rfl, B.2.2⟩ dX9_put_40
  ·
    replace hf := ms_iF c2 hf
    refine lv_aload_n hx hb dX9_put_7 rfl (lv_at hl 0 rfl) (hp_n (n := 8) rfl ?_)
    refine q_geti (κ := 10) (k := 1) (φ := 501) (pc' := 11) C B (cw_k B.2.2 k0) fl_X9_15 rfl rfl rfl dX9_put_8 rfl (fun x3 ex3 => ?_)
    replace hf := ms_lE ex3 hf
    refine lv_aload_n hx hb dX9_put_11 rfl (lv_at hl 0 rfl) (hp_n (n := 12) rfl ?_)
    refine q_getr (κ := 10) (k := 0) (φ := 500) (pc' := 15) C B (cw_k B.2.2 k0) fl_X9_9 rfl rfl rfl (cw_r B.2.2 k0 rfl rfl (by decide) (by decide)) dX9_put_12 rfl (fun b4 eb4 kb4 => ?_)
    replace hf := ms_lE eb4 hf
    refine q_alen (κ := 27) (t := 1) (n := 8) (x := 8) (ty := .byte) (pc' := 16) C B (cw_k B.2.2 kb4) (by decide) rfl rfl rfl dX9_put_15 rfl ?_
    refine lv_icmp_ge (tgt := 40) hx hb dX9_put_16 (by decide) (fun c5 => ?_) (fun c5 => hp_n (n := 19) rfl ?_)
    ·
      replace hf := ms_iT c5 hf
      cases hf
      exact q_vret C B hr hlk ⟨rfl, B.2.2⟩ dX9_put_40
    ·
      replace hf := ms_iF c5 hf
      refine lv_aload_n hx hb dX9_put_19 rfl (lv_at hl 0 rfl) (hp_n (n := 20) rfl ?_)
      refine q_getr (κ := 10) (k := 0) (φ := 500) (pc' := 23) C B (cw_k B.2.2 k0) fl_X9_9 rfl rfl rfl (cw_r B.2.2 k0 rfl rfl (by decide) (by decide)) dX9_put_20 rfl (fun b6 eb6 kb6 => ?_)
      replace hf := ms_lE eb6 hf
      refine lv_aload_n hx hb dX9_put_23 rfl (lv_at hl 0 rfl) (hp_n (n := 24) rfl ?_)
      refine q_geti (κ := 10) (k := 1) (φ := 501) (pc' := 27) C B (cw_k B.2.2 k0) fl_X9_15 rfl rfl rfl dX9_put_24 rfl (fun x7 ex7 => ?_)
      replace hf := ms_lE ex7 hf
      refine lv_iload_n hx hb dX9_put_27 rfl (lv_at hl 1 rfl) (hp_n (n := 28) rfl ?_)
      refine lv_i2b hx hb dX9_put_28 rfl (hp_n (n := 29) rfl ?_)
      obtain ⟨g8, hf⟩ := ms_gE hf
      refine q_bas (κ := 27) (n := 8) (pc' := 30) (y := ((a1).toInt8.toInt32).toInt8.toInt32) C B (cw_k B.2.2 kb6) (by decide) rfl (vi_of g8.1 g8.2) rfl rfl (cw_sE B.2.2 (by decide)) dX9_put_29 rfl (fun αh9 Hh9 Lh9 eh9 Bh9 => ?_)
      replace hf := ms_lE eh9 hf
      refine lv_aload_n hx hb dX9_put_30 rfl (lv_at hl 0 rfl) (hp_n (n := 31) rfl ?_)
      refine lv_dup hx hb dX9_put_31 rfl (hp_n (n := 32) rfl ?_)
      refine q_geti (κ := 10) (k := 1) (φ := 501) (pc' := 35) C Bh9 (cw_k Bh9.2.2 k0) fl_X9_15 rfl rfl rfl dX9_put_32 rfl (fun x10 ex10 => ?_)
      replace hf := ms_lE ex10 hf
      refine lv_iconst (v := 1) hx hb dX9_put_35 (by decide) (hp_n (n := 36) rfl ?_)
      refine lv_iadd hx hb dX9_put_36 (hp_n (n := 37) rfl ?_)
      refine q_puti (κ := 10) (k := 1) (φ := 501) (pc' := 40) C Bh9 (cw_k Bh9.2.2 k0) fl_X9_15 rfl rfl rfl rfl rfl rfl (cw_sI Bh9.2.2 (by decide) (fun h => absurd h (by decide))) dX9_put_37 rfl (fun αh11 Hh11 Lh11 eh11 Bh11 => ?_)
      replace hf := ms_lE eh11 hf
      cases hf
      exact q_vret C Bh11 hr hlk ⟨rfl, Bh11.2.2⟩ dX9_put_40
def f_X11_type_J77 (n : Nat) (a0 : Nat) (αh4 : hp_T) : Option (Int32 × hp_T) :=
  ms_l (hp_R αh4 606 a0) fun b5 =>
  ms_l (hp_R αh4 607 a0) fun b6 =>
  ms_l (hp_sR αh4 606 a0 b6) fun αh7 =>
  ms_l (hp_sR αh7 607 a0 b5) fun αh8 =>
  ms_l (hp_R αh8 606 a0) fun b9 =>
  ms_l (hp_I αh8 501 b9) fun x10 =>
  some (x10, αh8)
def f_X11_type_J43 (n : Nat) (a0 : Nat) (rec9 : hp_T → Int32 → Int32 → Int32 → Option (Int32 × hp_T)) (αh12 : hp_T) (v1_h12 : Int32) (v2_h12 : Int32) (v3_h12 : Int32) (w0_h12 : Int32) : Option (Int32 × hp_T) :=
  if w0_h12 = 0 then
    f_X11_type_J77 n a0 αh12
  else
    if w0_h12 ≤ (26 : Int32) then
      ms_l (hp_R αh12 607 a0) fun b15 =>
      ms_b (f_X9_put n αh12 b15 w0_h12) fun αh16 =>
      ms_l (v3_h12 + 1) fun x17 =>
      rec9 αh16 v1_h12 v2_h12 x17
    else
      some ((-1 : Int32), αh12)
def f_X11_type_L9 (n : Nat) (a0 : Nat) : Nat → hp_T → Int32 → Int32 → Int32 → Option (Int32 × hp_T)
  | 0, _, _, _, _ => none
  | k9 + 1, αh3, v1_h3, v2_h3, v3_h3 =>
    if (8 : Int32) ≤ v3_h3 then
      f_X11_type_J77 n a0 αh3
    else
      if (6 : Int32) ≤ v3_h3 then
        f_X11_type_J43 n a0 (f_X11_type_L9 n a0 k9) αh3 v1_h3 v2_h3 v3_h3 (((v2_h3).toUInt32 >>> ((((5 : Int32) * (v3_h3 - (6 : Int32)))).toUInt32 &&& Int32.toUInt32 31)).toInt32 &&& (31 : Int32))
      else
        f_X11_type_J43 n a0 (f_X11_type_L9 n a0 k9) αh3 v1_h3 v2_h3 v3_h3 (((v1_h3).toUInt32 >>> ((((5 : Int32) * v3_h3)).toUInt32 &&& Int32.toUInt32 31)).toInt32 &&& (31 : Int32))
def f_X11_type (n : Nat) (α : hp_T) (a0 : Nat) (a1 : Int32) (a2 : Int32) : Option (Int32 × hp_T) :=
  ms_l (hp_R α 607 a0) fun b1 =>
  ms_b (f_X9_clear n α b1) fun αh2 =>
  f_X11_type_L9 n a0 n αh2 a1 a2 (0 : Int32)
set_option maxRecDepth 100000 in
set_option maxHeartbeats 4000000 in
theorem n_X11_type (n : Nat) (Γ : hp_G) (l : Launch) (α : hp_T) (g : GC α) (a0 : Nat) (k0 : hp_K α a0 = 12) (a1 : Int32) (a2 : Int32) (res : (Int32 × hp_T)) (hf : f_X11_type n α a0 a1 a2 = some res) : Met l yX11_type (hp_ws yX11_type cX11_type 5 (some .int)) (hp_rm 1 0 0) (hp_Pc Γ α [.ref a0, .int a1, .int a2]) (hp_Qi Γ (fun r β => r = res.1 ∧ β = res.2 ∧ cw w_X11_type α β)) 0 0 (hp_A Γ) := by
  unfold f_X11_type at hf
  refine hp_start (by decide) ?_
  intro p e s m below meth c C hr hlk B0 hnm
  have C : hp_C Γ p m c cX11_type 5 s ([.ref a0, .int a1, .int a2] : List Value).toArray RX11 := C
  have hx := C.1.1
  have hb := C.1.2.1
  have hown := C.1.2.2.2.1
  have hts := C.1.2.2.2.2
  have B : hp_B Γ (cw w_X11_type) s α α s.heap [] := ⟨B0.1, B0.2.1, cw_rf g⟩
  have hl := lv_entry ([.ref a0, .int a1, .int a2]) (n := 5) (Nat.le_of_ble_eq_true rfl)
  show W p l e (hp_rm 1 0 0) s m ([.ref a0, .int a1, .int a2] : List Value).toArray below meth c s.heap [] 0 0 (MQ below (hp_Qi Γ (fun r β => r = res.1 ∧ β = res.2 ∧ cw w_X11_type α β)) ([.ref a0, .int a1, .int a2] : List Value).toArray s 0 0 (hp_A Γ)) (entryFrame m ([.ref a0, .int a1, .int a2] : List Value).toArray 5)
  rw [lg_entry_eq]
  generalize (lg_sl ([.ref a0, .int a1, .int a2]) ++ List.replicate (5 - (lg_sl ([.ref a0, .int a1, .int a2])).length) Slot.unset).toArray = ls at hl ⊢
  have hl : lv_has ls 5 [(0, .ref a0), (1, .int a1), (2, .int a2)] := hl
  refine lv_aload_n hx hb dX11_type_0 rfl (lv_at hl 0 rfl) (hp_n (n := 1) rfl ?_)
  refine q_getr (κ := 12) (k := 7) (φ := 607) (pc' := 4) C B (cw_k B.2.2 k0) fl_X11_44 rfl rfl rfl (cw_r B.2.2 k0 rfl rfl (by decide) (by decide)) dX11_type_1 rfl (fun b1 eb1 kb1 => ?_)
  replace hf := ms_lE eb1 hf
  obtain ⟨αh2, qh2, hf⟩ := ms_bE hf
  refine d_cv (pc' := 7) B (hp_runV (As := []) (rest := []) C B (n_X9_clear n Γ l α B.2.2.1 b1 (cw_k B.2.2 kb1) αh2 qh2) lb_X9_clear lv_X9_clear lk_X11_144 (cw_k B.2.2 kb1) rfl (by decide) rfl hl.1 rfl (Nat.le_of_ble_eq_true rfl) dX11_type_4 ⟨Nat.le_refl _, Nat.le_refl _⟩) (by decide) rfl (fun Hh2 Lh2 Bh2 => ?_)
  refine lv_iconst (v := 0) hx hb dX11_type_7 (by decide) (hp_n (n := 8) rfl ?_)
  have J9 : ∀ (k9 : Nat) (αh3 : hp_T) (Hh3 : Heap) (Lh3 : List Loc) (Bh3 : hp_B Γ (cw w_X11_type) s α αh3 Hh3 Lh3) (v1_h3 : Int32) (v2_h3 : Int32) (v3_h3 : Int32) (ls : Array Slot) (hl : lv_has ls 5 [(0, .ref a0), (1, .int v1_h3), (2, .int v2_h3), (3, .int v3_h3)]) (hf : f_X11_type_L9 n a0 k9 αh3 v1_h3 v2_h3 v3_h3 = some res), W p l e (hp_rm 1 0 0) s m ([.ref a0, .int a1, .int a2] : List Value).toArray below meth c Hh3 Lh3 0 0 (MQ below (hp_Qi Γ (fun r β => r = res.1 ∧ β = res.2 ∧ cw w_X11_type α β)) ([.ref a0, .int a1, .int a2] : List Value).toArray s 0 0 (hp_A Γ)) (F0 m 9 ls []) := by
    intro k9
    induction k9 with
    | zero => intro αh3 Hh3 Lh3 Bh3 v1_h3 v2_h3 v3_h3 ls hl hf; rw [f_X11_type_L9.eq_1] at hf; cases hf
    | succ k9 ih9 =>
      intro αh3 Hh3 Lh3 Bh3 v1_h3 v2_h3 v3_h3 ls hl hf
      rw [f_X11_type_L9.eq_2] at hf
      refine lv_iload_n hx hb dX11_type_9 rfl (lv_at hl 3 rfl) (hp_n (n := 10) rfl ?_)
      refine lv_bipush (v := 8) hx hb dX11_type_10 (by decide) (hp_n (n := 12) rfl ?_)
      have J77 : ∀ (αh4 : hp_T) (Hh4 : Heap) (Lh4 : List Loc) (Bh4 : hp_B Γ (cw w_X11_type) s α αh4 Hh4 Lh4) (ls : Array Slot) (hl : lv_has ls 5 [(0, .ref a0)]) (hf : f_X11_type_J77 n a0 αh4 = some res), W p l e (hp_rm 1 0 0) s m ([.ref a0, .int a1, .int a2] : List Value).toArray below meth c Hh4 Lh4 0 0 (MQ below (hp_Qi Γ (fun r β => r = res.1 ∧ β = res.2 ∧ cw w_X11_type α β)) ([.ref a0, .int a1, .int a2] : List Value).toArray s 0 0 (hp_A Γ)) (F0 m 77 ls []) := by
        intro αh4 Hh4 Lh4 Bh4 ls hl hf
        unfold f_X11_type_J77 at hf
        refine lv_aload_n hx hb dX11_type_77 rfl (lv_at hl 0 rfl) (hp_n (n := 78) rfl ?_)
        refine q_getr (κ := 12) (k := 6) (φ := 606) (pc' := 81) C Bh4 (cw_k Bh4.2.2 k0) fl_X11_40 rfl rfl rfl (cw_r Bh4.2.2 k0 rfl rfl (by decide) (by decide)) dX11_type_78 rfl (fun b5 eb5 kb5 => ?_)
        replace hf := ms_lE eb5 hf
        refine lv_astore_n (lv' := [(3, .ref b5), (0, .ref a0)]) hx hb dX11_type_81 rfl hl (by decide) rfl (fun ls hl => hp_n (n := 82) rfl ?_)
        refine lv_aload_n hx hb dX11_type_82 rfl (lv_at hl 1 rfl) (hp_n (n := 83) rfl ?_)
        refine lv_aload_n hx hb dX11_type_83 rfl (lv_at hl 1 rfl) (hp_n (n := 84) rfl ?_)
        refine q_getr (κ := 12) (k := 7) (φ := 607) (pc' := 87) C Bh4 (cw_k Bh4.2.2 k0) fl_X11_44 rfl rfl rfl (cw_r Bh4.2.2 k0 rfl rfl (by decide) (by decide)) dX11_type_84 rfl (fun b6 eb6 kb6 => ?_)
        replace hf := ms_lE eb6 hf
        refine q_putr (κ := 12) (k := 6) (φ := 606) (pc' := 90) C Bh4 (cw_k Bh4.2.2 k0) fl_X11_40 rfl rfl rfl rfl rfl rfl (cw_sR Bh4.2.2 (by decide) (Or.inl kb6)) dX11_type_87 rfl (fun αh7 Hh7 Lh7 eh7 Bh7 => ?_)
        replace hf := ms_lE eh7 hf
        refine lv_aload_n hx hb dX11_type_90 rfl (lv_at hl 1 rfl) (hp_n (n := 91) rfl ?_)
        refine lv_aload_n hx hb dX11_type_91 rfl (lv_at hl 0 rfl) (hp_n (n := 92) rfl ?_)
        refine q_putr (κ := 12) (k := 7) (φ := 607) (pc' := 95) C Bh7 (cw_k Bh7.2.2 k0) fl_X11_44 rfl rfl rfl rfl rfl rfl (cw_sR Bh7.2.2 (by decide) (Or.inl kb5)) dX11_type_92 rfl (fun αh8 Hh8 Lh8 eh8 Bh8 => ?_)
        replace hf := ms_lE eh8 hf
        refine lv_aload_n hx hb dX11_type_95 rfl (lv_at hl 1 rfl) (hp_n (n := 96) rfl ?_)
        refine q_getr (κ := 12) (k := 6) (φ := 606) (pc' := 99) C Bh8 (cw_k Bh8.2.2 k0) fl_X11_40 rfl rfl rfl (cw_r Bh8.2.2 k0 rfl rfl (by decide) (by decide)) dX11_type_96 rfl (fun b9 eb9 kb9 => ?_)
        replace hf := ms_lE eb9 hf
        refine q_geti (κ := 10) (k := 1) (φ := 501) (pc' := 102) C Bh8 (cw_k Bh8.2.2 kb9) fl_X11_150 rfl rfl rfl dX11_type_99 rfl (fun x10 ex10 => ?_)
        replace hf := ms_lE ex10 hf
        cases hf
        exact q_iret C Bh8 hr hlk ⟨rfl, rfl, Bh8.2.2⟩ dX11_type_102
      refine lv_icmp_ge (tgt := 77) hx hb dX11_type_12 (by decide) (fun c11 => ?_) (fun c11 => hp_n (n := 15) rfl ?_)
      ·
        replace hf := ms_iT c11 hf
        exact J77 αh3 Hh3 Lh3 Bh3 ls (lv_sub hl [0] rfl) hf
      ·
        replace hf := ms_iF c11 hf
        refine lv_iload_n hx hb dX11_type_15 rfl (lv_at hl 3 rfl) (hp_n (n := 16) rfl ?_)
        refine lv_bipush (v := 6) hx hb dX11_type_16 (by decide) (hp_n (n := 18) rfl ?_)
        have J43 : ∀ (αh12 : hp_T) (Hh12 : Heap) (Lh12 : List Loc) (Bh12 : hp_B Γ (cw w_X11_type) s α αh12 Hh12 Lh12) (v1_h12 : Int32) (v2_h12 : Int32) (v3_h12 : Int32) (w0_h12 : Int32) (ls : Array Slot) (hl : lv_has ls 5 [(0, .ref a0), (1, .int v1_h12), (2, .int v2_h12), (3, .int v3_h12)]) (hf : f_X11_type_J43 n a0 (f_X11_type_L9 n a0 k9) αh12 v1_h12 v2_h12 v3_h12 w0_h12 = some res), W p l e (hp_rm 1 0 0) s m ([.ref a0, .int a1, .int a2] : List Value).toArray below meth c Hh12 Lh12 0 0 (MQ below (hp_Qi Γ (fun r β => r = res.1 ∧ β = res.2 ∧ cw w_X11_type α β)) ([.ref a0, .int a1, .int a2] : List Value).toArray s 0 0 (hp_A Γ)) (F0 m 43 ls [.int w0_h12]) := by
          intro αh12 Hh12 Lh12 Bh12 v1_h12 v2_h12 v3_h12 w0_h12 ls hl hf
          unfold f_X11_type_J43 at hf
          refine lv_istore (lv' := [(4, .int w0_h12), (0, .ref a0), (1, .int v1_h12), (2, .int v2_h12), (3, .int v3_h12)]) hx hb dX11_type_43 hl (by decide) rfl (fun ls hl => hp_n (n := 45) rfl ?_)
          refine lv_iload hx hb dX11_type_45 (lv_at hl 0 rfl) (hp_n (n := 47) rfl ?_)
          refine lv_if_ne (tgt := 53) hx hb dX11_type_47 (by decide) (fun c13 => ?_) (fun c13 => hp_n (n := 50) rfl ?_)
          ·
            replace hf := ms_iF c13 hf
            refine lv_iload hx hb dX11_type_53 (lv_at hl 0 rfl) (hp_n (n := 55) rfl ?_)
            refine lv_bipush (v := 26) hx hb dX11_type_55 (by decide) (hp_n (n := 57) rfl ?_)
            refine lv_icmp_le (tgt := 62) hx hb dX11_type_57 (by decide) (fun c14 => ?_) (fun c14 => hp_n (n := 60) rfl ?_)
            ·
              replace hf := ms_iT c14 hf
              refine lv_aload_n hx hb dX11_type_62 rfl (lv_at hl 1 rfl) (hp_n (n := 63) rfl ?_)
              refine q_getr (κ := 12) (k := 7) (φ := 607) (pc' := 66) C Bh12 (cw_k Bh12.2.2 k0) fl_X11_44 rfl rfl rfl (cw_r Bh12.2.2 k0 rfl rfl (by decide) (by decide)) dX11_type_63 rfl (fun b15 eb15 kb15 => ?_)
              replace hf := ms_lE eb15 hf
              refine lv_iload hx hb dX11_type_66 (lv_at hl 0 rfl) (hp_n (n := 68) rfl ?_)
              obtain ⟨αh16, qh16, hf⟩ := ms_bE hf
              refine d_cv (pc' := 71) Bh12 (hp_runV (As := [.int w0_h12]) (rest := []) C Bh12 (n_X9_put n Γ l αh12 Bh12.2.2.1 b15 (cw_k Bh12.2.2 kb15) w0_h12 αh16 qh16) lb_X9_put lv_X9_put lk_X11_147 (cw_k Bh12.2.2 kb15) rfl (by decide) rfl hl.1 rfl (Nat.le_of_ble_eq_true rfl) dX11_type_68 ⟨Nat.le_refl _, Nat.le_refl _⟩) (by decide) rfl (fun Hh16 Lh16 Bh16 => ?_)
              obtain ⟨x17, ex17⟩ : ∃ y : Int32, y = v3_h12 + 1 := ⟨_, rfl⟩
              replace hf := ms_lE ex17 hf
              refine lv_iinc (v := x17) (lv' := [(3, .int x17), (4, .int w0_h12), (0, .ref a0), (1, .int v1_h12), (2, .int v2_h12)]) hx hb dX11_type_71 hl (k := 4) rfl (by rw [ex17]; rfl) (by decide) rfl (fun ls hl => hp_n (n := 74) rfl ?_)
              refine lv_goto (tgt := 9) hx hb dX11_type_74 (by decide) ?_
              exact ih9 αh16 Hh16 Lh16 Bh16 v1_h12 v2_h12 x17 ls (lv_sub hl [2, 3, 4, 0] rfl) hf
            ·
              replace hf := ms_iF c14 hf
              refine lv_iconst (v := (-1)) hx hb dX11_type_60 (by decide) (hp_n (n := 61) rfl ?_)
              cases hf
              exact q_iret C Bh12 hr hlk ⟨rfl, rfl, Bh12.2.2⟩ dX11_type_61
          ·
            replace hf := ms_iT c13 hf
            refine lv_goto (tgt := 77) hx hb dX11_type_50 (by decide) ?_
            exact J77 αh12 Hh12 Lh12 Bh12 ls (lv_sub hl [1] rfl) hf
        refine lv_icmp_ge (tgt := 32) hx hb dX11_type_18 (by decide) (fun c18 => ?_) (fun c18 => hp_n (n := 21) rfl ?_)
        ·
          replace hf := ms_iT c18 hf
          refine lv_iload_n hx hb dX11_type_32 rfl (lv_at hl 2 rfl) (hp_n (n := 33) rfl ?_)
          refine lv_iconst (v := 5) hx hb dX11_type_33 (by decide) (hp_n (n := 34) rfl ?_)
          refine lv_iload_n hx hb dX11_type_34 rfl (lv_at hl 3 rfl) (hp_n (n := 35) rfl ?_)
          refine lv_bipush (v := 6) hx hb dX11_type_35 (by decide) (hp_n (n := 37) rfl ?_)
          refine lv_isub hx hb dX11_type_37 (hp_n (n := 38) rfl ?_)
          refine lv_imul hx hb dX11_type_38 (hp_n (n := 39) rfl ?_)
          refine lv_iushr hx hb dX11_type_39 rfl (hp_n (n := 40) rfl ?_)
          refine lv_bipush (v := 31) hx hb dX11_type_40 (by decide) (hp_n (n := 42) rfl ?_)
          refine lv_iand hx hb dX11_type_42 (hp_n (n := 43) rfl ?_)
          exact J43 αh3 Hh3 Lh3 Bh3 v1_h3 v2_h3 v3_h3 (((v2_h3).toUInt32 >>> ((((5 : Int32) * (v3_h3 - (6 : Int32)))).toUInt32 &&& Int32.toUInt32 31)).toInt32 &&& (31 : Int32)) ls (lv_sub hl [0, 1, 2, 3] rfl) hf
        ·
          replace hf := ms_iF c18 hf
          refine lv_iload_n hx hb dX11_type_21 rfl (lv_at hl 1 rfl) (hp_n (n := 22) rfl ?_)
          refine lv_iconst (v := 5) hx hb dX11_type_22 (by decide) (hp_n (n := 23) rfl ?_)
          refine lv_iload_n hx hb dX11_type_23 rfl (lv_at hl 3 rfl) (hp_n (n := 24) rfl ?_)
          refine lv_imul hx hb dX11_type_24 (hp_n (n := 25) rfl ?_)
          refine lv_iushr hx hb dX11_type_25 rfl (hp_n (n := 26) rfl ?_)
          refine lv_bipush (v := 31) hx hb dX11_type_26 (by decide) (hp_n (n := 28) rfl ?_)
          refine lv_iand hx hb dX11_type_28 (hp_n (n := 29) rfl ?_)
          refine lv_goto (tgt := 43) hx hb dX11_type_29 (by decide) ?_
          exact J43 αh3 Hh3 Lh3 Bh3 v1_h3 v2_h3 v3_h3 (((v1_h3).toUInt32 >>> ((((5 : Int32) * v3_h3)).toUInt32 &&& Int32.toUInt32 31)).toInt32 &&& (31 : Int32)) ls (lv_sub hl [0, 1, 2, 3] rfl) hf
  refine lv_istore_n (lv' := [(3, .int (0 : Int32)), (0, .ref a0), (1, .int a1), (2, .int a2)]) hx hb dX11_type_8 rfl hl (by decide) rfl (fun ls hl => hp_n (n := 9) rfl ?_)
  exact J9 n αh2 Hh2 Lh2 Bh2 a1 a2 (0 : Int32) ls (lv_sub hl [1, 2, 3, 0] rfl) hf
