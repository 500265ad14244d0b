def f_X8_isAhead (n : Nat) (α : hp_T) (a0 : Nat) (a1 : Int32) : Option Int32 :=
  if a1 < 0 then
    some (0 : Int32)
  else
    ms_l (hp_I α 453 a0) fun x2 =>
    if x2 ≤ a1 then
      some (0 : Int32)
    else
      ms_l (hp_R α 452 a0) fun b4 =>
      if (64 : Int32) ≤ a1 then
        some (0 : Int32)
      else
        ms_l (hp_R α 452 a0) fun b6 =>
        ms_g a1 64 <|
        if (hp_E α 23 b6 (a1).toNatClampNeg) = 0 then
          some (0 : Int32)
        else
          some (1 : Int32)
set_option maxRecDepth 100000 in
set_option maxHeartbeats 4000000 in
theorem n_X8_isAhead (n : Nat) (Γ : hp_G) (l : Launch) (α : hp_T) (g : GC α) (a0 : Nat) (k0 : hp_K α a0 = 9) (a1 : Int32) (res : Int32) (hf : f_X8_isAhead n α a0 a1 = some res) : Met l yX8_isAhead (hp_ws yX8_isAhead cX8_isAhead 2 (some .boolean)) (hp_rm 0 0 0) (hp_Pc Γ α [.ref a0, .int a1]) (hp_Qi Γ (fun r β => β = α ∧ r = res)) 0 0 (hp_A Γ) := by
  unfold f_X8_isAhead at hf
  refine hp_start (by decide) ?_
  intro p e s m below meth c C hr hlk B0 hnm
  have C : hp_C Γ p m c cX8_isAhead 2 s ([.ref a0, .int a1] : List Value).toArray RX8 := C
  have hx := C.1.1
  have hb := C.1.2.1
  have hown := C.1.2.2.2.1
  have hts := C.1.2.2.2.2
  have B : hp_B Γ (cw w_X8_isAhead) s α α s.heap [] := ⟨B0.1, B0.2.1, cw_rf g⟩
  have hl := lv_entry ([.ref a0, .int a1]) (n := 2) (Nat.le_of_ble_eq_true rfl)
  show W p l e (hp_rm 0 0 0) s m ([.ref a0, .int a1] : List Value).toArray below meth c s.heap [] 0 0 (MQ below (hp_Qi Γ (fun r β => β = α ∧ r = res)) ([.ref a0, .int a1] : List Value).toArray s 0 0 (hp_A Γ)) (entryFrame m ([.ref a0, .int a1] : List Value).toArray 2)
  rw [lg_entry_eq]
  generalize (lg_sl ([.ref a0, .int a1]) ++ List.replicate (2 - (lg_sl ([.ref a0, .int a1])).length) Slot.unset).toArray = ls at hl ⊢
  have hl : lv_has ls 2 [(0, .ref a0), (1, .int a1)] := hl
  refine lv_iload_n hx hb dX8_isAhead_0 rfl (lv_at hl 1 rfl) (hp_n (n := 1) rfl ?_)
  refine lv_if_lt (tgt := 34) hx hb dX8_isAhead_1 (by decide) (fun c1 => ?_) (fun c1 => hp_n (n := 4) rfl ?_)
  ·
    replace hf := ms_iT c1 hf
    refine lv_iconst (v := 0) hx hb dX8_isAhead_34 (by decide) (hp_n (n := 35) rfl ?_)
    cases hf
    exact q_zret C B hr hlk (by decide) ⟨rfl, rfl⟩ dX8_isAhead_35
  ·
    replace hf := ms_iF c1 hf
    refine lv_iload_n hx hb dX8_isAhead_4 rfl (lv_at hl 1 rfl) (hp_n (n := 5) rfl ?_)
    refine lv_aload_n hx hb dX8_isAhead_5 rfl (lv_at hl 0 rfl) (hp_n (n := 6) rfl ?_)
    refine q_geti (κ := 9) (k := 3) (φ := 453) (pc' := 9) C B (cw_k B.2.2 k0) fl_X8_22 rfl rfl rfl dX8_isAhead_6 rfl (fun x2 ex2 => ?_)
    replace hf := ms_lE ex2 hf
    refine lv_icmp_ge (tgt := 34) hx hb dX8_isAhead_9 (by decide) (fun c3 => ?_) (fun c3 => hp_n (n := 12) rfl ?_)
    ·
      replace hf := ms_iT c3 hf
      refine lv_iconst (v := 0) hx hb dX8_isAhead_34 (by decide) (hp_n (n := 35) rfl ?_)
      cases hf
      exact q_zret C B hr hlk (by decide) ⟨rfl, rfl⟩ dX8_isAhead_35
    ·
      replace hf := ms_iF c3 hf
      refine lv_iload_n hx hb dX8_isAhead_12 rfl (lv_at hl 1 rfl) (hp_n (n := 13) rfl ?_)
      refine lv_aload_n hx hb dX8_isAhead_13 rfl (lv_at hl 0 rfl) (hp_n (n := 14) rfl ?_)
      refine q_getr (κ := 9) (k := 2) (φ := 452) (pc' := 17) C B (cw_k B.2.2 k0) fl_X8_18 rfl rfl rfl (cw_r B.2.2 k0 rfl rfl (by decide) (by decide)) dX8_isAhead_14 rfl (fun b4 eb4 kb4 => ?_)
      replace hf := ms_lE eb4 hf
      refine q_alen (κ := 23) (t := 2) (n := 64) (x := 64) (ty := .boolean) (pc' := 18) C B (cw_k B.2.2 kb4) (by decide) rfl rfl rfl dX8_isAhead_17 rfl ?_
      refine lv_icmp_ge (tgt := 34) hx hb dX8_isAhead_18 (by decide) (fun c5 => ?_) (fun c5 => hp_n (n := 21) rfl ?_)
      ·
        replace hf := ms_iT c5 hf
        refine lv_iconst (v := 0) hx hb dX8_isAhead_34 (by decide) (hp_n (n := 35) rfl ?_)
        cases hf
        exact q_zret C B hr hlk (by decide) ⟨rfl, rfl⟩ dX8_isAhead_35
      ·
        replace hf := ms_iF c5 hf
        refine lv_aload_n hx hb dX8_isAhead_21 rfl (lv_at hl 0 rfl) (hp_n (n := 22) rfl ?_)
        refine q_getr (κ := 9) (k := 2) (φ := 452) (pc' := 25) C B (cw_k B.2.2 k0) fl_X8_18 rfl rfl rfl (cw_r B.2.2 k0 rfl rfl (by decide) (by decide)) dX8_isAhead_22 rfl (fun b6 eb6 kb6 => ?_)
        replace hf := ms_lE eb6 hf
        refine lv_iload_n hx hb dX8_isAhead_25 rfl (lv_at hl 1 rfl) (hp_n (n := 26) rfl ?_)
        obtain ⟨g7, hf⟩ := ms_gE hf
        refine q_zal (κ := 23) (n := 64) (pc' := 27) C B (cw_k B.2.2 kb6) (by decide) rfl (vi_of g7.1 g7.2) dX8_isAhead_26 rfl ?_
        refine lv_if_eq (tgt := 34) hx hb dX8_isAhead_27 (by decide) (fun c8 => ?_) (fun c8 => hp_n (n := 30) rfl ?_)
        ·
          replace hf := ms_iT c8 hf
          refine lv_iconst (v := 0) hx hb dX8_isAhead_34 (by decide) (hp_n (n := 35) rfl ?_)
          cases hf
          exact q_zret C B hr hlk (by decide) ⟨rfl, rfl⟩ dX8_isAhead_35
        ·
          replace hf := ms_iF c8 hf
          refine lv_iconst (v := 1) hx hb dX8_isAhead_30 (by decide) (hp_n (n := 31) rfl ?_)
          refine lv_goto (tgt := 35) hx hb dX8_isAhead_31 (by decide) ?_
          cases hf
          exact q_zret C B hr hlk (by decide) ⟨rfl, rfl⟩ dX8_isAhead_35
def f_X8_joined (n : Nat) (α : hp_T) (a0 : Nat) (a1 : Int32) (a2 : Int32) (a3 : Int32) (a4 : Int32) : Option Int32 :=
  ms_b (f_X8_isAhead n α a0 a2) fun rh1 =>
  if rh1 = 0 then
    ms_b (f_X11_markOfTwo n a1 a3 a4) fun rh3 =>
    some rh3
  else
    ms_b (f_X11_markOfTwo n a1 a4 a3) fun rh4 =>
    some rh4
set_option maxRecDepth 100000 in
set_option maxHeartbeats 4000000 in
theorem n_X8_joined (n : Nat) (Γ : hp_G) (l : Launch) (α : hp_T) (g : GC α) (a0 : Nat) (k0 : hp_K α a0 = 9) (a1 : Int32) (a2 : Int32) (a3 : Int32) (a4 : Int32) (res : Int32) (hf : f_X8_joined n α a0 a1 a2 a3 a4 = some res) : Met l yX8_joined (hp_ws yX8_joined cX8_joined 5 (some .int)) (hp_rm 1 0 0) (hp_Pc Γ α [.ref a0, .int a1, .int a2, .int a3, .int a4]) (hp_Qi Γ (fun r β => β = α ∧ r = res)) 0 0 (hp_A Γ) := by
  unfold f_X8_joined at hf
  refine hp_start (by decide) ?_
  intro p e s m below meth c C hr hlk B0 hnm
  have C : hp_C Γ p m c cX8_joined 5 s ([.ref a0, .int a1, .int a2, .int a3, .int a4] : List Value).toArray RX8 := C
  have hx := C.1.1
  have hb := C.1.2.1
  have hown := C.1.2.2.2.1
  have hts := C.1.2.2.2.2
  have B : hp_B Γ (cw w_X8_joined) s α α s.heap [] := ⟨B0.1, B0.2.1, cw_rf g⟩
  have hl := lv_entry ([.ref a0, .int a1, .int a2, .int a3, .int a4]) (n := 5) (Nat.le_of_ble_eq_true rfl)
  show W p l e (hp_rm 1 0 0) s m ([.ref a0, .int a1, .int a2, .int a3, .int a4] : List Value).toArray below meth c s.heap [] 0 0 (MQ below (hp_Qi Γ (fun r β => β = α ∧ r = res)) ([.ref a0, .int a1, .int a2, .int a3, .int a4] : List Value).toArray s 0 0 (hp_A Γ)) (entryFrame m ([.ref a0, .int a1, .int a2, .int a3, .int a4] : List Value).toArray 5)
  rw [lg_entry_eq]
  generalize (lg_sl ([.ref a0, .int a1, .int a2, .int a3, .int a4]) ++ List.replicate (5 - (lg_sl ([.ref a0, .int a1, .int a2, .int a3, .int a4])).length) Slot.unset).toArray = ls at hl ⊢
  have hl : lv_has ls 5 [(0, .ref a0), (1, .int a1), (2, .int a2), (3, .int a3), (4, .int a4)] := hl
  refine lv_aload_n hx hb dX8_joined_0 rfl (lv_at hl 0 rfl) (hp_n (n := 1) rfl ?_)
  refine lv_iload_n hx hb dX8_joined_1 rfl (lv_at hl 2 rfl) (hp_n (n := 2) rfl ?_)
  obtain ⟨rh1, qh1, hf⟩ := ms_bE hf
  refine d_pi (pc' := 5) B (hp_runV (As := [.int a2]) (rest := []) C B (n_X8_isAhead n Γ l α B.2.2.1 a0 (cw_k B.2.2 k0) a2 rh1 qh1) lb_X8_isAhead lv_X8_isAhead lk_X8_58 (cw_k B.2.2 k0) rfl (by decide) rfl hl.1 rfl (Nat.le_of_ble_eq_true rfl) dX8_joined_2 ⟨Nat.le_refl _, Nat.le_refl _⟩) rfl (fun Hh1 Lh1 Bh1 => ?_)
  refine lv_if_eq (tgt := 18) hx hb dX8_joined_5 (by decide) (fun c2 => ?_) (fun c2 => hp_n (n := 8) rfl ?_)
  ·
    replace hf := ms_iT c2 hf
    refine lv_iload_n hx hb dX8_joined_18 rfl (lv_at hl 1 rfl) (hp_n (n := 19) rfl ?_)
    refine lv_iload_n hx hb dX8_joined_19 rfl (lv_at hl 3 rfl) (hp_n (n := 20) rfl ?_)
    refine lv_iload hx hb dX8_joined_20 (lv_at hl 4 rfl) (hp_n (n := 22) rfl ?_)
    obtain ⟨rh3, qh3, hf⟩ := ms_bE hf
    refine d_pi (pc' := 25) Bh1 (hp_runS (As := [.int a1, .int a3, .int a4]) (rest := []) C Bh1 (n_X11_markOfTwo n Γ l α Bh1.2.2.1 a1 a3 a4 rh3 qh3) lb_X11_markOfTwo ls_X11_markOfTwo lk_X8_62 rfl (by decide) rfl hl.1 rfl (Nat.le_of_ble_eq_true rfl) dX8_joined_22 ⟨Nat.le_refl _, Nat.le_refl _⟩) rfl (fun Hh3 Lh3 Bh3 => ?_)
    cases hf
    exact q_iret C Bh3 hr hlk ⟨rfl, rfl⟩ dX8_joined_25
  ·
    replace hf := ms_iF c2 hf
    refine lv_iload_n hx hb dX8_joined_8 rfl (lv_at hl 1 rfl) (hp_n (n := 9) rfl ?_)
    refine lv_iload hx hb dX8_joined_9 (lv_at hl 4 rfl) (hp_n (n := 11) rfl ?_)
    refine lv_iload_n hx hb dX8_joined_11 rfl (lv_at hl 3 rfl) (hp_n (n := 12) rfl ?_)
    obtain ⟨rh4, qh4, hf⟩ := ms_bE hf
    refine d_pi (pc' := 15) Bh1 (hp_runS (As := [.int a1, .int a4, .int a3]) (rest := []) C Bh1 (n_X11_markOfTwo n Γ l α Bh1.2.2.1 a1 a4 a3 rh4 qh4) lb_X11_markOfTwo ls_X11_markOfTwo lk_X8_62 rfl (by decide) rfl hl.1 rfl (Nat.le_of_ble_eq_true rfl) dX8_joined_12 ⟨Nat.le_refl _, Nat.le_refl _⟩) rfl (fun Hh4 Lh4 Bh4 => ?_)
    refine lv_goto (tgt := 25) hx hb dX8_joined_15 (by decide) ?_
    cases hf
    exact q_iret C Bh4 hr hlk ⟨rfl, rfl⟩ dX8_joined_25
def f_X8_whyGrowth_J170 (n : Nat) (a0 : Nat) (rec115 : hp_T → Int32 → Nat → Int32 → Int32 → Int32 → Int32 → Int32 → Option (Int32 × hp_T)) (αh19 : hp_T) (v1_h19 : Int32) (v2_h19 : Nat) (v4_h19 : Int32) (v6_h19 : Int32) (v8_h19 : Int32) (v9_h19 : Int32) (w0_h19 : Int32) : Option (Int32 × hp_T) :=
  ms_l (v9_h19 + 1) fun x20 =>
  rec115 αh19 v1_h19 v2_h19 v4_h19 v6_h19 w0_h19 v8_h19 x20
def f_X8_whyGrowth_L115 (n : Nat) (a0 : Nat) : Nat → hp_T → Int32 → Nat → Int32 → Int32 → Int32 → Int32 → Int32 → Option (Int32 × hp_T)
  | 0, _, _, _, _, _, _, _, _ => none
  | k115 + 1, αh11, v1_h11, v2_h11, v4_h11, v6_h11, v7_h11, v8_h11, v9_h11 =>
    ms_l (hp_I αh11 453 a0) fun x12 =>
    if x12 ≤ v9_h11 then
      if v7_h11 = v4_h11 then
        if v8_h11 = v6_h11 then
          some ((0 : Int32), αh11)
        else
          some ((4 : Int32), αh11)
      else
        some ((3 : Int32), αh11)
    else
      ms_b (f_X5_at n αh11 v2_h11 v9_h11) fun rh16 =>
      ms_b (f_X8_joined n αh11 a0 v1_h11 v9_h11 v8_h11 rh16) fun rh17 =>
      ms_b (f_X8_isAhead n αh11 a0 v9_h11) fun rh18 =>
      if rh18 = 0 then
        f_X8_whyGrowth_J170 n a0 (f_X8_whyGrowth_L115 n a0 k115) αh11 v1_h11 v2_h11 v4_h11 v6_h11 rh17 v9_h11 v7_h11
      else
        ms_b (f_X5_at n αh11 v2_h11 v9_h11) fun rh22 =>
        ms_b (f_X8_joined n αh11 a0 v1_h11 v9_h11 v7_h11 rh22) fun rh23 =>
        f_X8_whyGrowth_J170 n a0 (f_X8_whyGrowth_L115 n a0 k115) αh11 v1_h11 v2_h11 v4_h11 v6_h11 rh17 v9_h11 rh23
def f_X8_whyGrowth_J113 (n : Nat) (a0 : Nat) (αh10 : hp_T) (v1_h10 : Int32) (v2_h10 : Nat) (v4_h10 : Int32) (v6_h10 : Int32) (v7_h10 : Int32) (v8_h10 : Int32) (w0_h10 : Int32) : Option (Int32 × hp_T) :=
  f_X8_whyGrowth_L115 n a0 n αh10 v1_h10 v2_h10 v4_h10 v6_h10 v7_h10 v8_h10 w0_h10
def f_X8_whyGrowth_J95 (n : Nat) (a0 : Nat) (αh8 : hp_T) (v1_h8 : Int32) (v2_h8 : Nat) (v4_h8 : Int32) (v6_h8 : Int32) (w0_h8 : Int32) : Option (Int32 × hp_T) :=
  ms_l (hp_I αh8 454 a0) fun x9 =>
  if x9 = 0 then
    f_X8_whyGrowth_J113 n a0 αh8 v1_h8 v2_h8 v4_h8 v6_h8 w0_h8 w0_h8 (0 : Int32)
  else
    f_X8_whyGrowth_J113 n a0 αh8 v1_h8 v2_h8 v4_h8 v6_h8 w0_h8 w0_h8 (1 : Int32)
def f_X8_whyGrowth_J57 (n : Nat) (a0 : Nat) (αh29 : hp_T) : Option (Int32 × hp_T) :=
  some ((0 : Int32), αh29)
def f_X8_whyGrowth (n : Nat) (α : hp_T) (a0 : Nat) (a1 : Int32) (a2 : Nat) (a3 : Int32) (a4 : Int32) (a5 : Int32) (a6 : Int32) : Option (Int32 × hp_T) :=
  ms_b (f_X8_toGrowth n α a0 a3 a5) fun αh1 =>
  ms_l (hp_I αh1 301 a2) fun x2 =>
  ms_l (hp_I αh1 453 a0) fun x3 =>
  if x2 = x3 then
    if a3 = a5 then
      if a4 = a6 then
        if a3 = 0 then
          if a4 = 0 then
            f_X8_whyGrowth_J57 n a0 αh1
          else
            some ((3 : Int32), αh1)
        else
          f_X8_whyGrowth_J57 n a0 αh1
      else
        some ((3 : Int32), αh1)
    else
      if a3 = 0 then
        if a4 = 0 then
          some ((0 : Int32), αh1)
        else
          some ((3 : Int32), αh1)
      else
        ms_l (hp_I αh1 454 a0) fun x7 =>
        if x7 = 0 then
          f_X8_whyGrowth_J95 n a0 αh1 a1 a2 a4 a6 a4
        else
          ms_b (f_X5_at n αh1 a2 (0 : Int32)) fun rh26 =>
          f_X8_whyGrowth_J95 n a0 αh1 a1 a2 a4 a6 rh26
  else
    ms_l (hp_I αh1 301 a2) fun x32 =>
    ms_l (hp_I αh1 453 a0) fun x33 =>
    if x33 ≤ x32 then
      some ((2 : Int32), αh1)
    else
      some ((1 : Int32), αh1)
set_option maxRecDepth 100000 in
set_option maxHeartbeats 4000000 in
theorem n_X8_whyGrowth (n : Nat) (Γ : hp_G) (l : Launch) (α : hp_T) (g : GC α) (a0 : Nat) (k0 : hp_K α a0 = 9) (a1 : Int32) (a2 : Nat) (k2 : hp_K α a2 = 6) (a3 : Int32) (a4 : Int32) (a5 : Int32) (a6 : Int32) (res : (Int32 × hp_T)) (hf : f_X8_whyGrowth n α a0 a1 a2 a3 a4 a5 a6 = some res) : Met l yX8_whyGrowth (hp_ws yX8_whyGrowth cX8_whyGrowth 10 (some .int)) (hp_rm 4 0 0) (hp_Pc Γ α [.ref a0, .int a1, .ref a2, .int a3, .int a4, .int a5, .int a6]) (hp_Qi Γ (fun r β => r = res.1 ∧ β = res.2 ∧ cw w_X8_whyGrowth α β)) 0 0 (hp_A Γ) := by
  unfold f_X8_whyGrowth at hf
  refine hp_start (by decide) ?_
  intro p e s m below meth c C hr hlk B0 hnm
  have C : hp_C Γ p m c cX8_whyGrowth 10 s ([.ref a0, .int a1, .ref a2, .int a3, .int a4, .int a5, .int a6] : List Value).toArray RX8 := C
  have hx := C.1.1
  have hb := C.1.2.1
  have hown := C.1.2.2.2.1
  have hts := C.1.2.2.2.2
  have B : hp_B Γ (cw w_X8_whyGrowth) s α α s.heap [] := ⟨B0.1, B0.2.1, cw_rf g⟩
  have hl := lv_entry ([.ref a0, .int a1, .ref a2, .int a3, .int a4, .int a5, .int a6]) (n := 10) (Nat.le_of_ble_eq_true rfl)
  show W p l e (hp_rm 4 0 0) s m ([.ref a0, .int a1, .ref a2, .int a3, .int a4, .int a5, .int a6] : List Value).toArray below meth c s.heap [] 0 0 (MQ below (hp_Qi Γ (fun r β => r = res.1 ∧ β = res.2 ∧ cw w_X8_whyGrowth α β)) ([.ref a0, .int a1, .ref a2, .int a3, .int a4, .int a5, .int a6] : List Value).toArray s 0 0 (hp_A Γ)) (entryFrame m ([.ref a0, .int a1, .ref a2, .int a3, .int a4, .int a5, .int a6] : List Value).toArray 10)
  rw [lg_entry_eq]
  generalize (lg_sl ([.ref a0, .int a1, .ref a2, .int a3, .int a4, .int a5, .int a6]) ++ List.replicate (10 - (lg_sl ([.ref a0, .int a1, .ref a2, .int a3, .int a4, .int a5, .int a6])).length) Slot.unset).toArray = ls at hl ⊢
  have hl : lv_has ls 10 [(0, .ref a0), (1, .int a1), (2, .ref a2), (3, .int a3), (4, .int a4), (5, .int a5), (6, .int a6)] := hl
  refine lv_aload_n hx hb dX8_whyGrowth_0 rfl (lv_at hl 0 rfl) (hp_n (n := 1) rfl ?_)
  refine lv_iload_n hx hb dX8_whyGrowth_1 rfl (lv_at hl 3 rfl) (hp_n (n := 2) rfl ?_)
  refine lv_iload hx hb dX8_whyGrowth_2 (lv_at hl 5 rfl) (hp_n (n := 4) rfl ?_)
  obtain ⟨αh1, qh1, hf⟩ := ms_bE hf
  refine d_cv (pc' := 7) B (hp_runV (As := [.int a3, .int a5]) (rest := []) C B (n_X8_toGrowth n Γ l α B.2.2.1 a0 (cw_k B.2.2 k0) a3 a5 αh1 qh1) lb_X8_toGrowth lv_X8_toGrowth lk_X8_79 (cw_k B.2.2 k0) rfl (by decide) rfl hl.1 rfl (Nat.le_of_ble_eq_true rfl) dX8_whyGrowth_4 ⟨Nat.le_refl _, Nat.le_refl _⟩) (by decide) rfl (fun Hh1 Lh1 Bh1 => ?_)
  refine lv_aload_n hx hb dX8_whyGrowth_7 rfl (lv_at hl 2 rfl) (hp_n (n := 8) rfl ?_)
  refine q_geti (κ := 6) (k := 1) (φ := 301) (pc' := 11) C Bh1 (cw_k Bh1.2.2 k2) fl_X8_74 rfl rfl rfl dX8_whyGrowth_8 rfl (fun x2 ex2 => ?_)
  replace hf := ms_lE ex2 hf
  refine lv_aload_n hx hb dX8_whyGrowth_11 rfl (lv_at hl 0 rfl) (hp_n (n := 12) rfl ?_)
  refine q_geti (κ := 9) (k := 3) (φ := 453) (pc' := 15) C Bh1 (cw_k Bh1.2.2 k0) fl_X8_22 rfl rfl rfl dX8_whyGrowth_12 rfl (fun x3 ex3 => ?_)
  replace hf := ms_lE ex3 hf
  refine lv_icmp_eq (tgt := 35) hx hb dX8_whyGrowth_15 (by decide) (fun c4 => ?_) (fun c4 => hp_n (n := 18) rfl ?_)
  ·
    replace hf := ms_iT c4 hf
    refine lv_iload_n hx hb dX8_whyGrowth_35 rfl (lv_at hl 3 rfl) (hp_n (n := 36) rfl ?_)
    refine lv_iload hx hb dX8_whyGrowth_36 (lv_at hl 5 rfl) (hp_n (n := 38) rfl ?_)
    refine lv_icmp_ne (tgt := 63) hx hb dX8_whyGrowth_38 (by decide) (fun c5 => ?_) (fun c5 => hp_n (n := 41) rfl ?_)
    ·
      replace hf := ms_iF c5 hf
      refine lv_iload_n hx hb dX8_whyGrowth_63 rfl (lv_at hl 3 rfl) (hp_n (n := 64) rfl ?_)
      refine lv_if_ne (tgt := 78) hx hb dX8_whyGrowth_64 (by decide) (fun c6 => ?_) (fun c6 => hp_n (n := 67) rfl ?_)
      ·
        replace hf := ms_iF c6 hf
        refine lv_aload_n hx hb dX8_whyGrowth_78 rfl (lv_at hl 0 rfl) (hp_n (n := 79) rfl ?_)
        refine q_geti (κ := 9) (k := 4) (φ := 454) (pc' := 82) C Bh1 (cw_k Bh1.2.2 k0) fl_X8_26 rfl rfl rfl dX8_whyGrowth_79 rfl (fun x7 ex7 => ?_)
        replace hf := ms_lE ex7 hf
        have J95 : ∀ (αh8 : hp_T) (Hh8 : Heap) (Lh8 : List Loc) (Bh8 : hp_B Γ (cw w_X8_whyGrowth) s α αh8 Hh8 Lh8) (v1_h8 : Int32) (v2_h8 : Nat) (kv2_h8 : hp_K α v2_h8 = 6) (v4_h8 : Int32) (v6_h8 : Int32) (w0_h8 : Int32) (ls : Array Slot) (hl : lv_has ls 10 [(0, .ref a0), (1, .int v1_h8), (2, .ref v2_h8), (4, .int v4_h8), (6, .int v6_h8)]) (hf : f_X8_whyGrowth_J95 n a0 αh8 v1_h8 v2_h8 v4_h8 v6_h8 w0_h8 = some res), W p l e (hp_rm 4 0 0) s m ([.ref a0, .int a1, .ref a2, .int a3, .int a4, .int a5, .int a6] : List Value).toArray below meth c Hh8 Lh8 0 0 (MQ below (hp_Qi Γ (fun r β => r = res.1 ∧ β = res.2 ∧ cw w_X8_whyGrowth α β)) ([.ref a0, .int a1, .ref a2, .int a3, .int a4, .int a5, .int a6] : List Value).toArray s 0 0 (hp_A Γ)) (F0 m 95 ls [.int w0_h8]) := by
          intro αh8 Hh8 Lh8 Bh8 v1_h8 v2_h8 kv2_h8 v4_h8 v6_h8 w0_h8 ls hl hf
          unfold f_X8_whyGrowth_J95 at hf
          refine lv_istore (lv' := [(7, .int w0_h8), (0, .ref a0), (1, .int v1_h8), (2, .ref v2_h8), (4, .int v4_h8), (6, .int v6_h8)]) hx hb dX8_whyGrowth_95 hl (by decide) rfl (fun ls hl => hp_n (n := 97) rfl ?_)
          refine lv_iload hx hb dX8_whyGrowth_97 (lv_at hl 0 rfl) (hp_n (n := 99) rfl ?_)
          refine lv_istore (lv' := [(8, .int w0_h8), (7, .int w0_h8), (0, .ref a0), (1, .int v1_h8), (2, .ref v2_h8), (4, .int v4_h8), (6, .int v6_h8)]) hx hb dX8_whyGrowth_99 hl (by decide) rfl (fun ls hl => hp_n (n := 101) rfl ?_)
          refine lv_aload_n hx hb dX8_whyGrowth_101 rfl (lv_at hl 2 rfl) (hp_n (n := 102) rfl ?_)
          refine q_geti (κ := 9) (k := 4) (φ := 454) (pc' := 105) C Bh8 (cw_k Bh8.2.2 k0) fl_X8_26 rfl rfl rfl dX8_whyGrowth_102 rfl (fun x9 ex9 => ?_)
          replace hf := ms_lE ex9 hf
          have J113 : ∀ (αh10 : hp_T) (Hh10 : Heap) (Lh10 : List Loc) (Bh10 : hp_B Γ (cw w_X8_whyGrowth) s α αh10 Hh10 Lh10) (v1_h10 : Int32) (v2_h10 : Nat) (kv2_h10 : hp_K α v2_h10 = 6) (v4_h10 : Int32) (v6_h10 : Int32) (v7_h10 : Int32) (v8_h10 : Int32) (w0_h10 : Int32) (ls : Array Slot) (hl : lv_has ls 10 [(0, .ref a0), (1, .int v1_h10), (2, .ref v2_h10), (4, .int v4_h10), (6, .int v6_h10), (7, .int v7_h10), (8, .int v8_h10)]) (hf : f_X8_whyGrowth_J113 n a0 αh10 v1_h10 v2_h10 v4_h10 v6_h10 v7_h10 v8_h10 w0_h10 = some res), W p l e (hp_rm 4 0 0) s m ([.ref a0, .int a1, .ref a2, .int a3, .int a4, .int a5, .int a6] : List Value).toArray below meth c Hh10 Lh10 0 0 (MQ below (hp_Qi Γ (fun r β => r = res.1 ∧ β = res.2 ∧ cw w_X8_whyGrowth α β)) ([.ref a0, .int a1, .ref a2, .int a3, .int a4, .int a5, .int a6] : List Value).toArray s 0 0 (hp_A Γ)) (F0 m 113 ls [.int w0_h10]) := by
            intro αh10 Hh10 Lh10 Bh10 v1_h10 v2_h10 kv2_h10 v4_h10 v6_h10 v7_h10 v8_h10 w0_h10 ls hl hf
            unfold f_X8_whyGrowth_J113 at hf
            have J115 : ∀ (k115 : Nat) (αh11 : hp_T) (Hh11 : Heap) (Lh11 : List Loc) (Bh11 : hp_B Γ (cw w_X8_whyGrowth) s α αh11 Hh11 Lh11) (v1_h11 : Int32) (v2_h11 : Nat) (kv2_h11 : hp_K α v2_h11 = 6) (v4_h11 : Int32) (v6_h11 : Int32) (v7_h11 : Int32) (v8_h11 : Int32) (v9_h11 : Int32) (ls : Array Slot) (hl : lv_has ls 10 [(0, .ref a0), (1, .int v1_h11), (2, .ref v2_h11), (4, .int v4_h11), (6, .int v6_h11), (7, .int v7_h11), (8, .int v8_h11), (9, .int v9_h11)]) (hf : f_X8_whyGrowth_L115 n a0 k115 αh11 v1_h11 v2_h11 v4_h11 v6_h11 v7_h11 v8_h11 v9_h11 = some res), W p l e (hp_rm 4 0 0) s m ([.ref a0, .int a1, .ref a2, .int a3, .int a4, .int a5, .int a6] : List Value).toArray below meth c Hh11 Lh11 0 0 (MQ below (hp_Qi Γ (fun r β => r = res.1 ∧ β = res.2 ∧ cw w_X8_whyGrowth α β)) ([.ref a0, .int a1, .ref a2, .int a3, .int a4, .int a5, .int a6] : List Value).toArray s 0 0 (hp_A Γ)) (F0 m 115 ls []) := by
              intro k115
              induction k115 with
              | zero => intro αh11 Hh11 Lh11 Bh11 v1_h11 v2_h11 kv2_h11 v4_h11 v6_h11 v7_h11 v8_h11 v9_h11 ls hl hf; rw [f_X8_whyGrowth_L115.eq_1] at hf; cases hf
              | succ k115 ih115 =>
                intro αh11 Hh11 Lh11 Bh11 v1_h11 v2_h11 kv2_h11 v4_h11 v6_h11 v7_h11 v8_h11 v9_h11 ls hl hf
                rw [f_X8_whyGrowth_L115.eq_2] at hf
                refine lv_iload hx hb dX8_whyGrowth_115 (lv_at hl 7 rfl) (hp_n (n := 117) rfl ?_)
                refine lv_aload_n hx hb dX8_whyGrowth_117 rfl (lv_at hl 0 rfl) (hp_n (n := 118) rfl ?_)
                refine q_geti (κ := 9) (k := 3) (φ := 453) (pc' := 121) C Bh11 (cw_k Bh11.2.2 k0) fl_X8_22 rfl rfl rfl dX8_whyGrowth_118 rfl (fun x12 ex12 => ?_)
                replace hf := ms_lE ex12 hf
                refine lv_icmp_ge (tgt := 178) hx hb dX8_whyGrowth_121 (by decide) (fun c13 => ?_) (fun c13 => hp_n (n := 124) rfl ?_)
                ·
                  replace hf := ms_iT c13 hf
                  refine lv_iload hx hb dX8_whyGrowth_178 (lv_at hl 5 rfl) (hp_n (n := 180) rfl ?_)
                  refine lv_iload hx hb dX8_whyGrowth_180 (lv_at hl 3 rfl) (hp_n (n := 182) rfl ?_)
                  refine lv_icmp_eq (tgt := 187) hx hb dX8_whyGrowth_182 (by decide) (fun c14 => ?_) (fun c14 => hp_n (n := 185) rfl ?_)
                  ·
                    replace hf := ms_iT c14 hf
                    refine lv_iload hx hb dX8_whyGrowth_187 (lv_at hl 6 rfl) (hp_n (n := 189) rfl ?_)
                    refine lv_iload hx hb dX8_whyGrowth_189 (lv_at hl 4 rfl) (hp_n (n := 191) rfl ?_)
                    refine lv_icmp_ne (tgt := 198) hx hb dX8_whyGrowth_191 (by decide) (fun c15 => ?_) (fun c15 => hp_n (n := 194) rfl ?_)
                    ·
                      replace hf := ms_iF c15 hf
                      refine lv_iconst (v := 4) hx hb dX8_whyGrowth_198 (by decide) (hp_n (n := 199) rfl ?_)
                      cases hf
                      exact q_iret C Bh11 hr hlk ⟨rfl, rfl, Bh11.2.2⟩ dX8_whyGrowth_199
                    ·
                      replace hf := ms_iT c15 hf
                      refine lv_iconst (v := 0) hx hb dX8_whyGrowth_194 (by decide) (hp_n (n := 195) rfl ?_)
                      refine lv_goto (tgt := 199) hx hb dX8_whyGrowth_195 (by decide) ?_
                      cases hf
                      exact q_iret C Bh11 hr hlk ⟨rfl, rfl, Bh11.2.2⟩ dX8_whyGrowth_199
                  ·
                    replace hf := ms_iF c14 hf
                    refine lv_iconst (v := 3) hx hb dX8_whyGrowth_185 (by decide) (hp_n (n := 186) rfl ?_)
                    cases hf
                    exact q_iret C Bh11 hr hlk ⟨rfl, rfl, Bh11.2.2⟩ dX8_whyGrowth_186
                ·
                  replace hf := ms_iF c13 hf
                  refine lv_aload_n hx hb dX8_whyGrowth_124 rfl (lv_at hl 0 rfl) (hp_n (n := 125) rfl ?_)
                  refine lv_iload_n hx hb dX8_whyGrowth_125 rfl (lv_at hl 1 rfl) (hp_n (n := 126) rfl ?_)
                  refine lv_iload hx hb dX8_whyGrowth_126 (lv_at hl 7 rfl) (hp_n (n := 128) rfl ?_)
                  refine lv_iload hx hb dX8_whyGrowth_128 (lv_at hl 6 rfl) (hp_n (n := 130) rfl ?_)
                  refine lv_aload_n hx hb dX8_whyGrowth_130 rfl (lv_at hl 2 rfl) (hp_n (n := 131) rfl ?_)
                  refine lv_iload hx hb dX8_whyGrowth_131 (lv_at hl 7 rfl) (hp_n (n := 133) rfl ?_)
                  obtain ⟨rh16, qh16, hf⟩ := ms_bE hf
                  refine d_pi (pc' := 136) Bh11 (hp_runV (As := [.int v9_h11]) (rest := [.int v8_h11, .int v9_h11, .int v1_h11, .ref a0]) C Bh11 (n_X5_at n Γ l αh11 Bh11.2.2.1 v2_h11 (cw_k Bh11.2.2 kv2_h11) v9_h11 rh16 qh16) lb_X5_at lv_X5_at lk_X8_65 (cw_k Bh11.2.2 kv2_h11) rfl (by decide) rfl hl.1 rfl (Nat.le_of_ble_eq_true rfl) dX8_whyGrowth_133 ⟨Nat.le_refl _, Nat.le_refl _⟩) rfl (fun Hh16 Lh16 Bh16 => ?_)
                  obtain ⟨rh17, qh17, hf⟩ := ms_bE hf
                  refine d_pi (pc' := 139) Bh16 (hp_runV (As := [.int v1_h11, .int v9_h11, .int v8_h11, .int rh16]) (rest := []) C Bh16 (n_X8_joined n Γ l αh11 Bh16.2.2.1 a0 (cw_k Bh16.2.2 k0) v1_h11 v9_h11 v8_h11 rh16 rh17 qh17) lb_X8_joined lv_X8_joined lk_X8_70 (cw_k Bh16.2.2 k0) rfl (by decide) rfl hl.1 rfl (Nat.le_of_ble_eq_true rfl) dX8_whyGrowth_136 ⟨Nat.le_refl _, Nat.le_refl _⟩) rfl (fun Hh17 Lh17 Bh17 => ?_)
                  refine lv_istore (lv' := [(8, .int rh17), (0, .ref a0), (1, .int v1_h11), (2, .ref v2_h11), (4, .int v4_h11), (6, .int v6_h11), (7, .int v7_h11), (9, .int v9_h11)]) hx hb dX8_whyGrowth_139 hl (by decide) rfl (fun ls hl => hp_n (n := 141) rfl ?_)
                  refine lv_aload_n hx hb dX8_whyGrowth_141 rfl (lv_at hl 1 rfl) (hp_n (n := 142) rfl ?_)
                  refine lv_iload hx hb dX8_whyGrowth_142 (lv_at hl 7 rfl) (hp_n (n := 144) rfl ?_)
                  obtain ⟨rh18, qh18, hf⟩ := ms_bE hf
                  refine d_pi (pc' := 147) Bh17 (hp_runV (As := [.int v9_h11]) (rest := []) C Bh17 (n_X8_isAhead n Γ l αh11 Bh17.2.2.1 a0 (cw_k Bh17.2.2 k0) v9_h11 rh18 qh18) lb_X8_isAhead lv_X8_isAhead lk_X8_58 (cw_k Bh17.2.2 k0) rfl (by decide) rfl hl.1 rfl (Nat.le_of_ble_eq_true rfl) dX8_whyGrowth_144 ⟨Nat.le_refl _, Nat.le_refl _⟩) rfl (fun Hh18 Lh18 Bh18 => ?_)
                  have J170 : ∀ (αh19 : hp_T) (Hh19 : Heap) (Lh19 : List Loc) (Bh19 : hp_B Γ (cw w_X8_whyGrowth) s α αh19 Hh19 Lh19) (v1_h19 : Int32) (v2_h19 : Nat) (kv2_h19 : hp_K α v2_h19 = 6) (v4_h19 : Int32) (v6_h19 : Int32) (v8_h19 : Int32) (v9_h19 : Int32) (w0_h19 : Int32) (ls : Array Slot) (hl : lv_has ls 10 [(0, .ref a0), (1, .int v1_h19), (2, .ref v2_h19), (4, .int v4_h19), (6, .int v6_h19), (8, .int v8_h19), (9, .int v9_h19)]) (hf : f_X8_whyGrowth_J170 n a0 (f_X8_whyGrowth_L115 n a0 k115) αh19 v1_h19 v2_h19 v4_h19 v6_h19 v8_h19 v9_h19 w0_h19 = some res), W p l e (hp_rm 4 0 0) s m ([.ref a0, .int a1, .ref a2, .int a3, .int a4, .int a5, .int a6] : List Value).toArray below meth c Hh19 Lh19 0 0 (MQ below (hp_Qi Γ (fun r β => r = res.1 ∧ β = res.2 ∧ cw w_X8_whyGrowth α β)) ([.ref a0, .int a1, .ref a2, .int a3, .int a4, .int a5, .int a6] : List Value).toArray s 0 0 (hp_A Γ)) (F0 m 170 ls [.int w0_h19]) := by
                    intro αh19 Hh19 Lh19 Bh19 v1_h19 v2_h19 kv2_h19 v4_h19 v6_h19 v8_h19 v9_h19 w0_h19 ls hl hf
                    unfold f_X8_whyGrowth_J170 at hf
                    refine lv_istore (lv' := [(7, .int w0_h19), (0, .ref a0), (1, .int v1_h19), (2, .ref v2_h19), (4, .int v4_h19), (6, .int v6_h19), (8, .int v8_h19), (9, .int v9_h19)]) hx hb dX8_whyGrowth_170 hl (by decide) rfl (fun ls hl => hp_n (n := 172) rfl ?_)
                    obtain ⟨x20, ex20⟩ : ∃ y : Int32, y = v9_h19 + 1 := ⟨_, rfl⟩
                    replace hf := ms_lE ex20 hf
                    refine lv_iinc (v := x20) (lv' := [(9, .int x20), (7, .int w0_h19), (0, .ref a0), (1, .int v1_h19), (2, .ref v2_h19), (4, .int v4_h19), (6, .int v6_h19), (8, .int v8_h19)]) hx hb dX8_whyGrowth_172 hl (k := 7) rfl (by rw [ex20]; rfl) (by decide) rfl (fun ls hl => hp_n (n := 175) rfl ?_)
                    refine lv_goto (tgt := 115) hx hb dX8_whyGrowth_175 (by decide) ?_
                    exact ih115 αh19 Hh19 Lh19 Bh19 v1_h19 v2_h19 kv2_h19 v4_h19 v6_h19 w0_h19 v8_h19 x20 ls (lv_sub hl [2, 3, 4, 5, 6, 1, 7, 0] rfl) hf
                  refine lv_if_eq (tgt := 168) hx hb dX8_whyGrowth_147 (by decide) (fun c21 => ?_) (fun c21 => hp_n (n := 150) rfl ?_)
                  ·
                    replace hf := ms_iT c21 hf
                    refine lv_iload hx hb dX8_whyGrowth_168 (lv_at hl 6 rfl) (hp_n (n := 170) rfl ?_)
                    exact J170 αh11 Hh18 Lh18 Bh18 v1_h11 v2_h11 kv2_h11 v4_h11 v6_h11 rh17 v9_h11 v7_h11 ls (lv_sub hl [1, 2, 3, 4, 5, 0, 7] rfl) hf
                  ·
                    replace hf := ms_iF c21 hf
                    refine lv_aload_n hx hb dX8_whyGrowth_150 rfl (lv_at hl 1 rfl) (hp_n (n := 151) rfl ?_)
                    refine lv_iload_n hx hb dX8_whyGrowth_151 rfl (lv_at hl 2 rfl) (hp_n (n := 152) rfl ?_)
                    refine lv_iload hx hb dX8_whyGrowth_152 (lv_at hl 7 rfl) (hp_n (n := 154) rfl ?_)
                    refine lv_iload hx hb dX8_whyGrowth_154 (lv_at hl 6 rfl) (hp_n (n := 156) rfl ?_)
                    refine lv_aload_n hx hb dX8_whyGrowth_156 rfl (lv_at hl 3 rfl) (hp_n (n := 157) rfl ?_)
                    refine lv_iload hx hb dX8_whyGrowth_157 (lv_at hl 7 rfl) (hp_n (n := 159) rfl ?_)
                    obtain ⟨rh22, qh22, hf⟩ := ms_bE hf
                    refine d_pi (pc' := 162) Bh18 (hp_runV (As := [.int v9_h11]) (rest := [.int v7_h11, .int v9_h11, .int v1_h11, .ref a0]) C Bh18 (n_X5_at n Γ l αh11 Bh18.2.2.1 v2_h11 (cw_k Bh18.2.2 kv2_h11) v9_h11 rh22 qh22) lb_X5_at lv_X5_at lk_X8_65 (cw_k Bh18.2.2 kv2_h11) rfl (by decide) rfl hl.1 rfl (Nat.le_of_ble_eq_true rfl) dX8_whyGrowth_159 ⟨Nat.le_refl _, Nat.le_refl _⟩) rfl (fun Hh22 Lh22 Bh22 => ?_)
                    obtain ⟨rh23, qh23, hf⟩ := ms_bE hf
                    refine d_pi (pc' := 165) Bh22 (hp_runV (As := [.int v1_h11, .int v9_h11, .int v7_h11, .int rh22]) (rest := []) C Bh22 (n_X8_joined n Γ l αh11 Bh22.2.2.1 a0 (cw_k Bh22.2.2 k0) v1_h11 v9_h11 v7_h11 rh22 rh23 qh23) lb_X8_joined lv_X8_joined lk_X8_70 (cw_k Bh22.2.2 k0) rfl (by decide) rfl hl.1 rfl (Nat.le_of_ble_eq_true rfl) dX8_whyGrowth_162 ⟨Nat.le_refl _, Nat.le_refl _⟩) rfl (fun Hh23 Lh23 Bh23 => ?_)
                    refine lv_goto (tgt := 170) hx hb dX8_whyGrowth_165 (by decide) ?_
                    exact J170 αh11 Hh23 Lh23 Bh23 v1_h11 v2_h11 kv2_h11 v4_h11 v6_h11 rh17 v9_h11 rh23 ls (lv_sub hl [1, 2, 3, 4, 5, 0, 7] rfl) hf
            refine lv_istore (lv' := [(9, .int w0_h10), (0, .ref a0), (1, .int v1_h10), (2, .ref v2_h10), (4, .int v4_h10), (6, .int v6_h10), (7, .int v7_h10), (8, .int v8_h10)]) hx hb dX8_whyGrowth_113 hl (by decide) rfl (fun ls hl => hp_n (n := 115) rfl ?_)
            exact J115 n αh10 Hh10 Lh10 Bh10 v1_h10 v2_h10 kv2_h10 v4_h10 v6_h10 v7_h10 v8_h10 w0_h10 ls (lv_sub hl [1, 2, 3, 4, 5, 6, 7, 0] rfl) hf
          refine lv_if_eq (tgt := 112) hx hb dX8_whyGrowth_105 (by decide) (fun c24 => ?_) (fun c24 => hp_n (n := 108) rfl ?_)
          ·
            replace hf := ms_iT c24 hf
            refine lv_iconst (v := 0) hx hb dX8_whyGrowth_112 (by decide) (hp_n (n := 113) rfl ?_)
            exact J113 αh8 Hh8 Lh8 Bh8 v1_h8 v2_h8 kv2_h8 v4_h8 v6_h8 w0_h8 w0_h8 (0 : Int32) ls (lv_sub hl [2, 3, 4, 5, 6, 1, 0] rfl) hf
          ·
            replace hf := ms_iF c24 hf
            refine lv_iconst (v := 1) hx hb dX8_whyGrowth_108 (by decide) (hp_n (n := 109) rfl ?_)
            refine lv_goto (tgt := 113) hx hb dX8_whyGrowth_109 (by decide) ?_
            exact J113 αh8 Hh8 Lh8 Bh8 v1_h8 v2_h8 kv2_h8 v4_h8 v6_h8 w0_h8 w0_h8 (1 : Int32) ls (lv_sub hl [2, 3, 4, 5, 6, 1, 0] rfl) hf
        refine lv_if_eq (tgt := 93) hx hb dX8_whyGrowth_82 (by decide) (fun c25 => ?_) (fun c25 => hp_n (n := 85) rfl ?_)
        ·
          replace hf := ms_iT c25 hf
          refine lv_iload hx hb dX8_whyGrowth_93 (lv_at hl 4 rfl) (hp_n (n := 95) rfl ?_)
          exact J95 αh1 Hh1 Lh1 Bh1 a1 a2 k2 a4 a6 a4 ls (lv_sub hl [0, 1, 2, 4, 6] rfl) hf
        ·
          replace hf := ms_iF c25 hf
          refine lv_aload_n hx hb dX8_whyGrowth_85 rfl (lv_at hl 2 rfl) (hp_n (n := 86) rfl ?_)
          refine lv_iconst (v := 0) hx hb dX8_whyGrowth_86 (by decide) (hp_n (n := 87) rfl ?_)
          obtain ⟨rh26, qh26, hf⟩ := ms_bE hf
          refine d_pi (pc' := 90) Bh1 (hp_runV (As := [.int (0 : Int32)]) (rest := []) C Bh1 (n_X5_at n Γ l αh1 Bh1.2.2.1 a2 (cw_k Bh1.2.2 k2) (0 : Int32) rh26 qh26) lb_X5_at lv_X5_at lk_X8_65 (cw_k Bh1.2.2 k2) rfl (by decide) rfl hl.1 rfl (Nat.le_of_ble_eq_true rfl) dX8_whyGrowth_87 ⟨Nat.le_refl _, Nat.le_refl _⟩) rfl (fun Hh26 Lh26 Bh26 => ?_)
          refine lv_goto (tgt := 95) hx hb dX8_whyGrowth_90 (by decide) ?_
          exact J95 αh1 Hh26 Lh26 Bh26 a1 a2 k2 a4 a6 rh26 ls (lv_sub hl [0, 1, 2, 4, 6] rfl) hf
      ·
        replace hf := ms_iT c6 hf
        refine lv_iload hx hb dX8_whyGrowth_67 (lv_at hl 4 rfl) (hp_n (n := 69) rfl ?_)
        refine lv_if_ne (tgt := 76) hx hb dX8_whyGrowth_69 (by decide) (fun c27 => ?_) (fun c27 => hp_n (n := 72) rfl ?_)
        ·
          replace hf := ms_iF c27 hf
          refine lv_iconst (v := 3) hx hb dX8_whyGrowth_76 (by decide) (hp_n (n := 77) rfl ?_)
          cases hf
          exact q_iret C Bh1 hr hlk ⟨rfl, rfl, Bh1.2.2⟩ dX8_whyGrowth_77
        ·
          replace hf := ms_iT c27 hf
          refine lv_iconst (v := 0) hx hb dX8_whyGrowth_72 (by decide) (hp_n (n := 73) rfl ?_)
          refine lv_goto (tgt := 77) hx hb dX8_whyGrowth_73 (by decide) ?_
          cases hf
          exact q_iret C Bh1 hr hlk ⟨rfl, rfl, Bh1.2.2⟩ dX8_whyGrowth_77
    ·
      replace hf := ms_iT c5 hf
      refine lv_iload hx hb dX8_whyGrowth_41 (lv_at hl 4 rfl) (hp_n (n := 43) rfl ?_)
      refine lv_iload hx hb dX8_whyGrowth_43 (lv_at hl 6 rfl) (hp_n (n := 45) rfl ?_)
      refine lv_icmp_ne (tgt := 61) hx hb dX8_whyGrowth_45 (by decide) (fun c28 => ?_) (fun c28 => hp_n (n := 48) rfl ?_)
      ·
        replace hf := ms_iF c28 hf
        refine lv_iconst (v := 3) hx hb dX8_whyGrowth_61 (by decide) (hp_n (n := 62) rfl ?_)
        cases hf
        exact q_iret C Bh1 hr hlk ⟨rfl, rfl, Bh1.2.2⟩ dX8_whyGrowth_62
      ·
        replace hf := ms_iT c28 hf
        refine lv_iload_n hx hb dX8_whyGrowth_48 rfl (lv_at hl 3 rfl) (hp_n (n := 49) rfl ?_)
        have J57 : ∀ (αh29 : hp_T) (Hh29 : Heap) (Lh29 : List Loc) (Bh29 : hp_B Γ (cw w_X8_whyGrowth) s α αh29 Hh29 Lh29) (ls : Array Slot) (hl : lv_has ls 10 []) (hf : f_X8_whyGrowth_J57 n a0 αh29 = some res), W p l e (hp_rm 4 0 0) s m ([.ref a0, .int a1, .ref a2, .int a3, .int a4, .int a5, .int a6] : List Value).toArray below meth c Hh29 Lh29 0 0 (MQ below (hp_Qi Γ (fun r β => r = res.1 ∧ β = res.2 ∧ cw w_X8_whyGrowth α β)) ([.ref a0, .int a1, .ref a2, .int a3, .int a4, .int a5, .int a6] : List Value).toArray s 0 0 (hp_A Γ)) (F0 m 57 ls []) := by
          intro αh29 Hh29 Lh29 Bh29 ls hl hf
          unfold f_X8_whyGrowth_J57 at hf
          refine lv_iconst (v := 0) hx hb dX8_whyGrowth_57 (by decide) (hp_n (n := 58) rfl ?_)
          refine lv_goto (tgt := 62) hx hb dX8_whyGrowth_58 (by decide) ?_
          cases hf
          exact q_iret C Bh29 hr hlk ⟨rfl, rfl, Bh29.2.2⟩ dX8_whyGrowth_62
        refine lv_if_ne (tgt := 57) hx hb dX8_whyGrowth_49 (by decide) (fun c30 => ?_) (fun c30 => hp_n (n := 52) rfl ?_)
        ·
          replace hf := ms_iF c30 hf
          exact J57 αh1 Hh1 Lh1 Bh1 ls (lv_sub hl [] rfl) hf
        ·
          replace hf := ms_iT c30 hf
          refine lv_iload hx hb dX8_whyGrowth_52 (lv_at hl 4 rfl) (hp_n (n := 54) rfl ?_)
          refine lv_if_ne (tgt := 61) hx hb dX8_whyGrowth_54 (by decide) (fun c31 => ?_) (fun c31 => hp_n (n := 57) rfl ?_)
          ·
            replace hf := ms_iF c31 hf
            refine lv_iconst (v := 3) hx hb dX8_whyGrowth_61 (by decide) (hp_n (n := 62) rfl ?_)
            cases hf
            exact q_iret C Bh1 hr hlk ⟨rfl, rfl, Bh1.2.2⟩ dX8_whyGrowth_62
          ·
            replace hf := ms_iT c31 hf
            exact J57 αh1 Hh1 Lh1 Bh1 ls (lv_sub hl [] rfl) hf
  ·
    replace hf := ms_iF c4 hf
    refine lv_aload_n hx hb dX8_whyGrowth_18 rfl (lv_at hl 2 rfl) (hp_n (n := 19) rfl ?_)
    refine q_geti (κ := 6) (k := 1) (φ := 301) (pc' := 22) C Bh1 (cw_k Bh1.2.2 k2) fl_X8_74 rfl rfl rfl dX8_whyGrowth_19 rfl (fun x32 ex32 => ?_)
    replace hf := ms_lE ex32 hf
    refine lv_aload_n hx hb dX8_whyGrowth_22 rfl (lv_at hl 0 rfl) (hp_n (n := 23) rfl ?_)
    refine q_geti (κ := 9) (k := 3) (φ := 453) (pc' := 26) C Bh1 (cw_k Bh1.2.2 k0) fl_X8_22 rfl rfl rfl dX8_whyGrowth_23 rfl (fun x33 ex33 => ?_)
    replace hf := ms_lE ex33 hf
    refine lv_icmp_ge (tgt := 33) hx hb dX8_whyGrowth_26 (by decide) (fun c34 => ?_) (fun c34 => hp_n (n := 29) rfl ?_)
    ·
      replace hf := ms_iT c34 hf
      refine lv_iconst (v := 2) hx hb dX8_whyGrowth_33 (by decide) (hp_n (n := 34) rfl ?_)
      cases hf
      exact q_iret C Bh1 hr hlk ⟨rfl, rfl, Bh1.2.2⟩ dX8_whyGrowth_34
    ·
      replace hf := ms_iF c34 hf
      refine lv_iconst (v := 1) hx hb dX8_whyGrowth_29 (by decide) (hp_n (n := 30) rfl ?_)
      refine lv_goto (tgt := 34) hx hb dX8_whyGrowth_30 (by decide) ?_
      cases hf
      exact q_iret C Bh1 hr hlk ⟨rfl, rfl, Bh1.2.2⟩ dX8_whyGrowth_34
def f_X10_marksAlongn_L8 (n : Nat) (a0 : Nat) : Nat → hp_T → Nat → Nat → Int32 → Option hp_T
  | 0, _, _, _, _ => none
  | k8 + 1, αh2, v1_h2, v3_h2, v4_h2 =>
    ms_l (hp_I αh2 453 v1_h2) fun x3 =>
    if x3 ≤ v4_h2 then
      some αh2
    else
      ms_b (f_X8_firstAt n αh2 v1_h2 v4_h2) fun rh5 =>
      ms_b (f_X8_manyAt n αh2 v1_h2 v4_h2) fun rh6 =>
      hq_c (f_X10_treeMark n αh2 a0 none rh5 rh6) fun rh7 αh7 =>
      ms_b (f_X5_put n αh7 v3_h2 rh7) fun αh8 =>
      ms_l (v4_h2 + 1) fun x9 =>
      (f_X10_marksAlongn_L8 n a0 k8) αh8 v1_h2 v3_h2 x9
def f_X10_marksAlongs_L8 (n : Nat) (a0 : Nat) : Nat → hp_T → Nat → Nat → Nat → Int32 → Option hp_T
  | 0, _, _, _, _, _ => none
  | k8 + 1, αh11, v1_h11, v2_h11, v3_h11, v4_h11 =>
    ms_l (hp_I αh11 453 v1_h11) fun x12 =>
    if x12 ≤ v4_h11 then
      some αh11
    else
      ms_b (f_X8_firstAt n αh11 v1_h11 v4_h11) fun rh14 =>
      ms_b (f_X8_manyAt n αh11 v1_h11 v4_h11) fun rh15 =>
      hq_c (f_X10_treeMark n αh11 a0 (some v2_h11) rh14 rh15) fun rh16 αh16 =>
      ms_b (f_X5_put n αh16 v3_h11 rh16) fun αh17 =>
      ms_l (v4_h11 + 1) fun x18 =>
      (f_X10_marksAlongs_L8 n a0 k8) αh17 v1_h11 v2_h11 v3_h11 x18
def f_X10_marksAlong (n : Nat) (α : hp_T) (a0 : Nat) (a1 : Nat) (o2 : Option Nat) (a3 : Nat) : Option hp_T :=
  hq_m o2 (
    ms_b (f_X5_shorten n α a3 (0 : Int32)) fun αh1 =>
    f_X10_marksAlongn_L8 n a0 n αh1 a1 a3 (0 : Int32)) fun a2 =>
  ms_b (f_X5_shorten n α a3 (0 : Int32)) fun αh10 =>
  f_X10_marksAlongs_L8 n a0 n αh10 a1 a2 a3 (0 : Int32)
set_option maxRecDepth 100000 in
set_option maxHeartbeats 4000000 in
theorem n_X10_marksAlong (n : Nat) (Γ : hp_G) (l : Launch) (α : hp_T) (g : GC α) (a0 : Nat) (k0 : hp_K α a0 = 11) (a1 : Nat) (k1 : hp_K α a1 = 9) (o2 : Option Nat) (k2 : ∀ b, o2 = some b → hp_K α b = 3) (a3 : Nat) (k3 : hp_K α a3 = 6) (res : hp_T) (hf : f_X10_marksAlong n α a0 a1 o2 a3 = some res) : Met l yX10_marksAlong (hp_ws yX10_marksAlong cX10_marksAlong 5 none) (hp_rm 2 0 0) (hp_Pc Γ α [.ref a0, .ref a1, va_rf o2, .ref a3]) (hp_Qv Γ (fun β => β = res ∧ cw w_X10_marksAlong α β)) 0 0 (hp_A Γ) := by
  unfold f_X10_marksAlong at hf
  refine hp_start (by decide) ?_
  intro p e s m below meth c C hr hlk B0 hnm
  have C : hp_C Γ p m c cX10_marksAlong 5 s ([.ref a0, .ref a1, va_rf o2, .ref a3] : List Value).toArray RX10 := C
  have hx := C.1.1
  have hb := C.1.2.1
  have hown := C.1.2.2.2.1
  have hts := C.1.2.2.2.2
  have B : hp_B Γ (cw w_X10_marksAlong) s α α s.heap [] := ⟨B0.1, B0.2.1, cw_rf g⟩
  rcases o2 with _ | a2
  ·
    replace hf := hq_N hf
    have hl := lv_entry ([.ref a0, .ref a1, .null, .ref a3]) (n := 5) (Nat.le_of_ble_eq_true rfl)
    show W p l e (hp_rm 2 0 0) s m ([.ref a0, .ref a1, .null, .ref a3] : List Value).toArray below meth c s.heap [] 0 0 (MQ below (hp_Qv Γ (fun β => β = res ∧ cw w_X10_marksAlong α β)) ([.ref a0, .ref a1, .null, .ref a3] : List Value).toArray s 0 0 (hp_A Γ)) (entryFrame m ([.ref a0, .ref a1, .null, .ref a3] : List Value).toArray 5)
    rw [lg_entry_eq]
    generalize (lg_sl ([.ref a0, .ref a1, .null, .ref a3]) ++ List.replicate (5 - (lg_sl ([.ref a0, .ref a1, .null, .ref a3])).length) Slot.unset).toArray = ls at hl ⊢
    have hl : lv_has ls 5 [(0, .ref a0), (1, .ref a1), (2, .null), (3, .ref a3)] := hl
    refine lv_aload_n hx hb dX10_marksAlong_0 rfl (lv_at hl 3 rfl) (hp_n (n := 1) rfl ?_)
    refine lv_iconst (v := 0) hx hb dX10_marksAlong_1 (by decide) (hp_n (n := 2) rfl ?_)
    obtain ⟨αh1, qh1, hf⟩ := ms_bE hf
    refine d_cv (pc' := 5) B (hp_runV (As := [.int (0 : Int32)]) (rest := []) C B (n_X5_shorten n Γ l α B.2.2.1 a3 (cw_k B.2.2 k3) (0 : Int32) αh1 qh1) lb_X5_shorten lv_X5_shorten lk_X10_96 (cw_k B.2.2 k3) rfl (by decide) rfl hl.1 rfl (Nat.le_of_ble_eq_true rfl) dX10_marksAlong_2 ⟨Nat.le_refl _, Nat.le_refl _⟩) (by decide) rfl (fun Hh1 Lh1 Bh1 => ?_)
    refine lv_iconst (v := 0) hx hb dX10_marksAlong_5 (by decide) (hp_n (n := 6) rfl ?_)
    have J8 : ∀ (k8 : Nat) (αh2 : hp_T) (Hh2 : Heap) (Lh2 : List Loc) (Bh2 : hp_B Γ (cw w_X10_marksAlong) s α αh2 Hh2 Lh2) (v1_h2 : Nat) (kv1_h2 : hp_K α v1_h2 = 9) (v3_h2 : Nat) (kv3_h2 : hp_K α v3_h2 = 6) (v4_h2 : Int32) (ls : Array Slot) (hl : lv_has ls 5 [(0, .ref a0), (1, .ref v1_h2), (2, .null), (3, .ref v3_h2), (4, .int v4_h2)]) (hf : f_X10_marksAlongn_L8 n a0 k8 αh2 v1_h2 v3_h2 v4_h2 = some res), W p l e (hp_rm 2 0 0) s m ([.ref a0, .ref a1, .null, .ref a3] : List Value).toArray below meth c Hh2 Lh2 0 0 (MQ below (hp_Qv Γ (fun β => β = res ∧ cw w_X10_marksAlong α β)) ([.ref a0, .ref a1, .null, .ref a3] : List Value).toArray s 0 0 (hp_A Γ)) (F0 m 8 ls []) := by
      intro k8
      induction k8 with
      | zero => intro αh2 Hh2 Lh2 Bh2 v1_h2 kv1_h2 v3_h2 kv3_h2 v4_h2 ls hl hf; rw [f_X10_marksAlongn_L8.eq_1] at hf; cases hf
      | succ k8 ih8 =>
        intro αh2 Hh2 Lh2 Bh2 v1_h2 kv1_h2 v3_h2 kv3_h2 v4_h2 ls hl hf
        rw [f_X10_marksAlongn_L8.eq_2] at hf
        refine lv_iload hx hb dX10_marksAlong_8 (lv_at hl 4 rfl) (hp_n (n := 10) rfl ?_)
        refine lv_aload_n hx hb dX10_marksAlong_10 rfl (lv_at hl 1 rfl) (hp_n (n := 11) rfl ?_)
        refine q_geti (κ := 9) (k := 3) (φ := 453) (pc' := 14) C Bh2 (cw_k Bh2.2.2 kv1_h2) fl_X10_111 rfl rfl rfl dX10_marksAlong_11 rfl (fun x3 ex3 => ?_)
        replace hf := ms_lE ex3 hf
        refine lv_icmp_ge (tgt := 44) hx hb dX10_marksAlong_14 (by decide) (fun c4 => ?_) (fun c4 => hp_n (n := 17) rfl ?_)
        ·
          replace hf := ms_iT c4 hf
          cases hf
          exact q_vret C Bh2 hr hlk ⟨rfl, Bh2.2.2⟩ dX10_marksAlong_44
        ·
          replace hf := ms_iF c4 hf
          refine lv_aload_n hx hb dX10_marksAlong_17 rfl (lv_at hl 3 rfl) (hp_n (n := 18) rfl ?_)
          refine lv_aload_n hx hb dX10_marksAlong_18 rfl (lv_at hl 0 rfl) (hp_n (n := 19) rfl ?_)
          refine lv_aload_nN hx hb dX10_marksAlong_19 rfl (lv_at hl 2 rfl) (hp_n (n := 20) rfl ?_)
          refine lv_aload_n hx hb dX10_marksAlong_20 rfl (lv_at hl 1 rfl) (hp_n (n := 21) rfl ?_)
          refine lv_iload hx hb dX10_marksAlong_21 (lv_at hl 4 rfl) (hp_n (n := 23) rfl ?_)
          obtain ⟨rh5, qh5, hf⟩ := ms_bE hf
          refine d_pi (pc' := 26) Bh2 (hp_runV (As := [.int v4_h2]) (rest := [.null, .ref a0, .ref v3_h2]) C Bh2 (n_X8_firstAt n Γ l αh2 Bh2.2.2.1 v1_h2 (cw_k Bh2.2.2 kv1_h2) v4_h2 rh5 qh5) lb_X8_firstAt lv_X8_firstAt lk_X10_114 (cw_k Bh2.2.2 kv1_h2) rfl (by decide) rfl hl.1 rfl (Nat.le_of_ble_eq_true rfl) dX10_marksAlong_23 ⟨Nat.le_refl _, Nat.le_refl _⟩) rfl (fun Hh5 Lh5 Bh5 => ?_)
          refine lv_aload_n hx hb dX10_marksAlong_26 rfl (lv_at hl 1 rfl) (hp_n (n := 27) rfl ?_)
          refine lv_iload hx hb dX10_marksAlong_27 (lv_at hl 4 rfl) (hp_n (n := 29) rfl ?_)
          obtain ⟨rh6, qh6, hf⟩ := ms_bE hf
          refine d_pi (pc' := 32) Bh5 (hp_runV (As := [.int v4_h2]) (rest := [.int rh5, .null, .ref a0, .ref v3_h2]) C Bh5 (n_X8_manyAt n Γ l αh2 Bh5.2.2.1 v1_h2 (cw_k Bh5.2.2 kv1_h2) v4_h2 rh6 qh6) lb_X8_manyAt lv_X8_manyAt lk_X10_117 (cw_k Bh5.2.2 kv1_h2) rfl (by decide) rfl hl.1 rfl (Nat.le_of_ble_eq_true rfl) dX10_marksAlong_29 ⟨Nat.le_refl _, Nat.le_refl _⟩) rfl (fun Hh6 Lh6 Bh6 => ?_)
          obtain ⟨rh7, αh7, qh7, hf⟩ := hq_cE hf
          refine d_ci (pc' := 35) Bh6 (hp_runV (As := [va_rf none, .int rh5, .int rh6]) (rest := [.ref v3_h2]) C Bh6 (n_X10_treeMark n Γ l αh2 Bh6.2.2.1 a0 (cw_k Bh6.2.2 k0) none (fun b h => by cases h) rh5 rh6 (rh7, αh7) qh7) lb_X10_treeMark lv_X10_treeMark lk_X10_100 (cw_k Bh6.2.2 k0) rfl (by decide) rfl hl.1 rfl (Nat.le_of_ble_eq_true rfl) dX10_marksAlong_32 ⟨Nat.le_refl _, Nat.le_refl _⟩) (by decide) rfl (fun Hh7 Lh7 Bh7 => ?_)
          obtain ⟨αh8, qh8, hf⟩ := ms_bE hf
          refine d_cv (pc' := 38) Bh7 (hp_runV (As := [.int rh7]) (rest := []) C Bh7 (n_X5_put n Γ l αh7 Bh7.2.2.1 v3_h2 (cw_k Bh7.2.2 kv3_h2) rh7 αh8 qh8) lb_X5_put lv_X5_put lk_X10_104 (cw_k Bh7.2.2 kv3_h2) rfl (by decide) rfl hl.1 rfl (Nat.le_of_ble_eq_true rfl) dX10_marksAlong_35 ⟨Nat.le_refl _, Nat.le_refl _⟩) (by decide) rfl (fun Hh8 Lh8 Bh8 => ?_)
          obtain ⟨x9, ex9⟩ : ∃ y : Int32, y = v4_h2 + 1 := ⟨_, rfl⟩
          replace hf := ms_lE ex9 hf
          refine lv_iinc (v := x9) (lv' := [(4, .int x9), (0, .ref a0), (1, .ref v1_h2), (2, .null), (3, .ref v3_h2)]) hx hb dX10_marksAlong_38 hl (k := 4) rfl (by rw [ex9]; rfl) (by decide) rfl (fun ls hl => hp_n (n := 41) rfl ?_)
          refine lv_goto (tgt := 8) hx hb dX10_marksAlong_41 (by decide) ?_
          exact ih8 αh8 Hh8 Lh8 Bh8 v1_h2 kv1_h2 v3_h2 kv3_h2 x9 ls (lv_sub hl [1, 2, 3, 4, 0] rfl) hf
    refine lv_istore (lv' := [(4, .int (0 : Int32)), (0, .ref a0), (1, .ref a1), (2, .null), (3, .ref a3)]) hx hb dX10_marksAlong_6 hl (by decide) rfl (fun ls hl => hp_n (n := 8) rfl ?_)
    exact J8 n αh1 Hh1 Lh1 Bh1 a1 k1 a3 k3 (0 : Int32) ls (lv_sub hl [1, 2, 3, 4, 0] rfl) hf
  ·
    replace hf := hq_S hf
    have ka2 := k2 a2 rfl
    have hl := lv_entry ([.ref a0, .ref a1, .ref a2, .ref a3]) (n := 5) (Nat.le_of_ble_eq_true rfl)
    show W p l e (hp_rm 2 0 0) s m ([.ref a0, .ref a1, .ref a2, .ref a3] : List Value).toArray below meth c s.heap [] 0 0 (MQ below (hp_Qv Γ (fun β => β = res ∧ cw w_X10_marksAlong α β)) ([.ref a0, .ref a1, .ref a2, .ref a3] : List Value).toArray s 0 0 (hp_A Γ)) (entryFrame m ([.ref a0, .ref a1, .ref a2, .ref a3] : List Value).toArray 5)
    rw [lg_entry_eq]
    generalize (lg_sl ([.ref a0, .ref a1, .ref a2, .ref a3]) ++ List.replicate (5 - (lg_sl ([.ref a0, .ref a1, .ref a2, .ref a3])).length) Slot.unset).toArray = ls at hl ⊢
    have hl : lv_has ls 5 [(0, .ref a0), (1, .ref a1), (2, .ref a2), (3, .ref a3)] := hl
    refine lv_aload_n hx hb dX10_marksAlong_0 rfl (lv_at hl 3 rfl) (hp_n (n := 1) rfl ?_)
    refine lv_iconst (v := 0) hx hb dX10_marksAlong_1 (by decide) (hp_n (n := 2) rfl ?_)
    obtain ⟨αh10, qh10, hf⟩ := ms_bE hf
    refine d_cv (pc' := 5) B (hp_runV (As := [.int (0 : Int32)]) (rest := []) C B (n_X5_shorten n Γ l α B.2.2.1 a3 (cw_k B.2.2 k3) (0 : Int32) αh10 qh10) lb_X5_shorten lv_X5_shorten lk_X10_96 (cw_k B.2.2 k3) rfl (by decide) rfl hl.1 rfl (Nat.le_of_ble_eq_true rfl) dX10_marksAlong_2 ⟨Nat.le_refl _, Nat.le_refl _⟩) (by decide) rfl (fun Hh10 Lh10 Bh10 => ?_)
    refine lv_iconst (v := 0) hx hb dX10_marksAlong_5 (by decide) (hp_n (n := 6) rfl ?_)
    have J8 : ∀ (k8 : Nat) (αh11 : hp_T) (Hh11 : Heap) (Lh11 : List Loc) (Bh11 : hp_B Γ (cw w_X10_marksAlong) s α αh11 Hh11 Lh11) (v1_h11 : Nat) (kv1_h11 : hp_K α v1_h11 = 9) (v2_h11 : Nat) (kv2_h11 : hp_K α v2_h11 = 3) (v3_h11 : Nat) (kv3_h11 : hp_K α v3_h11 = 6) (v4_h11 : Int32) (ls : Array Slot) (hl : lv_has ls 5 [(0, .ref a0), (1, .ref v1_h11), (2, .ref v2_h11), (3, .ref v3_h11), (4, .int v4_h11)]) (hf : f_X10_marksAlongs_L8 n a0 k8 αh11 v1_h11 v2_h11 v3_h11 v4_h11 = some res), W p l e (hp_rm 2 0 0) s m ([.ref a0, .ref a1, .ref a2, .ref a3] : List Value).toArray below meth c Hh11 Lh11 0 0 (MQ below (hp_Qv Γ (fun β => β = res ∧ cw w_X10_marksAlong α β)) ([.ref a0, .ref a1, .ref a2, .ref a3] : List Value).toArray s 0 0 (hp_A Γ)) (F0 m 8 ls []) := by
      intro k8
      induction k8 with
      | zero => intro αh11 Hh11 Lh11 Bh11 v1_h11 kv1_h11 v2_h11 kv2_h11 v3_h11 kv3_h11 v4_h11 ls hl hf; rw [f_X10_marksAlongs_L8.eq_1] at hf; cases hf
      | succ k8 ih8 =>
        intro αh11 Hh11 Lh11 Bh11 v1_h11 kv1_h11 v2_h11 kv2_h11 v3_h11 kv3_h11 v4_h11 ls hl hf
        rw [f_X10_marksAlongs_L8.eq_2] at hf
        refine lv_iload hx hb dX10_marksAlong_8 (lv_at hl 4 rfl) (hp_n (n := 10) rfl ?_)
        refine lv_aload_n hx hb dX10_marksAlong_10 rfl (lv_at hl 1 rfl) (hp_n (n := 11) rfl ?_)
        refine q_geti (κ := 9) (k := 3) (φ := 453) (pc' := 14) C Bh11 (cw_k Bh11.2.2 kv1_h11) fl_X10_111 rfl rfl rfl dX10_marksAlong_11 rfl (fun x12 ex12 => ?_)
        replace hf := ms_lE ex12 hf
        refine lv_icmp_ge (tgt := 44) hx hb dX10_marksAlong_14 (by decide) (fun c13 => ?_) (fun c13 => hp_n (n := 17) rfl ?_)
        ·
          replace hf := ms_iT c13 hf
          cases hf
          exact q_vret C Bh11 hr hlk ⟨rfl, Bh11.2.2⟩ dX10_marksAlong_44
        ·
          replace hf := ms_iF c13 hf
          refine lv_aload_n hx hb dX10_marksAlong_17 rfl (lv_at hl 3 rfl) (hp_n (n := 18) rfl ?_)
          refine lv_aload_n hx hb dX10_marksAlong_18 rfl (lv_at hl 0 rfl) (hp_n (n := 19) rfl ?_)
          refine lv_aload_n hx hb dX10_marksAlong_19 rfl (lv_at hl 2 rfl) (hp_n (n := 20) rfl ?_)
          refine lv_aload_n hx hb dX10_marksAlong_20 rfl (lv_at hl 1 rfl) (hp_n (n := 21) rfl ?_)
          refine lv_iload hx hb dX10_marksAlong_21 (lv_at hl 4 rfl) (hp_n (n := 23) rfl ?_)
          obtain ⟨rh14, qh14, hf⟩ := ms_bE hf
          refine d_pi (pc' := 26) Bh11 (hp_runV (As := [.int v4_h11]) (rest := [.ref v2_h11, .ref a0, .ref v3_h11]) C Bh11 (n_X8_firstAt n Γ l αh11 Bh11.2.2.1 v1_h11 (cw_k Bh11.2.2 kv1_h11) v4_h11 rh14 qh14) lb_X8_firstAt lv_X8_firstAt lk_X10_114 (cw_k Bh11.2.2 kv1_h11) rfl (by decide) rfl hl.1 rfl (Nat.le_of_ble_eq_true rfl) dX10_marksAlong_23 ⟨Nat.le_refl _, Nat.le_refl _⟩) rfl (fun Hh14 Lh14 Bh14 => ?_)
          refine lv_aload_n hx hb dX10_marksAlong_26 rfl (lv_at hl 1 rfl) (hp_n (n := 27) rfl ?_)
          refine lv_iload hx hb dX10_marksAlong_27 (lv_at hl 4 rfl) (hp_n (n := 29) rfl ?_)
          obtain ⟨rh15, qh15, hf⟩ := ms_bE hf
          refine d_pi (pc' := 32) Bh14 (hp_runV (As := [.int v4_h11]) (rest := [.int rh14, .ref v2_h11, .ref a0, .ref v3_h11]) C Bh14 (n_X8_manyAt n Γ l αh11 Bh14.2.2.1 v1_h11 (cw_k Bh14.2.2 kv1_h11) v4_h11 rh15 qh15) lb_X8_manyAt lv_X8_manyAt lk_X10_117 (cw_k Bh14.2.2 kv1_h11) rfl (by decide) rfl hl.1 rfl (Nat.le_of_ble_eq_true rfl) dX10_marksAlong_29 ⟨Nat.le_refl _, Nat.le_refl _⟩) rfl (fun Hh15 Lh15 Bh15 => ?_)
          obtain ⟨rh16, αh16, qh16, hf⟩ := hq_cE hf
          refine d_ci (pc' := 35) Bh15 (hp_runV (As := [va_rf (some v2_h11), .int rh14, .int rh15]) (rest := [.ref v3_h11]) C Bh15 (n_X10_treeMark n Γ l αh11 Bh15.2.2.1 a0 (cw_k Bh15.2.2 k0) (some v2_h11) (fun b h => by cases h; exact (cw_k Bh15.2.2 kv2_h11)) rh14 rh15 (rh16, αh16) qh16) lb_X10_treeMark lv_X10_treeMark lk_X10_100 (cw_k Bh15.2.2 k0) rfl (by decide) rfl hl.1 rfl (Nat.le_of_ble_eq_true rfl) dX10_marksAlong_32 ⟨Nat.le_refl _, Nat.le_refl _⟩) (by decide) rfl (fun Hh16 Lh16 Bh16 => ?_)
          obtain ⟨αh17, qh17, hf⟩ := ms_bE hf
          refine d_cv (pc' := 38) Bh16 (hp_runV (As := [.int rh16]) (rest := []) C Bh16 (n_X5_put n Γ l αh16 Bh16.2.2.1 v3_h11 (cw_k Bh16.2.2 kv3_h11) rh16 αh17 qh17) lb_X5_put lv_X5_put lk_X10_104 (cw_k Bh16.2.2 kv3_h11) rfl (by decide) rfl hl.1 rfl (Nat.le_of_ble_eq_true rfl) dX10_marksAlong_35 ⟨Nat.le_refl _, Nat.le_refl _⟩) (by decide) rfl (fun Hh17 Lh17 Bh17 => ?_)
          obtain ⟨x18, ex18⟩ : ∃ y : Int32, y = v4_h11 + 1 := ⟨_, rfl⟩
          replace hf := ms_lE ex18 hf
          refine lv_iinc (v := x18) (lv' := [(4, .int x18), (0, .ref a0), (1, .ref v1_h11), (2, .ref v2_h11), (3, .ref v3_h11)]) hx hb dX10_marksAlong_38 hl (k := 4) rfl (by rw [ex18]; rfl) (by decide) rfl (fun ls hl => hp_n (n := 41) rfl ?_)
          refine lv_goto (tgt := 8) hx hb dX10_marksAlong_41 (by decide) ?_
          exact ih8 αh17 Hh17 Lh17 Bh17 v1_h11 kv1_h11 v2_h11 kv2_h11 v3_h11 kv3_h11 x18 ls (lv_sub hl [1, 2, 3, 4, 0] rfl) hf
    refine lv_istore (lv' := [(4, .int (0 : Int32)), (0, .ref a0), (1, .ref a1), (2, .ref a2), (3, .ref a3)]) hx hb dX10_marksAlong_6 hl (by decide) rfl (fun ls hl => hp_n (n := 8) rfl ?_)
    exact J8 n αh10 Hh10 Lh10 Bh10 a1 k1 a2 ka2 a3 k3 (0 : Int32) ls (lv_sub hl [1, 2, 3, 4, 0] rfl) hf
def f_X10_whyGrown (n : Nat) (α : hp_T) (a0 : Nat) (o1 : Option Nat) (a2 : Int32) (a3 : Int32) (a4 : Int32) (a5 : Int32) : Option (Int32 × hp_T) :=
  hq_m o1 (
    some ((5 : Int32), α)) fun a1 =>
  ms_l (hp_I α 152 a1) fun x1 =>
  if a4 ≤ x1 then
    ms_l (hp_R α 559 a0) fun b3 =>
    ms_b (f_X8_toGrowth n α b3 a2 a4) fun αh4 =>
    ms_l (hp_R αh4 559 a0) fun b5 =>
    ms_l (hp_R αh4 558 a0) fun b6 =>
    ms_b (f_X10_marksAlong n αh4 a0 b5 (some a1) b6) fun αh7 =>
    ms_l (hp_R αh7 559 a0) fun b8 =>
    ms_l (hp_I αh7 550 a0) fun x9 =>
    ms_l (hp_R αh7 558 a0) fun b10 =>
    hq_c (f_X8_whyGrowth n αh7 b8 x9 b10 a2 a3 a4 a5) fun rh11 αh11 =>
    some (rh11, αh11)
  else
    some ((5 : Int32), α)
set_option maxRecDepth 100000 in
set_option maxHeartbeats 4000000 in
theorem n_X10_whyGrown (n : Nat) (Γ : hp_G) (l : Launch) (α : hp_T) (g : GC α) (a0 : Nat) (k0 : hp_K α a0 = 11) (o1 : Option Nat) (k1 : ∀ b, o1 = some b → hp_K α b = 3) (a2 : Int32) (a3 : Int32) (a4 : Int32) (a5 : Int32) (res : (Int32 × hp_T)) (hf : f_X10_whyGrown n α a0 o1 a2 a3 a4 a5 = some res) : Met l yX10_whyGrown (hp_ws yX10_whyGrown cX10_whyGrown 6 (some .int)) (hp_rm 5 0 0) (hp_Pc Γ α [.ref a0, va_rf o1, .int a2, .int a3, .int a4, .int a5]) (hp_Qi Γ (fun r β => r = res.1 ∧ β = res.2 ∧ cw w_X10_whyGrown α β)) 0 0 (hp_A Γ) := by
  unfold f_X10_whyGrown at hf
  refine hp_start (by decide) ?_
  intro p e s m below meth c C hr hlk B0 hnm
  have C : hp_C Γ p m c cX10_whyGrown 6 s ([.ref a0, va_rf o1, .int a2, .int a3, .int a4, .int a5] : List Value).toArray RX10 := C
  have hx := C.1.1
  have hb := C.1.2.1
  have hown := C.1.2.2.2.1
  have hts := C.1.2.2.2.2
  have B : hp_B Γ (cw w_X10_whyGrown) s α α s.heap [] := ⟨B0.1, B0.2.1, cw_rf g⟩
  rcases o1 with _ | a1
  ·
    replace hf := hq_N hf
    have hl := lv_entry ([.ref a0, .null, .int a2, .int a3, .int a4, .int a5]) (n := 6) (Nat.le_of_ble_eq_true rfl)
    show W p l e (hp_rm 5 0 0) s m ([.ref a0, .null, .int a2, .int a3, .int a4, .int a5] : List Value).toArray below meth c s.heap [] 0 0 (MQ below (hp_Qi Γ (fun r β => r = res.1 ∧ β = res.2 ∧ cw w_X10_whyGrown α β)) ([.ref a0, .null, .int a2, .int a3, .int a4, .int a5] : List Value).toArray s 0 0 (hp_A Γ)) (entryFrame m ([.ref a0, .null, .int a2, .int a3, .int a4, .int a5] : List Value).toArray 6)
    rw [lg_entry_eq]
    generalize (lg_sl ([.ref a0, .null, .int a2, .int a3, .int a4, .int a5]) ++ List.replicate (6 - (lg_sl ([.ref a0, .null, .int a2, .int a3, .int a4, .int a5])).length) Slot.unset).toArray = ls at hl ⊢
    have hl : lv_has ls 6 [(0, .ref a0), (1, .null), (2, .int a2), (3, .int a3), (4, .int a4), (5, .int a5)] := hl
    refine lv_aload_nN hx hb dX10_whyGrown_0 rfl (lv_at hl 1 rfl) (hp_n (n := 1) rfl ?_)
    refine lv_ifnullN (tgt := 13) hx hb dX10_whyGrown_1 (by decide) ?_
    refine lv_iconst (v := 5) hx hb dX10_whyGrown_13 (by decide) (hp_n (n := 14) rfl ?_)
    cases hf
    exact q_iret C B hr hlk ⟨rfl, rfl, B.2.2⟩ dX10_whyGrown_14
  ·
    replace hf := hq_S hf
    have ka1 := k1 a1 rfl
    have hl := lv_entry ([.ref a0, .ref a1, .int a2, .int a3, .int a4, .int a5]) (n := 6) (Nat.le_of_ble_eq_true rfl)
    show W p l e (hp_rm 5 0 0) s m ([.ref a0, .ref a1, .int a2, .int a3, .int a4, .int a5] : List Value).toArray below meth c s.heap [] 0 0 (MQ below (hp_Qi Γ (fun r β => r = res.1 ∧ β = res.2 ∧ cw w_X10_whyGrown α β)) ([.ref a0, .ref a1, .int a2, .int a3, .int a4, .int a5] : List Value).toArray s 0 0 (hp_A Γ)) (entryFrame m ([.ref a0, .ref a1, .int a2, .int a3, .int a4, .int a5] : List Value).toArray 6)
    rw [lg_entry_eq]
    generalize (lg_sl ([.ref a0, .ref a1, .int a2, .int a3, .int a4, .int a5]) ++ List.replicate (6 - (lg_sl ([.ref a0, .ref a1, .int a2, .int a3, .int a4, .int a5])).length) Slot.unset).toArray = ls at hl ⊢
    have hl : lv_has ls 6 [(0, .ref a0), (1, .ref a1), (2, .int a2), (3, .int a3), (4, .int a4), (5, .int a5)] := hl
    refine lv_aload_n hx hb dX10_whyGrown_0 rfl (lv_at hl 1 rfl) (hp_n (n := 1) rfl ?_)
    refine lv_ifnull hx hb dX10_whyGrown_1 (hp_n (n := 4) rfl ?_)
    refine lv_iload hx hb dX10_whyGrown_4 (lv_at hl 4 rfl) (hp_n (n := 6) rfl ?_)
    refine lv_aload_n hx hb dX10_whyGrown_6 rfl (lv_at hl 1 rfl) (hp_n (n := 7) rfl ?_)
    refine q_geti (κ := 3) (k := 2) (φ := 152) (pc' := 10) C B (cw_k B.2.2 ka1) fl_X10_68 rfl rfl rfl dX10_whyGrown_7 rfl (fun x1 ex1 => ?_)
    replace hf := ms_lE ex1 hf
    refine lv_icmp_le (tgt := 15) hx hb dX10_whyGrown_10 (by decide) (fun c2 => ?_) (fun c2 => hp_n (n := 13) rfl ?_)
    ·
      replace hf := ms_iT c2 hf
      refine lv_aload_n hx hb dX10_whyGrown_15 rfl (lv_at hl 0 rfl) (hp_n (n := 16) rfl ?_)
      refine q_getr (κ := 11) (k := 9) (φ := 559) (pc' := 19) C B (cw_k B.2.2 k0) fl_X10_57 rfl rfl rfl (cw_r B.2.2 k0 rfl rfl (by decide) (by decide)) dX10_whyGrown_16 rfl (fun b3 eb3 kb3 => ?_)
      replace hf := ms_lE eb3 hf
      refine lv_iload_n hx hb dX10_whyGrown_19 rfl (lv_at hl 2 rfl) (hp_n (n := 20) rfl ?_)
      refine lv_iload hx hb dX10_whyGrown_20 (lv_at hl 4 rfl) (hp_n (n := 22) rfl ?_)
      obtain ⟨αh4, qh4, hf⟩ := ms_bE hf
      refine d_cv (pc' := 25) B (hp_runV (As := [.int a2, .int a4]) (rest := []) C B (n_X8_toGrowth n Γ l α B.2.2.1 b3 (cw_k B.2.2 kb3) a2 a4 αh4 qh4) lb_X8_toGrowth lv_X8_toGrowth lk_X10_151 (cw_k B.2.2 kb3) rfl (by decide) rfl hl.1 rfl (Nat.le_of_ble_eq_true rfl) dX10_whyGrown_22 ⟨Nat.le_refl _, Nat.le_refl _⟩) (by decide) rfl (fun Hh4 Lh4 Bh4 => ?_)
      refine lv_aload_n hx hb dX10_whyGrown_25 rfl (lv_at hl 0 rfl) (hp_n (n := 26) rfl ?_)
      refine lv_aload_n hx hb dX10_whyGrown_26 rfl (lv_at hl 0 rfl) (hp_n (n := 27) rfl ?_)
      refine q_getr (κ := 11) (k := 9) (φ := 559) (pc' := 30) C Bh4 (cw_k Bh4.2.2 k0) fl_X10_57 rfl rfl rfl (cw_r Bh4.2.2 k0 rfl rfl (by decide) (by decide)) dX10_whyGrown_27 rfl (fun b5 eb5 kb5 => ?_)
      replace hf := ms_lE eb5 hf
      refine lv_aload_n hx hb dX10_whyGrown_30 rfl (lv_at hl 1 rfl) (hp_n (n := 31) rfl ?_)
      refine lv_aload_n hx hb dX10_whyGrown_31 rfl (lv_at hl 0 rfl) (hp_n (n := 32) rfl ?_)
      refine q_getr (κ := 11) (k := 8) (φ := 558) (pc' := 35) C Bh4 (cw_k Bh4.2.2 k0) fl_X10_50 rfl rfl rfl (cw_r Bh4.2.2 k0 rfl rfl (by decide) (by decide)) dX10_whyGrown_32 rfl (fun b6 eb6 kb6 => ?_)
      replace hf := ms_lE eb6 hf
      obtain ⟨αh7, qh7, hf⟩ := ms_bE hf
      refine d_cv (pc' := 38) Bh4 (hp_runV (As := [.ref b5, va_rf (some a1), .ref b6]) (rest := []) C Bh4 (n_X10_marksAlong n Γ l αh4 Bh4.2.2.1 a0 (cw_k Bh4.2.2 k0) b5 (cw_k Bh4.2.2 kb5) (some a1) (fun b h => by cases h; exact (cw_k Bh4.2.2 ka1)) b6 (cw_k Bh4.2.2 kb6) αh7 qh7) lb_X10_marksAlong lv_X10_marksAlong lk_X10_155 (cw_k Bh4.2.2 k0) rfl (by decide) rfl hl.1 rfl (Nat.le_of_ble_eq_true rfl) dX10_whyGrown_35 ⟨Nat.le_refl _, Nat.le_refl _⟩) (by decide) rfl (fun Hh7 Lh7 Bh7 => ?_)
      refine lv_aload_n hx hb dX10_whyGrown_38 rfl (lv_at hl 0 rfl) (hp_n (n := 39) rfl ?_)
      refine q_getr (κ := 11) (k := 9) (φ := 559) (pc' := 42) C Bh7 (cw_k Bh7.2.2 k0) fl_X10_57 rfl rfl rfl (cw_r Bh7.2.2 k0 rfl rfl (by decide) (by decide)) dX10_whyGrown_39 rfl (fun b8 eb8 kb8 => ?_)
      replace hf := ms_lE eb8 hf
      refine lv_aload_n hx hb dX10_whyGrown_42 rfl (lv_at hl 0 rfl) (hp_n (n := 43) rfl ?_)
      refine q_geti (κ := 11) (k := 0) (φ := 550) (pc' := 46) C Bh7 (cw_k Bh7.2.2 k0) fl_X10_10 rfl rfl rfl dX10_whyGrown_43 rfl (fun x9 ex9 => ?_)
      replace hf := ms_lE ex9 hf
      refine lv_aload_n hx hb dX10_whyGrown_46 rfl (lv_at hl 0 rfl) (hp_n (n := 47) rfl ?_)
      refine q_getr (κ := 11) (k := 8) (φ := 558) (pc' := 50) C Bh7 (cw_k Bh7.2.2 k0) fl_X10_50 rfl rfl rfl (cw_r Bh7.2.2 k0 rfl rfl (by decide) (by decide)) dX10_whyGrown_47 rfl (fun b10 eb10 kb10 => ?_)
      replace hf := ms_lE eb10 hf
      refine lv_iload_n hx hb dX10_whyGrown_50 rfl (lv_at hl 2 rfl) (hp_n (n := 51) rfl ?_)
      refine lv_iload_n hx hb dX10_whyGrown_51 rfl (lv_at hl 3 rfl) (hp_n (n := 52) rfl ?_)
      refine lv_iload hx hb dX10_whyGrown_52 (lv_at hl 4 rfl) (hp_n (n := 54) rfl ?_)
      refine lv_iload hx hb dX10_whyGrown_54 (lv_at hl 5 rfl) (hp_n (n := 56) rfl ?_)
      obtain ⟨rh11, αh11, qh11, hf⟩ := hq_cE hf
      refine d_ci (pc' := 59) Bh7 (hp_runV (As := [.int x9, .ref b10, .int a2, .int a3, .int a4, .int a5]) (rest := []) C Bh7 (n_X8_whyGrowth n Γ l αh7 Bh7.2.2.1 b8 (cw_k Bh7.2.2 kb8) x9 b10 (cw_k Bh7.2.2 kb10) a2 a3 a4 a5 (rh11, αh11) qh11) lb_X8_whyGrowth lv_X8_whyGrowth lk_X10_159 (cw_k Bh7.2.2 kb8) rfl (by decide) rfl hl.1 rfl (Nat.le_of_ble_eq_true rfl) dX10_whyGrown_56 ⟨Nat.le_refl _, Nat.le_refl _⟩) (by decide) rfl (fun Hh11 Lh11 Bh11 => ?_)
      cases hf
      exact q_iret C Bh11 hr hlk ⟨rfl, rfl, Bh11.2.2⟩ dX10_whyGrown_59
    ·
      replace hf := ms_iF c2 hf
      refine lv_iconst (v := 5) hx hb dX10_whyGrown_13 (by decide) (hp_n (n := 14) rfl ?_)
      cases hf
      exact q_iret C B hr hlk ⟨rfl, rfl, B.2.2⟩ dX10_whyGrown_14
def f_X10_showTos_J88 (n : Nat) (a0 : Nat) (αh5 : hp_T) (v1_h5 : Nat) (v6_h5 : Int32) : Option (Int32 × hp_T) :=
  ms_b (f_X7_hearWhy n αh5 v1_h5 v6_h5) fun αh6 =>
  ms_l (hp_I αh6 402 v1_h5) fun x7 =>
  ms_l (hp_sI αh6 402 v1_h5 (x7 + (1 : Int32))) fun αh8 =>
  ms_l (hp_I αh8 556 a0) fun x9 =>
  ms_l (hp_sI αh8 556 a0 (x9 + (1 : Int32))) fun αh10 =>
  some (v6_h5, αh10)
def f_X10_showTos_J69 (n : Nat) (a0 : Nat) (αh4 : hp_T) (v1_h4 : Nat) (v3_h4 : Int32) (v4_h4 : Int32) (v5_h4 : Int32) (w0_h4 : Int32) : Option (Int32 × hp_T) :=
  if w0_h4 = 0 then
    if v5_h4 = 0 then
      f_X10_showTos_J88 n a0 αh4 v1_h4 w0_h4
    else
      ms_b (f_X7_trust n αh4 v1_h4 v3_h4 v4_h4) fun αh13 =>
      f_X10_showTos_J88 n a0 αh13 v1_h4 w0_h4
  else
    f_X10_showTos_J88 n a0 αh4 v1_h4 w0_h4
def f_X10_showTos_J27 (n : Nat) (a0 : Nat) (αh3 : hp_T) (v1_h3 : Nat) (v2_h3 : Nat) (v3_h3 : Int32) (v4_h3 : Int32) (w0_h3 : Int32) : Option (Int32 × hp_T) :=
  if w0_h3 = 0 then
    ms_l (hp_I αh3 400 v1_h3) fun x15 =>
    ms_l (hp_I αh3 401 v1_h3) fun x16 =>
    hq_c (f_X10_whyGrown n αh3 a0 (some v2_h3) v3_h3 v4_h3 x15 x16) fun rh17 αh17 =>
    f_X10_showTos_J69 n a0 αh17 v1_h3 v3_h3 v4_h3 w0_h3 rh17
  else
    ms_l (hp_I αh3 400 v1_h3) fun x18 =>
    ms_l (hp_I αh3 401 v1_h3) fun x19 =>
    hq_c (f_X10_whyGrown n αh3 a0 (some v2_h3) x18 x19 v3_h3 v4_h3) fun rh20 αh20 =>
    f_X10_showTos_J69 n a0 αh20 v1_h3 v3_h3 v4_h3 w0_h3 rh20
def f_X10_showTo (n : Nat) (α : hp_T) (a0 : Nat) (o1 : Option Nat) (a2 : Nat) (a3 : Int32) : Option (Int32 × hp_T) :=
  hq_m o1 (
    some ((-1 : Int32), α)) fun a1 =>
  hq_c (f_X10_headOf n α a0 (some a2) a3) fun rh1 αh1 =>
  ms_l (hp_I αh1 400 a1) fun x2 =>
  if a3 < x2 then
    f_X10_showTos_J27 n a0 αh1 a1 a2 a3 rh1 (0 : Int32)
  else
    f_X10_showTos_J27 n a0 αh1 a1 a2 a3 rh1 (1 : Int32)
set_option maxRecDepth 100000 in
set_option maxHeartbeats 4000000 in
theorem n_X10_showTo (n : Nat) (Γ : hp_G) (l : Launch) (α : hp_T) (g : GC α) (a0 : Nat) (k0 : hp_K α a0 = 11) (o1 : Option Nat) (k1 : ∀ b, o1 = some b → hp_K α b = 8) (a2 : Nat) (k2 : hp_K α a2 = 3) (a3 : Int32) (res : (Int32 × hp_T)) (hf : f_X10_showTo n α a0 o1 a2 a3 = some res) : Met l yX10_showTo (hp_ws yX10_showTo cX10_showTo 7 (some .int)) (hp_rm 6 0 0) (hp_Pc Γ α [.ref a0, va_rf o1, .ref a2, .int a3]) (hp_Qi Γ (fun r β => r = res.1 ∧ β = res.2 ∧ cw w_X10_showTo α β)) 0 0 (hp_A Γ) := by
  unfold f_X10_showTo at hf
  refine hp_start (by decide) ?_
  intro p e s m below meth c C hr hlk B0 hnm
  have C : hp_C Γ p m c cX10_showTo 7 s ([.ref a0, va_rf o1, .ref a2, .int a3] : List Value).toArray RX10 := C
  have hx := C.1.1
  have hb := C.1.2.1
  have hown := C.1.2.2.2.1
  have hts := C.1.2.2.2.2
  have B : hp_B Γ (cw w_X10_showTo) s α α s.heap [] := ⟨B0.1, B0.2.1, cw_rf g⟩
  rcases o1 with _ | a1
  ·
    replace hf := hq_N hf
    have hl := lv_entry ([.ref a0, .null, .ref a2, .int a3]) (n := 7) (Nat.le_of_ble_eq_true rfl)
    show W p l e (hp_rm 6 0 0) s m ([.ref a0, .null, .ref a2, .int a3] : List Value).toArray below meth c s.heap [] 0 0 (MQ below (hp_Qi Γ (fun r β => r = res.1 ∧ β = res.2 ∧ cw w_X10_showTo α β)) ([.ref a0, .null, .ref a2, .int a3] : List Value).toArray s 0 0 (hp_A Γ)) (entryFrame m ([.ref a0, .null, .ref a2, .int a3] : List Value).toArray 7)
    rw [lg_entry_eq]
    generalize (lg_sl ([.ref a0, .null, .ref a2, .int a3]) ++ List.replicate (7 - (lg_sl ([.ref a0, .null, .ref a2, .int a3])).length) Slot.unset).toArray = ls at hl ⊢
    have hl : lv_has ls 7 [(0, .ref a0), (1, .null), (2, .ref a2), (3, .int a3)] := hl
    refine lv_aload_nN hx hb dX10_showTo_0 rfl (lv_at hl 1 rfl) (hp_n (n := 1) rfl ?_)
    refine lv_ifnonnullN hx hb dX10_showTo_1 (hp_n (n := 4) rfl ?_)
    refine lv_iconst (v := (-1)) hx hb dX10_showTo_4 (by decide) (hp_n (n := 5) rfl ?_)
    cases hf
    exact q_iret C B hr hlk ⟨rfl, rfl, B.2.2⟩ dX10_showTo_5
  ·
    replace hf := hq_S hf
    have ka1 := k1 a1 rfl
    have hl := lv_entry ([.ref a0, .ref a1, .ref a2, .int a3]) (n := 7) (Nat.le_of_ble_eq_true rfl)
    show W p l e (hp_rm 6 0 0) s m ([.ref a0, .ref a1, .ref a2, .int a3] : List Value).toArray below meth c s.heap [] 0 0 (MQ below (hp_Qi Γ (fun r β => r = res.1 ∧ β = res.2 ∧ cw w_X10_showTo α β)) ([.ref a0, .ref a1, .ref a2, .int a3] : List Value).toArray s 0 0 (hp_A Γ)) (entryFrame m ([.ref a0, .ref a1, .ref a2, .int a3] : List Value).toArray 7)
    rw [lg_entry_eq]
    generalize (lg_sl ([.ref a0, .ref a1, .ref a2, .int a3]) ++ List.replicate (7 - (lg_sl ([.ref a0, .ref a1, .ref a2, .int a3])).length) Slot.unset).toArray = ls at hl ⊢
    have hl : lv_has ls 7 [(0, .ref a0), (1, .ref a1), (2, .ref a2), (3, .int a3)] := hl
    refine lv_aload_n hx hb dX10_showTo_0 rfl (lv_at hl 1 rfl) (hp_n (n := 1) rfl ?_)
    refine lv_ifnonnull (tgt := 6) hx hb dX10_showTo_1 (by decide) ?_
    refine lv_aload_n hx hb dX10_showTo_6 rfl (lv_at hl 0 rfl) (hp_n (n := 7) rfl ?_)
    refine lv_aload_n hx hb dX10_showTo_7 rfl (lv_at hl 2 rfl) (hp_n (n := 8) rfl ?_)
    refine lv_iload_n hx hb dX10_showTo_8 rfl (lv_at hl 3 rfl) (hp_n (n := 9) rfl ?_)
    obtain ⟨rh1, αh1, qh1, hf⟩ := hq_cE hf
    refine d_ci (pc' := 12) B (hp_runV (As := [va_rf (some a2), .int a3]) (rest := []) C B (n_X10_headOf n Γ l α B.2.2.1 a0 (cw_k B.2.2 k0) (some a2) (fun b h => by cases h; exact (cw_k B.2.2 k2)) a3 (rh1, αh1) qh1) lb_X10_headOf lv_X10_headOf lk_X10_107 (cw_k B.2.2 k0) rfl (by decide) rfl hl.1 rfl (Nat.le_of_ble_eq_true rfl) dX10_showTo_9 ⟨Nat.le_refl _, Nat.le_refl _⟩) (by decide) rfl (fun Hh1 Lh1 Bh1 => ?_)
    refine lv_istore (lv' := [(4, .int rh1), (0, .ref a0), (1, .ref a1), (2, .ref a2), (3, .int a3)]) hx hb dX10_showTo_12 hl (by decide) rfl (fun ls hl => hp_n (n := 14) rfl ?_)
    refine lv_iload_n hx hb dX10_showTo_14 rfl (lv_at hl 4 rfl) (hp_n (n := 15) rfl ?_)
    refine lv_aload_n hx hb dX10_showTo_15 rfl (lv_at hl 2 rfl) (hp_n (n := 16) rfl ?_)
    refine q_geti (κ := 8) (k := 0) (φ := 400) (pc' := 19) C Bh1 (cw_k Bh1.2.2 ka1) fl_X10_163 rfl rfl rfl dX10_showTo_16 rfl (fun x2 ex2 => ?_)
    replace hf := ms_lE ex2 hf
    have J27 : ∀ (αh3 : hp_T) (Hh3 : Heap) (Lh3 : List Loc) (Bh3 : hp_B Γ (cw w_X10_showTo) s α αh3 Hh3 Lh3) (v1_h3 : Nat) (kv1_h3 : hp_K α v1_h3 = 8) (v2_h3 : Nat) (kv2_h3 : hp_K α v2_h3 = 3) (v3_h3 : Int32) (v4_h3 : Int32) (w0_h3 : Int32) (ls : Array Slot) (hl : lv_has ls 7 [(0, .ref a0), (1, .ref v1_h3), (2, .ref v2_h3), (3, .int v3_h3), (4, .int v4_h3)]) (hf : f_X10_showTos_J27 n a0 αh3 v1_h3 v2_h3 v3_h3 v4_h3 w0_h3 = some res), W p l e (hp_rm 6 0 0) s m ([.ref a0, .ref a1, .ref a2, .int a3] : List Value).toArray below meth c Hh3 Lh3 0 0 (MQ below (hp_Qi Γ (fun r β => r = res.1 ∧ β = res.2 ∧ cw w_X10_showTo α β)) ([.ref a0, .ref a1, .ref a2, .int a3] : List Value).toArray s 0 0 (hp_A Γ)) (F0 m 27 ls [.int w0_h3]) := by
      intro αh3 Hh3 Lh3 Bh3 v1_h3 kv1_h3 v2_h3 kv2_h3 v3_h3 v4_h3 w0_h3 ls hl hf
      unfold f_X10_showTos_J27 at hf
      refine lv_istore (lv' := [(5, .int w0_h3), (0, .ref a0), (1, .ref v1_h3), (2, .ref v2_h3), (3, .int v3_h3), (4, .int v4_h3)]) hx hb dX10_showTo_27 hl (by decide) rfl (fun ls hl => hp_n (n := 29) rfl ?_)
      refine lv_iload hx hb dX10_showTo_29 (lv_at hl 0 rfl) (hp_n (n := 31) rfl ?_)
      have J69 : ∀ (αh4 : hp_T) (Hh4 : Heap) (Lh4 : List Loc) (Bh4 : hp_B Γ (cw w_X10_showTo) s α αh4 Hh4 Lh4) (v1_h4 : Nat) (kv1_h4 : hp_K α v1_h4 = 8) (v3_h4 : Int32) (v4_h4 : Int32) (v5_h4 : Int32) (w0_h4 : Int32) (ls : Array Slot) (hl : lv_has ls 7 [(0, .ref a0), (1, .ref v1_h4), (3, .int v3_h4), (4, .int v4_h4), (5, .int v5_h4)]) (hf : f_X10_showTos_J69 n a0 αh4 v1_h4 v3_h4 v4_h4 v5_h4 w0_h4 = some res), W p l e (hp_rm 6 0 0) s m ([.ref a0, .ref a1, .ref a2, .int a3] : List Value).toArray below meth c Hh4 Lh4 0 0 (MQ below (hp_Qi Γ (fun r β => r = res.1 ∧ β = res.2 ∧ cw w_X10_showTo α β)) ([.ref a0, .ref a1, .ref a2, .int a3] : List Value).toArray s 0 0 (hp_A Γ)) (F0 m 69 ls [.int w0_h4]) := by
        intro αh4 Hh4 Lh4 Bh4 v1_h4 kv1_h4 v3_h4 v4_h4 v5_h4 w0_h4 ls hl hf
        unfold f_X10_showTos_J69 at hf
        refine lv_istore (lv' := [(6, .int w0_h4), (0, .ref a0), (1, .ref v1_h4), (3, .int v3_h4), (4, .int v4_h4), (5, .int v5_h4)]) hx hb dX10_showTo_69 hl (by decide) rfl (fun ls hl => hp_n (n := 71) rfl ?_)
        refine lv_iload hx hb dX10_showTo_71 (lv_at hl 0 rfl) (hp_n (n := 73) rfl ?_)
        have J88 : ∀ (αh5 : hp_T) (Hh5 : Heap) (Lh5 : List Loc) (Bh5 : hp_B Γ (cw w_X10_showTo) s α αh5 Hh5 Lh5) (v1_h5 : Nat) (kv1_h5 : hp_K α v1_h5 = 8) (v6_h5 : Int32) (ls : Array Slot) (hl : lv_has ls 7 [(0, .ref a0), (1, .ref v1_h5), (6, .int v6_h5)]) (hf : f_X10_showTos_J88 n a0 αh5 v1_h5 v6_h5 = some res), W p l e (hp_rm 6 0 0) s m ([.ref a0, .ref a1, .ref a2, .int a3] : List Value).toArray below meth c Hh5 Lh5 0 0 (MQ below (hp_Qi Γ (fun r β => r = res.1 ∧ β = res.2 ∧ cw w_X10_showTo α β)) ([.ref a0, .ref a1, .ref a2, .int a3] : List Value).toArray s 0 0 (hp_A Γ)) (F0 m 88 ls []) := by
          intro αh5 Hh5 Lh5 Bh5 v1_h5 kv1_h5 v6_h5 ls hl hf
          unfold f_X10_showTos_J88 at hf
          refine lv_aload_n hx hb dX10_showTo_88 rfl (lv_at hl 1 rfl) (hp_n (n := 89) rfl ?_)
          refine lv_iload hx hb dX10_showTo_89 (lv_at hl 2 rfl) (hp_n (n := 91) rfl ?_)
          obtain ⟨αh6, qh6, hf⟩ := ms_bE hf
          refine d_cv (pc' := 94) Bh5 (hp_runV (As := [.int v6_h5]) (rest := []) C Bh5 (n_X7_hearWhy n Γ l αh5 Bh5.2.2.1 v1_h5 (cw_k Bh5.2.2 kv1_h5) v6_h5 αh6 qh6) lb_X7_hearWhy lv_X7_hearWhy lk_X10_174 (cw_k Bh5.2.2 kv1_h5) rfl (by decide) rfl hl.1 rfl (Nat.le_of_ble_eq_true rfl) dX10_showTo_91 ⟨Nat.le_refl _, Nat.le_refl _⟩) (by decide) rfl (fun Hh6 Lh6 Bh6 => ?_)
          refine lv_aload_n hx hb dX10_showTo_94 rfl (lv_at hl 1 rfl) (hp_n (n := 95) rfl ?_)
          refine lv_dup hx hb dX10_showTo_95 rfl (hp_n (n := 96) rfl ?_)
          refine q_geti (κ := 8) (k := 2) (φ := 402) (pc' := 99) C Bh6 (cw_k Bh6.2.2 kv1_h5) fl_X10_177 rfl rfl rfl dX10_showTo_96 rfl (fun x7 ex7 => ?_)
          replace hf := ms_lE ex7 hf
          refine lv_iconst (v := 1) hx hb dX10_showTo_99 (by decide) (hp_n (n := 100) rfl ?_)
          refine lv_iadd hx hb dX10_showTo_100 (hp_n (n := 101) rfl ?_)
          refine q_puti (κ := 8) (k := 2) (φ := 402) (pc' := 104) C Bh6 (cw_k Bh6.2.2 kv1_h5) fl_X10_177 rfl rfl rfl rfl rfl rfl (cw_sI Bh6.2.2 (by decide) (fun h => absurd h (by decide))) dX10_showTo_101 rfl (fun αh8 Hh8 Lh8 eh8 Bh8 => ?_)
          replace hf := ms_lE eh8 hf
          refine lv_aload_n hx hb dX10_showTo_104 rfl (lv_at hl 0 rfl) (hp_n (n := 105) rfl ?_)
          refine lv_dup hx hb dX10_showTo_105 rfl (hp_n (n := 106) rfl ?_)
          refine q_geti (κ := 11) (k := 6) (φ := 556) (pc' := 109) C Bh8 (cw_k Bh8.2.2 k0) fl_X10_40 rfl rfl rfl dX10_showTo_106 rfl (fun x9 ex9 => ?_)
          replace hf := ms_lE ex9 hf
          refine lv_iconst (v := 1) hx hb dX10_showTo_109 (by decide) (hp_n (n := 110) rfl ?_)
          refine lv_iadd hx hb dX10_showTo_110 (hp_n (n := 111) rfl ?_)
          refine q_puti (κ := 11) (k := 6) (φ := 556) (pc' := 114) C Bh8 (cw_k Bh8.2.2 k0) fl_X10_40 rfl rfl rfl rfl rfl rfl (cw_sI Bh8.2.2 (by decide) (fun h => absurd h (by decide))) dX10_showTo_111 rfl (fun αh10 Hh10 Lh10 eh10 Bh10 => ?_)
          replace hf := ms_lE eh10 hf
          refine lv_iload hx hb dX10_showTo_114 (lv_at hl 2 rfl) (hp_n (n := 116) rfl ?_)
          cases hf
          exact q_iret C Bh10 hr hlk ⟨rfl, rfl, Bh10.2.2⟩ dX10_showTo_116
        refine lv_if_ne (tgt := 88) hx hb dX10_showTo_73 (by decide) (fun c11 => ?_) (fun c11 => hp_n (n := 76) rfl ?_)
        ·
          replace hf := ms_iF c11 hf
          exact J88 αh4 Hh4 Lh4 Bh4 v1_h4 kv1_h4 w0_h4 ls (lv_sub hl [1, 2, 0] rfl) hf
        ·
          replace hf := ms_iT c11 hf
          refine lv_iload hx hb dX10_showTo_76 (lv_at hl 5 rfl) (hp_n (n := 78) rfl ?_)
          refine lv_if_eq (tgt := 88) hx hb dX10_showTo_78 (by decide) (fun c12 => ?_) (fun c12 => hp_n (n := 81) rfl ?_)
          ·
            replace hf := ms_iT c12 hf
            exact J88 αh4 Hh4 Lh4 Bh4 v1_h4 kv1_h4 w0_h4 ls (lv_sub hl [1, 2, 0] rfl) hf
          ·
            replace hf := ms_iF c12 hf
            refine lv_aload_n hx hb dX10_showTo_81 rfl (lv_at hl 2 rfl) (hp_n (n := 82) rfl ?_)
            refine lv_iload_n hx hb dX10_showTo_82 rfl (lv_at hl 3 rfl) (hp_n (n := 83) rfl ?_)
            refine lv_iload hx hb dX10_showTo_83 (lv_at hl 4 rfl) (hp_n (n := 85) rfl ?_)
            obtain ⟨αh13, qh13, hf⟩ := ms_bE hf
            refine d_cv (pc' := 88) Bh4 (hp_runV (As := [.int v3_h4, .int v4_h4]) (rest := []) C Bh4 (n_X7_trust n Γ l αh4 Bh4.2.2.1 v1_h4 (cw_k Bh4.2.2 kv1_h4) v3_h4 v4_h4 αh13 qh13) lb_X7_trust lv_X7_trust lk_X10_171 (cw_k Bh4.2.2 kv1_h4) rfl (by decide) rfl hl.1 rfl (Nat.le_of_ble_eq_true rfl) dX10_showTo_85 ⟨Nat.le_refl _, Nat.le_refl _⟩) (by decide) rfl (fun Hh13 Lh13 Bh13 => ?_)
            exact J88 αh13 Hh13 Lh13 Bh13 v1_h4 kv1_h4 w0_h4 ls (lv_sub hl [1, 2, 0] rfl) hf
      refine lv_if_eq (tgt := 53) hx hb dX10_showTo_31 (by decide) (fun c14 => ?_) (fun c14 => hp_n (n := 34) rfl ?_)
      ·
        replace hf := ms_iT c14 hf
        refine lv_aload_n hx hb dX10_showTo_53 rfl (lv_at hl 1 rfl) (hp_n (n := 54) rfl ?_)
        refine lv_aload_n hx hb dX10_showTo_54 rfl (lv_at hl 3 rfl) (hp_n (n := 55) rfl ?_)
        refine lv_iload_n hx hb dX10_showTo_55 rfl (lv_at hl 4 rfl) (hp_n (n := 56) rfl ?_)
        refine lv_iload hx hb dX10_showTo_56 (lv_at hl 5 rfl) (hp_n (n := 58) rfl ?_)
        refine lv_aload_n hx hb dX10_showTo_58 rfl (lv_at hl 2 rfl) (hp_n (n := 59) rfl ?_)
        refine q_geti (κ := 8) (k := 0) (φ := 400) (pc' := 62) C Bh3 (cw_k Bh3.2.2 kv1_h3) fl_X10_163 rfl rfl rfl dX10_showTo_59 rfl (fun x15 ex15 => ?_)
        replace hf := ms_lE ex15 hf
        refine lv_aload_n hx hb dX10_showTo_62 rfl (lv_at hl 2 rfl) (hp_n (n := 63) rfl ?_)
        refine q_geti (κ := 8) (k := 1) (φ := 401) (pc' := 66) C Bh3 (cw_k Bh3.2.2 kv1_h3) fl_X10_164 rfl rfl rfl dX10_showTo_63 rfl (fun x16 ex16 => ?_)
        replace hf := ms_lE ex16 hf
        obtain ⟨rh17, αh17, qh17, hf⟩ := hq_cE hf
        refine d_ci (pc' := 69) Bh3 (hp_runV (As := [va_rf (some v2_h3), .int v3_h3, .int v4_h3, .int x15, .int x16]) (rest := []) C Bh3 (n_X10_whyGrown n Γ l αh3 Bh3.2.2.1 a0 (cw_k Bh3.2.2 k0) (some v2_h3) (fun b h => by cases h; exact (cw_k Bh3.2.2 kv2_h3)) v3_h3 v4_h3 x15 x16 (rh17, αh17) qh17) lb_X10_whyGrown lv_X10_whyGrown lk_X10_167 (cw_k Bh3.2.2 k0) rfl (by decide) rfl hl.1 rfl (Nat.le_of_ble_eq_true rfl) dX10_showTo_66 ⟨Nat.le_refl _, Nat.le_refl _⟩) (by decide) rfl (fun Hh17 Lh17 Bh17 => ?_)
        exact J69 αh17 Hh17 Lh17 Bh17 v1_h3 kv1_h3 v3_h3 v4_h3 w0_h3 rh17 ls (lv_sub hl [1, 2, 4, 5, 0] rfl) hf
      ·
        replace hf := ms_iF c14 hf
        refine lv_aload_n hx hb dX10_showTo_34 rfl (lv_at hl 1 rfl) (hp_n (n := 35) rfl ?_)
        refine lv_aload_n hx hb dX10_showTo_35 rfl (lv_at hl 3 rfl) (hp_n (n := 36) rfl ?_)
        refine lv_aload_n hx hb dX10_showTo_36 rfl (lv_at hl 2 rfl) (hp_n (n := 37) rfl ?_)
        refine q_geti (κ := 8) (k := 0) (φ := 400) (pc' := 40) C Bh3 (cw_k Bh3.2.2 kv1_h3) fl_X10_163 rfl rfl rfl dX10_showTo_37 rfl (fun x18 ex18 => ?_)
        replace hf := ms_lE ex18 hf
        refine lv_aload_n hx hb dX10_showTo_40 rfl (lv_at hl 2 rfl) (hp_n (n := 41) rfl ?_)
        refine q_geti (κ := 8) (k := 1) (φ := 401) (pc' := 44) C Bh3 (cw_k Bh3.2.2 kv1_h3) fl_X10_164 rfl rfl rfl dX10_showTo_41 rfl (fun x19 ex19 => ?_)
        replace hf := ms_lE ex19 hf
        refine lv_iload_n hx hb dX10_showTo_44 rfl (lv_at hl 4 rfl) (hp_n (n := 45) rfl ?_)
        refine lv_iload hx hb dX10_showTo_45 (lv_at hl 5 rfl) (hp_n (n := 47) rfl ?_)
        obtain ⟨rh20, αh20, qh20, hf⟩ := hq_cE hf
        refine d_ci (pc' := 50) Bh3 (hp_runV (As := [va_rf (some v2_h3), .int x18, .int x19, .int v3_h3, .int v4_h3]) (rest := []) C Bh3 (n_X10_whyGrown n Γ l αh3 Bh3.2.2.1 a0 (cw_k Bh3.2.2 k0) (some v2_h3) (fun b h => by cases h; exact (cw_k Bh3.2.2 kv2_h3)) x18 x19 v3_h3 v4_h3 (rh20, αh20) qh20) lb_X10_whyGrown lv_X10_whyGrown lk_X10_167 (cw_k Bh3.2.2 k0) rfl (by decide) rfl hl.1 rfl (Nat.le_of_ble_eq_true rfl) dX10_showTo_47 ⟨Nat.le_refl _, Nat.le_refl _⟩) (by decide) rfl (fun Hh20 Lh20 Bh20 => ?_)
        refine lv_goto (tgt := 69) hx hb dX10_showTo_50 (by decide) ?_
        exact J69 αh20 Hh20 Lh20 Bh20 v1_h3 kv1_h3 v3_h3 v4_h3 w0_h3 rh20 ls (lv_sub hl [1, 2, 4, 5, 0] rfl) hf
    refine lv_icmp_lt (tgt := 26) hx hb dX10_showTo_19 (by decide) (fun c21 => ?_) (fun c21 => hp_n (n := 22) rfl ?_)
    ·
      replace hf := ms_iT c21 hf
      refine lv_iconst (v := 0) hx hb dX10_showTo_26 (by decide) (hp_n (n := 27) rfl ?_)
      exact J27 αh1 Hh1 Lh1 Bh1 a1 ka1 a2 k2 a3 rh1 (0 : Int32) ls (lv_sub hl [1, 2, 3, 4, 0] rfl) hf
    ·
      replace hf := ms_iF c21 hf
      refine lv_iconst (v := 1) hx hb dX10_showTo_22 (by decide) (hp_n (n := 23) rfl ?_)
      refine lv_goto (tgt := 27) hx hb dX10_showTo_23 (by decide) ?_
      exact J27 αh1 Hh1 Lh1 Bh1 a1 ka1 a2 k2 a3 rh1 (1 : Int32) ls (lv_sub hl [1, 2, 3, 4, 0] rfl) hf
def f_X2_changeLetter (n : Nat) (α : hp_T) (a0 : Nat) (a1 : Int32) (a2 : Int32) (a3 : Int32) (a4 : Int32) : Option hp_T :=
  ms_b (f_X2_wordAt n α a0 a1) fun rh1 =>
  hq_m rh1 (
    some α) fun bh1 =>
  ms_l (hp_R α 151 a0) fun b2 =>
  if (48 : Int32) ≤ a1 then
    some α
  else
    ms_b (f_X9_change n α bh1 a2 a3) fun αh4 =>
    ms_l (hp_R αh4 151 a0) fun b5 =>
    ms_b (f_X9_markBy n αh4 bh1 a4) fun rh6 =>
    ms_g a1 48 <|
    ms_l (hp_sE αh4 29 b5 (a1).toNatClampNeg rh6) fun αh8 =>
    some αh8
set_option maxRecDepth 100000 in
set_option maxHeartbeats 4000000 in
theorem n_X2_changeLetter (n : Nat) (Γ : hp_G) (l : Launch) (α : hp_T) (g : GC α) (a0 : Nat) (k0 : hp_K α a0 = 3) (a1 : Int32) (a2 : Int32) (a3 : Int32) (a4 : Int32) (res : hp_T) (hf : f_X2_changeLetter n α a0 a1 a2 a3 a4 = some res) : Met l yX2_changeLetter (hp_ws yX2_changeLetter cX2_changeLetter 6 none) (hp_rm 2 0 0) (hp_Pc Γ α [.ref a0, .int a1, .int a2, .int a3, .int a4]) (hp_Qv Γ (fun β => β = res ∧ cw w_X2_changeLetter α β)) 0 0 (hp_A Γ) := by
  unfold f_X2_changeLetter at hf
  refine hp_start (by decide) ?_
  intro p e s m below meth c C hr hlk B0 hnm
  have C : hp_C Γ p m c cX2_changeLetter 6 s ([.ref a0, .int a1, .int a2, .int a3, .int a4] : List Value).toArray RX2 := C
  have hx := C.1.1
  have hb := C.1.2.1
  have hown := C.1.2.2.2.1
  have hts := C.1.2.2.2.2
  have B : hp_B Γ (cw w_X2_changeLetter) s α α s.heap [] := ⟨B0.1, B0.2.1, cw_rf g⟩
  have hl := lv_entry ([.ref a0, .int a1, .int a2, .int a3, .int a4]) (n := 6) (Nat.le_of_ble_eq_true rfl)
  show W p l e (hp_rm 2 0 0) s m ([.ref a0, .int a1, .int a2, .int a3, .int a4] : List Value).toArray below meth c s.heap [] 0 0 (MQ below (hp_Qv Γ (fun β => β = res ∧ cw w_X2_changeLetter α β)) ([.ref a0, .int a1, .int a2, .int a3, .int a4] : List Value).toArray s 0 0 (hp_A Γ)) (entryFrame m ([.ref a0, .int a1, .int a2, .int a3, .int a4] : List Value).toArray 6)
  rw [lg_entry_eq]
  generalize (lg_sl ([.ref a0, .int a1, .int a2, .int a3, .int a4]) ++ List.replicate (6 - (lg_sl ([.ref a0, .int a1, .int a2, .int a3, .int a4])).length) Slot.unset).toArray = ls at hl ⊢
  have hl : lv_has ls 6 [(0, .ref a0), (1, .int a1), (2, .int a2), (3, .int a3), (4, .int a4)] := hl
  refine lv_aload_n hx hb dX2_changeLetter_0 rfl (lv_at hl 0 rfl) (hp_n (n := 1) rfl ?_)
  refine lv_iload_n hx hb dX2_changeLetter_1 rfl (lv_at hl 1 rfl) (hp_n (n := 2) rfl ?_)
  obtain ⟨rh1, qh1, hf⟩ := ms_bE hf
  refine d_pq (pc' := 5) B (hp_runV (As := [.int a1]) (rest := []) C B (n_X2_wordAt n Γ l α B.2.2.1 a0 (cw_k B.2.2 k0) a1 rh1 qh1) lb_X2_wordAt lv_X2_wordAt lk_X2_34 (cw_k B.2.2 k0) rfl (by decide) rfl hl.1 rfl (Nat.le_of_ble_eq_true rfl) dX2_changeLetter_2 ⟨Nat.le_refl _, Nat.le_refl _⟩) rfl (fun Hh1 Lh1 Bh1 kh1 => ?_)
  rcases rh1 with _ | bh1
  ·
    replace hf := hq_N hf
    refine lv_astoreN (lv' := [(5, .null), (0, .ref a0), (1, .int a1), (2, .int a2), (3, .int a3), (4, .int a4)]) hx hb dX2_changeLetter_5 hl (by decide) rfl (fun ls hl => hp_n (n := 7) rfl ?_)
    refine lv_aloadN hx hb dX2_changeLetter_7 (lv_at hl 0 rfl) (hp_n (n := 9) rfl ?_)
    refine lv_ifnullN (tgt := 41) hx hb dX2_changeLetter_9 (by decide) ?_
    cases hf
    exact q_vret C Bh1 hr hlk ⟨rfl, Bh1.2.2⟩ dX2_changeLetter_41
  ·
    replace hf := hq_S hf
    have kbh1 := kh1 bh1 rfl
    refine lv_astore (lv' := [(5, .ref bh1), (0, .ref a0), (1, .int a1), (2, .int a2), (3, .int a3), (4, .int a4)]) hx hb dX2_changeLetter_5 hl (by decide) rfl (fun ls hl => hp_n (n := 7) rfl ?_)
    refine lv_aload hx hb dX2_changeLetter_7 (lv_at hl 0 rfl) (hp_n (n := 9) rfl ?_)
    refine lv_ifnull hx hb dX2_changeLetter_9 (hp_n (n := 12) rfl ?_)
    refine lv_iload_n hx hb dX2_changeLetter_12 rfl (lv_at hl 2 rfl) (hp_n (n := 13) rfl ?_)
    refine lv_aload_n hx hb dX2_changeLetter_13 rfl (lv_at hl 1 rfl) (hp_n (n := 14) rfl ?_)
    refine q_getr (κ := 3) (k := 1) (φ := 151) (pc' := 17) C Bh1 (cw_k Bh1.2.2 k0) fl_X2_17 rfl rfl rfl (cw_r Bh1.2.2 k0 rfl rfl (by decide) (by decide)) dX2_changeLetter_14 rfl (fun b2 eb2 kb2 => ?_)
    replace hf := ms_lE eb2 hf
    refine q_alen (κ := 29) (t := 0) (n := 48) (x := 48) (ty := .int) (pc' := 18) C Bh1 (cw_k Bh1.2.2 kb2) (by decide) rfl rfl rfl dX2_changeLetter_17 rfl ?_
    refine lv_icmp_ge (tgt := 41) hx hb dX2_changeLetter_18 (by decide) (fun c3 => ?_) (fun c3 => hp_n (n := 21) rfl ?_)
    ·
      replace hf := ms_iT c3 hf
      cases hf
      exact q_vret C Bh1 hr hlk ⟨rfl, Bh1.2.2⟩ dX2_changeLetter_41
    ·
      replace hf := ms_iF c3 hf
      refine lv_aload hx hb dX2_changeLetter_21 (lv_at hl 0 rfl) (hp_n (n := 23) rfl ?_)
      refine lv_iload_n hx hb dX2_changeLetter_23 rfl (lv_at hl 3 rfl) (hp_n (n := 24) rfl ?_)
      refine lv_iload_n hx hb dX2_changeLetter_24 rfl (lv_at hl 4 rfl) (hp_n (n := 25) rfl ?_)
      obtain ⟨αh4, qh4, hf⟩ := ms_bE hf
      refine d_cv (pc' := 28) Bh1 (hp_runV (As := [.int a2, .int a3]) (rest := []) C Bh1 (n_X9_change n Γ l α Bh1.2.2.1 bh1 (cw_k Bh1.2.2 kbh1) a2 a3 αh4 qh4) lb_X9_change lv_X9_change lk_X2_38 (cw_k Bh1.2.2 kbh1) rfl (by decide) rfl hl.1 rfl (Nat.le_of_ble_eq_true rfl) dX2_changeLetter_25 ⟨Nat.le_refl _, Nat.le_refl _⟩) (by decide) rfl (fun Hh4 Lh4 Bh4 => ?_)
      refine lv_aload_n hx hb dX2_changeLetter_28 rfl (lv_at hl 1 rfl) (hp_n (n := 29) rfl ?_)
      refine q_getr (κ := 3) (k := 1) (φ := 151) (pc' := 32) C Bh4 (cw_k Bh4.2.2 k0) fl_X2_17 rfl rfl rfl (cw_r Bh4.2.2 k0 rfl rfl (by decide) (by decide)) dX2_changeLetter_29 rfl (fun b5 eb5 kb5 => ?_)
      replace hf := ms_lE eb5 hf
      refine lv_iload_n hx hb dX2_changeLetter_32 rfl (lv_at hl 2 rfl) (hp_n (n := 33) rfl ?_)
      refine lv_aload hx hb dX2_changeLetter_33 (lv_at hl 0 rfl) (hp_n (n := 35) rfl ?_)
      refine lv_iload hx hb dX2_changeLetter_35 (lv_at hl 5 rfl) (hp_n (n := 37) rfl ?_)
      obtain ⟨rh6, qh6, hf⟩ := ms_bE hf
      refine d_pi (pc' := 40) Bh4 (hp_runV (As := [.int a4]) (rest := [.int a1, .ref b5]) C Bh4 (n_X9_markBy n Γ l αh4 Bh4.2.2.1 bh1 (cw_k Bh4.2.2 kbh1) a4 rh6 qh6) lb_X9_markBy lv_X9_markBy lk_X2_30 (cw_k Bh4.2.2 kbh1) rfl (by decide) rfl hl.1 rfl (Nat.le_of_ble_eq_true rfl) dX2_changeLetter_37 ⟨Nat.le_refl _, Nat.le_refl _⟩) rfl (fun Hh6 Lh6 Bh6 => ?_)
      obtain ⟨g7, hf⟩ := ms_gE hf
      refine q_ias (κ := 29) (n := 48) (pc' := 41) C Bh6 (cw_k Bh6.2.2 kb5) (by decide) rfl (vi_of g7.1 g7.2) rfl (cw_sE Bh6.2.2 (by decide)) dX2_changeLetter_40 rfl (fun αh8 Hh8 Lh8 eh8 Bh8 => ?_)
      replace hf := ms_lE eh8 hf
      cases hf
      exact q_vret C Bh8 hr hlk ⟨rfl, Bh8.2.2⟩ dX2_changeLetter_41
def f_X10_spoilLetter (n : Nat) (α : hp_T) (a0 : Nat) (a1 : Nat) (a2 : Int32) (a3 : Int32) (a4 : Int32) : Option hp_T :=
  ms_l (hp_I α 550 a0) fun x1 =>
  ms_b (f_X2_changeLetter n α a1 a2 a3 a4 x1) fun αh2 =>
  ms_l (hp_I αh2 556 a0) fun x3 =>
  ms_l (hp_sI αh2 556 a0 (x3 + (1 : Int32))) fun αh4 =>
  some αh4
set_option maxRecDepth 100000 in
set_option maxHeartbeats 4000000 in
theorem n_X10_spoilLetter (n : Nat) (Γ : hp_G) (l : Launch) (α : hp_T) (g : GC α) (a0 : Nat) (k0 : hp_K α a0 = 11) (a1 : Nat) (k1 : hp_K α a1 = 3) (a2 : Int32) (a3 : Int32) (a4 : Int32) (res : hp_T) (hf : f_X10_spoilLetter n α a0 a1 a2 a3 a4 = some res) : Met l yX10_spoilLetter (hp_ws yX10_spoilLetter cX10_spoilLetter 5 none) (hp_rm 3 0 0) (hp_Pc Γ α [.ref a0, .ref a1, .int a2, .int a3, .int a4]) (hp_Qv Γ (fun β => β = res ∧ cw w_X10_spoilLetter α β)) 0 0 (hp_A Γ) := by
  unfold f_X10_spoilLetter at hf
  refine hp_start (by decide) ?_
  intro p e s m below meth c C hr hlk B0 hnm
  have C : hp_C Γ p m c cX10_spoilLetter 5 s ([.ref a0, .ref a1, .int a2, .int a3, .int a4] : List Value).toArray RX10 := C
  have hx := C.1.1
  have hb := C.1.2.1
  have hown := C.1.2.2.2.1
  have hts := C.1.2.2.2.2
  have B : hp_B Γ (cw w_X10_spoilLetter) s α α s.heap [] := ⟨B0.1, B0.2.1, cw_rf g⟩
  have hl := lv_entry ([.ref a0, .ref a1, .int a2, .int a3, .int a4]) (n := 5) (Nat.le_of_ble_eq_true rfl)
  show W p l e (hp_rm 3 0 0) s m ([.ref a0, .ref a1, .int a2, .int a3, .int a4] : List Value).toArray below meth c s.heap [] 0 0 (MQ below (hp_Qv Γ (fun β => β = res ∧ cw w_X10_spoilLetter α β)) ([.ref a0, .ref a1, .int a2, .int a3, .int a4] : List Value).toArray s 0 0 (hp_A Γ)) (entryFrame m ([.ref a0, .ref a1, .int a2, .int a3, .int a4] : List Value).toArray 5)
  rw [lg_entry_eq]
  generalize (lg_sl ([.ref a0, .ref a1, .int a2, .int a3, .int a4]) ++ List.replicate (5 - (lg_sl ([.ref a0, .ref a1, .int a2, .int a3, .int a4])).length) Slot.unset).toArray = ls at hl ⊢
  have hl : lv_has ls 5 [(0, .ref a0), (1, .ref a1), (2, .int a2), (3, .int a3), (4, .int a4)] := hl
  refine lv_aload_n hx hb dX10_spoilLetter_0 rfl (lv_at hl 1 rfl) (hp_n (n := 1) rfl ?_)
  refine lv_iload_n hx hb dX10_spoilLetter_1 rfl (lv_at hl 2 rfl) (hp_n (n := 2) rfl ?_)
  refine lv_iload_n hx hb dX10_spoilLetter_2 rfl (lv_at hl 3 rfl) (hp_n (n := 3) rfl ?_)
  refine lv_iload hx hb dX10_spoilLetter_3 (lv_at hl 4 rfl) (hp_n (n := 5) rfl ?_)
  refine lv_aload_n hx hb dX10_spoilLetter_5 rfl (lv_at hl 0 rfl) (hp_n (n := 6) rfl ?_)
  refine q_geti (κ := 11) (k := 0) (φ := 550) (pc' := 9) C B (cw_k B.2.2 k0) fl_X10_10 rfl rfl rfl dX10_spoilLetter_6 rfl (fun x1 ex1 => ?_)
  replace hf := ms_lE ex1 hf
  obtain ⟨αh2, qh2, hf⟩ := ms_bE hf
  refine d_cv (pc' := 12) B (hp_runV (As := [.int a2, .int a3, .int a4, .int x1]) (rest := []) C B (n_X2_changeLetter n Γ l α B.2.2.1 a1 (cw_k B.2.2 k1) a2 a3 a4 x1 αh2 qh2) lb_X2_changeLetter lv_X2_changeLetter lk_X10_147 (cw_k B.2.2 k1) rfl (by decide) rfl hl.1 rfl (Nat.le_of_ble_eq_true rfl) dX10_spoilLetter_9 ⟨Nat.le_refl _, Nat.le_refl _⟩) (by decide) rfl (fun Hh2 Lh2 Bh2 => ?_)
  refine lv_aload_n hx hb dX10_spoilLetter_12 rfl (lv_at hl 0 rfl) (hp_n (n := 13) rfl ?_)
  refine lv_dup hx hb dX10_spoilLetter_13 rfl (hp_n (n := 14) rfl ?_)
  refine q_geti (κ := 11) (k := 6) (φ := 556) (pc' := 17) C Bh2 (cw_k Bh2.2.2 k0) fl_X10_40 rfl rfl rfl dX10_spoilLetter_14 rfl (fun x3 ex3 => ?_)
  replace hf := ms_lE ex3 hf
  refine lv_iconst (v := 1) hx hb dX10_spoilLetter_17 (by decide) (hp_n (n := 18) rfl ?_)
  refine lv_iadd hx hb dX10_spoilLetter_18 (hp_n (n := 19) rfl ?_)
  refine q_puti (κ := 11) (k := 6) (φ := 556) (pc' := 22) C Bh2 (cw_k Bh2.2.2 k0) fl_X10_40 rfl rfl rfl rfl rfl rfl (cw_sI Bh2.2.2 (by decide) (fun h => absurd h (by decide))) dX10_spoilLetter_19 rfl (fun αh4 Hh4 Lh4 eh4 Bh4 => ?_)
  replace hf := ms_lE eh4 hf
  cases hf
  exact q_vret C Bh4 hr hlk ⟨rfl, Bh4.2.2⟩ dX10_spoilLetter_22
def f_X10_watcherAt (n : Nat) (α : hp_T) (a0 : Nat) (a1 : Int32) : Option (Option Nat) :=
  if a1 < 0 then
    some none
  else
    ms_l (hp_R α 555 a0) fun b2 =>
    if (4 : Int32) ≤ a1 then
      some none
    else
      ms_l (hp_R α 555 a0) fun b4 =>
      ms_g a1 4 <|
      hq_m (hp_Q α 32 b4 (a1).toNatClampNeg) (
        some none) fun b6 =>
      some (some b6)
set_option maxRecDepth 100000 in
set_option maxHeartbeats 4000000 in
theorem n_X10_watcherAt (n : Nat) (Γ : hp_G) (l : Launch) (α : hp_T) (g : GC α) (a0 : Nat) (k0 : hp_K α a0 = 11) (a1 : Int32) (res : Option Nat) (hf : f_X10_watcherAt n α a0 a1 = some res) : Met l yX10_watcherAt (hp_ws yX10_watcherAt cX10_watcherAt 2 (some (.object "ProvenRecord$Watcher"))) (hp_rm 0 0 0) (hp_Pc Γ α [.ref a0, .int a1]) (hp_Qq Γ (fun r β => (β = α ∧ r = res) ∧ ∀ b, r = some b → hp_K α b = 8)) 0 0 (hp_A Γ) := by
  unfold f_X10_watcherAt at hf
  refine hp_start (by decide) ?_
  intro p e s m below meth c C hr hlk B0 hnm
  have C : hp_C Γ p m c cX10_watcherAt 2 s ([.ref a0, .int a1] : List Value).toArray RX10 := C
  have hx := C.1.1
  have hb := C.1.2.1
  have hown := C.1.2.2.2.1
  have hts := C.1.2.2.2.2
  have B : hp_B Γ (cw w_X10_watcherAt) s α α s.heap [] := ⟨B0.1, B0.2.1, cw_rf g⟩
  have hl := lv_entry ([.ref a0, .int a1]) (n := 2) (Nat.le_of_ble_eq_true rfl)
  show W p l e (hp_rm 0 0 0) s m ([.ref a0, .int a1] : List Value).toArray below meth c s.heap [] 0 0 (MQ below (hp_Qq Γ (fun r β => (β = α ∧ r = res) ∧ ∀ b, r = some b → hp_K α b = 8)) ([.ref a0, .int a1] : List Value).toArray s 0 0 (hp_A Γ)) (entryFrame m ([.ref a0, .int a1] : List Value).toArray 2)
  rw [lg_entry_eq]
  generalize (lg_sl ([.ref a0, .int a1]) ++ List.replicate (2 - (lg_sl ([.ref a0, .int a1])).length) Slot.unset).toArray = ls at hl ⊢
  have hl : lv_has ls 2 [(0, .ref a0), (1, .int a1)] := hl
  refine lv_iload_n hx hb dX10_watcherAt_0 rfl (lv_at hl 1 rfl) (hp_n (n := 1) rfl ?_)
  refine lv_if_lt (tgt := 22) hx hb dX10_watcherAt_1 (by decide) (fun c1 => ?_) (fun c1 => hp_n (n := 4) rfl ?_)
  ·
    replace hf := ms_iT c1 hf
    refine lv_null hx hb dX10_watcherAt_22 (hp_n (n := 23) rfl ?_)
    cases hf
    exact q_aret (x := none) C B hr hlk ⟨⟨rfl, rfl⟩, fun b h => by cases h⟩ dX10_watcherAt_23
  ·
    replace hf := ms_iF c1 hf
    refine lv_iload_n hx hb dX10_watcherAt_4 rfl (lv_at hl 1 rfl) (hp_n (n := 5) rfl ?_)
    refine lv_aload_n hx hb dX10_watcherAt_5 rfl (lv_at hl 0 rfl) (hp_n (n := 6) rfl ?_)
    refine q_getr (κ := 11) (k := 5) (φ := 555) (pc' := 9) C B (cw_k B.2.2 k0) fl_X10_36 rfl rfl rfl (cw_r B.2.2 k0 rfl rfl (by decide) (by decide)) dX10_watcherAt_6 rfl (fun b2 eb2 kb2 => ?_)
    replace hf := ms_lE eb2 hf
    refine q_alen (κ := 32) (t := 6) (n := 4) (x := 4) (ty := .object "ProvenRecord$Watcher") (pc' := 10) C B (cw_k B.2.2 kb2) (by decide) rfl rfl rfl dX10_watcherAt_9 rfl ?_
    refine lv_icmp_ge (tgt := 22) hx hb dX10_watcherAt_10 (by decide) (fun c3 => ?_) (fun c3 => hp_n (n := 13) rfl ?_)
    ·
      replace hf := ms_iT c3 hf
      refine lv_null hx hb dX10_watcherAt_22 (hp_n (n := 23) rfl ?_)
      cases hf
      exact q_aret (x := none) C B hr hlk ⟨⟨rfl, rfl⟩, fun b h => by cases h⟩ dX10_watcherAt_23
    ·
      replace hf := ms_iF c3 hf
      refine lv_aload_n hx hb dX10_watcherAt_13 rfl (lv_at hl 0 rfl) (hp_n (n := 14) rfl ?_)
      refine q_getr (κ := 11) (k := 5) (φ := 555) (pc' := 17) C B (cw_k B.2.2 k0) fl_X10_36 rfl rfl rfl (cw_r B.2.2 k0 rfl rfl (by decide) (by decide)) dX10_watcherAt_14 rfl (fun b4 eb4 kb4 => ?_)
      replace hf := ms_lE eb4 hf
      refine lv_iload_n hx hb dX10_watcherAt_17 rfl (lv_at hl 1 rfl) (hp_n (n := 18) rfl ?_)
      obtain ⟨g5, hf⟩ := ms_gE hf
      refine q_aal (κ := 32) (t := 6) (n := 4) (C0 := "ProvenRecord$Watcher") (pc' := 19) C B (cw_k B.2.2 kb4) (by decide) rfl rfl (by decide) (vi_of g5.1 g5.2) dX10_watcherAt_18 rfl ?_
      rcases hq_E hf with ⟨hqb6, hf⟩ | ⟨b6, hqb6, hf⟩
      ·
        rw [hqb6]
        refine lv_goto (tgt := 23) hx hb dX10_watcherAt_19 (by decide) ?_
        cases hf
        exact q_aret (x := none) C B hr hlk ⟨⟨rfl, rfl⟩, fun b h => by cases h⟩ dX10_watcherAt_23
      ·
        rw [hqb6]
        have kb6 := cw_q B.2.2 kb4 rfl (by decide) hqb6
        refine lv_goto (tgt := 23) hx hb dX10_watcherAt_19 (by decide) ?_
        cases hf
        exact q_aret (x := (some b6)) C B hr hlk ⟨⟨rfl, rfl⟩, fun b h => by cases h; exact kb6⟩ dX10_watcherAt_23
def f_X10_meetBy_J89 (n : Nat) (a0 : Nat) (αh11 : hp_T) (v5_h11 : Nat) (v6_h11 : Nat) (v7_h11 : Int32) : Option (Int32 × hp_T) :=
  ms_b (f_X7_hearWhy n αh11 v5_h11 v7_h11) fun αh12 =>
  ms_b (f_X7_hearWhy n αh12 v6_h11 v7_h11) fun αh13 =>
  ms_l (hp_I αh13 556 a0) fun x14 =>
  ms_l (hp_sI αh13 556 a0 (x14 + (1 : Int32))) fun αh15 =>
  some (v7_h11, αh15)
def f_X10_meetBy_J40 (n : Nat) (a0 : Nat) (αh5 : hp_T) (v3_h5 : Nat) (v5_h5 : Nat) (w0_h5 : Nat) : Option (Int32 × hp_T) :=
  ms_l (hp_I αh5 400 v5_h5) fun x6 =>
  ms_l (hp_I αh5 401 v5_h5) fun x7 =>
  ms_l (hp_I αh5 400 w0_h5) fun x8 =>
  ms_l (hp_I αh5 401 w0_h5) fun x9 =>
  hq_c (f_X10_whyGrown n αh5 a0 (some v3_h5) x6 x7 x8 x9) fun rh10 αh10 =>
  if rh10 = 0 then
    ms_l (hp_I αh10 400 w0_h5) fun x17 =>
    ms_l (hp_I αh10 401 w0_h5) fun x18 =>
    ms_b (f_X7_trust n αh10 v5_h5 x17 x18) fun αh19 =>
    f_X10_meetBy_J89 n a0 αh19 v5_h5 w0_h5 rh10
  else
    f_X10_meetBy_J89 n a0 αh10 v5_h5 w0_h5 rh10
def f_X10_meetBy_J28 (n : Nat) (a0 : Nat) (αh4 : hp_T) (v1_h4 : Nat) (v2_h4 : Nat) (v3_h4 : Nat) (v4_h4 : Int32) (w0_h4 : Nat) : Option (Int32 × hp_T) :=
  if v4_h4 = 0 then
    f_X10_meetBy_J40 n a0 αh4 v3_h4 w0_h4 v1_h4
  else
    f_X10_meetBy_J40 n a0 αh4 v3_h4 w0_h4 v2_h4
def f_X10_meetBy_J16 (n : Nat) (a0 : Nat) (αh3 : hp_T) (v1_h3 : Nat) (v2_h3 : Nat) (v3_h3 : Nat) (w0_h3 : Int32) : Option (Int32 × hp_T) :=
  if w0_h3 = 0 then
    f_X10_meetBy_J28 n a0 αh3 v1_h3 v2_h3 v3_h3 w0_h3 v2_h3
  else
    f_X10_meetBy_J28 n a0 αh3 v1_h3 v2_h3 v3_h3 w0_h3 v1_h3
def f_X10_meetBy (n : Nat) (α : hp_T) (a0 : Nat) (a1 : Nat) (a2 : Nat) (a3 : Nat) : Option (Int32 × hp_T) :=
  ms_l (hp_I α 400 a1) fun x1 =>
  ms_l (hp_I α 400 a2) fun x2 =>
  if x2 < x1 then
    f_X10_meetBy_J16 n a0 α a1 a2 a3 (0 : Int32)
  else
    f_X10_meetBy_J16 n a0 α a1 a2 a3 (1 : Int32)
set_option maxRecDepth 100000 in
set_option maxHeartbeats 4000000 in
theorem n_X10_meetBy (n : Nat) (Γ : hp_G) (l : Launch) (α : hp_T) (g : GC α) (a0 : Nat) (k0 : hp_K α a0 = 11) (a1 : Nat) (k1 : hp_K α a1 = 8) (a2 : Nat) (k2 : hp_K α a2 = 8) (a3 : Nat) (k3 : hp_K α a3 = 3) (res : (Int32 × hp_T)) (hf : f_X10_meetBy n α a0 a1 a2 a3 = some res) : Met l yX10_meetBy (hp_ws yX10_meetBy cX10_meetBy 8 (some .int)) (hp_rm 6 0 0) (hp_Pc Γ α [.ref a0, .ref a1, .ref a2, .ref a3]) (hp_Qi Γ (fun r β => r = res.1 ∧ β = res.2 ∧ cw w_X10_meetBy α β)) 0 0 (hp_A Γ) := by
  unfold f_X10_meetBy at hf
  refine hp_start (by decide) ?_
  intro p e s m below meth c C hr hlk B0 hnm
  have C : hp_C Γ p m c cX10_meetBy 8 s ([.ref a0, .ref a1, .ref a2, .ref a3] : List Value).toArray RX10 := C
  have hx := C.1.1
  have hb := C.1.2.1
  have hown := C.1.2.2.2.1
  have hts := C.1.2.2.2.2
  have B : hp_B Γ (cw w_X10_meetBy) s α α s.heap [] := ⟨B0.1, B0.2.1, cw_rf g⟩
  have hl := lv_entry ([.ref a0, .ref a1, .ref a2, .ref a3]) (n := 8) (Nat.le_of_ble_eq_true rfl)
  show W p l e (hp_rm 6 0 0) s m ([.ref a0, .ref a1, .ref a2, .ref a3] : List Value).toArray below meth c s.heap [] 0 0 (MQ below (hp_Qi Γ (fun r β => r = res.1 ∧ β = res.2 ∧ cw w_X10_meetBy α β)) ([.ref a0, .ref a1, .ref a2, .ref a3] : List Value).toArray s 0 0 (hp_A Γ)) (entryFrame m ([.ref a0, .ref a1, .ref a2, .ref a3] : List Value).toArray 8)
  rw [lg_entry_eq]
  generalize (lg_sl ([.ref a0, .ref a1, .ref a2, .ref a3]) ++ List.replicate (8 - (lg_sl ([.ref a0, .ref a1, .ref a2, .ref a3])).length) Slot.unset).toArray = ls at hl ⊢
  have hl : lv_has ls 8 [(0, .ref a0), (1, .ref a1), (2, .ref a2), (3, .ref a3)] := hl
  refine lv_aload_n hx hb dX10_meetBy_0 rfl (lv_at hl 1 rfl) (hp_n (n := 1) rfl ?_)
  refine q_geti (κ := 8) (k := 0) (φ := 400) (pc' := 4) C B (cw_k B.2.2 k1) fl_X10_163 rfl rfl rfl dX10_meetBy_1 rfl (fun x1 ex1 => ?_)
  replace hf := ms_lE ex1 hf
  refine lv_aload_n hx hb dX10_meetBy_4 rfl (lv_at hl 2 rfl) (hp_n (n := 5) rfl ?_)
  refine q_geti (κ := 8) (k := 0) (φ := 400) (pc' := 8) C B (cw_k B.2.2 k2) fl_X10_163 rfl rfl rfl dX10_meetBy_5 rfl (fun x2 ex2 => ?_)
  replace hf := ms_lE ex2 hf
  have J16 : ∀ (αh3 : hp_T) (Hh3 : Heap) (Lh3 : List Loc) (Bh3 : hp_B Γ (cw w_X10_meetBy) s α αh3 Hh3 Lh3) (v1_h3 : Nat) (kv1_h3 : hp_K α v1_h3 = 8) (v2_h3 : Nat) (kv2_h3 : hp_K α v2_h3 = 8) (v3_h3 : Nat) (kv3_h3 : hp_K α v3_h3 = 3) (w0_h3 : Int32) (ls : Array Slot) (hl : lv_has ls 8 [(0, .ref a0), (1, .ref v1_h3), (2, .ref v2_h3), (3, .ref v3_h3)]) (hf : f_X10_meetBy_J16 n a0 αh3 v1_h3 v2_h3 v3_h3 w0_h3 = some res), W p l e (hp_rm 6 0 0) s m ([.ref a0, .ref a1, .ref a2, .ref a3] : List Value).toArray below meth c Hh3 Lh3 0 0 (MQ below (hp_Qi Γ (fun r β => r = res.1 ∧ β = res.2 ∧ cw w_X10_meetBy α β)) ([.ref a0, .ref a1, .ref a2, .ref a3] : List Value).toArray s 0 0 (hp_A Γ)) (F0 m 16 ls [.int w0_h3]) := by
    intro αh3 Hh3 Lh3 Bh3 v1_h3 kv1_h3 v2_h3 kv2_h3 v3_h3 kv3_h3 w0_h3 ls hl hf
    unfold f_X10_meetBy_J16 at hf
    refine lv_istore (lv' := [(4, .int w0_h3), (0, .ref a0), (1, .ref v1_h3), (2, .ref v2_h3), (3, .ref v3_h3)]) hx hb dX10_meetBy_16 hl (by decide) rfl (fun ls hl => hp_n (n := 18) rfl ?_)
    refine lv_iload hx hb dX10_meetBy_18 (lv_at hl 0 rfl) (hp_n (n := 20) rfl ?_)
    have J28 : ∀ (αh4 : hp_T) (Hh4 : Heap) (Lh4 : List Loc) (Bh4 : hp_B Γ (cw w_X10_meetBy) s α αh4 Hh4 Lh4) (v1_h4 : Nat) (kv1_h4 : hp_K α v1_h4 = 8) (v2_h4 : Nat) (kv2_h4 : hp_K α v2_h4 = 8) (v3_h4 : Nat) (kv3_h4 : hp_K α v3_h4 = 3) (v4_h4 : Int32) (w0_h4 : Nat) (kw0_h4 : hp_K α w0_h4 = 8) (ls : Array Slot) (hl : lv_has ls 8 [(0, .ref a0), (1, .ref v1_h4), (2, .ref v2_h4), (3, .ref v3_h4), (4, .int v4_h4)]) (hf : f_X10_meetBy_J28 n a0 αh4 v1_h4 v2_h4 v3_h4 v4_h4 w0_h4 = some res), W p l e (hp_rm 6 0 0) s m ([.ref a0, .ref a1, .ref a2, .ref a3] : List Value).toArray below meth c Hh4 Lh4 0 0 (MQ below (hp_Qi Γ (fun r β => r = res.1 ∧ β = res.2 ∧ cw w_X10_meetBy α β)) ([.ref a0, .ref a1, .ref a2, .ref a3] : List Value).toArray s 0 0 (hp_A Γ)) (F0 m 28 ls [.ref w0_h4]) := by
      intro αh4 Hh4 Lh4 Bh4 v1_h4 kv1_h4 v2_h4 kv2_h4 v3_h4 kv3_h4 v4_h4 w0_h4 kw0_h4 ls hl hf
      unfold f_X10_meetBy_J28 at hf
      refine lv_astore (lv' := [(5, .ref w0_h4), (0, .ref a0), (1, .ref v1_h4), (2, .ref v2_h4), (3, .ref v3_h4), (4, .int v4_h4)]) hx hb dX10_meetBy_28 hl (by decide) rfl (fun ls hl => hp_n (n := 30) rfl ?_)
      refine lv_iload hx hb dX10_meetBy_30 (lv_at hl 5 rfl) (hp_n (n := 32) rfl ?_)
      have J40 : ∀ (αh5 : hp_T) (Hh5 : Heap) (Lh5 : List Loc) (Bh5 : hp_B Γ (cw w_X10_meetBy) s α αh5 Hh5 Lh5) (v3_h5 : Nat) (kv3_h5 : hp_K α v3_h5 = 3) (v5_h5 : Nat) (kv5_h5 : hp_K α v5_h5 = 8) (w0_h5 : Nat) (kw0_h5 : hp_K α w0_h5 = 8) (ls : Array Slot) (hl : lv_has ls 8 [(0, .ref a0), (3, .ref v3_h5), (5, .ref v5_h5)]) (hf : f_X10_meetBy_J40 n a0 αh5 v3_h5 v5_h5 w0_h5 = some res), W p l e (hp_rm 6 0 0) s m ([.ref a0, .ref a1, .ref a2, .ref a3] : List Value).toArray below meth c Hh5 Lh5 0 0 (MQ below (hp_Qi Γ (fun r β => r = res.1 ∧ β = res.2 ∧ cw w_X10_meetBy α β)) ([.ref a0, .ref a1, .ref a2, .ref a3] : List Value).toArray s 0 0 (hp_A Γ)) (F0 m 40 ls [.ref w0_h5]) := by
        intro αh5 Hh5 Lh5 Bh5 v3_h5 kv3_h5 v5_h5 kv5_h5 w0_h5 kw0_h5 ls hl hf
        unfold f_X10_meetBy_J40 at hf
        refine lv_astore (lv' := [(6, .ref w0_h5), (0, .ref a0), (3, .ref v3_h5), (5, .ref v5_h5)]) hx hb dX10_meetBy_40 hl (by decide) rfl (fun ls hl => hp_n (n := 42) rfl ?_)
        refine lv_aload_n hx hb dX10_meetBy_42 rfl (lv_at hl 1 rfl) (hp_n (n := 43) rfl ?_)
        refine lv_aload_n hx hb dX10_meetBy_43 rfl (lv_at hl 2 rfl) (hp_n (n := 44) rfl ?_)
        refine lv_aload hx hb dX10_meetBy_44 (lv_at hl 3 rfl) (hp_n (n := 46) rfl ?_)
        refine q_geti (κ := 8) (k := 0) (φ := 400) (pc' := 49) C Bh5 (cw_k Bh5.2.2 kv5_h5) fl_X10_163 rfl rfl rfl dX10_meetBy_46 rfl (fun x6 ex6 => ?_)
        replace hf := ms_lE ex6 hf
        refine lv_aload hx hb dX10_meetBy_49 (lv_at hl 3 rfl) (hp_n (n := 51) rfl ?_)
        refine q_geti (κ := 8) (k := 1) (φ := 401) (pc' := 54) C Bh5 (cw_k Bh5.2.2 kv5_h5) fl_X10_164 rfl rfl rfl dX10_meetBy_51 rfl (fun x7 ex7 => ?_)
        replace hf := ms_lE ex7 hf
        refine lv_aload hx hb dX10_meetBy_54 (lv_at hl 0 rfl) (hp_n (n := 56) rfl ?_)
        refine q_geti (κ := 8) (k := 0) (φ := 400) (pc' := 59) C Bh5 (cw_k Bh5.2.2 kw0_h5) fl_X10_163 rfl rfl rfl dX10_meetBy_56 rfl (fun x8 ex8 => ?_)
        replace hf := ms_lE ex8 hf
        refine lv_aload hx hb dX10_meetBy_59 (lv_at hl 0 rfl) (hp_n (n := 61) rfl ?_)
        refine q_geti (κ := 8) (k := 1) (φ := 401) (pc' := 64) C Bh5 (cw_k Bh5.2.2 kw0_h5) fl_X10_164 rfl rfl rfl dX10_meetBy_61 rfl (fun x9 ex9 => ?_)
        replace hf := ms_lE ex9 hf
        obtain ⟨rh10, αh10, qh10, hf⟩ := hq_cE hf
        refine d_ci (pc' := 67) Bh5 (hp_runV (As := [va_rf (some v3_h5), .int x6, .int x7, .int x8, .int x9]) (rest := []) C Bh5 (n_X10_whyGrown n Γ l αh5 Bh5.2.2.1 a0 (cw_k Bh5.2.2 k0) (some v3_h5) (fun b h => by cases h; exact (cw_k Bh5.2.2 kv3_h5)) x6 x7 x8 x9 (rh10, αh10) qh10) lb_X10_whyGrown lv_X10_whyGrown lk_X10_167 (cw_k Bh5.2.2 k0) rfl (by decide) rfl hl.1 rfl (Nat.le_of_ble_eq_true rfl) dX10_meetBy_64 ⟨Nat.le_refl _, Nat.le_refl _⟩) (by decide) rfl (fun Hh10 Lh10 Bh10 => ?_)
        refine lv_istore (lv' := [(7, .int rh10), (6, .ref w0_h5), (0, .ref a0), (3, .ref v3_h5), (5, .ref v5_h5)]) hx hb dX10_meetBy_67 hl (by decide) rfl (fun ls hl => hp_n (n := 69) rfl ?_)
        refine lv_iload hx hb dX10_meetBy_69 (lv_at hl 0 rfl) (hp_n (n := 71) rfl ?_)
        have J89 : ∀ (αh11 : hp_T) (Hh11 : Heap) (Lh11 : List Loc) (Bh11 : hp_B Γ (cw w_X10_meetBy) s α αh11 Hh11 Lh11) (v5_h11 : Nat) (kv5_h11 : hp_K α v5_h11 = 8) (v6_h11 : Nat) (kv6_h11 : hp_K α v6_h11 = 8) (v7_h11 : Int32) (ls : Array Slot) (hl : lv_has ls 8 [(0, .ref a0), (5, .ref v5_h11), (6, .ref v6_h11), (7, .int v7_h11)]) (hf : f_X10_meetBy_J89 n a0 αh11 v5_h11 v6_h11 v7_h11 = some res), W p l e (hp_rm 6 0 0) s m ([.ref a0, .ref a1, .ref a2, .ref a3] : List Value).toArray below meth c Hh11 Lh11 0 0 (MQ below (hp_Qi Γ (fun r β => r = res.1 ∧ β = res.2 ∧ cw w_X10_meetBy α β)) ([.ref a0, .ref a1, .ref a2, .ref a3] : List Value).toArray s 0 0 (hp_A Γ)) (F0 m 89 ls []) := by
          intro αh11 Hh11 Lh11 Bh11 v5_h11 kv5_h11 v6_h11 kv6_h11 v7_h11 ls hl hf
          unfold f_X10_meetBy_J89 at hf
          refine lv_aload hx hb dX10_meetBy_89 (lv_at hl 1 rfl) (hp_n (n := 91) rfl ?_)
          refine lv_iload hx hb dX10_meetBy_91 (lv_at hl 3 rfl) (hp_n (n := 93) rfl ?_)
          obtain ⟨αh12, qh12, hf⟩ := ms_bE hf
          refine d_cv (pc' := 96) Bh11 (hp_runV (As := [.int v7_h11]) (rest := []) C Bh11 (n_X7_hearWhy n Γ l αh11 Bh11.2.2.1 v5_h11 (cw_k Bh11.2.2 kv5_h11) v7_h11 αh12 qh12) lb_X7_hearWhy lv_X7_hearWhy lk_X10_174 (cw_k Bh11.2.2 kv5_h11) rfl (by decide) rfl hl.1 rfl (Nat.le_of_ble_eq_true rfl) dX10_meetBy_93 ⟨Nat.le_refl _, Nat.le_refl _⟩) (by decide) rfl (fun Hh12 Lh12 Bh12 => ?_)
          refine lv_aload hx hb dX10_meetBy_96 (lv_at hl 2 rfl) (hp_n (n := 98) rfl ?_)
          refine lv_iload hx hb dX10_meetBy_98 (lv_at hl 3 rfl) (hp_n (n := 100) rfl ?_)
          obtain ⟨αh13, qh13, hf⟩ := ms_bE hf
          refine d_cv (pc' := 103) Bh12 (hp_runV (As := [.int v7_h11]) (rest := []) C Bh12 (n_X7_hearWhy n Γ l αh12 Bh12.2.2.1 v6_h11 (cw_k Bh12.2.2 kv6_h11) v7_h11 αh13 qh13) lb_X7_hearWhy lv_X7_hearWhy lk_X10_174 (cw_k Bh12.2.2 kv6_h11) rfl (by decide) rfl hl.1 rfl (Nat.le_of_ble_eq_true rfl) dX10_meetBy_100 ⟨Nat.le_refl _, Nat.le_refl _⟩) (by decide) rfl (fun Hh13 Lh13 Bh13 => ?_)
          refine lv_aload_n hx hb dX10_meetBy_103 rfl (lv_at hl 0 rfl) (hp_n (n := 104) rfl ?_)
          refine lv_dup hx hb dX10_meetBy_104 rfl (hp_n (n := 105) rfl ?_)
          refine q_geti (κ := 11) (k := 6) (φ := 556) (pc' := 108) C Bh13 (cw_k Bh13.2.2 k0) fl_X10_40 rfl rfl rfl dX10_meetBy_105 rfl (fun x14 ex14 => ?_)
          replace hf := ms_lE ex14 hf
          refine lv_iconst (v := 1) hx hb dX10_meetBy_108 (by decide) (hp_n (n := 109) rfl ?_)
          refine lv_iadd hx hb dX10_meetBy_109 (hp_n (n := 110) rfl ?_)
          refine q_puti (κ := 11) (k := 6) (φ := 556) (pc' := 113) C Bh13 (cw_k Bh13.2.2 k0) fl_X10_40 rfl rfl rfl rfl rfl rfl (cw_sI Bh13.2.2 (by decide) (fun h => absurd h (by decide))) dX10_meetBy_110 rfl (fun αh15 Hh15 Lh15 eh15 Bh15 => ?_)
          replace hf := ms_lE eh15 hf
          refine lv_iload hx hb dX10_meetBy_113 (lv_at hl 3 rfl) (hp_n (n := 115) rfl ?_)
          cases hf
          exact q_iret C Bh15 hr hlk ⟨rfl, rfl, Bh15.2.2⟩ dX10_meetBy_115
        refine lv_if_ne (tgt := 89) hx hb dX10_meetBy_71 (by decide) (fun c16 => ?_) (fun c16 => hp_n (n := 74) rfl ?_)
        ·
          replace hf := ms_iF c16 hf
          exact J89 αh10 Hh10 Lh10 Bh10 v5_h5 kv5_h5 w0_h5 kw0_h5 rh10 ls (lv_sub hl [2, 4, 1, 0] rfl) hf
        ·
          replace hf := ms_iT c16 hf
          refine lv_aload hx hb dX10_meetBy_74 (lv_at hl 4 rfl) (hp_n (n := 76) rfl ?_)
          refine lv_aload hx hb dX10_meetBy_76 (lv_at hl 1 rfl) (hp_n (n := 78) rfl ?_)
          refine q_geti (κ := 8) (k := 0) (φ := 400) (pc' := 81) C Bh10 (cw_k Bh10.2.2 kw0_h5) fl_X10_163 rfl rfl rfl dX10_meetBy_78 rfl (fun x17 ex17 => ?_)
          replace hf := ms_lE ex17 hf
          refine lv_aload hx hb dX10_meetBy_81 (lv_at hl 1 rfl) (hp_n (n := 83) rfl ?_)
          refine q_geti (κ := 8) (k := 1) (φ := 401) (pc' := 86) C Bh10 (cw_k Bh10.2.2 kw0_h5) fl_X10_164 rfl rfl rfl dX10_meetBy_83 rfl (fun x18 ex18 => ?_)
          replace hf := ms_lE ex18 hf
          obtain ⟨αh19, qh19, hf⟩ := ms_bE hf
          refine d_cv (pc' := 89) Bh10 (hp_runV (As := [.int x17, .int x18]) (rest := []) C Bh10 (n_X7_trust n Γ l αh10 Bh10.2.2.1 v5_h5 (cw_k Bh10.2.2 kv5_h5) x17 x18 αh19 qh19) lb_X7_trust lv_X7_trust lk_X10_171 (cw_k Bh10.2.2 kv5_h5) rfl (by decide) rfl hl.1 rfl (Nat.le_of_ble_eq_true rfl) dX10_meetBy_86 ⟨Nat.le_refl _, Nat.le_refl _⟩) (by decide) rfl (fun Hh19 Lh19 Bh19 => ?_)
          exact J89 αh19 Hh19 Lh19 Bh19 v5_h5 kv5_h5 w0_h5 kw0_h5 rh10 ls (lv_sub hl [2, 4, 1, 0] rfl) hf
      refine lv_if_eq (tgt := 39) hx hb dX10_meetBy_32 (by decide) (fun c20 => ?_) (fun c20 => hp_n (n := 35) rfl ?_)
      ·
        replace hf := ms_iT c20 hf
        refine lv_aload_n hx hb dX10_meetBy_39 rfl (lv_at hl 2 rfl) (hp_n (n := 40) rfl ?_)
        exact J40 αh4 Hh4 Lh4 Bh4 v3_h4 kv3_h4 w0_h4 kw0_h4 v1_h4 kv1_h4 ls (lv_sub hl [1, 4, 0] rfl) hf
      ·
        replace hf := ms_iF c20 hf
        refine lv_aload_n hx hb dX10_meetBy_35 rfl (lv_at hl 3 rfl) (hp_n (n := 36) rfl ?_)
        refine lv_goto (tgt := 40) hx hb dX10_meetBy_36 (by decide) ?_
        exact J40 αh4 Hh4 Lh4 Bh4 v3_h4 kv3_h4 w0_h4 kw0_h4 v2_h4 kv2_h4 ls (lv_sub hl [1, 4, 0] rfl) hf
    refine lv_if_eq (tgt := 27) hx hb dX10_meetBy_20 (by decide) (fun c21 => ?_) (fun c21 => hp_n (n := 23) rfl ?_)
    ·
      replace hf := ms_iT c21 hf
      refine lv_aload_n hx hb dX10_meetBy_27 rfl (lv_at hl 3 rfl) (hp_n (n := 28) rfl ?_)
      exact J28 αh3 Hh3 Lh3 Bh3 v1_h3 kv1_h3 v2_h3 kv2_h3 v3_h3 kv3_h3 w0_h3 v2_h3 kv2_h3 ls (lv_sub hl [1, 2, 3, 4, 0] rfl) hf
    ·
      replace hf := ms_iF c21 hf
      refine lv_aload_n hx hb dX10_meetBy_23 rfl (lv_at hl 2 rfl) (hp_n (n := 24) rfl ?_)
      refine lv_goto (tgt := 28) hx hb dX10_meetBy_24 (by decide) ?_
      exact J28 αh3 Hh3 Lh3 Bh3 v1_h3 kv1_h3 v2_h3 kv2_h3 v3_h3 kv3_h3 w0_h3 v1_h3 kv1_h3 ls (lv_sub hl [1, 2, 3, 4, 0] rfl) hf
  refine lv_icmp_gt (tgt := 15) hx hb dX10_meetBy_8 (by decide) (fun c22 => ?_) (fun c22 => hp_n (n := 11) rfl ?_)
  ·
    replace hf := ms_iT c22 hf
    refine lv_iconst (v := 0) hx hb dX10_meetBy_15 (by decide) (hp_n (n := 16) rfl ?_)
    exact J16 α s.heap [] B a1 k1 a2 k2 a3 k3 (0 : Int32) ls (lv_sub hl [0, 1, 2, 3] rfl) hf
  ·
    replace hf := ms_iF c22 hf
    refine lv_iconst (v := 1) hx hb dX10_meetBy_11 (by decide) (hp_n (n := 12) rfl ?_)
    refine lv_goto (tgt := 16) hx hb dX10_meetBy_12 (by decide) ?_
    exact J16 α s.heap [] B a1 k1 a2 k2 a3 k3 (1 : Int32) ls (lv_sub hl [0, 1, 2, 3] rfl) hf
def f_X10_renew_J57 (n : Nat) (a0 : Nat) (rec38 : hp_T → Int32 → Option hp_T) (αh10 : hp_T) (v2_h10 : Int32) : Option hp_T :=
  ms_l (v2_h10 + 1) fun x11 =>
  rec38 αh10 x11
def f_X10_renew_L38 (n : Nat) (a0 : Nat) : Nat → hp_T → Int32 → Option hp_T
  | 0, _, _ => none
  | k38 + 1, αh7, v2_h7 =>
    if (4 : Int32) ≤ v2_h7 then
      some αh7
    else
      ms_b (f_X10_watcherAt n αh7 a0 v2_h7) fun rh9 =>
      hq_m rh9 (
        f_X10_renew_J57 n a0 (f_X10_renew_L38 n a0 k38) αh7 v2_h7) fun bh9 =>
      ms_b (f_X7_renew n αh7 bh9) fun αh14 =>
      f_X10_renew_J57 n a0 (f_X10_renew_L38 n a0 k38) αh14 v2_h7
def f_X10_renew_J26 (n : Nat) (a0 : Nat) (αh4 : hp_T) : Option hp_T :=
  ms_l (hp_sI αh4 554 a0 (0 : Int32)) fun αh5 =>
  ms_l (hp_sI αh5 556 a0 (0 : Int32)) fun αh6 =>
  f_X10_renew_L38 n a0 n αh6 (0 : Int32)
def f_X10_renew (n : Nat) (α : hp_T) (a0 : Nat) : Option hp_T :=
  ms_l (hp_sI α 550 a0 (65521 : Int32)) fun αh1 =>
  ms_l (hp_sI αh1 552 a0 (1 : Int32)) fun αh2 =>
  ms_b (f_X10_logAt n αh2 a0 (0 : Int32)) fun rh3 =>
  hq_m rh3 (
    f_X10_renew_J26 n a0 αh2) fun bh3 =>
  ms_l (hp_sI αh2 152 bh3 (0 : Int32)) fun αh26 =>
  f_X10_renew_J26 n a0 αh26
set_option maxRecDepth 100000 in
set_option maxHeartbeats 4000000 in
theorem n_X10_renew (n : Nat) (Γ : hp_G) (l : Launch) (α : hp_T) (g : GC α) (a0 : Nat) (k0 : hp_K α a0 = 11) (res : hp_T) (hf : f_X10_renew n α a0 = some res) : Met l yX10_renew (hp_ws yX10_renew cX10_renew 4 none) (hp_rm 2 0 0) (hp_Pc Γ α [.ref a0]) (hp_Qv Γ (fun β => β = res ∧ cw w_X10_renew α β)) 0 0 (hp_A Γ) := by
  unfold f_X10_renew at hf
  refine hp_start (by decide) ?_
  intro p e s m below meth c C hr hlk B0 hnm
  have C : hp_C Γ p m c cX10_renew 4 s ([.ref a0] : List Value).toArray RX10 := C
  have hx := C.1.1
  have hb := C.1.2.1
  have hown := C.1.2.2.2.1
  have hts := C.1.2.2.2.2
  have B : hp_B Γ (cw w_X10_renew) s α α s.heap [] := ⟨B0.1, B0.2.1, cw_rf g⟩
  have hl := lv_entry ([.ref a0]) (n := 4) (Nat.le_of_ble_eq_true rfl)
  show W p l e (hp_rm 2 0 0) s m ([.ref a0] : List Value).toArray below meth c s.heap [] 0 0 (MQ below (hp_Qv Γ (fun β => β = res ∧ cw w_X10_renew α β)) ([.ref a0] : List Value).toArray s 0 0 (hp_A Γ)) (entryFrame m ([.ref a0] : List Value).toArray 4)
  rw [lg_entry_eq]
  generalize (lg_sl ([.ref a0]) ++ List.replicate (4 - (lg_sl ([.ref a0])).length) Slot.unset).toArray = ls at hl ⊢
  have hl : lv_has ls 4 [(0, .ref a0)] := hl
  refine lv_aload_n hx hb dX10_renew_0 rfl (lv_at hl 0 rfl) (hp_n (n := 1) rfl ?_)
  refine lv_ldc hx hb hown (hts _ kc_X10_9) dX10_renew_1 (hp_n (n := 3) rfl ?_)
  refine q_puti (κ := 11) (k := 0) (φ := 550) (pc' := 6) C B (cw_k B.2.2 k0) fl_X10_10 rfl rfl rfl rfl rfl rfl (cw_sI B.2.2 (by decide) (fun h => absurd h (by decide))) dX10_renew_3 rfl (fun αh1 Hh1 Lh1 eh1 Bh1 => ?_)
  replace hf := ms_lE eh1 hf
  refine lv_aload_n hx hb dX10_renew_6 rfl (lv_at hl 0 rfl) (hp_n (n := 7) rfl ?_)
  refine lv_iconst (v := 1) hx hb dX10_renew_7 (by decide) (hp_n (n := 8) rfl ?_)
  refine q_puti (κ := 11) (k := 2) (φ := 552) (pc' := 11) C Bh1 (cw_k Bh1.2.2 k0) fl_X10_22 rfl rfl rfl rfl rfl rfl (cw_sI Bh1.2.2 (by decide) (fun h => absurd h (by decide))) dX10_renew_8 rfl (fun αh2 Hh2 Lh2 eh2 Bh2 => ?_)
  replace hf := ms_lE eh2 hf
  refine lv_aload_n hx hb dX10_renew_11 rfl (lv_at hl 0 rfl) (hp_n (n := 12) rfl ?_)
  refine lv_iconst (v := 0) hx hb dX10_renew_12 (by decide) (hp_n (n := 13) rfl ?_)
  obtain ⟨rh3, qh3, hf⟩ := ms_bE hf
  refine d_pq (pc' := 16) Bh2 (hp_runV (As := [.int (0 : Int32)]) (rest := []) C Bh2 (n_X10_logAt n Γ l αh2 Bh2.2.2.1 a0 (cw_k Bh2.2.2 k0) (0 : Int32) rh3 qh3) lb_X10_logAt lv_X10_logAt lk_X10_64 (cw_k Bh2.2.2 k0) rfl (by decide) rfl hl.1 rfl (Nat.le_of_ble_eq_true rfl) dX10_renew_13 ⟨Nat.le_refl _, Nat.le_refl _⟩) rfl (fun Hh3 Lh3 Bh3 kh3 => ?_)
  rcases rh3 with _ | bh3
  ·
    replace hf := hq_N hf
    refine lv_astore_nN (lv' := [(1, .null), (0, .ref a0)]) hx hb dX10_renew_16 rfl hl (by decide) rfl (fun ls hl => hp_n (n := 17) rfl ?_)
    refine lv_aload_nN hx hb dX10_renew_17 rfl (lv_at hl 0 rfl) (hp_n (n := 18) rfl ?_)
    have J26 : ∀ (αh4 : hp_T) (Hh4 : Heap) (Lh4 : List Loc) (Bh4 : hp_B Γ (cw w_X10_renew) s α αh4 Hh4 Lh4) (ls : Array Slot) (hl : lv_has ls 4 [(0, .ref a0)]) (hf : f_X10_renew_J26 n a0 αh4 = some res), W p l e (hp_rm 2 0 0) s m ([.ref a0] : List Value).toArray below meth c Hh4 Lh4 0 0 (MQ below (hp_Qv Γ (fun β => β = res ∧ cw w_X10_renew α β)) ([.ref a0] : List Value).toArray s 0 0 (hp_A Γ)) (F0 m 26 ls []) := by
      intro αh4 Hh4 Lh4 Bh4 ls hl hf
      unfold f_X10_renew_J26 at hf
      refine lv_aload_n hx hb dX10_renew_26 rfl (lv_at hl 0 rfl) (hp_n (n := 27) rfl ?_)
      refine lv_iconst (v := 0) hx hb dX10_renew_27 (by decide) (hp_n (n := 28) rfl ?_)
      refine q_puti (κ := 11) (k := 4) (φ := 554) (pc' := 31) C Bh4 (cw_k Bh4.2.2 k0) fl_X10_31 rfl rfl rfl rfl rfl rfl (cw_sI Bh4.2.2 (by decide) (fun h => absurd h (by decide))) dX10_renew_28 rfl (fun αh5 Hh5 Lh5 eh5 Bh5 => ?_)
      replace hf := ms_lE eh5 hf
      refine lv_aload_n hx hb dX10_renew_31 rfl (lv_at hl 0 rfl) (hp_n (n := 32) rfl ?_)
      refine lv_iconst (v := 0) hx hb dX10_renew_32 (by decide) (hp_n (n := 33) rfl ?_)
      refine q_puti (κ := 11) (k := 6) (φ := 556) (pc' := 36) C Bh5 (cw_k Bh5.2.2 k0) fl_X10_40 rfl rfl rfl rfl rfl rfl (cw_sI Bh5.2.2 (by decide) (fun h => absurd h (by decide))) dX10_renew_33 rfl (fun αh6 Hh6 Lh6 eh6 Bh6 => ?_)
      replace hf := ms_lE eh6 hf
      refine lv_iconst (v := 0) hx hb dX10_renew_36 (by decide) (hp_n (n := 37) rfl ?_)
      have J38 : ∀ (k38 : Nat) (αh7 : hp_T) (Hh7 : Heap) (Lh7 : List Loc) (Bh7 : hp_B Γ (cw w_X10_renew) s α αh7 Hh7 Lh7) (v2_h7 : Int32) (ls : Array Slot) (hl : lv_has ls 4 [(0, .ref a0), (2, .int v2_h7)]) (hf : f_X10_renew_L38 n a0 k38 αh7 v2_h7 = some res), W p l e (hp_rm 2 0 0) s m ([.ref a0] : List Value).toArray below meth c Hh7 Lh7 0 0 (MQ below (hp_Qv Γ (fun β => β = res ∧ cw w_X10_renew α β)) ([.ref a0] : List Value).toArray s 0 0 (hp_A Γ)) (F0 m 38 ls []) := by
        intro k38
        induction k38 with
        | zero => intro αh7 Hh7 Lh7 Bh7 v2_h7 ls hl hf; rw [f_X10_renew_L38.eq_1] at hf; cases hf
        | succ k38 ih38 =>
          intro αh7 Hh7 Lh7 Bh7 v2_h7 ls hl hf
          rw [f_X10_renew_L38.eq_2] at hf
          refine lv_iload_n hx hb dX10_renew_38 rfl (lv_at hl 1 rfl) (hp_n (n := 39) rfl ?_)
          refine lv_iconst (v := 4) hx hb dX10_renew_39 (by decide) (hp_n (n := 40) rfl ?_)
          refine lv_icmp_ge (tgt := 63) hx hb dX10_renew_40 (by decide) (fun c8 => ?_) (fun c8 => hp_n (n := 43) rfl ?_)
          ·
            replace hf := ms_iT c8 hf
            cases hf
            exact q_vret C Bh7 hr hlk ⟨rfl, Bh7.2.2⟩ dX10_renew_63
          ·
            replace hf := ms_iF c8 hf
            refine lv_aload_n hx hb dX10_renew_43 rfl (lv_at hl 0 rfl) (hp_n (n := 44) rfl ?_)
            refine lv_iload_n hx hb dX10_renew_44 rfl (lv_at hl 1 rfl) (hp_n (n := 45) rfl ?_)
            obtain ⟨rh9, qh9, hf⟩ := ms_bE hf
            refine d_pq (pc' := 48) Bh7 (hp_runV (As := [.int v2_h7]) (rest := []) C Bh7 (n_X10_watcherAt n Γ l αh7 Bh7.2.2.1 a0 (cw_k Bh7.2.2 k0) v2_h7 rh9 qh9) lb_X10_watcherAt lv_X10_watcherAt lk_X10_71 (cw_k Bh7.2.2 k0) rfl (by decide) rfl hl.1 rfl (Nat.le_of_ble_eq_true rfl) dX10_renew_45 ⟨Nat.le_refl _, Nat.le_refl _⟩) rfl (fun Hh9 Lh9 Bh9 kh9 => ?_)
            rcases rh9 with _ | bh9
            ·
              replace hf := hq_N hf
              refine lv_astore_nN (lv' := [(3, .null), (0, .ref a0), (2, .int v2_h7)]) hx hb dX10_renew_48 rfl hl (by decide) rfl (fun ls hl => hp_n (n := 49) rfl ?_)
              refine lv_aload_nN hx hb dX10_renew_49 rfl (lv_at hl 0 rfl) (hp_n (n := 50) rfl ?_)
              have J57 : ∀ (αh10 : hp_T) (Hh10 : Heap) (Lh10 : List Loc) (Bh10 : hp_B Γ (cw w_X10_renew) s α αh10 Hh10 Lh10) (v2_h10 : Int32) (ls : Array Slot) (hl : lv_has ls 4 [(0, .ref a0), (2, .int v2_h10)]) (hf : f_X10_renew_J57 n a0 (f_X10_renew_L38 n a0 k38) αh10 v2_h10 = some res), W p l e (hp_rm 2 0 0) s m ([.ref a0] : List Value).toArray below meth c Hh10 Lh10 0 0 (MQ below (hp_Qv Γ (fun β => β = res ∧ cw w_X10_renew α β)) ([.ref a0] : List Value).toArray s 0 0 (hp_A Γ)) (F0 m 57 ls []) := by
                intro αh10 Hh10 Lh10 Bh10 v2_h10 ls hl hf
                unfold f_X10_renew_J57 at hf
                obtain ⟨x11, ex11⟩ : ∃ y : Int32, y = v2_h10 + 1 := ⟨_, rfl⟩
                replace hf := ms_lE ex11 hf
                refine lv_iinc (v := x11) (lv' := [(2, .int x11), (0, .ref a0)]) hx hb dX10_renew_57 hl (k := 1) rfl (by rw [ex11]; rfl) (by decide) rfl (fun ls hl => hp_n (n := 60) rfl ?_)
                refine lv_goto (tgt := 38) hx hb dX10_renew_60 (by decide) ?_
                exact ih38 αh10 Hh10 Lh10 Bh10 x11 ls (lv_sub hl [1, 0] rfl) hf
              refine lv_ifnullN (tgt := 57) hx hb dX10_renew_50 (by decide) ?_
              exact J57 αh7 Hh9 Lh9 Bh9 v2_h7 ls (lv_sub hl [1, 2] rfl) hf
            ·
              replace hf := hq_S hf
              have kbh9 := kh9 bh9 rfl
              refine lv_astore_n (lv' := [(3, .ref bh9), (0, .ref a0), (2, .int v2_h7)]) hx hb dX10_renew_48 rfl hl (by decide) rfl (fun ls hl => hp_n (n := 49) rfl ?_)
              refine lv_aload_n hx hb dX10_renew_49 rfl (lv_at hl 0 rfl) (hp_n (n := 50) rfl ?_)
              have J57 : ∀ (αh12 : hp_T) (Hh12 : Heap) (Lh12 : List Loc) (Bh12 : hp_B Γ (cw w_X10_renew) s α αh12 Hh12 Lh12) (v2_h12 : Int32) (ls : Array Slot) (hl : lv_has ls 4 [(0, .ref a0), (2, .int v2_h12)]) (hf : f_X10_renew_J57 n a0 (f_X10_renew_L38 n a0 k38) αh12 v2_h12 = some res), W p l e (hp_rm 2 0 0) s m ([.ref a0] : List Value).toArray below meth c Hh12 Lh12 0 0 (MQ below (hp_Qv Γ (fun β => β = res ∧ cw w_X10_renew α β)) ([.ref a0] : List Value).toArray s 0 0 (hp_A Γ)) (F0 m 57 ls []) := by
                intro αh12 Hh12 Lh12 Bh12 v2_h12 ls hl hf
                unfold f_X10_renew_J57 at hf
                obtain ⟨x13, ex13⟩ : ∃ y : Int32, y = v2_h12 + 1 := ⟨_, rfl⟩
                replace hf := ms_lE ex13 hf
                refine lv_iinc (v := x13) (lv' := [(2, .int x13), (0, .ref a0)]) hx hb dX10_renew_57 hl (k := 1) rfl (by rw [ex13]; rfl) (by decide) rfl (fun ls hl => hp_n (n := 60) rfl ?_)
                refine lv_goto (tgt := 38) hx hb dX10_renew_60 (by decide) ?_
                exact ih38 αh12 Hh12 Lh12 Bh12 x13 ls (lv_sub hl [1, 0] rfl) hf
              refine lv_ifnull hx hb dX10_renew_50 (hp_n (n := 53) rfl ?_)
              refine lv_aload_n hx hb dX10_renew_53 rfl (lv_at hl 0 rfl) (hp_n (n := 54) rfl ?_)
              obtain ⟨αh14, qh14, hf⟩ := ms_bE hf
              refine d_cv (pc' := 57) Bh9 (hp_runV (As := []) (rest := []) C Bh9 (n_X7_renew n Γ l αh7 Bh9.2.2.1 bh9 (cw_k Bh9.2.2 kbh9) αh14 qh14) lb_X7_renew lv_X7_renew lk_X10_75 (cw_k Bh9.2.2 kbh9) rfl (by decide) rfl hl.1 rfl (Nat.le_of_ble_eq_true rfl) dX10_renew_54 ⟨Nat.le_refl _, Nat.le_refl _⟩) (by decide) rfl (fun Hh14 Lh14 Bh14 => ?_)
              exact J57 αh14 Hh14 Lh14 Bh14 v2_h7 ls (lv_sub hl [1, 2] rfl) hf
      refine lv_istore_n (lv' := [(2, .int (0 : Int32)), (0, .ref a0)]) hx hb dX10_renew_37 rfl hl (by decide) rfl (fun ls hl => hp_n (n := 38) rfl ?_)
      exact J38 n αh6 Hh6 Lh6 Bh6 (0 : Int32) ls (lv_sub hl [1, 0] rfl) hf
    refine lv_ifnullN (tgt := 26) hx hb dX10_renew_18 (by decide) ?_
    exact J26 αh2 Hh3 Lh3 Bh3 ls (lv_sub hl [1] rfl) hf
  ·
    replace hf := hq_S hf
    have kbh3 := kh3 bh3 rfl
    refine lv_astore_n (lv' := [(1, .ref bh3), (0, .ref a0)]) hx hb dX10_renew_16 rfl hl (by decide) rfl (fun ls hl => hp_n (n := 17) rfl ?_)
    refine lv_aload_n hx hb dX10_renew_17 rfl (lv_at hl 0 rfl) (hp_n (n := 18) rfl ?_)
    have J26 : ∀ (αh15 : hp_T) (Hh15 : Heap) (Lh15 : List Loc) (Bh15 : hp_B Γ (cw w_X10_renew) s α αh15 Hh15 Lh15) (ls : Array Slot) (hl : lv_has ls 4 [(0, .ref a0)]) (hf : f_X10_renew_J26 n a0 αh15 = some res), W p l e (hp_rm 2 0 0) s m ([.ref a0] : List Value).toArray below meth c Hh15 Lh15 0 0 (MQ below (hp_Qv Γ (fun β => β = res ∧ cw w_X10_renew α β)) ([.ref a0] : List Value).toArray s 0 0 (hp_A Γ)) (F0 m 26 ls []) := by
      intro αh15 Hh15 Lh15 Bh15 ls hl hf
      unfold f_X10_renew_J26 at hf
      refine lv_aload_n hx hb dX10_renew_26 rfl (lv_at hl 0 rfl) (hp_n (n := 27) rfl ?_)
      refine lv_iconst (v := 0) hx hb dX10_renew_27 (by decide) (hp_n (n := 28) rfl ?_)
      refine q_puti (κ := 11) (k := 4) (φ := 554) (pc' := 31) C Bh15 (cw_k Bh15.2.2 k0) fl_X10_31 rfl rfl rfl rfl rfl rfl (cw_sI Bh15.2.2 (by decide) (fun h => absurd h (by decide))) dX10_renew_28 rfl (fun αh16 Hh16 Lh16 eh16 Bh16 => ?_)
      replace hf := ms_lE eh16 hf
      refine lv_aload_n hx hb dX10_renew_31 rfl (lv_at hl 0 rfl) (hp_n (n := 32) rfl ?_)
      refine lv_iconst (v := 0) hx hb dX10_renew_32 (by decide) (hp_n (n := 33) rfl ?_)
      refine q_puti (κ := 11) (k := 6) (φ := 556) (pc' := 36) C Bh16 (cw_k Bh16.2.2 k0) fl_X10_40 rfl rfl rfl rfl rfl rfl (cw_sI Bh16.2.2 (by decide) (fun h => absurd h (by decide))) dX10_renew_33 rfl (fun αh17 Hh17 Lh17 eh17 Bh17 => ?_)
      replace hf := ms_lE eh17 hf
      refine lv_iconst (v := 0) hx hb dX10_renew_36 (by decide) (hp_n (n := 37) rfl ?_)
      have J38 : ∀ (k38 : Nat) (αh18 : hp_T) (Hh18 : Heap) (Lh18 : List Loc) (Bh18 : hp_B Γ (cw w_X10_renew) s α αh18 Hh18 Lh18) (v2_h18 : Int32) (ls : Array Slot) (hl : lv_has ls 4 [(0, .ref a0), (2, .int v2_h18)]) (hf : f_X10_renew_L38 n a0 k38 αh18 v2_h18 = some res), W p l e (hp_rm 2 0 0) s m ([.ref a0] : List Value).toArray below meth c Hh18 Lh18 0 0 (MQ below (hp_Qv Γ (fun β => β = res ∧ cw w_X10_renew α β)) ([.ref a0] : List Value).toArray s 0 0 (hp_A Γ)) (F0 m 38 ls []) := by
        intro k38
        induction k38 with
        | zero => intro αh18 Hh18 Lh18 Bh18 v2_h18 ls hl hf; rw [f_X10_renew_L38.eq_1] at hf; cases hf
        | succ k38 ih38 =>
          intro αh18 Hh18 Lh18 Bh18 v2_h18 ls hl hf
          rw [f_X10_renew_L38.eq_2] at hf
          refine lv_iload_n hx hb dX10_renew_38 rfl (lv_at hl 1 rfl) (hp_n (n := 39) rfl ?_)
          refine lv_iconst (v := 4) hx hb dX10_renew_39 (by decide) (hp_n (n := 40) rfl ?_)
          refine lv_icmp_ge (tgt := 63) hx hb dX10_renew_40 (by decide) (fun c19 => ?_) (fun c19 => hp_n (n := 43) rfl ?_)
          ·
            replace hf := ms_iT c19 hf
            cases hf
            exact q_vret C Bh18 hr hlk ⟨rfl, Bh18.2.2⟩ dX10_renew_63
          ·
            replace hf := ms_iF c19 hf
            refine lv_aload_n hx hb dX10_renew_43 rfl (lv_at hl 0 rfl) (hp_n (n := 44) rfl ?_)
            refine lv_iload_n hx hb dX10_renew_44 rfl (lv_at hl 1 rfl) (hp_n (n := 45) rfl ?_)
            obtain ⟨rh20, qh20, hf⟩ := ms_bE hf
            refine d_pq (pc' := 48) Bh18 (hp_runV (As := [.int v2_h18]) (rest := []) C Bh18 (n_X10_watcherAt n Γ l αh18 Bh18.2.2.1 a0 (cw_k Bh18.2.2 k0) v2_h18 rh20 qh20) lb_X10_watcherAt lv_X10_watcherAt lk_X10_71 (cw_k Bh18.2.2 k0) rfl (by decide) rfl hl.1 rfl (Nat.le_of_ble_eq_true rfl) dX10_renew_45 ⟨Nat.le_refl _, Nat.le_refl _⟩) rfl (fun Hh20 Lh20 Bh20 kh20 => ?_)
            rcases rh20 with _ | bh20
            ·
              replace hf := hq_N hf
              refine lv_astore_nN (lv' := [(3, .null), (0, .ref a0), (2, .int v2_h18)]) hx hb dX10_renew_48 rfl hl (by decide) rfl (fun ls hl => hp_n (n := 49) rfl ?_)
              refine lv_aload_nN hx hb dX10_renew_49 rfl (lv_at hl 0 rfl) (hp_n (n := 50) rfl ?_)
              have J57 : ∀ (αh21 : hp_T) (Hh21 : Heap) (Lh21 : List Loc) (Bh21 : hp_B Γ (cw w_X10_renew) s α αh21 Hh21 Lh21) (v2_h21 : Int32) (ls : Array Slot) (hl : lv_has ls 4 [(0, .ref a0), (2, .int v2_h21)]) (hf : f_X10_renew_J57 n a0 (f_X10_renew_L38 n a0 k38) αh21 v2_h21 = some res), W p l e (hp_rm 2 0 0) s m ([.ref a0] : List Value).toArray below meth c Hh21 Lh21 0 0 (MQ below (hp_Qv Γ (fun β => β = res ∧ cw w_X10_renew α β)) ([.ref a0] : List Value).toArray s 0 0 (hp_A Γ)) (F0 m 57 ls []) := by
                intro αh21 Hh21 Lh21 Bh21 v2_h21 ls hl hf
                unfold f_X10_renew_J57 at hf
                obtain ⟨x22, ex22⟩ : ∃ y : Int32, y = v2_h21 + 1 := ⟨_, rfl⟩
                replace hf := ms_lE ex22 hf
                refine lv_iinc (v := x22) (lv' := [(2, .int x22), (0, .ref a0)]) hx hb dX10_renew_57 hl (k := 1) rfl (by rw [ex22]; rfl) (by decide) rfl (fun ls hl => hp_n (n := 60) rfl ?_)
                refine lv_goto (tgt := 38) hx hb dX10_renew_60 (by decide) ?_
                exact ih38 αh21 Hh21 Lh21 Bh21 x22 ls (lv_sub hl [1, 0] rfl) hf
              refine lv_ifnullN (tgt := 57) hx hb dX10_renew_50 (by decide) ?_
              exact J57 αh18 Hh20 Lh20 Bh20 v2_h18 ls (lv_sub hl [1, 2] rfl) hf
            ·
              replace hf := hq_S hf
              have kbh20 := kh20 bh20 rfl
              refine lv_astore_n (lv' := [(3, .ref bh20), (0, .ref a0), (2, .int v2_h18)]) hx hb dX10_renew_48 rfl hl (by decide) rfl (fun ls hl => hp_n (n := 49) rfl ?_)
              refine lv_aload_n hx hb dX10_renew_49 rfl (lv_at hl 0 rfl) (hp_n (n := 50) rfl ?_)
              have J57 : ∀ (αh23 : hp_T) (Hh23 : Heap) (Lh23 : List Loc) (Bh23 : hp_B Γ (cw w_X10_renew) s α αh23 Hh23 Lh23) (v2_h23 : Int32) (ls : Array Slot) (hl : lv_has ls 4 [(0, .ref a0), (2, .int v2_h23)]) (hf : f_X10_renew_J57 n a0 (f_X10_renew_L38 n a0 k38) αh23 v2_h23 = some res), W p l e (hp_rm 2 0 0) s m ([.ref a0] : List Value).toArray below meth c Hh23 Lh23 0 0 (MQ below (hp_Qv Γ (fun β => β = res ∧ cw w_X10_renew α β)) ([.ref a0] : List Value).toArray s 0 0 (hp_A Γ)) (F0 m 57 ls []) := by
                intro αh23 Hh23 Lh23 Bh23 v2_h23 ls hl hf
                unfold f_X10_renew_J57 at hf
                obtain ⟨x24, ex24⟩ : ∃ y : Int32, y = v2_h23 + 1 := ⟨_, rfl⟩
                replace hf := ms_lE ex24 hf
                refine lv_iinc (v := x24) (lv' := [(2, .int x24), (0, .ref a0)]) hx hb dX10_renew_57 hl (k := 1) rfl (by rw [ex24]; rfl) (by decide) rfl (fun ls hl => hp_n (n := 60) rfl ?_)
                refine lv_goto (tgt := 38) hx hb dX10_renew_60 (by decide) ?_
                exact ih38 αh23 Hh23 Lh23 Bh23 x24 ls (lv_sub hl [1, 0] rfl) hf
              refine lv_ifnull hx hb dX10_renew_50 (hp_n (n := 53) rfl ?_)
              refine lv_aload_n hx hb dX10_renew_53 rfl (lv_at hl 0 rfl) (hp_n (n := 54) rfl ?_)
              obtain ⟨αh25, qh25, hf⟩ := ms_bE hf
              refine d_cv (pc' := 57) Bh20 (hp_runV (As := []) (rest := []) C Bh20 (n_X7_renew n Γ l αh18 Bh20.2.2.1 bh20 (cw_k Bh20.2.2 kbh20) αh25 qh25) lb_X7_renew lv_X7_renew lk_X10_75 (cw_k Bh20.2.2 kbh20) rfl (by decide) rfl hl.1 rfl (Nat.le_of_ble_eq_true rfl) dX10_renew_54 ⟨Nat.le_refl _, Nat.le_refl _⟩) (by decide) rfl (fun Hh25 Lh25 Bh25 => ?_)
              exact J57 αh25 Hh25 Lh25 Bh25 v2_h18 ls (lv_sub hl [1, 2] rfl) hf
      refine lv_istore_n (lv' := [(2, .int (0 : Int32)), (0, .ref a0)]) hx hb dX10_renew_37 rfl hl (by decide) rfl (fun ls hl => hp_n (n := 38) rfl ?_)
      exact J38 n αh17 Hh17 Lh17 Bh17 (0 : Int32) ls (lv_sub hl [1, 0] rfl) hf
    refine lv_ifnull hx hb dX10_renew_18 (hp_n (n := 21) rfl ?_)
    refine lv_aload_n hx hb dX10_renew_21 rfl (lv_at hl 0 rfl) (hp_n (n := 22) rfl ?_)
    refine lv_iconst (v := 0) hx hb dX10_renew_22 (by decide) (hp_n (n := 23) rfl ?_)
    refine q_puti (κ := 3) (k := 2) (φ := 152) (pc' := 26) C Bh3 (cw_k Bh3.2.2 kbh3) fl_X10_68 rfl rfl rfl rfl rfl rfl (cw_sI Bh3.2.2 (by decide) (fun h => absurd h (by decide))) dX10_renew_23 rfl (fun αh26 Hh26 Lh26 eh26 Bh26 => ?_)
    replace hf := ms_lE eh26 hf
    exact J26 αh26 Hh26 Lh26 Bh26 ls (lv_sub hl [1] rfl) hf
def f_X11_freeze (n : Nat) (α : hp_T) (a0 : Nat) (a1 : Int32) : Option (Int32 × hp_T) :=
  ms_l (hp_R α 601 a0) fun b1 =>
  ms_b (f_X10_logAt n α b1 a1) fun rh2 =>
  hq_m rh2 (
    hq_c (f_X11_refuse n α a0 (2 : Int32)) fun rh3 αh3 =>
    some (rh3, αh3)) fun bh2 =>
  ms_l (hp_R α 601 a0) fun b4 =>
  ms_l (hp_I α 554 b4) fun x5 =>
  if x5 < (16 : Int32) then
    ms_l (hp_R α 601 a0) fun b7 =>
    hq_c (f_X10_freezeHead n α b7 a1) fun rh8 αh8 =>
    hq_c (f_X11_answer n αh8 a0 rh8) fun rh9 αh9 =>
    some (rh9, αh9)
  else
    hq_c (f_X11_refuse n α a0 (3 : Int32)) fun rh10 αh10 =>
    some (rh10, αh10)
set_option maxRecDepth 100000 in
set_option maxHeartbeats 4000000 in
theorem n_X11_freeze (n : Nat) (Γ : hp_G) (l : Launch) (α : hp_T) (g : GC α) (a0 : Nat) (k0 : hp_K α a0 = 12) (a1 : Int32) (res : (Int32 × hp_T)) (hf : f_X11_freeze n α a0 a1 = some res) : Met l yX11_freeze (hp_ws yX11_freeze cX11_freeze 2 (some .int)) (hp_rm 4 0 0) (hp_Pc Γ α [.ref a0, .int a1]) (hp_Qi Γ (fun r β => r = res.1 ∧ β = res.2 ∧ cw w_X11_freeze α β)) 0 0 (hp_A Γ) := by
  unfold f_X11_freeze at hf
  refine hp_start (by decide) ?_
  intro p e s m below meth c C hr hlk B0 hnm
  have C : hp_C Γ p m c cX11_freeze 2 s ([.ref a0, .int a1] : List Value).toArray RX11 := C
  have hx := C.1.1
  have hb := C.1.2.1
  have hown := C.1.2.2.2.1
  have hts := C.1.2.2.2.2
  have B : hp_B Γ (cw w_X11_freeze) s α α s.heap [] := ⟨B0.1, B0.2.1, cw_rf g⟩
  have hl := lv_entry ([.ref a0, .int a1]) (n := 2) (Nat.le_of_ble_eq_true rfl)
  show W p l e (hp_rm 4 0 0) s m ([.ref a0, .int a1] : List Value).toArray below meth c s.heap [] 0 0 (MQ below (hp_Qi Γ (fun r β => r = res.1 ∧ β = res.2 ∧ cw w_X11_freeze α β)) ([.ref a0, .int a1] : List Value).toArray s 0 0 (hp_A Γ)) (entryFrame m ([.ref a0, .int a1] : List Value).toArray 2)
  rw [lg_entry_eq]
  generalize (lg_sl ([.ref a0, .int a1]) ++ List.replicate (2 - (lg_sl ([.ref a0, .int a1])).length) Slot.unset).toArray = ls at hl ⊢
  have hl : lv_has ls 2 [(0, .ref a0), (1, .int a1)] := hl
  refine lv_aload_n hx hb dX11_freeze_0 rfl (lv_at hl 0 rfl) (hp_n (n := 1) rfl ?_)
  refine q_getr (κ := 12) (k := 1) (φ := 601) (pc' := 4) C B (cw_k B.2.2 k0) fl_X11_16 rfl rfl rfl (cw_r B.2.2 k0 rfl rfl (by decide) (by decide)) dX11_freeze_1 rfl (fun b1 eb1 kb1 => ?_)
  replace hf := ms_lE eb1 hf
  refine lv_iload_n hx hb dX11_freeze_4 rfl (lv_at hl 1 rfl) (hp_n (n := 5) rfl ?_)
  obtain ⟨rh2, qh2, hf⟩ := ms_bE hf
  refine d_pq (pc' := 8) B (hp_runV (As := [.int a1]) (rest := []) C B (n_X10_logAt n Γ l α B.2.2.1 b1 (cw_k B.2.2 kb1) a1 rh2 qh2) lb_X10_logAt lv_X10_logAt lk_X11_163 (cw_k B.2.2 kb1) rfl (by decide) rfl hl.1 rfl (Nat.le_of_ble_eq_true rfl) dX11_freeze_5 ⟨Nat.le_refl _, Nat.le_refl _⟩) rfl (fun Hh2 Lh2 Bh2 kh2 => ?_)
  rcases rh2 with _ | bh2
  ·
    replace hf := hq_N hf
    refine lv_ifnonnullN hx hb dX11_freeze_8 (hp_n (n := 11) rfl ?_)
    refine lv_aload_n hx hb dX11_freeze_11 rfl (lv_at hl 0 rfl) (hp_n (n := 12) rfl ?_)
    refine lv_iconst (v := 2) hx hb dX11_freeze_12 (by decide) (hp_n (n := 13) rfl ?_)
    obtain ⟨rh3, αh3, qh3, hf⟩ := hq_cE hf
    refine d_ci (pc' := 16) Bh2 (hp_runV (As := [.int (2 : Int32)]) (rest := []) C Bh2 (n_X11_refuse n Γ l α Bh2.2.2.1 a0 (cw_k Bh2.2.2 k0) (2 : Int32) (rh3, αh3) qh3) lb_X11_refuse lv_X11_refuse lk_X11_98 (cw_k Bh2.2.2 k0) rfl (by decide) rfl hl.1 rfl (Nat.le_of_ble_eq_true rfl) dX11_freeze_13 ⟨Nat.le_refl _, Nat.le_refl _⟩) (by decide) rfl (fun Hh3 Lh3 Bh3 => ?_)
    cases hf
    exact q_iret C Bh3 hr hlk ⟨rfl, rfl, Bh3.2.2⟩ dX11_freeze_16
  ·
    replace hf := hq_S hf
    have kbh2 := kh2 bh2 rfl
    refine lv_ifnonnull (tgt := 17) hx hb dX11_freeze_8 (by decide) ?_
    refine lv_aload_n hx hb dX11_freeze_17 rfl (lv_at hl 0 rfl) (hp_n (n := 18) rfl ?_)
    refine q_getr (κ := 12) (k := 1) (φ := 601) (pc' := 21) C Bh2 (cw_k Bh2.2.2 k0) fl_X11_16 rfl rfl rfl (cw_r Bh2.2.2 k0 rfl rfl (by decide) (by decide)) dX11_freeze_18 rfl (fun b4 eb4 kb4 => ?_)
    replace hf := ms_lE eb4 hf
    refine q_geti (κ := 11) (k := 4) (φ := 554) (pc' := 24) C Bh2 (cw_k Bh2.2.2 kb4) fl_X11_153 rfl rfl rfl dX11_freeze_21 rfl (fun x5 ex5 => ?_)
    replace hf := ms_lE ex5 hf
    refine lv_bipush (v := 16) hx hb dX11_freeze_24 (by decide) (hp_n (n := 26) rfl ?_)
    refine lv_icmp_lt (tgt := 35) hx hb dX11_freeze_26 (by decide) (fun c6 => ?_) (fun c6 => hp_n (n := 29) rfl ?_)
    ·
      replace hf := ms_iT c6 hf
      refine lv_aload_n hx hb dX11_freeze_35 rfl (lv_at hl 0 rfl) (hp_n (n := 36) rfl ?_)
      refine lv_aload_n hx hb dX11_freeze_36 rfl (lv_at hl 0 rfl) (hp_n (n := 37) rfl ?_)
      refine q_getr (κ := 12) (k := 1) (φ := 601) (pc' := 40) C Bh2 (cw_k Bh2.2.2 k0) fl_X11_16 rfl rfl rfl (cw_r Bh2.2.2 k0 rfl rfl (by decide) (by decide)) dX11_freeze_37 rfl (fun b7 eb7 kb7 => ?_)
      replace hf := ms_lE eb7 hf
      refine lv_iload_n hx hb dX11_freeze_40 rfl (lv_at hl 1 rfl) (hp_n (n := 41) rfl ?_)
      obtain ⟨rh8, αh8, qh8, hf⟩ := hq_cE hf
      refine d_ci (pc' := 44) Bh2 (hp_runV (As := [.int a1]) (rest := [.ref a0]) C Bh2 (n_X10_freezeHead n Γ l α Bh2.2.2.1 b7 (cw_k Bh2.2.2 kb7) a1 (rh8, αh8) qh8) lb_X10_freezeHead lv_X10_freezeHead lk_X11_244 (cw_k Bh2.2.2 kb7) rfl (by decide) rfl hl.1 rfl (Nat.le_of_ble_eq_true rfl) dX11_freeze_41 ⟨Nat.le_refl _, Nat.le_refl _⟩) (by decide) rfl (fun Hh8 Lh8 Bh8 => ?_)
      obtain ⟨rh9, αh9, qh9, hf⟩ := hq_cE hf
      refine d_ci (pc' := 47) Bh8 (hp_runV (As := [.int rh8]) (rest := []) C Bh8 (n_X11_answer n Γ l αh8 Bh8.2.2.1 a0 (cw_k Bh8.2.2 k0) rh8 (rh9, αh9) qh9) lb_X11_answer lv_X11_answer lk_X11_115 (cw_k Bh8.2.2 k0) rfl (by decide) rfl hl.1 rfl (Nat.le_of_ble_eq_true rfl) dX11_freeze_44 ⟨Nat.le_refl _, Nat.le_refl _⟩) (by decide) rfl (fun Hh9 Lh9 Bh9 => ?_)
      cases hf
      exact q_iret C Bh9 hr hlk ⟨rfl, rfl, Bh9.2.2⟩ dX11_freeze_47
    ·
      replace hf := ms_iF c6 hf
      refine lv_aload_n hx hb dX11_freeze_29 rfl (lv_at hl 0 rfl) (hp_n (n := 30) rfl ?_)
      refine lv_iconst (v := 3) hx hb dX11_freeze_30 (by decide) (hp_n (n := 31) rfl ?_)
      obtain ⟨rh10, αh10, qh10, hf⟩ := hq_cE hf
      refine d_ci (pc' := 34) Bh2 (hp_runV (As := [.int (3 : Int32)]) (rest := []) C Bh2 (n_X11_refuse n Γ l α Bh2.2.2.1 a0 (cw_k Bh2.2.2 k0) (3 : Int32) (rh10, αh10) qh10) lb_X11_refuse lv_X11_refuse lk_X11_98 (cw_k Bh2.2.2 k0) rfl (by decide) rfl hl.1 rfl (Nat.le_of_ble_eq_true rfl) dX11_freeze_31 ⟨Nat.le_refl _, Nat.le_refl _⟩) (by decide) rfl (fun Hh10 Lh10 Bh10 => ?_)
      cases hf
      exact q_iret C Bh10 hr hlk ⟨rfl, rfl, Bh10.2.2⟩ dX11_freeze_34
def f_X11_fork (n : Nat) (α : hp_T) (a0 : Nat) (a1 : Int32) (a2 : Int32) : Option (Int32 × hp_T) :=
  if 0 ≤ a2 then
    ms_l (hp_R α 601 a0) fun b2 =>
    ms_b (f_X10_logAt n α b2 a1) fun rh3 =>
    hq_m rh3 (
      hq_c (f_X11_refuse n α a0 (2 : Int32)) fun rh4 αh4 =>
      some (rh4, αh4)) fun bh3 =>
    ms_l (hp_R α 601 a0) fun b5 =>
    ms_l (hp_I α 552 b5) fun x6 =>
    if x6 < (4 : Int32) then
      ms_l (hp_I α 152 bh3) fun x8 =>
      if a2 ≤ x8 then
        ms_l (hp_R α 601 a0) fun b10 =>
        hq_c (f_X10_forkLog n α b10 bh3 a2) fun rh11 αh11 =>
        hq_c (f_X11_answer n αh11 a0 rh11) fun rh12 αh12 =>
        some (rh12, αh12)
      else
        hq_c (f_X11_refuse n α a0 (5 : Int32)) fun rh13 αh13 =>
        some (rh13, αh13)
    else
      hq_c (f_X11_refuse n α a0 (3 : Int32)) fun rh14 αh14 =>
      some (rh14, αh14)
  else
    hq_c (f_X11_refuse n α a0 (1 : Int32)) fun rh15 αh15 =>
    some (rh15, αh15)
set_option maxRecDepth 100000 in
set_option maxHeartbeats 4000000 in
theorem n_X11_fork (n : Nat) (Γ : hp_G) (l : Launch) (α : hp_T) (g : GC α) (a0 : Nat) (k0 : hp_K α a0 = 12) (a1 : Int32) (a2 : Int32) (res : (Int32 × hp_T)) (hf : f_X11_fork n α a0 a1 a2 = some res) : Met l yX11_fork (hp_ws yX11_fork cX11_fork 4 (some .int)) (hp_rm 4 0 0) (hp_Pc Γ α [.ref a0, .int a1, .int a2]) (hp_Qi Γ (fun r β => r = res.1 ∧ β = res.2 ∧ cw w_X11_fork α β)) 0 0 (hp_A Γ) := by
  unfold f_X11_fork at hf
  refine hp_start (by decide) ?_
  intro p e s m below meth c C hr hlk B0 hnm
  have C : hp_C Γ p m c cX11_fork 4 s ([.ref a0, .int a1, .int a2] : List Value).toArray RX11 := C
  have hx := C.1.1
  have hb := C.1.2.1
  have hown := C.1.2.2.2.1
  have hts := C.1.2.2.2.2
  have B : hp_B Γ (cw w_X11_fork) s α α s.heap [] := ⟨B0.1, B0.2.1, cw_rf g⟩
  have hl := lv_entry ([.ref a0, .int a1, .int a2]) (n := 4) (Nat.le_of_ble_eq_true rfl)
  show W p l e (hp_rm 4 0 0) s m ([.ref a0, .int a1, .int a2] : List Value).toArray below meth c s.heap [] 0 0 (MQ below (hp_Qi Γ (fun r β => r = res.1 ∧ β = res.2 ∧ cw w_X11_fork α β)) ([.ref a0, .int a1, .int a2] : List Value).toArray s 0 0 (hp_A Γ)) (entryFrame m ([.ref a0, .int a1, .int a2] : List Value).toArray 4)
  rw [lg_entry_eq]
  generalize (lg_sl ([.ref a0, .int a1, .int a2]) ++ List.replicate (4 - (lg_sl ([.ref a0, .int a1, .int a2])).length) Slot.unset).toArray = ls at hl ⊢
  have hl : lv_has ls 4 [(0, .ref a0), (1, .int a1), (2, .int a2)] := hl
  refine lv_iload_n hx hb dX11_fork_0 rfl (lv_at hl 2 rfl) (hp_n (n := 1) rfl ?_)
  refine lv_if_ge (tgt := 10) hx hb dX11_fork_1 (by decide) (fun c1 => ?_) (fun c1 => hp_n (n := 4) rfl ?_)
  ·
    replace hf := ms_iT c1 hf
    refine lv_aload_n hx hb dX11_fork_10 rfl (lv_at hl 0 rfl) (hp_n (n := 11) rfl ?_)
    refine q_getr (κ := 12) (k := 1) (φ := 601) (pc' := 14) C B (cw_k B.2.2 k0) fl_X11_16 rfl rfl rfl (cw_r B.2.2 k0 rfl rfl (by decide) (by decide)) dX11_fork_11 rfl (fun b2 eb2 kb2 => ?_)
    replace hf := ms_lE eb2 hf
    refine lv_iload_n hx hb dX11_fork_14 rfl (lv_at hl 1 rfl) (hp_n (n := 15) rfl ?_)
    obtain ⟨rh3, qh3, hf⟩ := ms_bE hf
    refine d_pq (pc' := 18) B (hp_runV (As := [.int a1]) (rest := []) C B (n_X10_logAt n Γ l α B.2.2.1 b2 (cw_k B.2.2 kb2) a1 rh3 qh3) lb_X10_logAt lv_X10_logAt lk_X11_163 (cw_k B.2.2 kb2) rfl (by decide) rfl hl.1 rfl (Nat.le_of_ble_eq_true rfl) dX11_fork_15 ⟨Nat.le_refl _, Nat.le_refl _⟩) rfl (fun Hh3 Lh3 Bh3 kh3 => ?_)
    rcases rh3 with _ | bh3
    ·
      replace hf := hq_N hf
      refine lv_astore_nN (lv' := [(3, .null), (0, .ref a0), (1, .int a1), (2, .int a2)]) hx hb dX11_fork_18 rfl hl (by decide) rfl (fun ls hl => hp_n (n := 19) rfl ?_)
      refine lv_aload_nN hx hb dX11_fork_19 rfl (lv_at hl 0 rfl) (hp_n (n := 20) rfl ?_)
      refine lv_ifnonnullN hx hb dX11_fork_20 (hp_n (n := 23) rfl ?_)
      refine lv_aload_n hx hb dX11_fork_23 rfl (lv_at hl 1 rfl) (hp_n (n := 24) rfl ?_)
      refine lv_iconst (v := 2) hx hb dX11_fork_24 (by decide) (hp_n (n := 25) rfl ?_)
      obtain ⟨rh4, αh4, qh4, hf⟩ := hq_cE hf
      refine d_ci (pc' := 28) Bh3 (hp_runV (As := [.int (2 : Int32)]) (rest := []) C Bh3 (n_X11_refuse n Γ l α Bh3.2.2.1 a0 (cw_k Bh3.2.2 k0) (2 : Int32) (rh4, αh4) qh4) lb_X11_refuse lv_X11_refuse lk_X11_98 (cw_k Bh3.2.2 k0) rfl (by decide) rfl hl.1 rfl (Nat.le_of_ble_eq_true rfl) dX11_fork_25 ⟨Nat.le_refl _, Nat.le_refl _⟩) (by decide) rfl (fun Hh4 Lh4 Bh4 => ?_)
      cases hf
      exact q_iret C Bh4 hr hlk ⟨rfl, rfl, Bh4.2.2⟩ dX11_fork_28
    ·
      replace hf := hq_S hf
      have kbh3 := kh3 bh3 rfl
      refine lv_astore_n (lv' := [(3, .ref bh3), (0, .ref a0), (1, .int a1), (2, .int a2)]) hx hb dX11_fork_18 rfl hl (by decide) rfl (fun ls hl => hp_n (n := 19) rfl ?_)
      refine lv_aload_n hx hb dX11_fork_19 rfl (lv_at hl 0 rfl) (hp_n (n := 20) rfl ?_)
      refine lv_ifnonnull (tgt := 29) hx hb dX11_fork_20 (by decide) ?_
      refine lv_aload_n hx hb dX11_fork_29 rfl (lv_at hl 1 rfl) (hp_n (n := 30) rfl ?_)
      refine q_getr (κ := 12) (k := 1) (φ := 601) (pc' := 33) C Bh3 (cw_k Bh3.2.2 k0) fl_X11_16 rfl rfl rfl (cw_r Bh3.2.2 k0 rfl rfl (by decide) (by decide)) dX11_fork_30 rfl (fun b5 eb5 kb5 => ?_)
      replace hf := ms_lE eb5 hf
      refine q_geti (κ := 11) (k := 2) (φ := 552) (pc' := 36) C Bh3 (cw_k Bh3.2.2 kb5) fl_X11_112 rfl rfl rfl dX11_fork_33 rfl (fun x6 ex6 => ?_)
      replace hf := ms_lE ex6 hf
      refine lv_iconst (v := 4) hx hb dX11_fork_36 (by decide) (hp_n (n := 37) rfl ?_)
      refine lv_icmp_lt (tgt := 46) hx hb dX11_fork_37 (by decide) (fun c7 => ?_) (fun c7 => hp_n (n := 40) rfl ?_)
      ·
        replace hf := ms_iT c7 hf
        refine lv_iload_n hx hb dX11_fork_46 rfl (lv_at hl 3 rfl) (hp_n (n := 47) rfl ?_)
        refine lv_aload_n hx hb dX11_fork_47 rfl (lv_at hl 0 rfl) (hp_n (n := 48) rfl ?_)
        refine q_geti (κ := 3) (k := 2) (φ := 152) (pc' := 51) C Bh3 (cw_k Bh3.2.2 kbh3) fl_X11_167 rfl rfl rfl dX11_fork_48 rfl (fun x8 ex8 => ?_)
        replace hf := ms_lE ex8 hf
        refine lv_icmp_le (tgt := 60) hx hb dX11_fork_51 (by decide) (fun c9 => ?_) (fun c9 => hp_n (n := 54) rfl ?_)
        ·
          replace hf := ms_iT c9 hf
          refine lv_aload_n hx hb dX11_fork_60 rfl (lv_at hl 1 rfl) (hp_n (n := 61) rfl ?_)
          refine lv_aload_n hx hb dX11_fork_61 rfl (lv_at hl 1 rfl) (hp_n (n := 62) rfl ?_)
          refine q_getr (κ := 12) (k := 1) (φ := 601) (pc' := 65) C Bh3 (cw_k Bh3.2.2 k0) fl_X11_16 rfl rfl rfl (cw_r Bh3.2.2 k0 rfl rfl (by decide) (by decide)) dX11_fork_62 rfl (fun b10 eb10 kb10 => ?_)
          replace hf := ms_lE eb10 hf
          refine lv_aload_n hx hb dX11_fork_65 rfl (lv_at hl 0 rfl) (hp_n (n := 66) rfl ?_)
          refine lv_iload_n hx hb dX11_fork_66 rfl (lv_at hl 3 rfl) (hp_n (n := 67) rfl ?_)
          obtain ⟨rh11, αh11, qh11, hf⟩ := hq_cE hf
          refine d_ci (pc' := 70) Bh3 (hp_runV (As := [.ref bh3, .int a2]) (rest := [.ref a0]) C Bh3 (n_X10_forkLog n Γ l α Bh3.2.2.1 b10 (cw_k Bh3.2.2 kb10) bh3 (cw_k Bh3.2.2 kbh3) a2 (rh11, αh11) qh11) lb_X10_forkLog lv_X10_forkLog lk_X11_241 (cw_k Bh3.2.2 kb10) rfl (by decide) rfl hl.1 rfl (Nat.le_of_ble_eq_true rfl) dX11_fork_67 ⟨Nat.le_refl _, Nat.le_refl _⟩) (by decide) rfl (fun Hh11 Lh11 Bh11 => ?_)
          obtain ⟨rh12, αh12, qh12, hf⟩ := hq_cE hf
          refine d_ci (pc' := 73) Bh11 (hp_runV (As := [.int rh11]) (rest := []) C Bh11 (n_X11_answer n Γ l αh11 Bh11.2.2.1 a0 (cw_k Bh11.2.2 k0) rh11 (rh12, αh12) qh12) lb_X11_answer lv_X11_answer lk_X11_115 (cw_k Bh11.2.2 k0) rfl (by decide) rfl hl.1 rfl (Nat.le_of_ble_eq_true rfl) dX11_fork_70 ⟨Nat.le_refl _, Nat.le_refl _⟩) (by decide) rfl (fun Hh12 Lh12 Bh12 => ?_)
          cases hf
          exact q_iret C Bh12 hr hlk ⟨rfl, rfl, Bh12.2.2⟩ dX11_fork_73
        ·
          replace hf := ms_iF c9 hf
          refine lv_aload_n hx hb dX11_fork_54 rfl (lv_at hl 1 rfl) (hp_n (n := 55) rfl ?_)
          refine lv_iconst (v := 5) hx hb dX11_fork_55 (by decide) (hp_n (n := 56) rfl ?_)
          obtain ⟨rh13, αh13, qh13, hf⟩ := hq_cE hf
          refine d_ci (pc' := 59) Bh3 (hp_runV (As := [.int (5 : Int32)]) (rest := []) C Bh3 (n_X11_refuse n Γ l α Bh3.2.2.1 a0 (cw_k Bh3.2.2 k0) (5 : Int32) (rh13, αh13) qh13) lb_X11_refuse lv_X11_refuse lk_X11_98 (cw_k Bh3.2.2 k0) rfl (by decide) rfl hl.1 rfl (Nat.le_of_ble_eq_true rfl) dX11_fork_56 ⟨Nat.le_refl _, Nat.le_refl _⟩) (by decide) rfl (fun Hh13 Lh13 Bh13 => ?_)
          cases hf
          exact q_iret C Bh13 hr hlk ⟨rfl, rfl, Bh13.2.2⟩ dX11_fork_59
      ·
        replace hf := ms_iF c7 hf
        refine lv_aload_n hx hb dX11_fork_40 rfl (lv_at hl 1 rfl) (hp_n (n := 41) rfl ?_)
        refine lv_iconst (v := 3) hx hb dX11_fork_41 (by decide) (hp_n (n := 42) rfl ?_)
        obtain ⟨rh14, αh14, qh14, hf⟩ := hq_cE hf
        refine d_ci (pc' := 45) Bh3 (hp_runV (As := [.int (3 : Int32)]) (rest := []) C Bh3 (n_X11_refuse n Γ l α Bh3.2.2.1 a0 (cw_k Bh3.2.2 k0) (3 : Int32) (rh14, αh14) qh14) lb_X11_refuse lv_X11_refuse lk_X11_98 (cw_k Bh3.2.2 k0) rfl (by decide) rfl hl.1 rfl (Nat.le_of_ble_eq_true rfl) dX11_fork_42 ⟨Nat.le_refl _, Nat.le_refl _⟩) (by decide) rfl (fun Hh14 Lh14 Bh14 => ?_)
        cases hf
        exact q_iret C Bh14 hr hlk ⟨rfl, rfl, Bh14.2.2⟩ dX11_fork_45
  ·
    replace hf := ms_iF c1 hf
    refine lv_aload_n hx hb dX11_fork_4 rfl (lv_at hl 0 rfl) (hp_n (n := 5) rfl ?_)
    refine lv_iconst (v := 1) hx hb dX11_fork_5 (by decide) (hp_n (n := 6) rfl ?_)
    obtain ⟨rh15, αh15, qh15, hf⟩ := hq_cE hf
    refine d_ci (pc' := 9) B (hp_runV (As := [.int (1 : Int32)]) (rest := []) C B (n_X11_refuse n Γ l α B.2.2.1 a0 (cw_k B.2.2 k0) (1 : Int32) (rh15, αh15) qh15) lb_X11_refuse lv_X11_refuse lk_X11_98 (cw_k B.2.2 k0) rfl (by decide) rfl hl.1 rfl (Nat.le_of_ble_eq_true rfl) dX11_fork_6 ⟨Nat.le_refl _, Nat.le_refl _⟩) (by decide) rfl (fun Hh15 Lh15 Bh15 => ?_)
    cases hf
    exact q_iret C Bh15 hr hlk ⟨rfl, rfl, Bh15.2.2⟩ dX11_fork_9
def f_X11_show_J40 (n : Nat) (a0 : Nat) (αh6 : hp_T) : Option (Int32 × hp_T) :=
  hq_c (f_X11_refuse n αh6 a0 (2 : Int32)) fun rh7 αh7 =>
  some (rh7, αh7)
def f_X11_show (n : Nat) (α : hp_T) (a0 : Nat) (a1 : Int32) (a2 : Int32) (a3 : Int32) : Option (Int32 × hp_T) :=
  if 0 ≤ a3 then
    ms_l (hp_R α 601 a0) fun b2 =>
    ms_b (f_X10_watcherAt n α b2 a1) fun rh3 =>
    hq_m rh3 (
      ms_l (hp_R α 601 a0) fun b4 =>
      ms_b (f_X10_logAt n α b4 a2) fun rh5 =>
      hq_m rh5 (
        f_X11_show_J40 n a0 α) fun bh5 =>
      f_X11_show_J40 n a0 α) fun bh3 =>
    ms_l (hp_R α 601 a0) fun b10 =>
    ms_b (f_X10_logAt n α b10 a2) fun rh11 =>
    hq_m rh11 (
      f_X11_show_J40 n a0 α) fun bh11 =>
    ms_l (hp_I α 152 bh11) fun x16 =>
    if a3 ≤ x16 then
      ms_l (hp_R α 601 a0) fun b18 =>
      hq_c (f_X10_showTo n α b18 (some bh3) bh11 a3) fun rh19 αh19 =>
      hq_c (f_X11_answer n αh19 a0 rh19) fun rh20 αh20 =>
      some (rh20, αh20)
    else
      hq_c (f_X11_refuse n α a0 (5 : Int32)) fun rh21 αh21 =>
      some (rh21, αh21)
  else
    hq_c (f_X11_refuse n α a0 (1 : Int32)) fun rh22 αh22 =>
    some (rh22, αh22)
set_option maxRecDepth 100000 in
set_option maxHeartbeats 4000000 in
theorem n_X11_show (n : Nat) (Γ : hp_G) (l : Launch) (α : hp_T) (g : GC α) (a0 : Nat) (k0 : hp_K α a0 = 12) (a1 : Int32) (a2 : Int32) (a3 : Int32) (res : (Int32 × hp_T)) (hf : f_X11_show n α a0 a1 a2 a3 = some res) : Met l yX11_show (hp_ws yX11_show cX11_show 6 (some .int)) (hp_rm 7 0 0) (hp_Pc Γ α [.ref a0, .int a1, .int a2, .int a3]) (hp_Qi Γ (fun r β => r = res.1 ∧ β = res.2 ∧ cw w_X11_show α β)) 0 0 (hp_A Γ) := by
  unfold f_X11_show at hf
  refine hp_start (by decide) ?_
  intro p e s m below meth c C hr hlk B0 hnm
  have C : hp_C Γ p m c cX11_show 6 s ([.ref a0, .int a1, .int a2, .int a3] : List Value).toArray RX11 := C
  have hx := C.1.1
  have hb := C.1.2.1
  have hown := C.1.2.2.2.1
  have hts := C.1.2.2.2.2
  have B : hp_B Γ (cw w_X11_show) s α α s.heap [] := ⟨B0.1, B0.2.1, cw_rf g⟩
  have hl := lv_entry ([.ref a0, .int a1, .int a2, .int a3]) (n := 6) (Nat.le_of_ble_eq_true rfl)
  show W p l e (hp_rm 7 0 0) s m ([.ref a0, .int a1, .int a2, .int a3] : List Value).toArray below meth c s.heap [] 0 0 (MQ below (hp_Qi Γ (fun r β => r = res.1 ∧ β = res.2 ∧ cw w_X11_show α β)) ([.ref a0, .int a1, .int a2, .int a3] : List Value).toArray s 0 0 (hp_A Γ)) (entryFrame m ([.ref a0, .int a1, .int a2, .int a3] : List Value).toArray 6)
  rw [lg_entry_eq]
  generalize (lg_sl ([.ref a0, .int a1, .int a2, .int a3]) ++ List.replicate (6 - (lg_sl ([.ref a0, .int a1, .int a2, .int a3])).length) Slot.unset).toArray = ls at hl ⊢
  have hl : lv_has ls 6 [(0, .ref a0), (1, .int a1), (2, .int a2), (3, .int a3)] := hl
  refine lv_iload_n hx hb dX11_show_0 rfl (lv_at hl 3 rfl) (hp_n (n := 1) rfl ?_)
  refine lv_if_ge (tgt := 10) hx hb dX11_show_1 (by decide) (fun c1 => ?_) (fun c1 => hp_n (n := 4) rfl ?_)
  ·
    replace hf := ms_iT c1 hf
    refine lv_aload_n hx hb dX11_show_10 rfl (lv_at hl 0 rfl) (hp_n (n := 11) rfl ?_)
    refine q_getr (κ := 12) (k := 1) (φ := 601) (pc' := 14) C B (cw_k B.2.2 k0) fl_X11_16 rfl rfl rfl (cw_r B.2.2 k0 rfl rfl (by decide) (by decide)) dX11_show_11 rfl (fun b2 eb2 kb2 => ?_)
    replace hf := ms_lE eb2 hf
    refine lv_iload_n hx hb dX11_show_14 rfl (lv_at hl 1 rfl) (hp_n (n := 15) rfl ?_)
    obtain ⟨rh3, qh3, hf⟩ := ms_bE hf
    refine d_pq (pc' := 18) B (hp_runV (As := [.int a1]) (rest := []) C B (n_X10_watcherAt n Γ l α B.2.2.1 b2 (cw_k B.2.2 kb2) a1 rh3 qh3) lb_X10_watcherAt lv_X10_watcherAt lk_X11_220 (cw_k B.2.2 kb2) rfl (by decide) rfl hl.1 rfl (Nat.le_of_ble_eq_true rfl) dX11_show_15 ⟨Nat.le_refl _, Nat.le_refl _⟩) rfl (fun Hh3 Lh3 Bh3 kh3 => ?_)
    rcases rh3 with _ | bh3
    ·
      replace hf := hq_N hf
      refine lv_astoreN (lv' := [(4, .null), (0, .ref a0), (1, .int a1), (2, .int a2), (3, .int a3)]) hx hb dX11_show_18 hl (by decide) rfl (fun ls hl => hp_n (n := 20) rfl ?_)
      refine lv_aload_n hx hb dX11_show_20 rfl (lv_at hl 1 rfl) (hp_n (n := 21) rfl ?_)
      refine q_getr (κ := 12) (k := 1) (φ := 601) (pc' := 24) C Bh3 (cw_k Bh3.2.2 k0) fl_X11_16 rfl rfl rfl (cw_r Bh3.2.2 k0 rfl rfl (by decide) (by decide)) dX11_show_21 rfl (fun b4 eb4 kb4 => ?_)
      replace hf := ms_lE eb4 hf
      refine lv_iload_n hx hb dX11_show_24 rfl (lv_at hl 3 rfl) (hp_n (n := 25) rfl ?_)
      obtain ⟨rh5, qh5, hf⟩ := ms_bE hf
      refine d_pq (pc' := 28) Bh3 (hp_runV (As := [.int a2]) (rest := []) C Bh3 (n_X10_logAt n Γ l α Bh3.2.2.1 b4 (cw_k Bh3.2.2 kb4) a2 rh5 qh5) lb_X10_logAt lv_X10_logAt lk_X11_163 (cw_k Bh3.2.2 kb4) rfl (by decide) rfl hl.1 rfl (Nat.le_of_ble_eq_true rfl) dX11_show_25 ⟨Nat.le_refl _, Nat.le_refl _⟩) rfl (fun Hh5 Lh5 Bh5 kh5 => ?_)
      rcases rh5 with _ | bh5
      ·
        replace hf := hq_N hf
        refine lv_astoreN (lv' := [(5, .null), (4, .null), (0, .ref a0), (1, .int a1), (2, .int a2), (3, .int a3)]) hx hb dX11_show_28 hl (by decide) rfl (fun ls hl => hp_n (n := 30) rfl ?_)
        refine lv_aloadN hx hb dX11_show_30 (lv_at hl 1 rfl) (hp_n (n := 32) rfl ?_)
        have J40 : ∀ (αh6 : hp_T) (Hh6 : Heap) (Lh6 : List Loc) (Bh6 : hp_B Γ (cw w_X11_show) s α αh6 Hh6 Lh6) (ls : Array Slot) (hl : lv_has ls 6 [(0, .ref a0)]) (hf : f_X11_show_J40 n a0 αh6 = some res), W p l e (hp_rm 7 0 0) s m ([.ref a0, .int a1, .int a2, .int a3] : List Value).toArray below meth c Hh6 Lh6 0 0 (MQ below (hp_Qi Γ (fun r β => r = res.1 ∧ β = res.2 ∧ cw w_X11_show α β)) ([.ref a0, .int a1, .int a2, .int a3] : List Value).toArray s 0 0 (hp_A Γ)) (F0 m 40 ls []) := by
          intro αh6 Hh6 Lh6 Bh6 ls hl hf
          unfold f_X11_show_J40 at hf
          refine lv_aload_n hx hb dX11_show_40 rfl (lv_at hl 0 rfl) (hp_n (n := 41) rfl ?_)
          refine lv_iconst (v := 2) hx hb dX11_show_41 (by decide) (hp_n (n := 42) rfl ?_)
          obtain ⟨rh7, αh7, qh7, hf⟩ := hq_cE hf
          refine d_ci (pc' := 45) Bh6 (hp_runV (As := [.int (2 : Int32)]) (rest := []) C Bh6 (n_X11_refuse n Γ l αh6 Bh6.2.2.1 a0 (cw_k Bh6.2.2 k0) (2 : Int32) (rh7, αh7) qh7) lb_X11_refuse lv_X11_refuse lk_X11_98 (cw_k Bh6.2.2 k0) rfl (by decide) rfl hl.1 rfl (Nat.le_of_ble_eq_true rfl) dX11_show_42 ⟨Nat.le_refl _, Nat.le_refl _⟩) (by decide) rfl (fun Hh7 Lh7 Bh7 => ?_)
          cases hf
          exact q_iret C Bh7 hr hlk ⟨rfl, rfl, Bh7.2.2⟩ dX11_show_45
        refine lv_ifnullN (tgt := 40) hx hb dX11_show_32 (by decide) ?_
        exact J40 α Hh5 Lh5 Bh5 ls (lv_sub hl [2] rfl) hf
      ·
        replace hf := hq_S hf
        have kbh5 := kh5 bh5 rfl
        refine lv_astore (lv' := [(5, .ref bh5), (4, .null), (0, .ref a0), (1, .int a1), (2, .int a2), (3, .int a3)]) hx hb dX11_show_28 hl (by decide) rfl (fun ls hl => hp_n (n := 30) rfl ?_)
        refine lv_aloadN hx hb dX11_show_30 (lv_at hl 1 rfl) (hp_n (n := 32) rfl ?_)
        have J40 : ∀ (αh8 : hp_T) (Hh8 : Heap) (Lh8 : List Loc) (Bh8 : hp_B Γ (cw w_X11_show) s α αh8 Hh8 Lh8) (ls : Array Slot) (hl : lv_has ls 6 [(0, .ref a0)]) (hf : f_X11_show_J40 n a0 αh8 = some res), W p l e (hp_rm 7 0 0) s m ([.ref a0, .int a1, .int a2, .int a3] : List Value).toArray below meth c Hh8 Lh8 0 0 (MQ below (hp_Qi Γ (fun r β => r = res.1 ∧ β = res.2 ∧ cw w_X11_show α β)) ([.ref a0, .int a1, .int a2, .int a3] : List Value).toArray s 0 0 (hp_A Γ)) (F0 m 40 ls []) := by
          intro αh8 Hh8 Lh8 Bh8 ls hl hf
          unfold f_X11_show_J40 at hf
          refine lv_aload_n hx hb dX11_show_40 rfl (lv_at hl 0 rfl) (hp_n (n := 41) rfl ?_)
          refine lv_iconst (v := 2) hx hb dX11_show_41 (by decide) (hp_n (n := 42) rfl ?_)
          obtain ⟨rh9, αh9, qh9, hf⟩ := hq_cE hf
          refine d_ci (pc' := 45) Bh8 (hp_runV (As := [.int (2 : Int32)]) (rest := []) C Bh8 (n_X11_refuse n Γ l αh8 Bh8.2.2.1 a0 (cw_k Bh8.2.2 k0) (2 : Int32) (rh9, αh9) qh9) lb_X11_refuse lv_X11_refuse lk_X11_98 (cw_k Bh8.2.2 k0) rfl (by decide) rfl hl.1 rfl (Nat.le_of_ble_eq_true rfl) dX11_show_42 ⟨Nat.le_refl _, Nat.le_refl _⟩) (by decide) rfl (fun Hh9 Lh9 Bh9 => ?_)
          cases hf
          exact q_iret C Bh9 hr hlk ⟨rfl, rfl, Bh9.2.2⟩ dX11_show_45
        refine lv_ifnullN (tgt := 40) hx hb dX11_show_32 (by decide) ?_
        exact J40 α Hh5 Lh5 Bh5 ls (lv_sub hl [2] rfl) hf
    ·
      replace hf := hq_S hf
      have kbh3 := kh3 bh3 rfl
      refine lv_astore (lv' := [(4, .ref bh3), (0, .ref a0), (1, .int a1), (2, .int a2), (3, .int a3)]) hx hb dX11_show_18 hl (by decide) rfl (fun ls hl => hp_n (n := 20) rfl ?_)
      refine lv_aload_n hx hb dX11_show_20 rfl (lv_at hl 1 rfl) (hp_n (n := 21) rfl ?_)
      refine q_getr (κ := 12) (k := 1) (φ := 601) (pc' := 24) C Bh3 (cw_k Bh3.2.2 k0) fl_X11_16 rfl rfl rfl (cw_r Bh3.2.2 k0 rfl rfl (by decide) (by decide)) dX11_show_21 rfl (fun b10 eb10 kb10 => ?_)
      replace hf := ms_lE eb10 hf
      refine lv_iload_n hx hb dX11_show_24 rfl (lv_at hl 3 rfl) (hp_n (n := 25) rfl ?_)
      obtain ⟨rh11, qh11, hf⟩ := ms_bE hf
      refine d_pq (pc' := 28) Bh3 (hp_runV (As := [.int a2]) (rest := []) C Bh3 (n_X10_logAt n Γ l α Bh3.2.2.1 b10 (cw_k Bh3.2.2 kb10) a2 rh11 qh11) lb_X10_logAt lv_X10_logAt lk_X11_163 (cw_k Bh3.2.2 kb10) rfl (by decide) rfl hl.1 rfl (Nat.le_of_ble_eq_true rfl) dX11_show_25 ⟨Nat.le_refl _, Nat.le_refl _⟩) rfl (fun Hh11 Lh11 Bh11 kh11 => ?_)
      rcases rh11 with _ | bh11
      ·
        replace hf := hq_N hf
        refine lv_astoreN (lv' := [(5, .null), (4, .ref bh3), (0, .ref a0), (1, .int a1), (2, .int a2), (3, .int a3)]) hx hb dX11_show_28 hl (by decide) rfl (fun ls hl => hp_n (n := 30) rfl ?_)
        refine lv_aload hx hb dX11_show_30 (lv_at hl 1 rfl) (hp_n (n := 32) rfl ?_)
        have J40 : ∀ (αh12 : hp_T) (Hh12 : Heap) (Lh12 : List Loc) (Bh12 : hp_B Γ (cw w_X11_show) s α αh12 Hh12 Lh12) (ls : Array Slot) (hl : lv_has ls 6 [(0, .ref a0)]) (hf : f_X11_show_J40 n a0 αh12 = some res), W p l e (hp_rm 7 0 0) s m ([.ref a0, .int a1, .int a2, .int a3] : List Value).toArray below meth c Hh12 Lh12 0 0 (MQ below (hp_Qi Γ (fun r β => r = res.1 ∧ β = res.2 ∧ cw w_X11_show α β)) ([.ref a0, .int a1, .int a2, .int a3] : List Value).toArray s 0 0 (hp_A Γ)) (F0 m 40 ls []) := by
          intro αh12 Hh12 Lh12 Bh12 ls hl hf
          unfold f_X11_show_J40 at hf
          refine lv_aload_n hx hb dX11_show_40 rfl (lv_at hl 0 rfl) (hp_n (n := 41) rfl ?_)
          refine lv_iconst (v := 2) hx hb dX11_show_41 (by decide) (hp_n (n := 42) rfl ?_)
          obtain ⟨rh13, αh13, qh13, hf⟩ := hq_cE hf
          refine d_ci (pc' := 45) Bh12 (hp_runV (As := [.int (2 : Int32)]) (rest := []) C Bh12 (n_X11_refuse n Γ l αh12 Bh12.2.2.1 a0 (cw_k Bh12.2.2 k0) (2 : Int32) (rh13, αh13) qh13) lb_X11_refuse lv_X11_refuse lk_X11_98 (cw_k Bh12.2.2 k0) rfl (by decide) rfl hl.1 rfl (Nat.le_of_ble_eq_true rfl) dX11_show_42 ⟨Nat.le_refl _, Nat.le_refl _⟩) (by decide) rfl (fun Hh13 Lh13 Bh13 => ?_)
          cases hf
          exact q_iret C Bh13 hr hlk ⟨rfl, rfl, Bh13.2.2⟩ dX11_show_45
        refine lv_ifnull hx hb dX11_show_32 (hp_n (n := 35) rfl ?_)
        refine lv_aloadN hx hb dX11_show_35 (lv_at hl 0 rfl) (hp_n (n := 37) rfl ?_)
        refine lv_ifnonnullN hx hb dX11_show_37 (hp_n (n := 40) rfl ?_)
        exact J40 α Hh11 Lh11 Bh11 ls (lv_sub hl [2] rfl) hf
      ·
        replace hf := hq_S hf
        have kbh11 := kh11 bh11 rfl
        refine lv_astore (lv' := [(5, .ref bh11), (4, .ref bh3), (0, .ref a0), (1, .int a1), (2, .int a2), (3, .int a3)]) hx hb dX11_show_28 hl (by decide) rfl (fun ls hl => hp_n (n := 30) rfl ?_)
        refine lv_aload hx hb dX11_show_30 (lv_at hl 1 rfl) (hp_n (n := 32) rfl ?_)
        have J40 : ∀ (αh14 : hp_T) (Hh14 : Heap) (Lh14 : List Loc) (Bh14 : hp_B Γ (cw w_X11_show) s α αh14 Hh14 Lh14) (ls : Array Slot) (hl : lv_has ls 6 [(0, .ref a0)]) (hf : f_X11_show_J40 n a0 αh14 = some res), W p l e (hp_rm 7 0 0) s m ([.ref a0, .int a1, .int a2, .int a3] : List Value).toArray below meth c Hh14 Lh14 0 0 (MQ below (hp_Qi Γ (fun r β => r = res.1 ∧ β = res.2 ∧ cw w_X11_show α β)) ([.ref a0, .int a1, .int a2, .int a3] : List Value).toArray s 0 0 (hp_A Γ)) (F0 m 40 ls []) := by
          intro αh14 Hh14 Lh14 Bh14 ls hl hf
          unfold f_X11_show_J40 at hf
          refine lv_aload_n hx hb dX11_show_40 rfl (lv_at hl 0 rfl) (hp_n (n := 41) rfl ?_)
          refine lv_iconst (v := 2) hx hb dX11_show_41 (by decide) (hp_n (n := 42) rfl ?_)
          obtain ⟨rh15, αh15, qh15, hf⟩ := hq_cE hf
          refine d_ci (pc' := 45) Bh14 (hp_runV (As := [.int (2 : Int32)]) (rest := []) C Bh14 (n_X11_refuse n Γ l αh14 Bh14.2.2.1 a0 (cw_k Bh14.2.2 k0) (2 : Int32) (rh15, αh15) qh15) lb_X11_refuse lv_X11_refuse lk_X11_98 (cw_k Bh14.2.2 k0) rfl (by decide) rfl hl.1 rfl (Nat.le_of_ble_eq_true rfl) dX11_show_42 ⟨Nat.le_refl _, Nat.le_refl _⟩) (by decide) rfl (fun Hh15 Lh15 Bh15 => ?_)
          cases hf
          exact q_iret C Bh15 hr hlk ⟨rfl, rfl, Bh15.2.2⟩ dX11_show_45
        refine lv_ifnull hx hb dX11_show_32 (hp_n (n := 35) rfl ?_)
        refine lv_aload hx hb dX11_show_35 (lv_at hl 0 rfl) (hp_n (n := 37) rfl ?_)
        refine lv_ifnonnull (tgt := 46) hx hb dX11_show_37 (by decide) ?_
        refine lv_iload_n hx hb dX11_show_46 rfl (lv_at hl 5 rfl) (hp_n (n := 47) rfl ?_)
        refine lv_aload hx hb dX11_show_47 (lv_at hl 0 rfl) (hp_n (n := 49) rfl ?_)
        refine q_geti (κ := 3) (k := 2) (φ := 152) (pc' := 52) C Bh11 (cw_k Bh11.2.2 kbh11) fl_X11_167 rfl rfl rfl dX11_show_49 rfl (fun x16 ex16 => ?_)
        replace hf := ms_lE ex16 hf
        refine lv_icmp_le (tgt := 61) hx hb dX11_show_52 (by decide) (fun c17 => ?_) (fun c17 => hp_n (n := 55) rfl ?_)
        ·
          replace hf := ms_iT c17 hf
          refine lv_aload_n hx hb dX11_show_61 rfl (lv_at hl 2 rfl) (hp_n (n := 62) rfl ?_)
          refine lv_aload_n hx hb dX11_show_62 rfl (lv_at hl 2 rfl) (hp_n (n := 63) rfl ?_)
          refine q_getr (κ := 12) (k := 1) (φ := 601) (pc' := 66) C Bh11 (cw_k Bh11.2.2 k0) fl_X11_16 rfl rfl rfl (cw_r Bh11.2.2 k0 rfl rfl (by decide) (by decide)) dX11_show_63 rfl (fun b18 eb18 kb18 => ?_)
          replace hf := ms_lE eb18 hf
          refine lv_aload hx hb dX11_show_66 (lv_at hl 1 rfl) (hp_n (n := 68) rfl ?_)
          refine lv_aload hx hb dX11_show_68 (lv_at hl 0 rfl) (hp_n (n := 70) rfl ?_)
          refine lv_iload_n hx hb dX11_show_70 rfl (lv_at hl 5 rfl) (hp_n (n := 71) rfl ?_)
          obtain ⟨rh19, αh19, qh19, hf⟩ := hq_cE hf
          refine d_ci (pc' := 74) Bh11 (hp_runV (As := [va_rf (some bh3), .ref bh11, .int a3]) (rest := [.ref a0]) C Bh11 (n_X10_showTo n Γ l α Bh11.2.2.1 b18 (cw_k Bh11.2.2 kb18) (some bh3) (fun b h => by cases h; exact (cw_k Bh11.2.2 kbh3)) bh11 (cw_k Bh11.2.2 kbh11) a3 (rh19, αh19) qh19) lb_X10_showTo lv_X10_showTo lk_X11_247 (cw_k Bh11.2.2 kb18) rfl (by decide) rfl hl.1 rfl (Nat.le_of_ble_eq_true rfl) dX11_show_71 ⟨Nat.le_refl _, Nat.le_refl _⟩) (by decide) rfl (fun Hh19 Lh19 Bh19 => ?_)
          obtain ⟨rh20, αh20, qh20, hf⟩ := hq_cE hf
          refine d_ci (pc' := 77) Bh19 (hp_runV (As := [.int rh19]) (rest := []) C Bh19 (n_X11_answer n Γ l αh19 Bh19.2.2.1 a0 (cw_k Bh19.2.2 k0) rh19 (rh20, αh20) qh20) lb_X11_answer lv_X11_answer lk_X11_115 (cw_k Bh19.2.2 k0) rfl (by decide) rfl hl.1 rfl (Nat.le_of_ble_eq_true rfl) dX11_show_74 ⟨Nat.le_refl _, Nat.le_refl _⟩) (by decide) rfl (fun Hh20 Lh20 Bh20 => ?_)
          cases hf
          exact q_iret C Bh20 hr hlk ⟨rfl, rfl, Bh20.2.2⟩ dX11_show_77
        ·
          replace hf := ms_iF c17 hf
          refine lv_aload_n hx hb dX11_show_55 rfl (lv_at hl 2 rfl) (hp_n (n := 56) rfl ?_)
          refine lv_iconst (v := 5) hx hb dX11_show_56 (by decide) (hp_n (n := 57) rfl ?_)
          obtain ⟨rh21, αh21, qh21, hf⟩ := hq_cE hf
          refine d_ci (pc' := 60) Bh11 (hp_runV (As := [.int (5 : Int32)]) (rest := []) C Bh11 (n_X11_refuse n Γ l α Bh11.2.2.1 a0 (cw_k Bh11.2.2 k0) (5 : Int32) (rh21, αh21) qh21) lb_X11_refuse lv_X11_refuse lk_X11_98 (cw_k Bh11.2.2 k0) rfl (by decide) rfl hl.1 rfl (Nat.le_of_ble_eq_true rfl) dX11_show_57 ⟨Nat.le_refl _, Nat.le_refl _⟩) (by decide) rfl (fun Hh21 Lh21 Bh21 => ?_)
          cases hf
          exact q_iret C Bh21 hr hlk ⟨rfl, rfl, Bh21.2.2⟩ dX11_show_60
  ·
    replace hf := ms_iF c1 hf
    refine lv_aload_n hx hb dX11_show_4 rfl (lv_at hl 0 rfl) (hp_n (n := 5) rfl ?_)
    refine lv_iconst (v := 1) hx hb dX11_show_5 (by decide) (hp_n (n := 6) rfl ?_)
    obtain ⟨rh22, αh22, qh22, hf⟩ := hq_cE hf
    refine d_ci (pc' := 9) B (hp_runV (As := [.int (1 : Int32)]) (rest := []) C B (n_X11_refuse n Γ l α B.2.2.1 a0 (cw_k B.2.2 k0) (1 : Int32) (rh22, αh22) qh22) lb_X11_refuse lv_X11_refuse lk_X11_98 (cw_k B.2.2 k0) rfl (by decide) rfl hl.1 rfl (Nat.le_of_ble_eq_true rfl) dX11_show_6 ⟨Nat.le_refl _, Nat.le_refl _⟩) (by decide) rfl (fun Hh22 Lh22 Bh22 => ?_)
    cases hf
    exact q_iret C Bh22 hr hlk ⟨rfl, rfl, Bh22.2.2⟩ dX11_show_9
def f_X11_meet_J45 (n : Nat) (a0 : Nat) (αh7 : hp_T) : Option (Int32 × hp_T) :=
  hq_c (f_X11_refuse n αh7 a0 (2 : Int32)) fun rh8 αh8 =>
  some (rh8, αh8)
def f_X11_meet (n : Nat) (α : hp_T) (a0 : Nat) (a1 : Int32) (a2 : Int32) (a3 : Int32) : Option (Int32 × hp_T) :=
  ms_l (hp_R α 601 a0) fun b1 =>
  ms_b (f_X10_watcherAt n α b1 a1) fun rh2 =>
  hq_m rh2 (
    ms_l (hp_R α 601 a0) fun b3 =>
    ms_b (f_X10_watcherAt n α b3 a2) fun rh4 =>
    hq_m rh4 (
      ms_l (hp_R α 601 a0) fun b5 =>
      ms_b (f_X10_logAt n α b5 a3) fun rh6 =>
      hq_m rh6 (
        f_X11_meet_J45 n a0 α) fun bh6 =>
      f_X11_meet_J45 n a0 α) fun bh4 =>
    ms_l (hp_R α 601 a0) fun b11 =>
    ms_b (f_X10_logAt n α b11 a3) fun rh12 =>
    hq_m rh12 (
      f_X11_meet_J45 n a0 α) fun bh12 =>
    f_X11_meet_J45 n a0 α) fun bh2 =>
  ms_l (hp_R α 601 a0) fun b17 =>
  ms_b (f_X10_watcherAt n α b17 a2) fun rh18 =>
  hq_m rh18 (
    ms_l (hp_R α 601 a0) fun b19 =>
    ms_b (f_X10_logAt n α b19 a3) fun rh20 =>
    hq_m rh20 (
      f_X11_meet_J45 n a0 α) fun bh20 =>
    f_X11_meet_J45 n a0 α) fun bh18 =>
  ms_l (hp_R α 601 a0) fun b25 =>
  ms_b (f_X10_logAt n α b25 a3) fun rh26 =>
  hq_m rh26 (
    f_X11_meet_J45 n a0 α) fun bh26 =>
  ms_l (hp_R α 601 a0) fun b31 =>
  hq_c (f_X10_meetBy n α b31 bh2 bh18 bh26) fun rh32 αh32 =>
  hq_c (f_X11_answer n αh32 a0 rh32) fun rh33 αh33 =>
  some (rh33, αh33)
set_option maxRecDepth 100000 in
set_option maxHeartbeats 4000000 in
theorem n_X11_meet (n : Nat) (Γ : hp_G) (l : Launch) (α : hp_T) (g : GC α) (a0 : Nat) (k0 : hp_K α a0 = 12) (a1 : Int32) (a2 : Int32) (a3 : Int32) (res : (Int32 × hp_T)) (hf : f_X11_meet n α a0 a1 a2 a3 = some res) : Met l yX11_meet (hp_ws yX11_meet cX11_meet 7 (some .int)) (hp_rm 7 0 0) (hp_Pc Γ α [.ref a0, .int a1, .int a2, .int a3]) (hp_Qi Γ (fun r β => r = res.1 ∧ β = res.2 ∧ cw w_X11_meet α β)) 0 0 (hp_A Γ) := by
  unfold f_X11_meet at hf
  refine hp_start (by decide) ?_
  intro p e s m below meth c C hr hlk B0 hnm
  have C : hp_C Γ p m c cX11_meet 7 s ([.ref a0, .int a1, .int a2, .int a3] : List Value).toArray RX11 := C
  have hx := C.1.1
  have hb := C.1.2.1
  have hown := C.1.2.2.2.1
  have hts := C.1.2.2.2.2
  have B : hp_B Γ (cw w_X11_meet) s α α s.heap [] := ⟨B0.1, B0.2.1, cw_rf g⟩
  have hl := lv_entry ([.ref a0, .int a1, .int a2, .int a3]) (n := 7) (Nat.le_of_ble_eq_true rfl)
  show W p l e (hp_rm 7 0 0) s m ([.ref a0, .int a1, .int a2, .int a3] : List Value).toArray below meth c s.heap [] 0 0 (MQ below (hp_Qi Γ (fun r β => r = res.1 ∧ β = res.2 ∧ cw w_X11_meet α β)) ([.ref a0, .int a1, .int a2, .int a3] : List Value).toArray s 0 0 (hp_A Γ)) (entryFrame m ([.ref a0, .int a1, .int a2, .int a3] : List Value).toArray 7)
  rw [lg_entry_eq]
  generalize (lg_sl ([.ref a0, .int a1, .int a2, .int a3]) ++ List.replicate (7 - (lg_sl ([.ref a0, .int a1, .int a2, .int a3])).length) Slot.unset).toArray = ls at hl ⊢
  have hl : lv_has ls 7 [(0, .ref a0), (1, .int a1), (2, .int a2), (3, .int a3)] := hl
  refine lv_aload_n hx hb dX11_meet_0 rfl (lv_at hl 0 rfl) (hp_n (n := 1) rfl ?_)
  refine q_getr (κ := 12) (k := 1) (φ := 601) (pc' := 4) C B (cw_k B.2.2 k0) fl_X11_16 rfl rfl rfl (cw_r B.2.2 k0 rfl rfl (by decide) (by decide)) dX11_meet_1 rfl (fun b1 eb1 kb1 => ?_)
  replace hf := ms_lE eb1 hf
  refine lv_iload_n hx hb dX11_meet_4 rfl (lv_at hl 1 rfl) (hp_n (n := 5) rfl ?_)
  obtain ⟨rh2, qh2, hf⟩ := ms_bE hf
  refine d_pq (pc' := 8) B (hp_runV (As := [.int a1]) (rest := []) C B (n_X10_watcherAt n Γ l α B.2.2.1 b1 (cw_k B.2.2 kb1) a1 rh2 qh2) lb_X10_watcherAt lv_X10_watcherAt lk_X11_220 (cw_k B.2.2 kb1) rfl (by decide) rfl hl.1 rfl (Nat.le_of_ble_eq_true rfl) dX11_meet_5 ⟨Nat.le_refl _, Nat.le_refl _⟩) rfl (fun Hh2 Lh2 Bh2 kh2 => ?_)
  rcases rh2 with _ | bh2
  ·
    replace hf := hq_N hf
    refine lv_astoreN (lv' := [(4, .null), (0, .ref a0), (1, .int a1), (2, .int a2), (3, .int a3)]) hx hb dX11_meet_8 hl (by decide) rfl (fun ls hl => hp_n (n := 10) rfl ?_)
    refine lv_aload_n hx hb dX11_meet_10 rfl (lv_at hl 1 rfl) (hp_n (n := 11) rfl ?_)
    refine q_getr (κ := 12) (k := 1) (φ := 601) (pc' := 14) C Bh2 (cw_k Bh2.2.2 k0) fl_X11_16 rfl rfl rfl (cw_r Bh2.2.2 k0 rfl rfl (by decide) (by decide)) dX11_meet_11 rfl (fun b3 eb3 kb3 => ?_)
    replace hf := ms_lE eb3 hf
    refine lv_iload_n hx hb dX11_meet_14 rfl (lv_at hl 3 rfl) (hp_n (n := 15) rfl ?_)
    obtain ⟨rh4, qh4, hf⟩ := ms_bE hf
    refine d_pq (pc' := 18) Bh2 (hp_runV (As := [.int a2]) (rest := []) C Bh2 (n_X10_watcherAt n Γ l α Bh2.2.2.1 b3 (cw_k Bh2.2.2 kb3) a2 rh4 qh4) lb_X10_watcherAt lv_X10_watcherAt lk_X11_220 (cw_k Bh2.2.2 kb3) rfl (by decide) rfl hl.1 rfl (Nat.le_of_ble_eq_true rfl) dX11_meet_15 ⟨Nat.le_refl _, Nat.le_refl _⟩) rfl (fun Hh4 Lh4 Bh4 kh4 => ?_)
    rcases rh4 with _ | bh4
    ·
      replace hf := hq_N hf
      refine lv_astoreN (lv' := [(5, .null), (4, .null), (0, .ref a0), (1, .int a1), (2, .int a2), (3, .int a3)]) hx hb dX11_meet_18 hl (by decide) rfl (fun ls hl => hp_n (n := 20) rfl ?_)
      refine lv_aload_n hx hb dX11_meet_20 rfl (lv_at hl 2 rfl) (hp_n (n := 21) rfl ?_)
      refine q_getr (κ := 12) (k := 1) (φ := 601) (pc' := 24) C Bh4 (cw_k Bh4.2.2 k0) fl_X11_16 rfl rfl rfl (cw_r Bh4.2.2 k0 rfl rfl (by decide) (by decide)) dX11_meet_21 rfl (fun b5 eb5 kb5 => ?_)
      replace hf := ms_lE eb5 hf
      refine lv_iload_n hx hb dX11_meet_24 rfl (lv_at hl 5 rfl) (hp_n (n := 25) rfl ?_)
      obtain ⟨rh6, qh6, hf⟩ := ms_bE hf
      refine d_pq (pc' := 28) Bh4 (hp_runV (As := [.int a3]) (rest := []) C Bh4 (n_X10_logAt n Γ l α Bh4.2.2.1 b5 (cw_k Bh4.2.2 kb5) a3 rh6 qh6) lb_X10_logAt lv_X10_logAt lk_X11_163 (cw_k Bh4.2.2 kb5) rfl (by decide) rfl hl.1 rfl (Nat.le_of_ble_eq_true rfl) dX11_meet_25 ⟨Nat.le_refl _, Nat.le_refl _⟩) rfl (fun Hh6 Lh6 Bh6 kh6 => ?_)
      rcases rh6 with _ | bh6
      ·
        replace hf := hq_N hf
        refine lv_astoreN (lv' := [(6, .null), (5, .null), (4, .null), (0, .ref a0), (1, .int a1), (2, .int a2), (3, .int a3)]) hx hb dX11_meet_28 hl (by decide) rfl (fun ls hl => hp_n (n := 30) rfl ?_)
        refine lv_aloadN hx hb dX11_meet_30 (lv_at hl 2 rfl) (hp_n (n := 32) rfl ?_)
        have J45 : ∀ (αh7 : hp_T) (Hh7 : Heap) (Lh7 : List Loc) (Bh7 : hp_B Γ (cw w_X11_meet) s α αh7 Hh7 Lh7) (ls : Array Slot) (hl : lv_has ls 7 [(0, .ref a0)]) (hf : f_X11_meet_J45 n a0 αh7 = some res), W p l e (hp_rm 7 0 0) s m ([.ref a0, .int a1, .int a2, .int a3] : List Value).toArray below meth c Hh7 Lh7 0 0 (MQ below (hp_Qi Γ (fun r β => r = res.1 ∧ β = res.2 ∧ cw w_X11_meet α β)) ([.ref a0, .int a1, .int a2, .int a3] : List Value).toArray s 0 0 (hp_A Γ)) (F0 m 45 ls []) := by
          intro αh7 Hh7 Lh7 Bh7 ls hl hf
          unfold f_X11_meet_J45 at hf
          refine lv_aload_n hx hb dX11_meet_45 rfl (lv_at hl 0 rfl) (hp_n (n := 46) rfl ?_)
          refine lv_iconst (v := 2) hx hb dX11_meet_46 (by decide) (hp_n (n := 47) rfl ?_)
          obtain ⟨rh8, αh8, qh8, hf⟩ := hq_cE hf
          refine d_ci (pc' := 50) Bh7 (hp_runV (As := [.int (2 : Int32)]) (rest := []) C Bh7 (n_X11_refuse n Γ l αh7 Bh7.2.2.1 a0 (cw_k Bh7.2.2 k0) (2 : Int32) (rh8, αh8) qh8) lb_X11_refuse lv_X11_refuse lk_X11_98 (cw_k Bh7.2.2 k0) rfl (by decide) rfl hl.1 rfl (Nat.le_of_ble_eq_true rfl) dX11_meet_47 ⟨Nat.le_refl _, Nat.le_refl _⟩) (by decide) rfl (fun Hh8 Lh8 Bh8 => ?_)
          cases hf
          exact q_iret C Bh8 hr hlk ⟨rfl, rfl, Bh8.2.2⟩ dX11_meet_50
        refine lv_ifnullN (tgt := 45) hx hb dX11_meet_32 (by decide) ?_
        exact J45 α Hh6 Lh6 Bh6 ls (lv_sub hl [3] rfl) hf
      ·
        replace hf := hq_S hf
        have kbh6 := kh6 bh6 rfl
        refine lv_astore (lv' := [(6, .ref bh6), (5, .null), (4, .null), (0, .ref a0), (1, .int a1), (2, .int a2), (3, .int a3)]) hx hb dX11_meet_28 hl (by decide) rfl (fun ls hl => hp_n (n := 30) rfl ?_)
        refine lv_aloadN hx hb dX11_meet_30 (lv_at hl 2 rfl) (hp_n (n := 32) rfl ?_)
        have J45 : ∀ (αh9 : hp_T) (Hh9 : Heap) (Lh9 : List Loc) (Bh9 : hp_B Γ (cw w_X11_meet) s α αh9 Hh9 Lh9) (ls : Array Slot) (hl : lv_has ls 7 [(0, .ref a0)]) (hf : f_X11_meet_J45 n a0 αh9 = some res), W p l e (hp_rm 7 0 0) s m ([.ref a0, .int a1, .int a2, .int a3] : List Value).toArray below meth c Hh9 Lh9 0 0 (MQ below (hp_Qi Γ (fun r β => r = res.1 ∧ β = res.2 ∧ cw w_X11_meet α β)) ([.ref a0, .int a1, .int a2, .int a3] : List Value).toArray s 0 0 (hp_A Γ)) (F0 m 45 ls []) := by
          intro αh9 Hh9 Lh9 Bh9 ls hl hf
          unfold f_X11_meet_J45 at hf
          refine lv_aload_n hx hb dX11_meet_45 rfl (lv_at hl 0 rfl) (hp_n (n := 46) rfl ?_)
          refine lv_iconst (v := 2) hx hb dX11_meet_46 (by decide) (hp_n (n := 47) rfl ?_)
          obtain ⟨rh10, αh10, qh10, hf⟩ := hq_cE hf
          refine d_ci (pc' := 50) Bh9 (hp_runV (As := [.int (2 : Int32)]) (rest := []) C Bh9 (n_X11_refuse n Γ l αh9 Bh9.2.2.1 a0 (cw_k Bh9.2.2 k0) (2 : Int32) (rh10, αh10) qh10) lb_X11_refuse lv_X11_refuse lk_X11_98 (cw_k Bh9.2.2 k0) rfl (by decide) rfl hl.1 rfl (Nat.le_of_ble_eq_true rfl) dX11_meet_47 ⟨Nat.le_refl _, Nat.le_refl _⟩) (by decide) rfl (fun Hh10 Lh10 Bh10 => ?_)
          cases hf
          exact q_iret C Bh10 hr hlk ⟨rfl, rfl, Bh10.2.2⟩ dX11_meet_50
        refine lv_ifnullN (tgt := 45) hx hb dX11_meet_32 (by decide) ?_
        exact J45 α Hh6 Lh6 Bh6 ls (lv_sub hl [3] rfl) hf
    ·
      replace hf := hq_S hf
      have kbh4 := kh4 bh4 rfl
      refine lv_astore (lv' := [(5, .ref bh4), (4, .null), (0, .ref a0), (1, .int a1), (2, .int a2), (3, .int a3)]) hx hb dX11_meet_18 hl (by decide) rfl (fun ls hl => hp_n (n := 20) rfl ?_)
      refine lv_aload_n hx hb dX11_meet_20 rfl (lv_at hl 2 rfl) (hp_n (n := 21) rfl ?_)
      refine q_getr (κ := 12) (k := 1) (φ := 601) (pc' := 24) C Bh4 (cw_k Bh4.2.2 k0) fl_X11_16 rfl rfl rfl (cw_r Bh4.2.2 k0 rfl rfl (by decide) (by decide)) dX11_meet_21 rfl (fun b11 eb11 kb11 => ?_)
      replace hf := ms_lE eb11 hf
      refine lv_iload_n hx hb dX11_meet_24 rfl (lv_at hl 5 rfl) (hp_n (n := 25) rfl ?_)
      obtain ⟨rh12, qh12, hf⟩ := ms_bE hf
      refine d_pq (pc' := 28) Bh4 (hp_runV (As := [.int a3]) (rest := []) C Bh4 (n_X10_logAt n Γ l α Bh4.2.2.1 b11 (cw_k Bh4.2.2 kb11) a3 rh12 qh12) lb_X10_logAt lv_X10_logAt lk_X11_163 (cw_k Bh4.2.2 kb11) rfl (by decide) rfl hl.1 rfl (Nat.le_of_ble_eq_true rfl) dX11_meet_25 ⟨Nat.le_refl _, Nat.le_refl _⟩) rfl (fun Hh12 Lh12 Bh12 kh12 => ?_)
      rcases rh12 with _ | bh12
      ·
        replace hf := hq_N hf
        refine lv_astoreN (lv' := [(6, .null), (5, .ref bh4), (4, .null), (0, .ref a0), (1, .int a1), (2, .int a2), (3, .int a3)]) hx hb dX11_meet_28 hl (by decide) rfl (fun ls hl => hp_n (n := 30) rfl ?_)
        refine lv_aloadN hx hb dX11_meet_30 (lv_at hl 2 rfl) (hp_n (n := 32) rfl ?_)
        have J45 : ∀ (αh13 : hp_T) (Hh13 : Heap) (Lh13 : List Loc) (Bh13 : hp_B Γ (cw w_X11_meet) s α αh13 Hh13 Lh13) (ls : Array Slot) (hl : lv_has ls 7 [(0, .ref a0)]) (hf : f_X11_meet_J45 n a0 αh13 = some res), W p l e (hp_rm 7 0 0) s m ([.ref a0, .int a1, .int a2, .int a3] : List Value).toArray below meth c Hh13 Lh13 0 0 (MQ below (hp_Qi Γ (fun r β => r = res.1 ∧ β = res.2 ∧ cw w_X11_meet α β)) ([.ref a0, .int a1, .int a2, .int a3] : List Value).toArray s 0 0 (hp_A Γ)) (F0 m 45 ls []) := by
          intro αh13 Hh13 Lh13 Bh13 ls hl hf
          unfold f_X11_meet_J45 at hf
          refine lv_aload_n hx hb dX11_meet_45 rfl (lv_at hl 0 rfl) (hp_n (n := 46) rfl ?_)
          refine lv_iconst (v := 2) hx hb dX11_meet_46 (by decide) (hp_n (n := 47) rfl ?_)
          obtain ⟨rh14, αh14, qh14, hf⟩ := hq_cE hf
          refine d_ci (pc' := 50) Bh13 (hp_runV (As := [.int (2 : Int32)]) (rest := []) C Bh13 (n_X11_refuse n Γ l αh13 Bh13.2.2.1 a0 (cw_k Bh13.2.2 k0) (2 : Int32) (rh14, αh14) qh14) lb_X11_refuse lv_X11_refuse lk_X11_98 (cw_k Bh13.2.2 k0) rfl (by decide) rfl hl.1 rfl (Nat.le_of_ble_eq_true rfl) dX11_meet_47 ⟨Nat.le_refl _, Nat.le_refl _⟩) (by decide) rfl (fun Hh14 Lh14 Bh14 => ?_)
          cases hf
          exact q_iret C Bh14 hr hlk ⟨rfl, rfl, Bh14.2.2⟩ dX11_meet_50
        refine lv_ifnullN (tgt := 45) hx hb dX11_meet_32 (by decide) ?_
        exact J45 α Hh12 Lh12 Bh12 ls (lv_sub hl [3] rfl) hf
      ·
        replace hf := hq_S hf
        have kbh12 := kh12 bh12 rfl
        refine lv_astore (lv' := [(6, .ref bh12), (5, .ref bh4), (4, .null), (0, .ref a0), (1, .int a1), (2, .int a2), (3, .int a3)]) hx hb dX11_meet_28 hl (by decide) rfl (fun ls hl => hp_n (n := 30) rfl ?_)
        refine lv_aloadN hx hb dX11_meet_30 (lv_at hl 2 rfl) (hp_n (n := 32) rfl ?_)
        have J45 : ∀ (αh15 : hp_T) (Hh15 : Heap) (Lh15 : List Loc) (Bh15 : hp_B Γ (cw w_X11_meet) s α αh15 Hh15 Lh15) (ls : Array Slot) (hl : lv_has ls 7 [(0, .ref a0)]) (hf : f_X11_meet_J45 n a0 αh15 = some res), W p l e (hp_rm 7 0 0) s m ([.ref a0, .int a1, .int a2, .int a3] : List Value).toArray below meth c Hh15 Lh15 0 0 (MQ below (hp_Qi Γ (fun r β => r = res.1 ∧ β = res.2 ∧ cw w_X11_meet α β)) ([.ref a0, .int a1, .int a2, .int a3] : List Value).toArray s 0 0 (hp_A Γ)) (F0 m 45 ls []) := by
          intro αh15 Hh15 Lh15 Bh15 ls hl hf
          unfold f_X11_meet_J45 at hf
          refine lv_aload_n hx hb dX11_meet_45 rfl (lv_at hl 0 rfl) (hp_n (n := 46) rfl ?_)
          refine lv_iconst (v := 2) hx hb dX11_meet_46 (by decide) (hp_n (n := 47) rfl ?_)
          obtain ⟨rh16, αh16, qh16, hf⟩ := hq_cE hf
          refine d_ci (pc' := 50) Bh15 (hp_runV (As := [.int (2 : Int32)]) (rest := []) C Bh15 (n_X11_refuse n Γ l αh15 Bh15.2.2.1 a0 (cw_k Bh15.2.2 k0) (2 : Int32) (rh16, αh16) qh16) lb_X11_refuse lv_X11_refuse lk_X11_98 (cw_k Bh15.2.2 k0) rfl (by decide) rfl hl.1 rfl (Nat.le_of_ble_eq_true rfl) dX11_meet_47 ⟨Nat.le_refl _, Nat.le_refl _⟩) (by decide) rfl (fun Hh16 Lh16 Bh16 => ?_)
          cases hf
          exact q_iret C Bh16 hr hlk ⟨rfl, rfl, Bh16.2.2⟩ dX11_meet_50
        refine lv_ifnullN (tgt := 45) hx hb dX11_meet_32 (by decide) ?_
        exact J45 α Hh12 Lh12 Bh12 ls (lv_sub hl [3] rfl) hf
  ·
    replace hf := hq_S hf
    have kbh2 := kh2 bh2 rfl
    refine lv_astore (lv' := [(4, .ref bh2), (0, .ref a0), (1, .int a1), (2, .int a2), (3, .int a3)]) hx hb dX11_meet_8 hl (by decide) rfl (fun ls hl => hp_n (n := 10) rfl ?_)
    refine lv_aload_n hx hb dX11_meet_10 rfl (lv_at hl 1 rfl) (hp_n (n := 11) rfl ?_)
    refine q_getr (κ := 12) (k := 1) (φ := 601) (pc' := 14) C Bh2 (cw_k Bh2.2.2 k0) fl_X11_16 rfl rfl rfl (cw_r Bh2.2.2 k0 rfl rfl (by decide) (by decide)) dX11_meet_11 rfl (fun b17 eb17 kb17 => ?_)
    replace hf := ms_lE eb17 hf
    refine lv_iload_n hx hb dX11_meet_14 rfl (lv_at hl 3 rfl) (hp_n (n := 15) rfl ?_)
    obtain ⟨rh18, qh18, hf⟩ := ms_bE hf
    refine d_pq (pc' := 18) Bh2 (hp_runV (As := [.int a2]) (rest := []) C Bh2 (n_X10_watcherAt n Γ l α Bh2.2.2.1 b17 (cw_k Bh2.2.2 kb17) a2 rh18 qh18) lb_X10_watcherAt lv_X10_watcherAt lk_X11_220 (cw_k Bh2.2.2 kb17) rfl (by decide) rfl hl.1 rfl (Nat.le_of_ble_eq_true rfl) dX11_meet_15 ⟨Nat.le_refl _, Nat.le_refl _⟩) rfl (fun Hh18 Lh18 Bh18 kh18 => ?_)
    rcases rh18 with _ | bh18
    ·
      replace hf := hq_N hf
      refine lv_astoreN (lv' := [(5, .null), (4, .ref bh2), (0, .ref a0), (1, .int a1), (2, .int a2), (3, .int a3)]) hx hb dX11_meet_18 hl (by decide) rfl (fun ls hl => hp_n (n := 20) rfl ?_)
      refine lv_aload_n hx hb dX11_meet_20 rfl (lv_at hl 2 rfl) (hp_n (n := 21) rfl ?_)
      refine q_getr (κ := 12) (k := 1) (φ := 601) (pc' := 24) C Bh18 (cw_k Bh18.2.2 k0) fl_X11_16 rfl rfl rfl (cw_r Bh18.2.2 k0 rfl rfl (by decide) (by decide)) dX11_meet_21 rfl (fun b19 eb19 kb19 => ?_)
      replace hf := ms_lE eb19 hf
      refine lv_iload_n hx hb dX11_meet_24 rfl (lv_at hl 5 rfl) (hp_n (n := 25) rfl ?_)
      obtain ⟨rh20, qh20, hf⟩ := ms_bE hf
      refine d_pq (pc' := 28) Bh18 (hp_runV (As := [.int a3]) (rest := []) C Bh18 (n_X10_logAt n Γ l α Bh18.2.2.1 b19 (cw_k Bh18.2.2 kb19) a3 rh20 qh20) lb_X10_logAt lv_X10_logAt lk_X11_163 (cw_k Bh18.2.2 kb19) rfl (by decide) rfl hl.1 rfl (Nat.le_of_ble_eq_true rfl) dX11_meet_25 ⟨Nat.le_refl _, Nat.le_refl _⟩) rfl (fun Hh20 Lh20 Bh20 kh20 => ?_)
      rcases rh20 with _ | bh20
      ·
        replace hf := hq_N hf
        refine lv_astoreN (lv' := [(6, .null), (5, .null), (4, .ref bh2), (0, .ref a0), (1, .int a1), (2, .int a2), (3, .int a3)]) hx hb dX11_meet_28 hl (by decide) rfl (fun ls hl => hp_n (n := 30) rfl ?_)
        refine lv_aload hx hb dX11_meet_30 (lv_at hl 2 rfl) (hp_n (n := 32) rfl ?_)
        have J45 : ∀ (αh21 : hp_T) (Hh21 : Heap) (Lh21 : List Loc) (Bh21 : hp_B Γ (cw w_X11_meet) s α αh21 Hh21 Lh21) (ls : Array Slot) (hl : lv_has ls 7 [(0, .ref a0)]) (hf : f_X11_meet_J45 n a0 αh21 = some res), W p l e (hp_rm 7 0 0) s m ([.ref a0, .int a1, .int a2, .int a3] : List Value).toArray below meth c Hh21 Lh21 0 0 (MQ below (hp_Qi Γ (fun r β => r = res.1 ∧ β = res.2 ∧ cw w_X11_meet α β)) ([.ref a0, .int a1, .int a2, .int a3] : List Value).toArray s 0 0 (hp_A Γ)) (F0 m 45 ls []) := by
          intro αh21 Hh21 Lh21 Bh21 ls hl hf
          unfold f_X11_meet_J45 at hf
          refine lv_aload_n hx hb dX11_meet_45 rfl (lv_at hl 0 rfl) (hp_n (n := 46) rfl ?_)
          refine lv_iconst (v := 2) hx hb dX11_meet_46 (by decide) (hp_n (n := 47) rfl ?_)
          obtain ⟨rh22, αh22, qh22, hf⟩ := hq_cE hf
          refine d_ci (pc' := 50) Bh21 (hp_runV (As := [.int (2 : Int32)]) (rest := []) C Bh21 (n_X11_refuse n Γ l αh21 Bh21.2.2.1 a0 (cw_k Bh21.2.2 k0) (2 : Int32) (rh22, αh22) qh22) lb_X11_refuse lv_X11_refuse lk_X11_98 (cw_k Bh21.2.2 k0) rfl (by decide) rfl hl.1 rfl (Nat.le_of_ble_eq_true rfl) dX11_meet_47 ⟨Nat.le_refl _, Nat.le_refl _⟩) (by decide) rfl (fun Hh22 Lh22 Bh22 => ?_)
          cases hf
          exact q_iret C Bh22 hr hlk ⟨rfl, rfl, Bh22.2.2⟩ dX11_meet_50
        refine lv_ifnull hx hb dX11_meet_32 (hp_n (n := 35) rfl ?_)
        refine lv_aloadN hx hb dX11_meet_35 (lv_at hl 1 rfl) (hp_n (n := 37) rfl ?_)
        refine lv_ifnullN (tgt := 45) hx hb dX11_meet_37 (by decide) ?_
        exact J45 α Hh20 Lh20 Bh20 ls (lv_sub hl [3] rfl) hf
      ·
        replace hf := hq_S hf
        have kbh20 := kh20 bh20 rfl
        refine lv_astore (lv' := [(6, .ref bh20), (5, .null), (4, .ref bh2), (0, .ref a0), (1, .int a1), (2, .int a2), (3, .int a3)]) hx hb dX11_meet_28 hl (by decide) rfl (fun ls hl => hp_n (n := 30) rfl ?_)
        refine lv_aload hx hb dX11_meet_30 (lv_at hl 2 rfl) (hp_n (n := 32) rfl ?_)
        have J45 : ∀ (αh23 : hp_T) (Hh23 : Heap) (Lh23 : List Loc) (Bh23 : hp_B Γ (cw w_X11_meet) s α αh23 Hh23 Lh23) (ls : Array Slot) (hl : lv_has ls 7 [(0, .ref a0)]) (hf : f_X11_meet_J45 n a0 αh23 = some res), W p l e (hp_rm 7 0 0) s m ([.ref a0, .int a1, .int a2, .int a3] : List Value).toArray below meth c Hh23 Lh23 0 0 (MQ below (hp_Qi Γ (fun r β => r = res.1 ∧ β = res.2 ∧ cw w_X11_meet α β)) ([.ref a0, .int a1, .int a2, .int a3] : List Value).toArray s 0 0 (hp_A Γ)) (F0 m 45 ls []) := by
          intro αh23 Hh23 Lh23 Bh23 ls hl hf
          unfold f_X11_meet_J45 at hf
          refine lv_aload_n hx hb dX11_meet_45 rfl (lv_at hl 0 rfl) (hp_n (n := 46) rfl ?_)
          refine lv_iconst (v := 2) hx hb dX11_meet_46 (by decide) (hp_n (n := 47) rfl ?_)
          obtain ⟨rh24, αh24, qh24, hf⟩ := hq_cE hf
          refine d_ci (pc' := 50) Bh23 (hp_runV (As := [.int (2 : Int32)]) (rest := []) C Bh23 (n_X11_refuse n Γ l αh23 Bh23.2.2.1 a0 (cw_k Bh23.2.2 k0) (2 : Int32) (rh24, αh24) qh24) lb_X11_refuse lv_X11_refuse lk_X11_98 (cw_k Bh23.2.2 k0) rfl (by decide) rfl hl.1 rfl (Nat.le_of_ble_eq_true rfl) dX11_meet_47 ⟨Nat.le_refl _, Nat.le_refl _⟩) (by decide) rfl (fun Hh24 Lh24 Bh24 => ?_)
          cases hf
          exact q_iret C Bh24 hr hlk ⟨rfl, rfl, Bh24.2.2⟩ dX11_meet_50
        refine lv_ifnull hx hb dX11_meet_32 (hp_n (n := 35) rfl ?_)
        refine lv_aloadN hx hb dX11_meet_35 (lv_at hl 1 rfl) (hp_n (n := 37) rfl ?_)
        refine lv_ifnullN (tgt := 45) hx hb dX11_meet_37 (by decide) ?_
        exact J45 α Hh20 Lh20 Bh20 ls (lv_sub hl [3] rfl) hf
    ·
      replace hf := hq_S hf
      have kbh18 := kh18 bh18 rfl
      refine lv_astore (lv' := [(5, .ref bh18), (4, .ref bh2), (0, .ref a0), (1, .int a1), (2, .int a2), (3, .int a3)]) hx hb dX11_meet_18 hl (by decide) rfl (fun ls hl => hp_n (n := 20) rfl ?_)
      refine lv_aload_n hx hb dX11_meet_20 rfl (lv_at hl 2 rfl) (hp_n (n := 21) rfl ?_)
      refine q_getr (κ := 12) (k := 1) (φ := 601) (pc' := 24) C Bh18 (cw_k Bh18.2.2 k0) fl_X11_16 rfl rfl rfl (cw_r Bh18.2.2 k0 rfl rfl (by decide) (by decide)) dX11_meet_21 rfl (fun b25 eb25 kb25 => ?_)
      replace hf := ms_lE eb25 hf
      refine lv_iload_n hx hb dX11_meet_24 rfl (lv_at hl 5 rfl) (hp_n (n := 25) rfl ?_)
      obtain ⟨rh26, qh26, hf⟩ := ms_bE hf
      refine d_pq (pc' := 28) Bh18 (hp_runV (As := [.int a3]) (rest := []) C Bh18 (n_X10_logAt n Γ l α Bh18.2.2.1 b25 (cw_k Bh18.2.2 kb25) a3 rh26 qh26) lb_X10_logAt lv_X10_logAt lk_X11_163 (cw_k Bh18.2.2 kb25) rfl (by decide) rfl hl.1 rfl (Nat.le_of_ble_eq_true rfl) dX11_meet_25 ⟨Nat.le_refl _, Nat.le_refl _⟩) rfl (fun Hh26 Lh26 Bh26 kh26 => ?_)
      rcases rh26 with _ | bh26
      ·
        replace hf := hq_N hf
        refine lv_astoreN (lv' := [(6, .null), (5, .ref bh18), (4, .ref bh2), (0, .ref a0), (1, .int a1), (2, .int a2), (3, .int a3)]) hx hb dX11_meet_28 hl (by decide) rfl (fun ls hl => hp_n (n := 30) rfl ?_)
        refine lv_aload hx hb dX11_meet_30 (lv_at hl 2 rfl) (hp_n (n := 32) rfl ?_)
        have J45 : ∀ (αh27 : hp_T) (Hh27 : Heap) (Lh27 : List Loc) (Bh27 : hp_B Γ (cw w_X11_meet) s α αh27 Hh27 Lh27) (ls : Array Slot) (hl : lv_has ls 7 [(0, .ref a0)]) (hf : f_X11_meet_J45 n a0 αh27 = some res), W p l e (hp_rm 7 0 0) s m ([.ref a0, .int a1, .int a2, .int a3] : List Value).toArray below meth c Hh27 Lh27 0 0 (MQ below (hp_Qi Γ (fun r β => r = res.1 ∧ β = res.2 ∧ cw w_X11_meet α β)) ([.ref a0, .int a1, .int a2, .int a3] : List Value).toArray s 0 0 (hp_A Γ)) (F0 m 45 ls []) := by
          intro αh27 Hh27 Lh27 Bh27 ls hl hf
          unfold f_X11_meet_J45 at hf
          refine lv_aload_n hx hb dX11_meet_45 rfl (lv_at hl 0 rfl) (hp_n (n := 46) rfl ?_)
          refine lv_iconst (v := 2) hx hb dX11_meet_46 (by decide) (hp_n (n := 47) rfl ?_)
          obtain ⟨rh28, αh28, qh28, hf⟩ := hq_cE hf
          refine d_ci (pc' := 50) Bh27 (hp_runV (As := [.int (2 : Int32)]) (rest := []) C Bh27 (n_X11_refuse n Γ l αh27 Bh27.2.2.1 a0 (cw_k Bh27.2.2 k0) (2 : Int32) (rh28, αh28) qh28) lb_X11_refuse lv_X11_refuse lk_X11_98 (cw_k Bh27.2.2 k0) rfl (by decide) rfl hl.1 rfl (Nat.le_of_ble_eq_true rfl) dX11_meet_47 ⟨Nat.le_refl _, Nat.le_refl _⟩) (by decide) rfl (fun Hh28 Lh28 Bh28 => ?_)
          cases hf
          exact q_iret C Bh28 hr hlk ⟨rfl, rfl, Bh28.2.2⟩ dX11_meet_50
        refine lv_ifnull hx hb dX11_meet_32 (hp_n (n := 35) rfl ?_)
        refine lv_aload hx hb dX11_meet_35 (lv_at hl 1 rfl) (hp_n (n := 37) rfl ?_)
        refine lv_ifnull hx hb dX11_meet_37 (hp_n (n := 40) rfl ?_)
        refine lv_aloadN hx hb dX11_meet_40 (lv_at hl 0 rfl) (hp_n (n := 42) rfl ?_)
        refine lv_ifnonnullN hx hb dX11_meet_42 (hp_n (n := 45) rfl ?_)
        exact J45 α Hh26 Lh26 Bh26 ls (lv_sub hl [3] rfl) hf
      ·
        replace hf := hq_S hf
        have kbh26 := kh26 bh26 rfl
        refine lv_astore (lv' := [(6, .ref bh26), (5, .ref bh18), (4, .ref bh2), (0, .ref a0), (1, .int a1), (2, .int a2), (3, .int a3)]) hx hb dX11_meet_28 hl (by decide) rfl (fun ls hl => hp_n (n := 30) rfl ?_)
        refine lv_aload hx hb dX11_meet_30 (lv_at hl 2 rfl) (hp_n (n := 32) rfl ?_)
        have J45 : ∀ (αh29 : hp_T) (Hh29 : Heap) (Lh29 : List Loc) (Bh29 : hp_B Γ (cw w_X11_meet) s α αh29 Hh29 Lh29) (ls : Array Slot) (hl : lv_has ls 7 [(0, .ref a0)]) (hf : f_X11_meet_J45 n a0 αh29 = some res), W p l e (hp_rm 7 0 0) s m ([.ref a0, .int a1, .int a2, .int a3] : List Value).toArray below meth c Hh29 Lh29 0 0 (MQ below (hp_Qi Γ (fun r β => r = res.1 ∧ β = res.2 ∧ cw w_X11_meet α β)) ([.ref a0, .int a1, .int a2, .int a3] : List Value).toArray s 0 0 (hp_A Γ)) (F0 m 45 ls []) := by
          intro αh29 Hh29 Lh29 Bh29 ls hl hf
          unfold f_X11_meet_J45 at hf
          refine lv_aload_n hx hb dX11_meet_45 rfl (lv_at hl 0 rfl) (hp_n (n := 46) rfl ?_)
          refine lv_iconst (v := 2) hx hb dX11_meet_46 (by decide) (hp_n (n := 47) rfl ?_)
          obtain ⟨rh30, αh30, qh30, hf⟩ := hq_cE hf
          refine d_ci (pc' := 50) Bh29 (hp_runV (As := [.int (2 : Int32)]) (rest := []) C Bh29 (n_X11_refuse n Γ l αh29 Bh29.2.2.1 a0 (cw_k Bh29.2.2 k0) (2 : Int32) (rh30, αh30) qh30) lb_X11_refuse lv_X11_refuse lk_X11_98 (cw_k Bh29.2.2 k0) rfl (by decide) rfl hl.1 rfl (Nat.le_of_ble_eq_true rfl) dX11_meet_47 ⟨Nat.le_refl _, Nat.le_refl _⟩) (by decide) rfl (fun Hh30 Lh30 Bh30 => ?_)
          cases hf
          exact q_iret C Bh30 hr hlk ⟨rfl, rfl, Bh30.2.2⟩ dX11_meet_50
        refine lv_ifnull hx hb dX11_meet_32 (hp_n (n := 35) rfl ?_)
        refine lv_aload hx hb dX11_meet_35 (lv_at hl 1 rfl) (hp_n (n := 37) rfl ?_)
        refine lv_ifnull hx hb dX11_meet_37 (hp_n (n := 40) rfl ?_)
        refine lv_aload hx hb dX11_meet_40 (lv_at hl 0 rfl) (hp_n (n := 42) rfl ?_)
        refine lv_ifnonnull (tgt := 51) hx hb dX11_meet_42 (by decide) ?_
        refine lv_aload_n hx hb dX11_meet_51 rfl (lv_at hl 3 rfl) (hp_n (n := 52) rfl ?_)
        refine lv_aload_n hx hb dX11_meet_52 rfl (lv_at hl 3 rfl) (hp_n (n := 53) rfl ?_)
        refine q_getr (κ := 12) (k := 1) (φ := 601) (pc' := 56) C Bh26 (cw_k Bh26.2.2 k0) fl_X11_16 rfl rfl rfl (cw_r Bh26.2.2 k0 rfl rfl (by decide) (by decide)) dX11_meet_53 rfl (fun b31 eb31 kb31 => ?_)
        replace hf := ms_lE eb31 hf
        refine lv_aload hx hb dX11_meet_56 (lv_at hl 2 rfl) (hp_n (n := 58) rfl ?_)
        refine lv_aload hx hb dX11_meet_58 (lv_at hl 1 rfl) (hp_n (n := 60) rfl ?_)
        refine lv_aload hx hb dX11_meet_60 (lv_at hl 0 rfl) (hp_n (n := 62) rfl ?_)
        obtain ⟨rh32, αh32, qh32, hf⟩ := hq_cE hf
        refine d_ci (pc' := 65) Bh26 (hp_runV (As := [.ref bh2, .ref bh18, .ref bh26]) (rest := [.ref a0]) C Bh26 (n_X10_meetBy n Γ l α Bh26.2.2.1 b31 (cw_k Bh26.2.2 kb31) bh2 (cw_k Bh26.2.2 kbh2) bh18 (cw_k Bh26.2.2 kbh18) bh26 (cw_k Bh26.2.2 kbh26) (rh32, αh32) qh32) lb_X10_meetBy lv_X10_meetBy lk_X11_251 (cw_k Bh26.2.2 kb31) rfl (by decide) rfl hl.1 rfl (Nat.le_of_ble_eq_true rfl) dX11_meet_62 ⟨Nat.le_refl _, Nat.le_refl _⟩) (by decide) rfl (fun Hh32 Lh32 Bh32 => ?_)
        obtain ⟨rh33, αh33, qh33, hf⟩ := hq_cE hf
        refine d_ci (pc' := 68) Bh32 (hp_runV (As := [.int rh32]) (rest := []) C Bh32 (n_X11_answer n Γ l αh32 Bh32.2.2.1 a0 (cw_k Bh32.2.2 k0) rh32 (rh33, αh33) qh33) lb_X11_answer lv_X11_answer lk_X11_115 (cw_k Bh32.2.2 k0) rfl (by decide) rfl hl.1 rfl (Nat.le_of_ble_eq_true rfl) dX11_meet_65 ⟨Nat.le_refl _, Nat.le_refl _⟩) (by decide) rfl (fun Hh33 Lh33 Bh33 => ?_)
        cases hf
        exact q_iret C Bh33 hr hlk ⟨rfl, rfl, Bh33.2.2⟩ dX11_meet_68
def f_X11_spoil_J21 (n : Nat) (a0 : Nat) (αh1 : hp_T) : Option (Int32 × hp_T) :=
  hq_c (f_X11_refuse n αh1 a0 (1 : Int32)) fun rh2 αh2 =>
  some (rh2, αh2)
def f_X11_spoil_J81 (n : Nat) (a0 : Nat) (αh11 : hp_T) : Option (Int32 × hp_T) :=
  hq_c (f_X11_refuse n αh11 a0 (5 : Int32)) fun rh12 αh12 =>
  some (rh12, αh12)
def f_X11_spoil (n : Nat) (α : hp_T) (a0 : Nat) (a1 : Int32) (a2 : Int32) (a3 : Int32) (a4 : Int32) : Option (Int32 × hp_T) :=
  if a4 < (1 : Int32) then
    f_X11_spoil_J21 n a0 α
  else
    if (26 : Int32) < a4 then
      f_X11_spoil_J21 n a0 α
    else
      if a2 < 0 then
        f_X11_spoil_J21 n a0 α
      else
        if 0 ≤ a3 then
          ms_l (hp_R α 601 a0) fun b7 =>
          ms_b (f_X10_logAt n α b7 a1) fun rh8 =>
          hq_m rh8 (
            hq_c (f_X11_refuse n α a0 (2 : Int32)) fun rh9 αh9 =>
            some (rh9, αh9)) fun bh8 =>
          ms_b (f_X2_wordAt n α bh8 a2) fun rh10 =>
          hq_m rh10 (
            f_X11_spoil_J81 n a0 α) fun bh10 =>
          ms_l (hp_I α 501 bh10) fun x15 =>
          if x15 ≤ a3 then
            f_X11_spoil_J81 n a0 α
          else
            ms_b (f_X9_letterAt n α bh10 a3) fun rh17 =>
            if rh17 = a4 then
              f_X11_spoil_J81 n a0 α
            else
              ms_b (f_X9_letterAt n α bh10 a3) fun rh19 =>
              ms_l (hp_R α 601 a0) fun b20 =>
              ms_b (f_X10_spoilLetter n α b20 bh8 a2 a3 a4) fun αh21 =>
              hq_c (f_X11_answer n αh21 a0 rh19) fun rh22 αh22 =>
              some (rh22, αh22)
        else
          f_X11_spoil_J21 n a0 α
set_option maxRecDepth 100000 in
set_option maxHeartbeats 4000000 in
theorem n_X11_spoil (n : Nat) (Γ : hp_G) (l : Launch) (α : hp_T) (g : GC α) (a0 : Nat) (k0 : hp_K α a0 = 12) (a1 : Int32) (a2 : Int32) (a3 : Int32) (a4 : Int32) (res : (Int32 × hp_T)) (hf : f_X11_spoil n α a0 a1 a2 a3 a4 = some res) : Met l yX11_spoil (hp_ws yX11_spoil cX11_spoil 8 (some .int)) (hp_rm 4 0 0) (hp_Pc Γ α [.ref a0, .int a1, .int a2, .int a3, .int a4]) (hp_Qi Γ (fun r β => r = res.1 ∧ β = res.2 ∧ cw w_X11_spoil α β)) 0 0 (hp_A Γ) := by
  unfold f_X11_spoil at hf
  refine hp_start (by decide) ?_
  intro p e s m below meth c C hr hlk B0 hnm
  have C : hp_C Γ p m c cX11_spoil 8 s ([.ref a0, .int a1, .int a2, .int a3, .int a4] : List Value).toArray RX11 := C
  have hx := C.1.1
  have hb := C.1.2.1
  have hown := C.1.2.2.2.1
  have hts := C.1.2.2.2.2
  have B : hp_B Γ (cw w_X11_spoil) s α α s.heap [] := ⟨B0.1, B0.2.1, cw_rf g⟩
  have hl := lv_entry ([.ref a0, .int a1, .int a2, .int a3, .int a4]) (n := 8) (Nat.le_of_ble_eq_true rfl)
  show W p l e (hp_rm 4 0 0) s m ([.ref a0, .int a1, .int a2, .int a3, .int a4] : List Value).toArray below meth c s.heap [] 0 0 (MQ below (hp_Qi Γ (fun r β => r = res.1 ∧ β = res.2 ∧ cw w_X11_spoil α β)) ([.ref a0, .int a1, .int a2, .int a3, .int a4] : List Value).toArray s 0 0 (hp_A Γ)) (entryFrame m ([.ref a0, .int a1, .int a2, .int a3, .int a4] : List Value).toArray 8)
  rw [lg_entry_eq]
  generalize (lg_sl ([.ref a0, .int a1, .int a2, .int a3, .int a4]) ++ List.replicate (8 - (lg_sl ([.ref a0, .int a1, .int a2, .int a3, .int a4])).length) Slot.unset).toArray = ls at hl ⊢
  have hl : lv_has ls 8 [(0, .ref a0), (1, .int a1), (2, .int a2), (3, .int a3), (4, .int a4)] := hl
  refine lv_iload hx hb dX11_spoil_0 (lv_at hl 4 rfl) (hp_n (n := 2) rfl ?_)
  refine lv_iconst (v := 1) hx hb dX11_spoil_2 (by decide) (hp_n (n := 3) rfl ?_)
  have J21 : ∀ (αh1 : hp_T) (Hh1 : Heap) (Lh1 : List Loc) (Bh1 : hp_B Γ (cw w_X11_spoil) s α αh1 Hh1 Lh1) (ls : Array Slot) (hl : lv_has ls 8 [(0, .ref a0)]) (hf : f_X11_spoil_J21 n a0 αh1 = some res), W p l e (hp_rm 4 0 0) s m ([.ref a0, .int a1, .int a2, .int a3, .int a4] : List Value).toArray below meth c Hh1 Lh1 0 0 (MQ below (hp_Qi Γ (fun r β => r = res.1 ∧ β = res.2 ∧ cw w_X11_spoil α β)) ([.ref a0, .int a1, .int a2, .int a3, .int a4] : List Value).toArray s 0 0 (hp_A Γ)) (F0 m 21 ls []) := by
    intro αh1 Hh1 Lh1 Bh1 ls hl hf
    unfold f_X11_spoil_J21 at hf
    refine lv_aload_n hx hb dX11_spoil_21 rfl (lv_at hl 0 rfl) (hp_n (n := 22) rfl ?_)
    refine lv_iconst (v := 1) hx hb dX11_spoil_22 (by decide) (hp_n (n := 23) rfl ?_)
    obtain ⟨rh2, αh2, qh2, hf⟩ := hq_cE hf
    refine d_ci (pc' := 26) Bh1 (hp_runV (As := [.int (1 : Int32)]) (rest := []) C Bh1 (n_X11_refuse n Γ l αh1 Bh1.2.2.1 a0 (cw_k Bh1.2.2 k0) (1 : Int32) (rh2, αh2) qh2) lb_X11_refuse lv_X11_refuse lk_X11_98 (cw_k Bh1.2.2 k0) rfl (by decide) rfl hl.1 rfl (Nat.le_of_ble_eq_true rfl) dX11_spoil_23 ⟨Nat.le_refl _, Nat.le_refl _⟩) (by decide) rfl (fun Hh2 Lh2 Bh2 => ?_)
    cases hf
    exact q_iret C Bh2 hr hlk ⟨rfl, rfl, Bh2.2.2⟩ dX11_spoil_26
  refine lv_icmp_lt (tgt := 21) hx hb dX11_spoil_3 (by decide) (fun c3 => ?_) (fun c3 => hp_n (n := 6) rfl ?_)
  ·
    replace hf := ms_iT c3 hf
    exact J21 α s.heap [] B ls (lv_sub hl [0] rfl) hf
  ·
    replace hf := ms_iF c3 hf
    refine lv_iload hx hb dX11_spoil_6 (lv_at hl 4 rfl) (hp_n (n := 8) rfl ?_)
    refine lv_bipush (v := 26) hx hb dX11_spoil_8 (by decide) (hp_n (n := 10) rfl ?_)
    refine lv_icmp_gt (tgt := 21) hx hb dX11_spoil_10 (by decide) (fun c4 => ?_) (fun c4 => hp_n (n := 13) rfl ?_)
    ·
      replace hf := ms_iT c4 hf
      exact J21 α s.heap [] B ls (lv_sub hl [0] rfl) hf
    ·
      replace hf := ms_iF c4 hf
      refine lv_iload_n hx hb dX11_spoil_13 rfl (lv_at hl 2 rfl) (hp_n (n := 14) rfl ?_)
      refine lv_if_lt (tgt := 21) hx hb dX11_spoil_14 (by decide) (fun c5 => ?_) (fun c5 => hp_n (n := 17) rfl ?_)
      ·
        replace hf := ms_iT c5 hf
        exact J21 α s.heap [] B ls (lv_sub hl [0] rfl) hf
      ·
        replace hf := ms_iF c5 hf
        refine lv_iload_n hx hb dX11_spoil_17 rfl (lv_at hl 3 rfl) (hp_n (n := 18) rfl ?_)
        refine lv_if_ge (tgt := 27) hx hb dX11_spoil_18 (by decide) (fun c6 => ?_) (fun c6 => hp_n (n := 21) rfl ?_)
        ·
          replace hf := ms_iT c6 hf
          refine lv_aload_n hx hb dX11_spoil_27 rfl (lv_at hl 0 rfl) (hp_n (n := 28) rfl ?_)
          refine q_getr (κ := 12) (k := 1) (φ := 601) (pc' := 31) C B (cw_k B.2.2 k0) fl_X11_16 rfl rfl rfl (cw_r B.2.2 k0 rfl rfl (by decide) (by decide)) dX11_spoil_28 rfl (fun b7 eb7 kb7 => ?_)
          replace hf := ms_lE eb7 hf
          refine lv_iload_n hx hb dX11_spoil_31 rfl (lv_at hl 1 rfl) (hp_n (n := 32) rfl ?_)
          obtain ⟨rh8, qh8, hf⟩ := ms_bE hf
          refine d_pq (pc' := 35) B (hp_runV (As := [.int a1]) (rest := []) C B (n_X10_logAt n Γ l α B.2.2.1 b7 (cw_k B.2.2 kb7) a1 rh8 qh8) lb_X10_logAt lv_X10_logAt lk_X11_163 (cw_k B.2.2 kb7) rfl (by decide) rfl hl.1 rfl (Nat.le_of_ble_eq_true rfl) dX11_spoil_32 ⟨Nat.le_refl _, Nat.le_refl _⟩) rfl (fun Hh8 Lh8 Bh8 kh8 => ?_)
          rcases rh8 with _ | bh8
          ·
            replace hf := hq_N hf
            refine lv_astoreN (lv' := [(5, .null), (0, .ref a0), (1, .int a1), (2, .int a2), (3, .int a3), (4, .int a4)]) hx hb dX11_spoil_35 hl (by decide) rfl (fun ls hl => hp_n (n := 37) rfl ?_)
            refine lv_aloadN hx hb dX11_spoil_37 (lv_at hl 0 rfl) (hp_n (n := 39) rfl ?_)
            refine lv_ifnonnullN hx hb dX11_spoil_39 (hp_n (n := 42) rfl ?_)
            refine lv_aload_n hx hb dX11_spoil_42 rfl (lv_at hl 1 rfl) (hp_n (n := 43) rfl ?_)
            refine lv_iconst (v := 2) hx hb dX11_spoil_43 (by decide) (hp_n (n := 44) rfl ?_)
            obtain ⟨rh9, αh9, qh9, hf⟩ := hq_cE hf
            refine d_ci (pc' := 47) Bh8 (hp_runV (As := [.int (2 : Int32)]) (rest := []) C Bh8 (n_X11_refuse n Γ l α Bh8.2.2.1 a0 (cw_k Bh8.2.2 k0) (2 : Int32) (rh9, αh9) qh9) lb_X11_refuse lv_X11_refuse lk_X11_98 (cw_k Bh8.2.2 k0) rfl (by decide) rfl hl.1 rfl (Nat.le_of_ble_eq_true rfl) dX11_spoil_44 ⟨Nat.le_refl _, Nat.le_refl _⟩) (by decide) rfl (fun Hh9 Lh9 Bh9 => ?_)
            cases hf
            exact q_iret C Bh9 hr hlk ⟨rfl, rfl, Bh9.2.2⟩ dX11_spoil_47
          ·
            replace hf := hq_S hf
            have kbh8 := kh8 bh8 rfl
            refine lv_astore (lv' := [(5, .ref bh8), (0, .ref a0), (1, .int a1), (2, .int a2), (3, .int a3), (4, .int a4)]) hx hb dX11_spoil_35 hl (by decide) rfl (fun ls hl => hp_n (n := 37) rfl ?_)
            refine lv_aload hx hb dX11_spoil_37 (lv_at hl 0 rfl) (hp_n (n := 39) rfl ?_)
            refine lv_ifnonnull (tgt := 48) hx hb dX11_spoil_39 (by decide) ?_
            refine lv_aload hx hb dX11_spoil_48 (lv_at hl 0 rfl) (hp_n (n := 50) rfl ?_)
            refine lv_iload_n hx hb dX11_spoil_50 rfl (lv_at hl 3 rfl) (hp_n (n := 51) rfl ?_)
            obtain ⟨rh10, qh10, hf⟩ := ms_bE hf
            refine d_pq (pc' := 54) Bh8 (hp_runV (As := [.int a2]) (rest := []) C Bh8 (n_X2_wordAt n Γ l α Bh8.2.2.1 bh8 (cw_k Bh8.2.2 kbh8) a2 rh10 qh10) lb_X2_wordAt lv_X2_wordAt lk_X11_170 (cw_k Bh8.2.2 kbh8) rfl (by decide) rfl hl.1 rfl (Nat.le_of_ble_eq_true rfl) dX11_spoil_51 ⟨Nat.le_refl _, Nat.le_refl _⟩) rfl (fun Hh10 Lh10 Bh10 kh10 => ?_)
            rcases rh10 with _ | bh10
            ·
              replace hf := hq_N hf
              refine lv_astoreN (lv' := [(6, .null), (5, .ref bh8), (0, .ref a0), (1, .int a1), (2, .int a2), (3, .int a3), (4, .int a4)]) hx hb dX11_spoil_54 hl (by decide) rfl (fun ls hl => hp_n (n := 56) rfl ?_)
              refine lv_aloadN hx hb dX11_spoil_56 (lv_at hl 0 rfl) (hp_n (n := 58) rfl ?_)
              have J81 : ∀ (αh11 : hp_T) (Hh11 : Heap) (Lh11 : List Loc) (Bh11 : hp_B Γ (cw w_X11_spoil) s α αh11 Hh11 Lh11) (ls : Array Slot) (hl : lv_has ls 8 [(0, .ref a0)]) (hf : f_X11_spoil_J81 n a0 αh11 = some res), W p l e (hp_rm 4 0 0) s m ([.ref a0, .int a1, .int a2, .int a3, .int a4] : List Value).toArray below meth c Hh11 Lh11 0 0 (MQ below (hp_Qi Γ (fun r β => r = res.1 ∧ β = res.2 ∧ cw w_X11_spoil α β)) ([.ref a0, .int a1, .int a2, .int a3, .int a4] : List Value).toArray s 0 0 (hp_A Γ)) (F0 m 81 ls []) := by
                intro αh11 Hh11 Lh11 Bh11 ls hl hf
                unfold f_X11_spoil_J81 at hf
                refine lv_aload_n hx hb dX11_spoil_81 rfl (lv_at hl 0 rfl) (hp_n (n := 82) rfl ?_)
                refine lv_iconst (v := 5) hx hb dX11_spoil_82 (by decide) (hp_n (n := 83) rfl ?_)
                obtain ⟨rh12, αh12, qh12, hf⟩ := hq_cE hf
                refine d_ci (pc' := 86) Bh11 (hp_runV (As := [.int (5 : Int32)]) (rest := []) C Bh11 (n_X11_refuse n Γ l αh11 Bh11.2.2.1 a0 (cw_k Bh11.2.2 k0) (5 : Int32) (rh12, αh12) qh12) lb_X11_refuse lv_X11_refuse lk_X11_98 (cw_k Bh11.2.2 k0) rfl (by decide) rfl hl.1 rfl (Nat.le_of_ble_eq_true rfl) dX11_spoil_83 ⟨Nat.le_refl _, Nat.le_refl _⟩) (by decide) rfl (fun Hh12 Lh12 Bh12 => ?_)
                cases hf
                exact q_iret C Bh12 hr hlk ⟨rfl, rfl, Bh12.2.2⟩ dX11_spoil_86
              refine lv_ifnullN (tgt := 81) hx hb dX11_spoil_58 (by decide) ?_
              exact J81 α Hh10 Lh10 Bh10 ls (lv_sub hl [2] rfl) hf
            ·
              replace hf := hq_S hf
              have kbh10 := kh10 bh10 rfl
              refine lv_astore (lv' := [(6, .ref bh10), (5, .ref bh8), (0, .ref a0), (1, .int a1), (2, .int a2), (3, .int a3), (4, .int a4)]) hx hb dX11_spoil_54 hl (by decide) rfl (fun ls hl => hp_n (n := 56) rfl ?_)
              refine lv_aload hx hb dX11_spoil_56 (lv_at hl 0 rfl) (hp_n (n := 58) rfl ?_)
              have J81 : ∀ (αh13 : hp_T) (Hh13 : Heap) (Lh13 : List Loc) (Bh13 : hp_B Γ (cw w_X11_spoil) s α αh13 Hh13 Lh13) (ls : Array Slot) (hl : lv_has ls 8 [(0, .ref a0)]) (hf : f_X11_spoil_J81 n a0 αh13 = some res), W p l e (hp_rm 4 0 0) s m ([.ref a0, .int a1, .int a2, .int a3, .int a4] : List Value).toArray below meth c Hh13 Lh13 0 0 (MQ below (hp_Qi Γ (fun r β => r = res.1 ∧ β = res.2 ∧ cw w_X11_spoil α β)) ([.ref a0, .int a1, .int a2, .int a3, .int a4] : List Value).toArray s 0 0 (hp_A Γ)) (F0 m 81 ls []) := by
                intro αh13 Hh13 Lh13 Bh13 ls hl hf
                unfold f_X11_spoil_J81 at hf
                refine lv_aload_n hx hb dX11_spoil_81 rfl (lv_at hl 0 rfl) (hp_n (n := 82) rfl ?_)
                refine lv_iconst (v := 5) hx hb dX11_spoil_82 (by decide) (hp_n (n := 83) rfl ?_)
                obtain ⟨rh14, αh14, qh14, hf⟩ := hq_cE hf
                refine d_ci (pc' := 86) Bh13 (hp_runV (As := [.int (5 : Int32)]) (rest := []) C Bh13 (n_X11_refuse n Γ l αh13 Bh13.2.2.1 a0 (cw_k Bh13.2.2 k0) (5 : Int32) (rh14, αh14) qh14) lb_X11_refuse lv_X11_refuse lk_X11_98 (cw_k Bh13.2.2 k0) rfl (by decide) rfl hl.1 rfl (Nat.le_of_ble_eq_true rfl) dX11_spoil_83 ⟨Nat.le_refl _, Nat.le_refl _⟩) (by decide) rfl (fun Hh14 Lh14 Bh14 => ?_)
                cases hf
                exact q_iret C Bh14 hr hlk ⟨rfl, rfl, Bh14.2.2⟩ dX11_spoil_86
              refine lv_ifnull hx hb dX11_spoil_58 (hp_n (n := 61) rfl ?_)
              refine lv_iload_n hx hb dX11_spoil_61 rfl (lv_at hl 5 rfl) (hp_n (n := 62) rfl ?_)
              refine lv_aload hx hb dX11_spoil_62 (lv_at hl 0 rfl) (hp_n (n := 64) rfl ?_)
              refine q_geti (κ := 10) (k := 1) (φ := 501) (pc' := 67) C Bh10 (cw_k Bh10.2.2 kbh10) fl_X11_150 rfl rfl rfl dX11_spoil_64 rfl (fun x15 ex15 => ?_)
              replace hf := ms_lE ex15 hf
              refine lv_icmp_ge (tgt := 81) hx hb dX11_spoil_67 (by decide) (fun c16 => ?_) (fun c16 => hp_n (n := 70) rfl ?_)
              ·
                replace hf := ms_iT c16 hf
                exact J81 α Hh10 Lh10 Bh10 ls (lv_sub hl [2] rfl) hf
              ·
                replace hf := ms_iF c16 hf
                refine lv_aload hx hb dX11_spoil_70 (lv_at hl 0 rfl) (hp_n (n := 72) rfl ?_)
                refine lv_iload_n hx hb dX11_spoil_72 rfl (lv_at hl 5 rfl) (hp_n (n := 73) rfl ?_)
                obtain ⟨rh17, qh17, hf⟩ := ms_bE hf
                refine d_pi (pc' := 76) Bh10 (hp_runV (As := [.int a3]) (rest := []) C Bh10 (n_X9_letterAt n Γ l α Bh10.2.2.1 bh10 (cw_k Bh10.2.2 kbh10) a3 rh17 qh17) lb_X9_letterAt lv_X9_letterAt lk_X11_177 (cw_k Bh10.2.2 kbh10) rfl (by decide) rfl hl.1 rfl (Nat.le_of_ble_eq_true rfl) dX11_spoil_73 ⟨Nat.le_refl _, Nat.le_refl _⟩) rfl (fun Hh17 Lh17 Bh17 => ?_)
                refine lv_iload hx hb dX11_spoil_76 (lv_at hl 6 rfl) (hp_n (n := 78) rfl ?_)
                refine lv_icmp_ne (tgt := 87) hx hb dX11_spoil_78 (by decide) (fun c18 => ?_) (fun c18 => hp_n (n := 81) rfl ?_)
                ·
                  replace hf := ms_iF c18 hf
                  refine lv_aload hx hb dX11_spoil_87 (lv_at hl 0 rfl) (hp_n (n := 89) rfl ?_)
                  refine lv_iload_n hx hb dX11_spoil_89 rfl (lv_at hl 5 rfl) (hp_n (n := 90) rfl ?_)
                  obtain ⟨rh19, qh19, hf⟩ := ms_bE hf
                  refine d_pi (pc' := 93) Bh17 (hp_runV (As := [.int a3]) (rest := []) C Bh17 (n_X9_letterAt n Γ l α Bh17.2.2.1 bh10 (cw_k Bh17.2.2 kbh10) a3 rh19 qh19) lb_X9_letterAt lv_X9_letterAt lk_X11_177 (cw_k Bh17.2.2 kbh10) rfl (by decide) rfl hl.1 rfl (Nat.le_of_ble_eq_true rfl) dX11_spoil_90 ⟨Nat.le_refl _, Nat.le_refl _⟩) rfl (fun Hh19 Lh19 Bh19 => ?_)
                  refine lv_istore (lv' := [(7, .int rh19), (6, .ref bh10), (5, .ref bh8), (0, .ref a0), (1, .int a1), (2, .int a2), (3, .int a3), (4, .int a4)]) hx hb dX11_spoil_93 hl (by decide) rfl (fun ls hl => hp_n (n := 95) rfl ?_)
                  refine lv_aload_n hx hb dX11_spoil_95 rfl (lv_at hl 3 rfl) (hp_n (n := 96) rfl ?_)
                  refine q_getr (κ := 12) (k := 1) (φ := 601) (pc' := 99) C Bh19 (cw_k Bh19.2.2 k0) fl_X11_16 rfl rfl rfl (cw_r Bh19.2.2 k0 rfl rfl (by decide) (by decide)) dX11_spoil_96 rfl (fun b20 eb20 kb20 => ?_)
                  replace hf := ms_lE eb20 hf
                  refine lv_aload hx hb dX11_spoil_99 (lv_at hl 2 rfl) (hp_n (n := 101) rfl ?_)
                  refine lv_iload_n hx hb dX11_spoil_101 rfl (lv_at hl 5 rfl) (hp_n (n := 102) rfl ?_)
                  refine lv_iload_n hx hb dX11_spoil_102 rfl (lv_at hl 6 rfl) (hp_n (n := 103) rfl ?_)
                  refine lv_iload hx hb dX11_spoil_103 (lv_at hl 7 rfl) (hp_n (n := 105) rfl ?_)
                  obtain ⟨αh21, qh21, hf⟩ := ms_bE hf
                  refine d_cv (pc' := 108) Bh19 (hp_runV (As := [.ref bh8, .int a2, .int a3, .int a4]) (rest := []) C Bh19 (n_X10_spoilLetter n Γ l α Bh19.2.2.1 b20 (cw_k Bh19.2.2 kb20) bh8 (cw_k Bh19.2.2 kbh8) a2 a3 a4 αh21 qh21) lb_X10_spoilLetter lv_X10_spoilLetter lk_X11_255 (cw_k Bh19.2.2 kb20) rfl (by decide) rfl hl.1 rfl (Nat.le_of_ble_eq_true rfl) dX11_spoil_105 ⟨Nat.le_refl _, Nat.le_refl _⟩) (by decide) rfl (fun Hh21 Lh21 Bh21 => ?_)
                  refine lv_aload_n hx hb dX11_spoil_108 rfl (lv_at hl 3 rfl) (hp_n (n := 109) rfl ?_)
                  refine lv_iload hx hb dX11_spoil_109 (lv_at hl 0 rfl) (hp_n (n := 111) rfl ?_)
                  obtain ⟨rh22, αh22, qh22, hf⟩ := hq_cE hf
                  refine d_ci (pc' := 114) Bh21 (hp_runV (As := [.int rh19]) (rest := []) C Bh21 (n_X11_answer n Γ l αh21 Bh21.2.2.1 a0 (cw_k Bh21.2.2 k0) rh19 (rh22, αh22) qh22) lb_X11_answer lv_X11_answer lk_X11_115 (cw_k Bh21.2.2 k0) rfl (by decide) rfl hl.1 rfl (Nat.le_of_ble_eq_true rfl) dX11_spoil_111 ⟨Nat.le_refl _, Nat.le_refl _⟩) (by decide) rfl (fun Hh22 Lh22 Bh22 => ?_)
                  cases hf
                  exact q_iret C Bh22 hr hlk ⟨rfl, rfl, Bh22.2.2⟩ dX11_spoil_114
                ·
                  replace hf := ms_iT c18 hf
                  exact J81 α Hh17 Lh17 Bh17 ls (lv_sub hl [2] rfl) hf
        ·
          replace hf := ms_iF c6 hf
          exact J21 α s.heap [] B ls (lv_sub hl [0] rfl) hf
def f_X11_loadLines_J213 (n : Nat) (a0 : Nat) (rec32 : hp_T → Int32 → Int32 → Option (Int32 × hp_T)) (αh21 : hp_T) (v2_h21 : Int32) (v3_h21 : Int32) : Option (Int32 × hp_T) :=
  ms_l (v3_h21 + 1) fun x22 =>
  rec32 αh21 v2_h21 x22
def f_X11_loadLines_L32 (n : Nat) (a0 : Nat) : Nat → hp_T → Int32 → Int32 → Option (Int32 × hp_T)
  | 0, _, _, _ => none
  | k32 + 1, αh8, v2_h8, v3_h8 =>
    if (900 : Int32) ≤ v3_h8 then
      some ((1 : Int32), αh8)
    else
      ms_l (hp_R αh8 616 a0) fun b10 =>
      ms_b (f_X3_isAtEnd n αh8 b10) fun rh11 =>
      if rh11 = 0 then
        ms_l (hp_R αh8 602 a0) fun b13 =>
        ms_b (f_X10_logAt n αh8 b13 v2_h8) fun rh14 =>
        hq_m rh14 (
          some ((0 : Int32), αh8)) fun bh14 =>
        ms_l (hp_R αh8 616 a0) fun b15 =>
        ms_l (hp_R αh8 602 a0) fun b16 =>
        hq_c (f_X3_readLine n αh8 b15 b16 bh14) fun rh17 αh17 =>
        if rh17 = 0 then
          some ((0 : Int32), αh17)
        else
          ms_l (hp_R αh17 616 a0) fun b19 =>
          ms_l (hp_I αh17 206 b19) fun x20 =>
          if x20 = (0 : Int32) then
            ms_l (hp_R αh17 602 a0) fun b24 =>
            ms_l (hp_R αh17 616 a0) fun b25 =>
            ms_l (hp_R αh17 207 b25) fun b26 =>
            ms_b (f_X10_addWord n αh17 b24 bh14 b26) fun αh27 =>
            f_X11_loadLines_J213 n a0 (f_X11_loadLines_L32 n a0 k32) αh27 v2_h8 v3_h8
          else
          if x20 = (1 : Int32) then
            ms_l (hp_R αh17 616 a0) fun b29 =>
            ms_l (hp_I αh17 209 b29) fun x30 =>
            f_X11_loadLines_J213 n a0 (f_X11_loadLines_L32 n a0 k32) αh17 x30 v3_h8
          else
          if x20 = (2 : Int32) then
            ms_l (hp_R αh17 602 a0) fun b32 =>
            ms_l (hp_R αh17 616 a0) fun b33 =>
            ms_l (hp_I αh17 209 b33) fun x34 =>
            hq_c (f_X10_forkLog n αh17 b32 bh14 x34) fun rh35 αh35 =>
            f_X11_loadLines_J213 n a0 (f_X11_loadLines_L32 n a0 k32) αh35 rh35 v3_h8
          else
          if x20 = (3 : Int32) then
            ms_l (hp_R αh17 602 a0) fun b37 =>
            hq_c (f_X10_freezeHead n αh17 b37 v2_h8) fun rh38 αh38 =>
            f_X11_loadLines_J213 n a0 (f_X11_loadLines_L32 n a0 k32) αh38 v2_h8 v3_h8
          else
          ms_l (hp_R αh17 602 a0) fun b39 =>
          ms_l (hp_R αh17 602 a0) fun b40 =>
          ms_l (hp_R αh17 616 a0) fun b41 =>
          ms_l (hp_I αh17 208 b41) fun x42 =>
          ms_b (f_X10_watcherAt n αh17 b40 x42) fun rh43 =>
          hq_m rh43 (
            ms_l (hp_R αh17 616 a0) fun b44 =>
            ms_l (hp_I αh17 209 b44) fun x45 =>
            hq_c (f_X10_showTo n αh17 b39 none bh14 x45) fun rh46 αh46 =>
            f_X11_loadLines_J213 n a0 (f_X11_loadLines_L32 n a0 k32) αh46 v2_h8 v3_h8) fun bh43 =>
          ms_l (hp_R αh17 616 a0) fun b47 =>
          ms_l (hp_I αh17 209 b47) fun x48 =>
          hq_c (f_X10_showTo n αh17 b39 (some bh43) bh14 x48) fun rh49 αh49 =>
          f_X11_loadLines_J213 n a0 (f_X11_loadLines_L32 n a0 k32) αh49 v2_h8 v3_h8
      else
        some ((1 : Int32), αh8)
def f_X11_loadLines (n : Nat) (α : hp_T) (a0 : Nat) (a1 : Int32) : Option (Int32 × hp_T) :=
  ms_l (hp_R α 616 a0) fun b1 =>
  ms_l (hp_R α 604 a0) fun b2 =>
  ms_b (f_X3_begin n α b1 b2 a1) fun αh3 =>
  ms_l (hp_R αh3 616 a0) fun b4 =>
  ms_l (hp_R αh3 602 a0) fun b5 =>
  hq_c (f_X3_readModulus n αh3 b4 b5) fun rh6 αh6 =>
  if rh6 = 0 then
    some ((0 : Int32), αh6)
  else
    f_X11_loadLines_L32 n a0 n αh6 (0 : Int32) (0 : Int32)
set_option maxRecDepth 100000 in
set_option maxHeartbeats 4000000 in
theorem n_X11_loadLines (n : Nat) (Γ : hp_G) (l : Launch) (α : hp_T) (g : GC α) (a0 : Nat) (k0 : hp_K α a0 = 12) (a1 : Int32) (res : (Int32 × hp_T)) (hf : f_X11_loadLines n α a0 a1 = some res) : Met l yX11_loadLines (hp_ws yX11_loadLines cX11_loadLines 5 (some .boolean)) (hp_rm 7 0 0) (hp_Pc Γ α [.ref a0, .int a1]) (hp_Qi Γ (fun r β => r = res.1 ∧ β = res.2 ∧ cw w_X11_loadLines α β)) 0 0 (hp_A Γ) := by
  unfold f_X11_loadLines at hf
  refine hp_start (by decide) ?_
  intro p e s m below meth c C hr hlk B0 hnm
  have C : hp_C Γ p m c cX11_loadLines 5 s ([.ref a0, .int a1] : List Value).toArray RX11 := C
  have hx := C.1.1
  have hb := C.1.2.1
  have hown := C.1.2.2.2.1
  have hts := C.1.2.2.2.2
  have B : hp_B Γ (cw w_X11_loadLines) s α α s.heap [] := ⟨B0.1, B0.2.1, cw_rf g⟩
  have hl := lv_entry ([.ref a0, .int a1]) (n := 5) (Nat.le_of_ble_eq_true rfl)
  show W p l e (hp_rm 7 0 0) s m ([.ref a0, .int a1] : List Value).toArray below meth c s.heap [] 0 0 (MQ below (hp_Qi Γ (fun r β => r = res.1 ∧ β = res.2 ∧ cw w_X11_loadLines α β)) ([.ref a0, .int a1] : List Value).toArray s 0 0 (hp_A Γ)) (entryFrame m ([.ref a0, .int a1] : List Value).toArray 5)
  rw [lg_entry_eq]
  generalize (lg_sl ([.ref a0, .int a1]) ++ List.replicate (5 - (lg_sl ([.ref a0, .int a1])).length) Slot.unset).toArray = ls at hl ⊢
  have hl : lv_has ls 5 [(0, .ref a0), (1, .int a1)] := hl
  refine lv_aload_n hx hb dX11_loadLines_0 rfl (lv_at hl 0 rfl) (hp_n (n := 1) rfl ?_)
  refine q_getr (κ := 12) (k := 16) (φ := 616) (pc' := 4) C B (cw_k B.2.2 k0) fl_X11_82 rfl rfl rfl (cw_r B.2.2 k0 rfl rfl (by decide) (by decide)) dX11_loadLines_1 rfl (fun b1 eb1 kb1 => ?_)
  replace hf := ms_lE eb1 hf
  refine lv_aload_n hx hb dX11_loadLines_4 rfl (lv_at hl 0 rfl) (hp_n (n := 5) rfl ?_)
  refine q_getr (κ := 12) (k := 4) (φ := 604) (pc' := 8) C B (cw_k B.2.2 k0) fl_X11_30 rfl rfl rfl (cw_r B.2.2 k0 rfl rfl (by decide) (by decide)) dX11_loadLines_5 rfl (fun b2 eb2 kb2 => ?_)
  replace hf := ms_lE eb2 hf
  refine lv_iload_n hx hb dX11_loadLines_8 rfl (lv_at hl 1 rfl) (hp_n (n := 9) rfl ?_)
  obtain ⟨αh3, qh3, hf⟩ := ms_bE hf
  refine d_cv (pc' := 12) B (hp_runV (As := [.ref b2, .int a1]) (rest := []) C B (n_X3_begin n Γ l α B.2.2.1 b1 (cw_k B.2.2 kb1) b2 (cw_k B.2.2 kb2) a1 αh3 qh3) lb_X3_begin lv_X3_begin lk_X11_118 (cw_k B.2.2 kb1) rfl (by decide) rfl hl.1 rfl (Nat.le_of_ble_eq_true rfl) dX11_loadLines_9 ⟨Nat.le_refl _, Nat.le_refl _⟩) (by decide) rfl (fun Hh3 Lh3 Bh3 => ?_)
  refine lv_aload_n hx hb dX11_loadLines_12 rfl (lv_at hl 0 rfl) (hp_n (n := 13) rfl ?_)
  refine q_getr (κ := 12) (k := 16) (φ := 616) (pc' := 16) C Bh3 (cw_k Bh3.2.2 k0) fl_X11_82 rfl rfl rfl (cw_r Bh3.2.2 k0 rfl rfl (by decide) (by decide)) dX11_loadLines_13 rfl (fun b4 eb4 kb4 => ?_)
  replace hf := ms_lE eb4 hf
  refine lv_aload_n hx hb dX11_loadLines_16 rfl (lv_at hl 0 rfl) (hp_n (n := 17) rfl ?_)
  refine q_getr (κ := 12) (k := 2) (φ := 602) (pc' := 20) C Bh3 (cw_k Bh3.2.2 k0) fl_X11_20 rfl rfl rfl (cw_r Bh3.2.2 k0 rfl rfl (by decide) (by decide)) dX11_loadLines_17 rfl (fun b5 eb5 kb5 => ?_)
  replace hf := ms_lE eb5 hf
  obtain ⟨rh6, αh6, qh6, hf⟩ := hq_cE hf
  refine d_ci (pc' := 23) Bh3 (hp_runV (As := [.ref b5]) (rest := []) C Bh3 (n_X3_readModulus n Γ l αh3 Bh3.2.2.1 b4 (cw_k Bh3.2.2 kb4) b5 (cw_k Bh3.2.2 kb5) (rh6, αh6) qh6) lb_X3_readModulus lv_X3_readModulus lk_X11_439 (cw_k Bh3.2.2 kb4) rfl (by decide) rfl hl.1 rfl (Nat.le_of_ble_eq_true rfl) dX11_loadLines_20 ⟨Nat.le_refl _, Nat.le_refl _⟩) (by decide) rfl (fun Hh6 Lh6 Bh6 => ?_)
  refine lv_if_ne (tgt := 28) hx hb dX11_loadLines_23 (by decide) (fun c7 => ?_) (fun c7 => hp_n (n := 26) rfl ?_)
  ·
    replace hf := ms_iF c7 hf
    refine lv_iconst (v := 0) hx hb dX11_loadLines_28 (by decide) (hp_n (n := 29) rfl ?_)
    refine lv_istore_n (lv' := [(2, .int (0 : Int32)), (0, .ref a0), (1, .int a1)]) hx hb dX11_loadLines_29 rfl hl (by decide) rfl (fun ls hl => hp_n (n := 30) rfl ?_)
    refine lv_iconst (v := 0) hx hb dX11_loadLines_30 (by decide) (hp_n (n := 31) rfl ?_)
    have J32 : ∀ (k32 : Nat) (αh8 : hp_T) (Hh8 : Heap) (Lh8 : List Loc) (Bh8 : hp_B Γ (cw w_X11_loadLines) s α αh8 Hh8 Lh8) (v2_h8 : Int32) (v3_h8 : Int32) (ls : Array Slot) (hl : lv_has ls 5 [(0, .ref a0), (2, .int v2_h8), (3, .int v3_h8)]) (hf : f_X11_loadLines_L32 n a0 k32 αh8 v2_h8 v3_h8 = some res), W p l e (hp_rm 7 0 0) s m ([.ref a0, .int a1] : List Value).toArray below meth c Hh8 Lh8 0 0 (MQ below (hp_Qi Γ (fun r β => r = res.1 ∧ β = res.2 ∧ cw w_X11_loadLines α β)) ([.ref a0, .int a1] : List Value).toArray s 0 0 (hp_A Γ)) (F0 m 32 ls []) := by
      intro k32
      induction k32 with
      | zero => intro αh8 Hh8 Lh8 Bh8 v2_h8 v3_h8 ls hl hf; rw [f_X11_loadLines_L32.eq_1] at hf; cases hf
      | succ k32 ih32 =>
        intro αh8 Hh8 Lh8 Bh8 v2_h8 v3_h8 ls hl hf
        rw [f_X11_loadLines_L32.eq_2] at hf
        refine lv_iload_n hx hb dX11_loadLines_32 rfl (lv_at hl 2 rfl) (hp_n (n := 33) rfl ?_)
        refine lv_sipush (v := 900) hx hb dX11_loadLines_33 (by decide) (hp_n (n := 36) rfl ?_)
        refine lv_icmp_ge (tgt := 219) hx hb dX11_loadLines_36 (by decide) (fun c9 => ?_) (fun c9 => hp_n (n := 39) rfl ?_)
        ·
          replace hf := ms_iT c9 hf
          refine lv_iconst (v := 1) hx hb dX11_loadLines_219 (by decide) (hp_n (n := 220) rfl ?_)
          cases hf
          exact q_zret C Bh8 hr hlk (by decide) ⟨rfl, rfl, Bh8.2.2⟩ dX11_loadLines_220
        ·
          replace hf := ms_iF c9 hf
          refine lv_aload_n hx hb dX11_loadLines_39 rfl (lv_at hl 0 rfl) (hp_n (n := 40) rfl ?_)
          refine q_getr (κ := 12) (k := 16) (φ := 616) (pc' := 43) C Bh8 (cw_k Bh8.2.2 k0) fl_X11_82 rfl rfl rfl (cw_r Bh8.2.2 k0 rfl rfl (by decide) (by decide)) dX11_loadLines_40 rfl (fun b10 eb10 kb10 => ?_)
          replace hf := ms_lE eb10 hf
          obtain ⟨rh11, qh11, hf⟩ := ms_bE hf
          refine d_pi (pc' := 46) Bh8 (hp_runV (As := []) (rest := []) C Bh8 (n_X3_isAtEnd n Γ l αh8 Bh8.2.2.1 b10 (cw_k Bh8.2.2 kb10) rh11 qh11) lb_X3_isAtEnd lv_X3_isAtEnd lk_X11_443 (cw_k Bh8.2.2 kb10) rfl (by decide) rfl hl.1 rfl (Nat.le_of_ble_eq_true rfl) dX11_loadLines_43 ⟨Nat.le_refl _, Nat.le_refl _⟩) rfl (fun Hh11 Lh11 Bh11 => ?_)
          refine lv_if_ne (tgt := 219) hx hb dX11_loadLines_46 (by decide) (fun c12 => ?_) (fun c12 => hp_n (n := 49) rfl ?_)
          ·
            replace hf := ms_iF c12 hf
            refine lv_iconst (v := 1) hx hb dX11_loadLines_219 (by decide) (hp_n (n := 220) rfl ?_)
            cases hf
            exact q_zret C Bh11 hr hlk (by decide) ⟨rfl, rfl, Bh11.2.2⟩ dX11_loadLines_220
          ·
            replace hf := ms_iT c12 hf
            refine lv_aload_n hx hb dX11_loadLines_49 rfl (lv_at hl 0 rfl) (hp_n (n := 50) rfl ?_)
            refine q_getr (κ := 12) (k := 2) (φ := 602) (pc' := 53) C Bh11 (cw_k Bh11.2.2 k0) fl_X11_20 rfl rfl rfl (cw_r Bh11.2.2 k0 rfl rfl (by decide) (by decide)) dX11_loadLines_50 rfl (fun b13 eb13 kb13 => ?_)
            replace hf := ms_lE eb13 hf
            refine lv_iload_n hx hb dX11_loadLines_53 rfl (lv_at hl 1 rfl) (hp_n (n := 54) rfl ?_)
            obtain ⟨rh14, qh14, hf⟩ := ms_bE hf
            refine d_pq (pc' := 57) Bh11 (hp_runV (As := [.int v2_h8]) (rest := []) C Bh11 (n_X10_logAt n Γ l αh8 Bh11.2.2.1 b13 (cw_k Bh11.2.2 kb13) v2_h8 rh14 qh14) lb_X10_logAt lv_X10_logAt lk_X11_163 (cw_k Bh11.2.2 kb13) rfl (by decide) rfl hl.1 rfl (Nat.le_of_ble_eq_true rfl) dX11_loadLines_54 ⟨Nat.le_refl _, Nat.le_refl _⟩) rfl (fun Hh14 Lh14 Bh14 kh14 => ?_)
            rcases rh14 with _ | bh14
            ·
              replace hf := hq_N hf
              refine lv_astoreN (lv' := [(4, .null), (0, .ref a0), (2, .int v2_h8), (3, .int v3_h8)]) hx hb dX11_loadLines_57 hl (by decide) rfl (fun ls hl => hp_n (n := 59) rfl ?_)
              refine lv_aloadN hx hb dX11_loadLines_59 (lv_at hl 0 rfl) (hp_n (n := 61) rfl ?_)
              refine lv_ifnullN (tgt := 80) hx hb dX11_loadLines_61 (by decide) ?_
              refine lv_iconst (v := 0) hx hb dX11_loadLines_80 (by decide) (hp_n (n := 81) rfl ?_)
              cases hf
              exact q_zret C Bh14 hr hlk (by decide) ⟨rfl, rfl, Bh14.2.2⟩ dX11_loadLines_81
            ·
              replace hf := hq_S hf
              have kbh14 := kh14 bh14 rfl
              refine lv_astore (lv' := [(4, .ref bh14), (0, .ref a0), (2, .int v2_h8), (3, .int v3_h8)]) hx hb dX11_loadLines_57 hl (by decide) rfl (fun ls hl => hp_n (n := 59) rfl ?_)
              refine lv_aload hx hb dX11_loadLines_59 (lv_at hl 0 rfl) (hp_n (n := 61) rfl ?_)
              refine lv_ifnull hx hb dX11_loadLines_61 (hp_n (n := 64) rfl ?_)
              refine lv_aload_n hx hb dX11_loadLines_64 rfl (lv_at hl 1 rfl) (hp_n (n := 65) rfl ?_)
              refine q_getr (κ := 12) (k := 16) (φ := 616) (pc' := 68) C Bh14 (cw_k Bh14.2.2 k0) fl_X11_82 rfl rfl rfl (cw_r Bh14.2.2 k0 rfl rfl (by decide) (by decide)) dX11_loadLines_65 rfl (fun b15 eb15 kb15 => ?_)
              replace hf := ms_lE eb15 hf
              refine lv_aload_n hx hb dX11_loadLines_68 rfl (lv_at hl 1 rfl) (hp_n (n := 69) rfl ?_)
              refine q_getr (κ := 12) (k := 2) (φ := 602) (pc' := 72) C Bh14 (cw_k Bh14.2.2 k0) fl_X11_20 rfl rfl rfl (cw_r Bh14.2.2 k0 rfl rfl (by decide) (by decide)) dX11_loadLines_69 rfl (fun b16 eb16 kb16 => ?_)
              replace hf := ms_lE eb16 hf
              refine lv_aload hx hb dX11_loadLines_72 (lv_at hl 0 rfl) (hp_n (n := 74) rfl ?_)
              obtain ⟨rh17, αh17, qh17, hf⟩ := hq_cE hf
              refine d_ci (pc' := 77) Bh14 (hp_runV (As := [.ref b16, .ref bh14]) (rest := []) C Bh14 (n_X3_readLine n Γ l αh8 Bh14.2.2.1 b15 (cw_k Bh14.2.2 kb15) b16 (cw_k Bh14.2.2 kb16) bh14 (cw_k Bh14.2.2 kbh14) (rh17, αh17) qh17) lb_X3_readLine lv_X3_readLine lk_X11_447 (cw_k Bh14.2.2 kb15) rfl (by decide) rfl hl.1 rfl (Nat.le_of_ble_eq_true rfl) dX11_loadLines_74 ⟨Nat.le_refl _, Nat.le_refl _⟩) (by decide) rfl (fun Hh17 Lh17 Bh17 => ?_)
              refine lv_if_ne (tgt := 82) hx hb dX11_loadLines_77 (by decide) (fun c18 => ?_) (fun c18 => hp_n (n := 80) rfl ?_)
              ·
                replace hf := ms_iF c18 hf
                refine lv_aload_n hx hb dX11_loadLines_82 rfl (lv_at hl 1 rfl) (hp_n (n := 83) rfl ?_)
                refine q_getr (κ := 12) (k := 16) (φ := 616) (pc' := 86) C Bh17 (cw_k Bh17.2.2 k0) fl_X11_82 rfl rfl rfl (cw_r Bh17.2.2 k0 rfl rfl (by decide) (by decide)) dX11_loadLines_83 rfl (fun b19 eb19 kb19 => ?_)
                replace hf := ms_lE eb19 hf
                refine q_geti (κ := 4) (k := 6) (φ := 206) (pc' := 89) C Bh17 (cw_k Bh17.2.2 kb19) fl_X11_451 rfl rfl rfl dX11_loadLines_86 rfl (fun x20 ex20 => ?_)
                replace hf := ms_lE ex20 hf
                have J213 : ∀ (αh21 : hp_T) (Hh21 : Heap) (Lh21 : List Loc) (Bh21 : hp_B Γ (cw w_X11_loadLines) s α αh21 Hh21 Lh21) (v2_h21 : Int32) (v3_h21 : Int32) (ls : Array Slot) (hl : lv_has ls 5 [(0, .ref a0), (2, .int v2_h21), (3, .int v3_h21)]) (hf : f_X11_loadLines_J213 n a0 (f_X11_loadLines_L32 n a0 k32) αh21 v2_h21 v3_h21 = some res), W p l e (hp_rm 7 0 0) s m ([.ref a0, .int a1] : List Value).toArray below meth c Hh21 Lh21 0 0 (MQ below (hp_Qi Γ (fun r β => r = res.1 ∧ β = res.2 ∧ cw w_X11_loadLines α β)) ([.ref a0, .int a1] : List Value).toArray s 0 0 (hp_A Γ)) (F0 m 213 ls []) := by
                  intro αh21 Hh21 Lh21 Bh21 v2_h21 v3_h21 ls hl hf
                  unfold f_X11_loadLines_J213 at hf
                  obtain ⟨x22, ex22⟩ : ∃ y : Int32, y = v3_h21 + 1 := ⟨_, rfl⟩
                  replace hf := ms_lE ex22 hf
                  refine lv_iinc (v := x22) (lv' := [(3, .int x22), (0, .ref a0), (2, .int v2_h21)]) hx hb dX11_loadLines_213 hl (k := 2) rfl (by rw [ex22]; rfl) (by decide) rfl (fun ls hl => hp_n (n := 216) rfl ?_)
                  refine lv_goto (tgt := 32) hx hb dX11_loadLines_216 (by decide) ?_
                  exact ih32 αh21 Hh21 Lh21 Bh21 v2_h21 x22 ls (lv_sub hl [1, 2, 0] rfl) hf
                by_cases c23 : x20 = (0 : Int32)
                ·
                  replace hf := ms_iT c23 hf
                  refine lv_tableIn (off := 31) (tgt := 120) hx hb dX11_loadLines_89 (by rw [c23]; decide) (by rw [c23]; decide) (by rw [c23]; rfl) (by decide) ?_
                  refine lv_aload_n hx hb dX11_loadLines_120 rfl (lv_at hl 1 rfl) (hp_n (n := 121) rfl ?_)
                  refine q_getr (κ := 12) (k := 2) (φ := 602) (pc' := 124) C Bh17 (cw_k Bh17.2.2 k0) fl_X11_20 rfl rfl rfl (cw_r Bh17.2.2 k0 rfl rfl (by decide) (by decide)) dX11_loadLines_121 rfl (fun b24 eb24 kb24 => ?_)
                  replace hf := ms_lE eb24 hf
                  refine lv_aload hx hb dX11_loadLines_124 (lv_at hl 0 rfl) (hp_n (n := 126) rfl ?_)
                  refine lv_aload_n hx hb dX11_loadLines_126 rfl (lv_at hl 1 rfl) (hp_n (n := 127) rfl ?_)
                  refine q_getr (κ := 12) (k := 16) (φ := 616) (pc' := 130) C Bh17 (cw_k Bh17.2.2 k0) fl_X11_82 rfl rfl rfl (cw_r Bh17.2.2 k0 rfl rfl (by decide) (by decide)) dX11_loadLines_127 rfl (fun b25 eb25 kb25 => ?_)
                  replace hf := ms_lE eb25 hf
                  refine q_getr (κ := 4) (k := 7) (φ := 207) (pc' := 133) C Bh17 (cw_k Bh17.2.2 kb25) fl_X11_454 rfl rfl rfl (cw_r Bh17.2.2 kb25 rfl rfl (by decide) (by decide)) dX11_loadLines_130 rfl (fun b26 eb26 kb26 => ?_)
                  replace hf := ms_lE eb26 hf
                  obtain ⟨αh27, qh27, hf⟩ := ms_bE hf
                  refine d_cv (pc' := 136) Bh17 (hp_runV (As := [.ref bh14, .ref b26]) (rest := []) C Bh17 (n_X10_addWord n Γ l αh17 Bh17.2.2.1 b24 (cw_k Bh17.2.2 kb24) bh14 (cw_k Bh17.2.2 kbh14) b26 (cw_k Bh17.2.2 kb26) αh27 qh27) lb_X10_addWord lv_X10_addWord lk_X11_237 (cw_k Bh17.2.2 kb24) rfl (by decide) rfl hl.1 rfl (Nat.le_of_ble_eq_true rfl) dX11_loadLines_133 ⟨Nat.le_refl _, Nat.le_refl _⟩) (by decide) rfl (fun Hh27 Lh27 Bh27 => ?_)
                  refine lv_goto (tgt := 213) hx hb dX11_loadLines_136 (by decide) ?_
                  exact J213 αh27 Hh27 Lh27 Bh27 v2_h8 v3_h8 ls (lv_sub hl [1, 2, 3] rfl) hf
                replace hf := ms_iF c23 hf
                by_cases c28 : x20 = (1 : Int32)
                ·
                  replace hf := ms_iT c28 hf
                  refine lv_tableIn (off := 50) (tgt := 139) hx hb dX11_loadLines_89 (by rw [c28]; decide) (by rw [c28]; decide) (by rw [c28]; rfl) (by decide) ?_
                  refine lv_aload_n hx hb dX11_loadLines_139 rfl (lv_at hl 1 rfl) (hp_n (n := 140) rfl ?_)
                  refine q_getr (κ := 12) (k := 16) (φ := 616) (pc' := 143) C Bh17 (cw_k Bh17.2.2 k0) fl_X11_82 rfl rfl rfl (cw_r Bh17.2.2 k0 rfl rfl (by decide) (by decide)) dX11_loadLines_140 rfl (fun b29 eb29 kb29 => ?_)
                  replace hf := ms_lE eb29 hf
                  refine q_geti (κ := 4) (k := 9) (φ := 209) (pc' := 146) C Bh17 (cw_k Bh17.2.2 kb29) fl_X11_457 rfl rfl rfl dX11_loadLines_143 rfl (fun x30 ex30 => ?_)
                  replace hf := ms_lE ex30 hf
                  refine lv_istore_n (lv' := [(2, .int x30), (4, .ref bh14), (0, .ref a0), (3, .int v3_h8)]) hx hb dX11_loadLines_146 rfl hl (by decide) rfl (fun ls hl => hp_n (n := 147) rfl ?_)
                  refine lv_goto (tgt := 213) hx hb dX11_loadLines_147 (by decide) ?_
                  exact J213 αh17 Hh17 Lh17 Bh17 x30 v3_h8 ls (lv_sub hl [2, 0, 3] rfl) hf
                replace hf := ms_iF c28 hf
                by_cases c31 : x20 = (2 : Int32)
                ·
                  replace hf := ms_iT c31 hf
                  refine lv_tableIn (off := 61) (tgt := 150) hx hb dX11_loadLines_89 (by rw [c31]; decide) (by rw [c31]; decide) (by rw [c31]; rfl) (by decide) ?_
                  refine lv_aload_n hx hb dX11_loadLines_150 rfl (lv_at hl 1 rfl) (hp_n (n := 151) rfl ?_)
                  refine q_getr (κ := 12) (k := 2) (φ := 602) (pc' := 154) C Bh17 (cw_k Bh17.2.2 k0) fl_X11_20 rfl rfl rfl (cw_r Bh17.2.2 k0 rfl rfl (by decide) (by decide)) dX11_loadLines_151 rfl (fun b32 eb32 kb32 => ?_)
                  replace hf := ms_lE eb32 hf
                  refine lv_aload hx hb dX11_loadLines_154 (lv_at hl 0 rfl) (hp_n (n := 156) rfl ?_)
                  refine lv_aload_n hx hb dX11_loadLines_156 rfl (lv_at hl 1 rfl) (hp_n (n := 157) rfl ?_)
                  refine q_getr (κ := 12) (k := 16) (φ := 616) (pc' := 160) C Bh17 (cw_k Bh17.2.2 k0) fl_X11_82 rfl rfl rfl (cw_r Bh17.2.2 k0 rfl rfl (by decide) (by decide)) dX11_loadLines_157 rfl (fun b33 eb33 kb33 => ?_)
                  replace hf := ms_lE eb33 hf
                  refine q_geti (κ := 4) (k := 9) (φ := 209) (pc' := 163) C Bh17 (cw_k Bh17.2.2 kb33) fl_X11_457 rfl rfl rfl dX11_loadLines_160 rfl (fun x34 ex34 => ?_)
                  replace hf := ms_lE ex34 hf
                  obtain ⟨rh35, αh35, qh35, hf⟩ := hq_cE hf
                  refine d_ci (pc' := 166) Bh17 (hp_runV (As := [.ref bh14, .int x34]) (rest := []) C Bh17 (n_X10_forkLog n Γ l αh17 Bh17.2.2.1 b32 (cw_k Bh17.2.2 kb32) bh14 (cw_k Bh17.2.2 kbh14) x34 (rh35, αh35) qh35) lb_X10_forkLog lv_X10_forkLog lk_X11_241 (cw_k Bh17.2.2 kb32) rfl (by decide) rfl hl.1 rfl (Nat.le_of_ble_eq_true rfl) dX11_loadLines_163 ⟨Nat.le_refl _, Nat.le_refl _⟩) (by decide) rfl (fun Hh35 Lh35 Bh35 => ?_)
                  refine lv_istore_n (lv' := [(2, .int rh35), (4, .ref bh14), (0, .ref a0), (3, .int v3_h8)]) hx hb dX11_loadLines_166 rfl hl (by decide) rfl (fun ls hl => hp_n (n := 167) rfl ?_)
                  refine lv_goto (tgt := 213) hx hb dX11_loadLines_167 (by decide) ?_
                  exact J213 αh35 Hh35 Lh35 Bh35 rh35 v3_h8 ls (lv_sub hl [2, 0, 3] rfl) hf
                replace hf := ms_iF c31 hf
                by_cases c36 : x20 = (3 : Int32)
                ·
                  replace hf := ms_iT c36 hf
                  refine lv_tableIn (off := 81) (tgt := 170) hx hb dX11_loadLines_89 (by rw [c36]; decide) (by rw [c36]; decide) (by rw [c36]; rfl) (by decide) ?_
                  refine lv_aload_n hx hb dX11_loadLines_170 rfl (lv_at hl 1 rfl) (hp_n (n := 171) rfl ?_)
                  refine q_getr (κ := 12) (k := 2) (φ := 602) (pc' := 174) C Bh17 (cw_k Bh17.2.2 k0) fl_X11_20 rfl rfl rfl (cw_r Bh17.2.2 k0 rfl rfl (by decide) (by decide)) dX11_loadLines_171 rfl (fun b37 eb37 kb37 => ?_)
                  replace hf := ms_lE eb37 hf
                  refine lv_iload_n hx hb dX11_loadLines_174 rfl (lv_at hl 2 rfl) (hp_n (n := 175) rfl ?_)
                  obtain ⟨rh38, αh38, qh38, hf⟩ := hq_cE hf
                  refine d_ci (pc' := 178) Bh17 (hp_runV (As := [.int v2_h8]) (rest := []) C Bh17 (n_X10_freezeHead n Γ l αh17 Bh17.2.2.1 b37 (cw_k Bh17.2.2 kb37) v2_h8 (rh38, αh38) qh38) lb_X10_freezeHead lv_X10_freezeHead lk_X11_244 (cw_k Bh17.2.2 kb37) rfl (by decide) rfl hl.1 rfl (Nat.le_of_ble_eq_true rfl) dX11_loadLines_175 ⟨Nat.le_refl _, Nat.le_refl _⟩) (by decide) rfl (fun Hh38 Lh38 Bh38 => ?_)
                  refine lv_pop hx hb dX11_loadLines_178 rfl (hp_n (n := 179) rfl ?_)
                  refine lv_goto (tgt := 213) hx hb dX11_loadLines_179 (by decide) ?_
                  exact J213 αh38 Hh38 Lh38 Bh38 v2_h8 v3_h8 ls (lv_sub hl [1, 2, 3] rfl) hf
                replace hf := ms_iF c36 hf
                have jc23 := il_ne c23
                rw [show (0 : Int32).toInt = 0 by decide] at jc23
                have jc28 := il_ne c28
                rw [show (1 : Int32).toInt = 1 by decide] at jc28
                have jc31 := il_ne c31
                rw [show (2 : Int32).toInt = 2 by decide] at jc31
                have jc36 := il_ne c36
                rw [show (3 : Int32).toInt = 3 by decide] at jc36
                refine lv_tableOut (tgt := 182) hx hb dX11_loadLines_89 (by omega) (by decide) ?_
                refine lv_aload_n hx hb dX11_loadLines_182 rfl (lv_at hl 1 rfl) (hp_n (n := 183) rfl ?_)
                refine q_getr (κ := 12) (k := 2) (φ := 602) (pc' := 186) C Bh17 (cw_k Bh17.2.2 k0) fl_X11_20 rfl rfl rfl (cw_r Bh17.2.2 k0 rfl rfl (by decide) (by decide)) dX11_loadLines_183 rfl (fun b39 eb39 kb39 => ?_)
                replace hf := ms_lE eb39 hf
                refine lv_aload_n hx hb dX11_loadLines_186 rfl (lv_at hl 1 rfl) (hp_n (n := 187) rfl ?_)
                refine q_getr (κ := 12) (k := 2) (φ := 602) (pc' := 190) C Bh17 (cw_k Bh17.2.2 k0) fl_X11_20 rfl rfl rfl (cw_r Bh17.2.2 k0 rfl rfl (by decide) (by decide)) dX11_loadLines_187 rfl (fun b40 eb40 kb40 => ?_)
                replace hf := ms_lE eb40 hf
                refine lv_aload_n hx hb dX11_loadLines_190 rfl (lv_at hl 1 rfl) (hp_n (n := 191) rfl ?_)
                refine q_getr (κ := 12) (k := 16) (φ := 616) (pc' := 194) C Bh17 (cw_k Bh17.2.2 k0) fl_X11_82 rfl rfl rfl (cw_r Bh17.2.2 k0 rfl rfl (by decide) (by decide)) dX11_loadLines_191 rfl (fun b41 eb41 kb41 => ?_)
                replace hf := ms_lE eb41 hf
                refine q_geti (κ := 4) (k := 8) (φ := 208) (pc' := 197) C Bh17 (cw_k Bh17.2.2 kb41) fl_X11_460 rfl rfl rfl dX11_loadLines_194 rfl (fun x42 ex42 => ?_)
                replace hf := ms_lE ex42 hf
                obtain ⟨rh43, qh43, hf⟩ := ms_bE hf
                refine d_pq (pc' := 200) Bh17 (hp_runV (As := [.int x42]) (rest := [.ref b39]) C Bh17 (n_X10_watcherAt n Γ l αh17 Bh17.2.2.1 b40 (cw_k Bh17.2.2 kb40) x42 rh43 qh43) lb_X10_watcherAt lv_X10_watcherAt lk_X11_220 (cw_k Bh17.2.2 kb40) rfl (by decide) rfl hl.1 rfl (Nat.le_of_ble_eq_true rfl) dX11_loadLines_197 ⟨Nat.le_refl _, Nat.le_refl _⟩) rfl (fun Hh43 Lh43 Bh43 kh43 => ?_)
                rcases rh43 with _ | bh43
                ·
                  replace hf := hq_N hf
                  refine lv_aload hx hb dX11_loadLines_200 (lv_at hl 0 rfl) (hp_n (n := 202) rfl ?_)
                  refine lv_aload_n hx hb dX11_loadLines_202 rfl (lv_at hl 1 rfl) (hp_n (n := 203) rfl ?_)
                  refine q_getr (κ := 12) (k := 16) (φ := 616) (pc' := 206) C Bh43 (cw_k Bh43.2.2 k0) fl_X11_82 rfl rfl rfl (cw_r Bh43.2.2 k0 rfl rfl (by decide) (by decide)) dX11_loadLines_203 rfl (fun b44 eb44 kb44 => ?_)
                  replace hf := ms_lE eb44 hf
                  refine q_geti (κ := 4) (k := 9) (φ := 209) (pc' := 209) C Bh43 (cw_k Bh43.2.2 kb44) fl_X11_457 rfl rfl rfl dX11_loadLines_206 rfl (fun x45 ex45 => ?_)
                  replace hf := ms_lE ex45 hf
                  obtain ⟨rh46, αh46, qh46, hf⟩ := hq_cE hf
                  refine d_ci (pc' := 212) Bh43 (hp_runV (As := [va_rf none, .ref bh14, .int x45]) (rest := []) C Bh43 (n_X10_showTo n Γ l αh17 Bh43.2.2.1 b39 (cw_k Bh43.2.2 kb39) none (fun b h => by cases h) bh14 (cw_k Bh43.2.2 kbh14) x45 (rh46, αh46) qh46) lb_X10_showTo lv_X10_showTo lk_X11_247 (cw_k Bh43.2.2 kb39) rfl (by decide) rfl hl.1 rfl (Nat.le_of_ble_eq_true rfl) dX11_loadLines_209 ⟨Nat.le_refl _, Nat.le_refl _⟩) (by decide) rfl (fun Hh46 Lh46 Bh46 => ?_)
                  refine lv_pop hx hb dX11_loadLines_212 rfl (hp_n (n := 213) rfl ?_)
                  exact J213 αh46 Hh46 Lh46 Bh46 v2_h8 v3_h8 ls (lv_sub hl [1, 2, 3] rfl) hf
                ·
                  replace hf := hq_S hf
                  have kbh43 := kh43 bh43 rfl
                  refine lv_aload hx hb dX11_loadLines_200 (lv_at hl 0 rfl) (hp_n (n := 202) rfl ?_)
                  refine lv_aload_n hx hb dX11_loadLines_202 rfl (lv_at hl 1 rfl) (hp_n (n := 203) rfl ?_)
                  refine q_getr (κ := 12) (k := 16) (φ := 616) (pc' := 206) C Bh43 (cw_k Bh43.2.2 k0) fl_X11_82 rfl rfl rfl (cw_r Bh43.2.2 k0 rfl rfl (by decide) (by decide)) dX11_loadLines_203 rfl (fun b47 eb47 kb47 => ?_)
                  replace hf := ms_lE eb47 hf
                  refine q_geti (κ := 4) (k := 9) (φ := 209) (pc' := 209) C Bh43 (cw_k Bh43.2.2 kb47) fl_X11_457 rfl rfl rfl dX11_loadLines_206 rfl (fun x48 ex48 => ?_)
                  replace hf := ms_lE ex48 hf
                  obtain ⟨rh49, αh49, qh49, hf⟩ := hq_cE hf
                  refine d_ci (pc' := 212) Bh43 (hp_runV (As := [va_rf (some bh43), .ref bh14, .int x48]) (rest := []) C Bh43 (n_X10_showTo n Γ l αh17 Bh43.2.2.1 b39 (cw_k Bh43.2.2 kb39) (some bh43) (fun b h => by cases h; exact (cw_k Bh43.2.2 kbh43)) bh14 (cw_k Bh43.2.2 kbh14) x48 (rh49, αh49) qh49) lb_X10_showTo lv_X10_showTo lk_X11_247 (cw_k Bh43.2.2 kb39) rfl (by decide) rfl hl.1 rfl (Nat.le_of_ble_eq_true rfl) dX11_loadLines_209 ⟨Nat.le_refl _, Nat.le_refl _⟩) (by decide) rfl (fun Hh49 Lh49 Bh49 => ?_)
                  refine lv_pop hx hb dX11_loadLines_212 rfl (hp_n (n := 213) rfl ?_)
                  exact J213 αh49 Hh49 Lh49 Bh49 v2_h8 v3_h8 ls (lv_sub hl [1, 2, 3] rfl) hf
              ·
                replace hf := ms_iT c18 hf
                refine lv_iconst (v := 0) hx hb dX11_loadLines_80 (by decide) (hp_n (n := 81) rfl ?_)
                cases hf
                exact q_zret C Bh17 hr hlk (by decide) ⟨rfl, rfl, Bh17.2.2⟩ dX11_loadLines_81
    refine lv_istore_n (lv' := [(3, .int (0 : Int32)), (2, .int (0 : Int32)), (0, .ref a0), (1, .int a1)]) hx hb dX11_loadLines_31 rfl hl (by decide) rfl (fun ls hl => hp_n (n := 32) rfl ?_)
    exact J32 n αh6 Hh6 Lh6 Bh6 (0 : Int32) (0 : Int32) ls (lv_sub hl [2, 1, 0] rfl) hf
  ·
    replace hf := ms_iT c7 hf
    refine lv_iconst (v := 0) hx hb dX11_loadLines_26 (by decide) (hp_n (n := 27) rfl ?_)
    cases hf
    exact q_zret C Bh6 hr hlk (by decide) ⟨rfl, rfl, Bh6.2.2⟩ dX11_loadLines_27
def f_X11_load_J12 (n : Nat) (a0 : Nat) (αh1 : hp_T) : Option (Int32 × hp_T) :=
  hq_c (f_X11_refuse n αh1 a0 (1 : Int32)) fun rh2 αh2 =>
  some (rh2, αh2)
def f_X11_load (n : Nat) (α : hp_T) (a0 : Nat) (a1 : Int32) : Option (Int32 × hp_T) :=
  if a1 < 0 then
    f_X11_load_J12 n a0 α
  else
    ms_l (hp_I α 605 a0) fun x4 =>
    if a1 ≤ x4 then
      ms_l (hp_R α 602 a0) fun b6 =>
      ms_b (f_X10_renew n α b6) fun αh7 =>
      hq_c (f_X11_loadLines n αh7 a0 a1) fun rh8 αh8 =>
      ms_l (hp_sI αh8 605 a0 (0 : Int32)) fun αh9 =>
      if rh8 = 0 then
        hq_c (f_X11_refuse n αh9 a0 (9 : Int32)) fun rh20 αh20 =>
        some (rh20, αh20)
      else
        ms_l (hp_R αh9 601 a0) fun b11 =>
        ms_l (hp_R αh9 602 a0) fun b12 =>
        ms_l (hp_sR αh9 601 a0 b12) fun αh13 =>
        ms_l (hp_sR αh13 602 a0 b11) fun αh14 =>
        ms_l (hp_R αh14 603 a0) fun b15 =>
        ms_b (f_X5_shorten n αh14 b15 (0 : Int32)) fun αh16 =>
        ms_l (hp_R αh16 601 a0) fun b17 =>
        ms_l (hp_I αh16 552 b17) fun x18 =>
        hq_c (f_X11_answer n αh16 a0 x18) fun rh19 αh19 =>
        some (rh19, αh19)
    else
      f_X11_load_J12 n a0 α
set_option maxRecDepth 100000 in
set_option maxHeartbeats 4000000 in
theorem n_X11_load (n : Nat) (Γ : hp_G) (l : Launch) (α : hp_T) (g : GC α) (a0 : Nat) (k0 : hp_K α a0 = 12) (a1 : Int32) (res : (Int32 × hp_T)) (hf : f_X11_load n α a0 a1 = some res) : Met l yX11_load (hp_ws yX11_load cX11_load 4 (some .int)) (hp_rm 8 0 0) (hp_Pc Γ α [.ref a0, .int a1]) (hp_Qi Γ (fun r β => r = res.1 ∧ β = res.2 ∧ cw w_X11_load α β)) 0 0 (hp_A Γ) := by
  unfold f_X11_load at hf
  refine hp_start (by decide) ?_
  intro p e s m below meth c C hr hlk B0 hnm
  have C : hp_C Γ p m c cX11_load 4 s ([.ref a0, .int a1] : List Value).toArray RX11 := C
  have hx := C.1.1
  have hb := C.1.2.1
  have hown := C.1.2.2.2.1
  have hts := C.1.2.2.2.2
  have B : hp_B Γ (cw w_X11_load) s α α s.heap [] := ⟨B0.1, B0.2.1, cw_rf g⟩
  have hl := lv_entry ([.ref a0, .int a1]) (n := 4) (Nat.le_of_ble_eq_true rfl)
  show W p l e (hp_rm 8 0 0) s m ([.ref a0, .int a1] : List Value).toArray below meth c s.heap [] 0 0 (MQ below (hp_Qi Γ (fun r β => r = res.1 ∧ β = res.2 ∧ cw w_X11_load α β)) ([.ref a0, .int a1] : List Value).toArray s 0 0 (hp_A Γ)) (entryFrame m ([.ref a0, .int a1] : List Value).toArray 4)
  rw [lg_entry_eq]
  generalize (lg_sl ([.ref a0, .int a1]) ++ List.replicate (4 - (lg_sl ([.ref a0, .int a1])).length) Slot.unset).toArray = ls at hl ⊢
  have hl : lv_has ls 4 [(0, .ref a0), (1, .int a1)] := hl
  refine lv_iload_n hx hb dX11_load_0 rfl (lv_at hl 1 rfl) (hp_n (n := 1) rfl ?_)
  have J12 : ∀ (αh1 : hp_T) (Hh1 : Heap) (Lh1 : List Loc) (Bh1 : hp_B Γ (cw w_X11_load) s α αh1 Hh1 Lh1) (ls : Array Slot) (hl : lv_has ls 4 [(0, .ref a0)]) (hf : f_X11_load_J12 n a0 αh1 = some res), W p l e (hp_rm 8 0 0) s m ([.ref a0, .int a1] : List Value).toArray below meth c Hh1 Lh1 0 0 (MQ below (hp_Qi Γ (fun r β => r = res.1 ∧ β = res.2 ∧ cw w_X11_load α β)) ([.ref a0, .int a1] : List Value).toArray s 0 0 (hp_A Γ)) (F0 m 12 ls []) := by
    intro αh1 Hh1 Lh1 Bh1 ls hl hf
    unfold f_X11_load_J12 at hf
    refine lv_aload_n hx hb dX11_load_12 rfl (lv_at hl 0 rfl) (hp_n (n := 13) rfl ?_)
    refine lv_iconst (v := 1) hx hb dX11_load_13 (by decide) (hp_n (n := 14) rfl ?_)
    obtain ⟨rh2, αh2, qh2, hf⟩ := hq_cE hf
    refine d_ci (pc' := 17) Bh1 (hp_runV (As := [.int (1 : Int32)]) (rest := []) C Bh1 (n_X11_refuse n Γ l αh1 Bh1.2.2.1 a0 (cw_k Bh1.2.2 k0) (1 : Int32) (rh2, αh2) qh2) lb_X11_refuse lv_X11_refuse lk_X11_98 (cw_k Bh1.2.2 k0) rfl (by decide) rfl hl.1 rfl (Nat.le_of_ble_eq_true rfl) dX11_load_14 ⟨Nat.le_refl _, Nat.le_refl _⟩) (by decide) rfl (fun Hh2 Lh2 Bh2 => ?_)
    cases hf
    exact q_iret C Bh2 hr hlk ⟨rfl, rfl, Bh2.2.2⟩ dX11_load_17
  refine lv_if_lt (tgt := 12) hx hb dX11_load_1 (by decide) (fun c3 => ?_) (fun c3 => hp_n (n := 4) rfl ?_)
  ·
    replace hf := ms_iT c3 hf
    exact J12 α s.heap [] B ls (lv_sub hl [0] rfl) hf
  ·
    replace hf := ms_iF c3 hf
    refine lv_iload_n hx hb dX11_load_4 rfl (lv_at hl 1 rfl) (hp_n (n := 5) rfl ?_)
    refine lv_aload_n hx hb dX11_load_5 rfl (lv_at hl 0 rfl) (hp_n (n := 6) rfl ?_)
    refine q_geti (κ := 12) (k := 5) (φ := 605) (pc' := 9) C B (cw_k B.2.2 k0) fl_X11_34 rfl rfl rfl dX11_load_6 rfl (fun x4 ex4 => ?_)
    replace hf := ms_lE ex4 hf
    refine lv_icmp_le (tgt := 18) hx hb dX11_load_9 (by decide) (fun c5 => ?_) (fun c5 => hp_n (n := 12) rfl ?_)
    ·
      replace hf := ms_iT c5 hf
      refine lv_aload_n hx hb dX11_load_18 rfl (lv_at hl 0 rfl) (hp_n (n := 19) rfl ?_)
      refine q_getr (κ := 12) (k := 2) (φ := 602) (pc' := 22) C B (cw_k B.2.2 k0) fl_X11_20 rfl rfl rfl (cw_r B.2.2 k0 rfl rfl (by decide) (by decide)) dX11_load_19 rfl (fun b6 eb6 kb6 => ?_)
      replace hf := ms_lE eb6 hf
      obtain ⟨αh7, qh7, hf⟩ := ms_bE hf
      refine d_cv (pc' := 25) B (hp_runV (As := []) (rest := []) C B (n_X10_renew n Γ l α B.2.2.1 b6 (cw_k B.2.2 kb6) αh7 qh7) lb_X10_renew lv_X10_renew lk_X11_102 (cw_k B.2.2 kb6) rfl (by decide) rfl hl.1 rfl (Nat.le_of_ble_eq_true rfl) dX11_load_22 ⟨Nat.le_refl _, Nat.le_refl _⟩) (by decide) rfl (fun Hh7 Lh7 Bh7 => ?_)
      refine lv_aload_n hx hb dX11_load_25 rfl (lv_at hl 0 rfl) (hp_n (n := 26) rfl ?_)
      refine lv_iload_n hx hb dX11_load_26 rfl (lv_at hl 1 rfl) (hp_n (n := 27) rfl ?_)
      obtain ⟨rh8, αh8, qh8, hf⟩ := hq_cE hf
      refine d_ci (pc' := 30) Bh7 (hp_runV (As := [.int a1]) (rest := []) C Bh7 (n_X11_loadLines n Γ l αh7 Bh7.2.2.1 a0 (cw_k Bh7.2.2 k0) a1 (rh8, αh8) qh8) lb_X11_loadLines lv_X11_loadLines lk_X11_105 (cw_k Bh7.2.2 k0) rfl (by decide) rfl hl.1 rfl (Nat.le_of_ble_eq_true rfl) dX11_load_27 ⟨Nat.le_refl _, Nat.le_refl _⟩) (by decide) rfl (fun Hh8 Lh8 Bh8 => ?_)
      refine lv_istore_n (lv' := [(2, .int rh8), (0, .ref a0), (1, .int a1)]) hx hb dX11_load_30 rfl hl (by decide) rfl (fun ls hl => hp_n (n := 31) rfl ?_)
      refine lv_aload_n hx hb dX11_load_31 rfl (lv_at hl 1 rfl) (hp_n (n := 32) rfl ?_)
      refine lv_iconst (v := 0) hx hb dX11_load_32 (by decide) (hp_n (n := 33) rfl ?_)
      refine q_puti (κ := 12) (k := 5) (φ := 605) (pc' := 36) C Bh8 (cw_k Bh8.2.2 k0) fl_X11_34 rfl rfl rfl rfl rfl rfl (cw_sI Bh8.2.2 (by decide) (fun h => absurd h (by decide))) dX11_load_33 rfl (fun αh9 Hh9 Lh9 eh9 Bh9 => ?_)
      replace hf := ms_lE eh9 hf
      refine lv_iload_n hx hb dX11_load_36 rfl (lv_at hl 0 rfl) (hp_n (n := 37) rfl ?_)
      refine lv_if_ne (tgt := 47) hx hb dX11_load_37 (by decide) (fun c10 => ?_) (fun c10 => hp_n (n := 40) rfl ?_)
      ·
        replace hf := ms_iF c10 hf
        refine lv_aload_n hx hb dX11_load_47 rfl (lv_at hl 1 rfl) (hp_n (n := 48) rfl ?_)
        refine q_getr (κ := 12) (k := 1) (φ := 601) (pc' := 51) C Bh9 (cw_k Bh9.2.2 k0) fl_X11_16 rfl rfl rfl (cw_r Bh9.2.2 k0 rfl rfl (by decide) (by decide)) dX11_load_48 rfl (fun b11 eb11 kb11 => ?_)
        replace hf := ms_lE eb11 hf
        refine lv_astore_n (lv' := [(3, .ref b11), (2, .int rh8), (0, .ref a0), (1, .int a1)]) hx hb dX11_load_51 rfl hl (by decide) rfl (fun ls hl => hp_n (n := 52) rfl ?_)
        refine lv_aload_n hx hb dX11_load_52 rfl (lv_at hl 2 rfl) (hp_n (n := 53) rfl ?_)
        refine lv_aload_n hx hb dX11_load_53 rfl (lv_at hl 2 rfl) (hp_n (n := 54) rfl ?_)
        refine q_getr (κ := 12) (k := 2) (φ := 602) (pc' := 57) C Bh9 (cw_k Bh9.2.2 k0) fl_X11_20 rfl rfl rfl (cw_r Bh9.2.2 k0 rfl rfl (by decide) (by decide)) dX11_load_54 rfl (fun b12 eb12 kb12 => ?_)
        replace hf := ms_lE eb12 hf
        refine q_putr (κ := 12) (k := 1) (φ := 601) (pc' := 60) C Bh9 (cw_k Bh9.2.2 k0) fl_X11_16 rfl rfl rfl rfl rfl rfl (cw_sR Bh9.2.2 (by decide) (Or.inl kb12)) dX11_load_57 rfl (fun αh13 Hh13 Lh13 eh13 Bh13 => ?_)
        replace hf := ms_lE eh13 hf
        refine lv_aload_n hx hb dX11_load_60 rfl (lv_at hl 2 rfl) (hp_n (n := 61) rfl ?_)
        refine lv_aload_n hx hb dX11_load_61 rfl (lv_at hl 0 rfl) (hp_n (n := 62) rfl ?_)
        refine q_putr (κ := 12) (k := 2) (φ := 602) (pc' := 65) C Bh13 (cw_k Bh13.2.2 k0) fl_X11_20 rfl rfl rfl rfl rfl rfl (cw_sR Bh13.2.2 (by decide) (Or.inl kb11)) dX11_load_62 rfl (fun αh14 Hh14 Lh14 eh14 Bh14 => ?_)
        replace hf := ms_lE eh14 hf
        refine lv_aload_n hx hb dX11_load_65 rfl (lv_at hl 2 rfl) (hp_n (n := 66) rfl ?_)
        refine q_getr (κ := 12) (k := 3) (φ := 603) (pc' := 69) C Bh14 (cw_k Bh14.2.2 k0) fl_X11_26 rfl rfl rfl (cw_r Bh14.2.2 k0 rfl rfl (by decide) (by decide)) dX11_load_66 rfl (fun b15 eb15 kb15 => ?_)
        replace hf := ms_lE eb15 hf
        refine lv_iconst (v := 0) hx hb dX11_load_69 (by decide) (hp_n (n := 70) rfl ?_)
        obtain ⟨αh16, qh16, hf⟩ := ms_bE hf
        refine d_cv (pc' := 73) Bh14 (hp_runV (As := [.int (0 : Int32)]) (rest := []) C Bh14 (n_X5_shorten n Γ l αh14 Bh14.2.2.1 b15 (cw_k Bh14.2.2 kb15) (0 : Int32) αh16 qh16) lb_X5_shorten lv_X5_shorten lk_X11_109 (cw_k Bh14.2.2 kb15) rfl (by decide) rfl hl.1 rfl (Nat.le_of_ble_eq_true rfl) dX11_load_70 ⟨Nat.le_refl _, Nat.le_refl _⟩) (by decide) rfl (fun Hh16 Lh16 Bh16 => ?_)
        refine lv_aload_n hx hb dX11_load_73 rfl (lv_at hl 2 rfl) (hp_n (n := 74) rfl ?_)
        refine lv_aload_n hx hb dX11_load_74 rfl (lv_at hl 2 rfl) (hp_n (n := 75) rfl ?_)
        refine q_getr (κ := 12) (k := 1) (φ := 601) (pc' := 78) C Bh16 (cw_k Bh16.2.2 k0) fl_X11_16 rfl rfl rfl (cw_r Bh16.2.2 k0 rfl rfl (by decide) (by decide)) dX11_load_75 rfl (fun b17 eb17 kb17 => ?_)
        replace hf := ms_lE eb17 hf
        refine q_geti (κ := 11) (k := 2) (φ := 552) (pc' := 81) C Bh16 (cw_k Bh16.2.2 kb17) fl_X11_112 rfl rfl rfl dX11_load_78 rfl (fun x18 ex18 => ?_)
        replace hf := ms_lE ex18 hf
        obtain ⟨rh19, αh19, qh19, hf⟩ := hq_cE hf
        refine d_ci (pc' := 84) Bh16 (hp_runV (As := [.int x18]) (rest := []) C Bh16 (n_X11_answer n Γ l αh16 Bh16.2.2.1 a0 (cw_k Bh16.2.2 k0) x18 (rh19, αh19) qh19) lb_X11_answer lv_X11_answer lk_X11_115 (cw_k Bh16.2.2 k0) rfl (by decide) rfl hl.1 rfl (Nat.le_of_ble_eq_true rfl) dX11_load_81 ⟨Nat.le_refl _, Nat.le_refl _⟩) (by decide) rfl (fun Hh19 Lh19 Bh19 => ?_)
        cases hf
        exact q_iret C Bh19 hr hlk ⟨rfl, rfl, Bh19.2.2⟩ dX11_load_84
      ·
        replace hf := ms_iT c10 hf
        refine lv_aload_n hx hb dX11_load_40 rfl (lv_at hl 1 rfl) (hp_n (n := 41) rfl ?_)
        refine lv_bipush (v := 9) hx hb dX11_load_41 (by decide) (hp_n (n := 43) rfl ?_)
        obtain ⟨rh20, αh20, qh20, hf⟩ := hq_cE hf
        refine d_ci (pc' := 46) Bh9 (hp_runV (As := [.int (9 : Int32)]) (rest := []) C Bh9 (n_X11_refuse n Γ l αh9 Bh9.2.2.1 a0 (cw_k Bh9.2.2 k0) (9 : Int32) (rh20, αh20) qh20) lb_X11_refuse lv_X11_refuse lk_X11_98 (cw_k Bh9.2.2 k0) rfl (by decide) rfl hl.1 rfl (Nat.le_of_ble_eq_true rfl) dX11_load_43 ⟨Nat.le_refl _, Nat.le_refl _⟩) (by decide) rfl (fun Hh20 Lh20 Bh20 => ?_)
        cases hf
        exact q_iret C Bh20 hr hlk ⟨rfl, rfl, Bh20.2.2⟩ dX11_load_46
    ·
      replace hf := ms_iF c5 hf
      exact J12 α s.heap [] B ls (lv_sub hl [0] rfl) hf
def f_X11_putOnTape_J49 (n : Nat) (a0 : Nat) (rec3 : hp_T → Int32 → Int32 → Option hp_T) (αh4 : hp_T) (v1_h4 : Int32) (v2_h4 : Int32) : Option hp_T :=
  ms_l (v2_h4 + (-8)) fun x5 =>
  rec3 αh4 v1_h4 x5
def f_X11_putOnTape_L3 (n : Nat) (a0 : Nat) : Nat → hp_T → Int32 → Int32 → Option hp_T
  | 0, _, _, _ => none
  | k3 + 1, αh1, v1_h1, v2_h1 =>
    if v2_h1 < 0 then
      some αh1
    else
      ms_l (hp_I αh1 605 a0) fun x3 =>
      if x3 < 0 then
        f_X11_putOnTape_J49 n a0 (f_X11_putOnTape_L3 n a0 k3) αh1 v1_h1 v2_h1
      else
        ms_l (hp_I αh1 605 a0) fun x7 =>
        ms_l (hp_R αh1 604 a0) fun b8 =>
        if (900 : Int32) ≤ x7 then
          f_X11_putOnTape_J49 n a0 (f_X11_putOnTape_L3 n a0 k3) αh1 v1_h1 v2_h1
        else
          ms_l (hp_R αh1 604 a0) fun b10 =>
          ms_l (hp_I αh1 605 a0) fun x11 =>
          ms_g x11 900 <|
          ms_l (hp_sE αh1 24 b10 (x11).toNatClampNeg ((((v1_h1).toUInt32 >>> ((v2_h1).toUInt32 &&& Int32.toUInt32 31)).toInt32).toInt8.toInt32).toInt8.toInt32) fun αh13 =>
          ms_l (hp_I αh13 605 a0) fun x14 =>
          ms_l (hp_sI αh13 605 a0 (x14 + (1 : Int32))) fun αh15 =>
          f_X11_putOnTape_J49 n a0 (f_X11_putOnTape_L3 n a0 k3) αh15 v1_h1 v2_h1
def f_X11_putOnTape (n : Nat) (α : hp_T) (a0 : Nat) (a1 : Int32) : Option hp_T :=
  f_X11_putOnTape_L3 n a0 n α a1 (24 : Int32)
set_option maxRecDepth 100000 in
set_option maxHeartbeats 4000000 in
theorem n_X11_putOnTape (n : Nat) (Γ : hp_G) (l : Launch) (α : hp_T) (g : GC α) (a0 : Nat) (k0 : hp_K α a0 = 12) (a1 : Int32) (res : hp_T) (hf : f_X11_putOnTape n α a0 a1 = some res) : Met l yX11_putOnTape (hp_ws yX11_putOnTape cX11_putOnTape 3 none) (hp_rm 0 0 0) (hp_Pc Γ α [.ref a0, .int a1]) (hp_Qv Γ (fun β => β = res ∧ cw w_X11_putOnTape α β)) 0 0 (hp_A Γ) := by
  unfold f_X11_putOnTape at hf
  refine hp_start (by decide) ?_
  intro p e s m below meth c C hr hlk B0 hnm
  have C : hp_C Γ p m c cX11_putOnTape 3 s ([.ref a0, .int a1] : List Value).toArray RX11 := C
  have hx := C.1.1
  have hb := C.1.2.1
  have hown := C.1.2.2.2.1
  have hts := C.1.2.2.2.2
  have B : hp_B Γ (cw w_X11_putOnTape) s α α s.heap [] := ⟨B0.1, B0.2.1, cw_rf g⟩
  have hl := lv_entry ([.ref a0, .int a1]) (n := 3) (Nat.le_of_ble_eq_true rfl)
  show W p l e (hp_rm 0 0 0) s m ([.ref a0, .int a1] : List Value).toArray below meth c s.heap [] 0 0 (MQ below (hp_Qv Γ (fun β => β = res ∧ cw w_X11_putOnTape α β)) ([.ref a0, .int a1] : List Value).toArray s 0 0 (hp_A Γ)) (entryFrame m ([.ref a0, .int a1] : List Value).toArray 3)
  rw [lg_entry_eq]
  generalize (lg_sl ([.ref a0, .int a1]) ++ List.replicate (3 - (lg_sl ([.ref a0, .int a1])).length) Slot.unset).toArray = ls at hl ⊢
  have hl : lv_has ls 3 [(0, .ref a0), (1, .int a1)] := hl
  refine lv_bipush (v := 24) hx hb dX11_putOnTape_0 (by decide) (hp_n (n := 2) rfl ?_)
  have J3 : ∀ (k3 : Nat) (αh1 : hp_T) (Hh1 : Heap) (Lh1 : List Loc) (Bh1 : hp_B Γ (cw w_X11_putOnTape) s α αh1 Hh1 Lh1) (v1_h1 : Int32) (v2_h1 : Int32) (ls : Array Slot) (hl : lv_has ls 3 [(0, .ref a0), (1, .int v1_h1), (2, .int v2_h1)]) (hf : f_X11_putOnTape_L3 n a0 k3 αh1 v1_h1 v2_h1 = some res), W p l e (hp_rm 0 0 0) s m ([.ref a0, .int a1] : List Value).toArray below meth c Hh1 Lh1 0 0 (MQ below (hp_Qv Γ (fun β => β = res ∧ cw w_X11_putOnTape α β)) ([.ref a0, .int a1] : List Value).toArray s 0 0 (hp_A Γ)) (F0 m 3 ls []) := by
    intro k3
    induction k3 with
    | zero => intro αh1 Hh1 Lh1 Bh1 v1_h1 v2_h1 ls hl hf; rw [f_X11_putOnTape_L3.eq_1] at hf; cases hf
    | succ k3 ih3 =>
      intro αh1 Hh1 Lh1 Bh1 v1_h1 v2_h1 ls hl hf
      rw [f_X11_putOnTape_L3.eq_2] at hf
      refine lv_iload_n hx hb dX11_putOnTape_3 rfl (lv_at hl 2 rfl) (hp_n (n := 4) rfl ?_)
      refine lv_if_lt (tgt := 55) hx hb dX11_putOnTape_4 (by decide) (fun c2 => ?_) (fun c2 => hp_n (n := 7) rfl ?_)
      ·
        replace hf := ms_iT c2 hf
        cases hf
        exact q_vret C Bh1 hr hlk ⟨rfl, Bh1.2.2⟩ dX11_putOnTape_55
      ·
        replace hf := ms_iF c2 hf
        refine lv_aload_n hx hb dX11_putOnTape_7 rfl (lv_at hl 0 rfl) (hp_n (n := 8) rfl ?_)
        refine q_geti (κ := 12) (k := 5) (φ := 605) (pc' := 11) C Bh1 (cw_k Bh1.2.2 k0) fl_X11_34 rfl rfl rfl dX11_putOnTape_8 rfl (fun x3 ex3 => ?_)
        replace hf := ms_lE ex3 hf
        have J49 : ∀ (αh4 : hp_T) (Hh4 : Heap) (Lh4 : List Loc) (Bh4 : hp_B Γ (cw w_X11_putOnTape) s α αh4 Hh4 Lh4) (v1_h4 : Int32) (v2_h4 : Int32) (ls : Array Slot) (hl : lv_has ls 3 [(0, .ref a0), (1, .int v1_h4), (2, .int v2_h4)]) (hf : f_X11_putOnTape_J49 n a0 (f_X11_putOnTape_L3 n a0 k3) αh4 v1_h4 v2_h4 = some res), W p l e (hp_rm 0 0 0) s m ([.ref a0, .int a1] : List Value).toArray below meth c Hh4 Lh4 0 0 (MQ below (hp_Qv Γ (fun β => β = res ∧ cw w_X11_putOnTape α β)) ([.ref a0, .int a1] : List Value).toArray s 0 0 (hp_A Γ)) (F0 m 49 ls []) := by
          intro αh4 Hh4 Lh4 Bh4 v1_h4 v2_h4 ls hl hf
          unfold f_X11_putOnTape_J49 at hf
          obtain ⟨x5, ex5⟩ : ∃ y : Int32, y = v2_h4 + (-8) := ⟨_, rfl⟩
          replace hf := ms_lE ex5 hf
          refine lv_iinc (v := x5) (lv' := [(2, .int x5), (0, .ref a0), (1, .int v1_h4)]) hx hb dX11_putOnTape_49 hl (k := 2) rfl (by rw [ex5]; rfl) (by decide) rfl (fun ls hl => hp_n (n := 52) rfl ?_)
          refine lv_goto (tgt := 3) hx hb dX11_putOnTape_52 (by decide) ?_
          exact ih3 αh4 Hh4 Lh4 Bh4 v1_h4 x5 ls (lv_sub hl [1, 2, 0] rfl) hf
        refine lv_if_lt (tgt := 49) hx hb dX11_putOnTape_11 (by decide) (fun c6 => ?_) (fun c6 => hp_n (n := 14) rfl ?_)
        ·
          replace hf := ms_iT c6 hf
          exact J49 αh1 Hh1 Lh1 Bh1 v1_h1 v2_h1 ls (lv_sub hl [0, 1, 2] rfl) hf
        ·
          replace hf := ms_iF c6 hf
          refine lv_aload_n hx hb dX11_putOnTape_14 rfl (lv_at hl 0 rfl) (hp_n (n := 15) rfl ?_)
          refine q_geti (κ := 12) (k := 5) (φ := 605) (pc' := 18) C Bh1 (cw_k Bh1.2.2 k0) fl_X11_34 rfl rfl rfl dX11_putOnTape_15 rfl (fun x7 ex7 => ?_)
          replace hf := ms_lE ex7 hf
          refine lv_aload_n hx hb dX11_putOnTape_18 rfl (lv_at hl 0 rfl) (hp_n (n := 19) rfl ?_)
          refine q_getr (κ := 12) (k := 4) (φ := 604) (pc' := 22) C Bh1 (cw_k Bh1.2.2 k0) fl_X11_30 rfl rfl rfl (cw_r Bh1.2.2 k0 rfl rfl (by decide) (by decide)) dX11_putOnTape_19 rfl (fun b8 eb8 kb8 => ?_)
          replace hf := ms_lE eb8 hf
          refine q_alen (κ := 24) (t := 1) (n := 900) (x := 900) (ty := .byte) (pc' := 23) C Bh1 (cw_k Bh1.2.2 kb8) (by decide) rfl rfl rfl dX11_putOnTape_22 rfl ?_
          refine lv_icmp_ge (tgt := 49) hx hb dX11_putOnTape_23 (by decide) (fun c9 => ?_) (fun c9 => hp_n (n := 26) rfl ?_)
          ·
            replace hf := ms_iT c9 hf
            exact J49 αh1 Hh1 Lh1 Bh1 v1_h1 v2_h1 ls (lv_sub hl [0, 1, 2] rfl) hf
          ·
            replace hf := ms_iF c9 hf
            refine lv_aload_n hx hb dX11_putOnTape_26 rfl (lv_at hl 0 rfl) (hp_n (n := 27) rfl ?_)
            refine q_getr (κ := 12) (k := 4) (φ := 604) (pc' := 30) C Bh1 (cw_k Bh1.2.2 k0) fl_X11_30 rfl rfl rfl (cw_r Bh1.2.2 k0 rfl rfl (by decide) (by decide)) dX11_putOnTape_27 rfl (fun b10 eb10 kb10 => ?_)
            replace hf := ms_lE eb10 hf
            refine lv_aload_n hx hb dX11_putOnTape_30 rfl (lv_at hl 0 rfl) (hp_n (n := 31) rfl ?_)
            refine q_geti (κ := 12) (k := 5) (φ := 605) (pc' := 34) C Bh1 (cw_k Bh1.2.2 k0) fl_X11_34 rfl rfl rfl dX11_putOnTape_31 rfl (fun x11 ex11 => ?_)
            replace hf := ms_lE ex11 hf
            refine lv_iload_n hx hb dX11_putOnTape_34 rfl (lv_at hl 1 rfl) (hp_n (n := 35) rfl ?_)
            refine lv_iload_n hx hb dX11_putOnTape_35 rfl (lv_at hl 2 rfl) (hp_n (n := 36) rfl ?_)
            refine lv_iushr hx hb dX11_putOnTape_36 rfl (hp_n (n := 37) rfl ?_)
            refine lv_i2b hx hb dX11_putOnTape_37 rfl (hp_n (n := 38) rfl ?_)
            obtain ⟨g12, hf⟩ := ms_gE hf
            refine q_bas (κ := 24) (n := 900) (pc' := 39) (y := ((((v1_h1).toUInt32 >>> ((v2_h1).toUInt32 &&& Int32.toUInt32 31)).toInt32).toInt8.toInt32).toInt8.toInt32) C Bh1 (cw_k Bh1.2.2 kb10) (by decide) rfl (vi_of g12.1 g12.2) rfl rfl (cw_sE Bh1.2.2 (by decide)) dX11_putOnTape_38 rfl (fun αh13 Hh13 Lh13 eh13 Bh13 => ?_)
            replace hf := ms_lE eh13 hf
            refine lv_aload_n hx hb dX11_putOnTape_39 rfl (lv_at hl 0 rfl) (hp_n (n := 40) rfl ?_)
            refine lv_dup hx hb dX11_putOnTape_40 rfl (hp_n (n := 41) rfl ?_)
            refine q_geti (κ := 12) (k := 5) (φ := 605) (pc' := 44) C Bh13 (cw_k Bh13.2.2 k0) fl_X11_34 rfl rfl rfl dX11_putOnTape_41 rfl (fun x14 ex14 => ?_)
            replace hf := ms_lE ex14 hf
            refine lv_iconst (v := 1) hx hb dX11_putOnTape_44 (by decide) (hp_n (n := 45) rfl ?_)
            refine lv_iadd hx hb dX11_putOnTape_45 (hp_n (n := 46) rfl ?_)
            refine q_puti (κ := 12) (k := 5) (φ := 605) (pc' := 49) C Bh13 (cw_k Bh13.2.2 k0) fl_X11_34 rfl rfl rfl rfl rfl rfl (cw_sI Bh13.2.2 (by decide) (fun h => absurd h (by decide))) dX11_putOnTape_46 rfl (fun αh15 Hh15 Lh15 eh15 Bh15 => ?_)
            replace hf := ms_lE eh15 hf
            exact J49 αh15 Hh15 Lh15 Bh15 v1_h1 v2_h1 ls (lv_sub hl [0, 1, 2] rfl) hf
  refine lv_istore_n (lv' := [(2, .int (24 : Int32)), (0, .ref a0), (1, .int a1)]) hx hb dX11_putOnTape_2 rfl hl (by decide) rfl (fun ls hl => hp_n (n := 3) rfl ?_)
  exact J3 n α s.heap [] B a1 (24 : Int32) ls (lv_sub hl [1, 2, 0] rfl) hf
def f_X11_feed (n : Nat) (α : hp_T) (a0 : Nat) (a1 : Int32) (a2 : Int32) (a3 : Int32) (a4 : Int32) (a5 : Int32) : Option (Int32 × hp_T) :=
  ms_l (hp_I α 605 a0) fun x1 =>
  if (x1 + (20 : Int32)) ≤ (900 : Int32) then
    ms_b (f_X11_putOnTape n α a0 a1) fun αh3 =>
    ms_b (f_X11_putOnTape n αh3 a0 a2) fun αh4 =>
    ms_b (f_X11_putOnTape n αh4 a0 a3) fun αh5 =>
    ms_b (f_X11_putOnTape n αh5 a0 a4) fun αh6 =>
    ms_b (f_X11_putOnTape n αh6 a0 a5) fun αh7 =>
    ms_l (hp_I αh7 605 a0) fun x8 =>
    some (x8, αh7)
  else
    some ((-1 : Int32), α)
set_option maxRecDepth 100000 in
set_option maxHeartbeats 4000000 in
theorem n_X11_feed (n : Nat) (Γ : hp_G) (l : Launch) (α : hp_T) (g : GC α) (a0 : Nat) (k0 : hp_K α a0 = 12) (a1 : Int32) (a2 : Int32) (a3 : Int32) (a4 : Int32) (a5 : Int32) (res : (Int32 × hp_T)) (hf : f_X11_feed n α a0 a1 a2 a3 a4 a5 = some res) : Met l yX11_feed (hp_ws yX11_feed cX11_feed 6 (some .int)) (hp_rm 1 0 0) (hp_Pc Γ α [.ref a0, .int a1, .int a2, .int a3, .int a4, .int a5]) (hp_Qi Γ (fun r β => r = res.1 ∧ β = res.2 ∧ cw w_X11_feed α β)) 0 0 (hp_A Γ) := by
  unfold f_X11_feed at hf
  refine hp_start (by decide) ?_
  intro p e s m below meth c C hr hlk B0 hnm
  have C : hp_C Γ p m c cX11_feed 6 s ([.ref a0, .int a1, .int a2, .int a3, .int a4, .int a5] : List Value).toArray RX11 := C
  have hx := C.1.1
  have hb := C.1.2.1
  have hown := C.1.2.2.2.1
  have hts := C.1.2.2.2.2
  have B : hp_B Γ (cw w_X11_feed) s α α s.heap [] := ⟨B0.1, B0.2.1, cw_rf g⟩
  have hl := lv_entry ([.ref a0, .int a1, .int a2, .int a3, .int a4, .int a5]) (n := 6) (Nat.le_of_ble_eq_true rfl)
  show W p l e (hp_rm 1 0 0) s m ([.ref a0, .int a1, .int a2, .int a3, .int a4, .int a5] : List Value).toArray below meth c s.heap [] 0 0 (MQ below (hp_Qi Γ (fun r β => r = res.1 ∧ β = res.2 ∧ cw w_X11_feed α β)) ([.ref a0, .int a1, .int a2, .int a3, .int a4, .int a5] : List Value).toArray s 0 0 (hp_A Γ)) (entryFrame m ([.ref a0, .int a1, .int a2, .int a3, .int a4, .int a5] : List Value).toArray 6)
  rw [lg_entry_eq]
  generalize (lg_sl ([.ref a0, .int a1, .int a2, .int a3, .int a4, .int a5]) ++ List.replicate (6 - (lg_sl ([.ref a0, .int a1, .int a2, .int a3, .int a4, .int a5])).length) Slot.unset).toArray = ls at hl ⊢
  have hl : lv_has ls 6 [(0, .ref a0), (1, .int a1), (2, .int a2), (3, .int a3), (4, .int a4), (5, .int a5)] := hl
  refine lv_aload_n hx hb dX11_feed_0 rfl (lv_at hl 0 rfl) (hp_n (n := 1) rfl ?_)
  refine q_geti (κ := 12) (k := 5) (φ := 605) (pc' := 4) C B (cw_k B.2.2 k0) fl_X11_34 rfl rfl rfl dX11_feed_1 rfl (fun x1 ex1 => ?_)
  replace hf := ms_lE ex1 hf
  refine lv_bipush (v := 20) hx hb dX11_feed_4 (by decide) (hp_n (n := 6) rfl ?_)
  refine lv_iadd hx hb dX11_feed_6 (hp_n (n := 7) rfl ?_)
  refine lv_sipush (v := 900) hx hb dX11_feed_7 (by decide) (hp_n (n := 10) rfl ?_)
  refine lv_icmp_le (tgt := 15) hx hb dX11_feed_10 (by decide) (fun c2 => ?_) (fun c2 => hp_n (n := 13) rfl ?_)
  ·
    replace hf := ms_iT c2 hf
    refine lv_aload_n hx hb dX11_feed_15 rfl (lv_at hl 0 rfl) (hp_n (n := 16) rfl ?_)
    refine lv_iload_n hx hb dX11_feed_16 rfl (lv_at hl 1 rfl) (hp_n (n := 17) rfl ?_)
    obtain ⟨αh3, qh3, hf⟩ := ms_bE hf
    refine d_cv (pc' := 20) B (hp_runV (As := [.int a1]) (rest := []) C B (n_X11_putOnTape n Γ l α B.2.2.1 a0 (cw_k B.2.2 k0) a1 αh3 qh3) lb_X11_putOnTape lv_X11_putOnTape lk_X11_94 (cw_k B.2.2 k0) rfl (by decide) rfl hl.1 rfl (Nat.le_of_ble_eq_true rfl) dX11_feed_17 ⟨Nat.le_refl _, Nat.le_refl _⟩) (by decide) rfl (fun Hh3 Lh3 Bh3 => ?_)
    refine lv_aload_n hx hb dX11_feed_20 rfl (lv_at hl 0 rfl) (hp_n (n := 21) rfl ?_)
    refine lv_iload_n hx hb dX11_feed_21 rfl (lv_at hl 2 rfl) (hp_n (n := 22) rfl ?_)
    obtain ⟨αh4, qh4, hf⟩ := ms_bE hf
    refine d_cv (pc' := 25) Bh3 (hp_runV (As := [.int a2]) (rest := []) C Bh3 (n_X11_putOnTape n Γ l αh3 Bh3.2.2.1 a0 (cw_k Bh3.2.2 k0) a2 αh4 qh4) lb_X11_putOnTape lv_X11_putOnTape lk_X11_94 (cw_k Bh3.2.2 k0) rfl (by decide) rfl hl.1 rfl (Nat.le_of_ble_eq_true rfl) dX11_feed_22 ⟨Nat.le_refl _, Nat.le_refl _⟩) (by decide) rfl (fun Hh4 Lh4 Bh4 => ?_)
    refine lv_aload_n hx hb dX11_feed_25 rfl (lv_at hl 0 rfl) (hp_n (n := 26) rfl ?_)
    refine lv_iload_n hx hb dX11_feed_26 rfl (lv_at hl 3 rfl) (hp_n (n := 27) rfl ?_)
    obtain ⟨αh5, qh5, hf⟩ := ms_bE hf
    refine d_cv (pc' := 30) Bh4 (hp_runV (As := [.int a3]) (rest := []) C Bh4 (n_X11_putOnTape n Γ l αh4 Bh4.2.2.1 a0 (cw_k Bh4.2.2 k0) a3 αh5 qh5) lb_X11_putOnTape lv_X11_putOnTape lk_X11_94 (cw_k Bh4.2.2 k0) rfl (by decide) rfl hl.1 rfl (Nat.le_of_ble_eq_true rfl) dX11_feed_27 ⟨Nat.le_refl _, Nat.le_refl _⟩) (by decide) rfl (fun Hh5 Lh5 Bh5 => ?_)
    refine lv_aload_n hx hb dX11_feed_30 rfl (lv_at hl 0 rfl) (hp_n (n := 31) rfl ?_)
    refine lv_iload hx hb dX11_feed_31 (lv_at hl 4 rfl) (hp_n (n := 33) rfl ?_)
    obtain ⟨αh6, qh6, hf⟩ := ms_bE hf
    refine d_cv (pc' := 36) Bh5 (hp_runV (As := [.int a4]) (rest := []) C Bh5 (n_X11_putOnTape n Γ l αh5 Bh5.2.2.1 a0 (cw_k Bh5.2.2 k0) a4 αh6 qh6) lb_X11_putOnTape lv_X11_putOnTape lk_X11_94 (cw_k Bh5.2.2 k0) rfl (by decide) rfl hl.1 rfl (Nat.le_of_ble_eq_true rfl) dX11_feed_33 ⟨Nat.le_refl _, Nat.le_refl _⟩) (by decide) rfl (fun Hh6 Lh6 Bh6 => ?_)
    refine lv_aload_n hx hb dX11_feed_36 rfl (lv_at hl 0 rfl) (hp_n (n := 37) rfl ?_)
    refine lv_iload hx hb dX11_feed_37 (lv_at hl 5 rfl) (hp_n (n := 39) rfl ?_)
    obtain ⟨αh7, qh7, hf⟩ := ms_bE hf
    refine d_cv (pc' := 42) Bh6 (hp_runV (As := [.int a5]) (rest := []) C Bh6 (n_X11_putOnTape n Γ l αh6 Bh6.2.2.1 a0 (cw_k Bh6.2.2 k0) a5 αh7 qh7) lb_X11_putOnTape lv_X11_putOnTape lk_X11_94 (cw_k Bh6.2.2 k0) rfl (by decide) rfl hl.1 rfl (Nat.le_of_ble_eq_true rfl) dX11_feed_39 ⟨Nat.le_refl _, Nat.le_refl _⟩) (by decide) rfl (fun Hh7 Lh7 Bh7 => ?_)
    refine lv_aload_n hx hb dX11_feed_42 rfl (lv_at hl 0 rfl) (hp_n (n := 43) rfl ?_)
    refine q_geti (κ := 12) (k := 5) (φ := 605) (pc' := 46) C Bh7 (cw_k Bh7.2.2 k0) fl_X11_34 rfl rfl rfl dX11_feed_43 rfl (fun x8 ex8 => ?_)
    replace hf := ms_lE ex8 hf
    cases hf
    exact q_iret C Bh7 hr hlk ⟨rfl, rfl, Bh7.2.2⟩ dX11_feed_46
  ·
    replace hf := ms_iF c2 hf
    refine lv_iconst (v := (-1)) hx hb dX11_feed_13 (by decide) (hp_n (n := 14) rfl ?_)
    cases hf
    exact q_iret C B hr hlk ⟨rfl, rfl, B.2.2⟩ dX11_feed_14
