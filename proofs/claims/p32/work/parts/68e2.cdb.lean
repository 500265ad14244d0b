def f_X5_at (n : Nat) (α : hp_T) (a0 : Nat) (a1 : Int32) : Option Int32 :=
  if a1 < 0 then
    some (0 : Int32)
  else
    ms_l (hp_I α 301 a0) fun x2 =>
    if x2 ≤ a1 then
      some (0 : Int32)
    else
      ms_l (hp_R α 300 a0) fun b4 =>
      if (64 : Int32) ≤ a1 then
        some (0 : Int32)
      else
        ms_l (hp_R α 300 a0) fun b6 =>
        ms_g a1 64 <|
        some (hp_E α 20 b6 (a1).toNatClampNeg)
set_option maxRecDepth 100000 in
set_option maxHeartbeats 4000000 in
theorem n_X5_at (n : Nat) (Γ : hp_G) (l : Launch) (α : hp_T) (g : GC α) (a0 : Nat) (k0 : hp_K α a0 = 6) (a1 : Int32) (res : Int32) (hf : f_X5_at n α a0 a1 = some res) : Met l yX5_at (hp_ws yX5_at cX5_at 2 (some .int)) (hp_rm 0 0 0) (hp_Pc Γ α [.ref a0, .int a1]) (hp_Qi Γ (fun r β => β = α ∧ r = res)) 0 0 (hp_A Γ) := by
  unfold f_X5_at at hf
  refine hp_start (by decide) ?_
  intro p e s m below meth c C hr hlk B0 hnm
  have C : hp_C Γ p m c cX5_at 2 s ([.ref a0, .int a1] : List Value).toArray RX5 := C
  have hx := C.1.1
  have hb := C.1.2.1
  have hown := C.1.2.2.2.1
  have hts := C.1.2.2.2.2
  have B : hp_B Γ (cw w_X5_at) s α α s.heap [] := ⟨B0.1, B0.2.1, cw_rf g⟩
  have hl := lv_entry ([.ref a0, .int a1]) (n := 2) (Nat.le_of_ble_eq_true rfl)
  show W p l e (hp_rm 0 0 0) s m ([.ref a0, .int a1] : List Value).toArray below meth c s.heap [] 0 0 (MQ below (hp_Qi Γ (fun r β => β = α ∧ r = res)) ([.ref a0, .int a1] : List Value).toArray s 0 0 (hp_A Γ)) (entryFrame m ([.ref a0, .int a1] : List Value).toArray 2)
  rw [lg_entry_eq]
  generalize (lg_sl ([.ref a0, .int a1]) ++ List.replicate (2 - (lg_sl ([.ref a0, .int a1])).length) Slot.unset).toArray = ls at hl ⊢
  have hl : lv_has ls 2 [(0, .ref a0), (1, .int a1)] := hl
  refine lv_iload_n hx hb dX5_at_0 rfl (lv_at hl 1 rfl) (hp_n (n := 1) rfl ?_)
  refine lv_if_lt (tgt := 30) hx hb dX5_at_1 (by decide) (fun c1 => ?_) (fun c1 => hp_n (n := 4) rfl ?_)
  ·
    replace hf := ms_iT c1 hf
    refine lv_iconst (v := 0) hx hb dX5_at_30 (by decide) (hp_n (n := 31) rfl ?_)
    cases hf
    exact q_iret C B hr hlk ⟨rfl, rfl⟩ dX5_at_31
  ·
    replace hf := ms_iF c1 hf
    refine lv_iload_n hx hb dX5_at_4 rfl (lv_at hl 1 rfl) (hp_n (n := 5) rfl ?_)
    refine lv_aload_n hx hb dX5_at_5 rfl (lv_at hl 0 rfl) (hp_n (n := 6) rfl ?_)
    refine q_geti (κ := 6) (k := 1) (φ := 301) (pc' := 9) C B (cw_k B.2.2 k0) fl_X5_15 rfl rfl rfl dX5_at_6 rfl (fun x2 ex2 => ?_)
    replace hf := ms_lE ex2 hf
    refine lv_icmp_ge (tgt := 30) hx hb dX5_at_9 (by decide) (fun c3 => ?_) (fun c3 => hp_n (n := 12) rfl ?_)
    ·
      replace hf := ms_iT c3 hf
      refine lv_iconst (v := 0) hx hb dX5_at_30 (by decide) (hp_n (n := 31) rfl ?_)
      cases hf
      exact q_iret C B hr hlk ⟨rfl, rfl⟩ dX5_at_31
    ·
      replace hf := ms_iF c3 hf
      refine lv_iload_n hx hb dX5_at_12 rfl (lv_at hl 1 rfl) (hp_n (n := 13) rfl ?_)
      refine lv_aload_n hx hb dX5_at_13 rfl (lv_at hl 0 rfl) (hp_n (n := 14) rfl ?_)
      refine q_getr (κ := 6) (k := 0) (φ := 300) (pc' := 17) C B (cw_k B.2.2 k0) fl_X5_9 rfl rfl rfl (cw_r B.2.2 k0 rfl rfl (by decide) (by decide)) dX5_at_14 rfl (fun b4 eb4 kb4 => ?_)
      replace hf := ms_lE eb4 hf
      refine q_alen (κ := 20) (t := 0) (n := 64) (x := 64) (ty := .int) (pc' := 18) C B (cw_k B.2.2 kb4) (by decide) rfl rfl rfl dX5_at_17 rfl ?_
      refine lv_icmp_ge (tgt := 30) hx hb dX5_at_18 (by decide) (fun c5 => ?_) (fun c5 => hp_n (n := 21) rfl ?_)
      ·
        replace hf := ms_iT c5 hf
        refine lv_iconst (v := 0) hx hb dX5_at_30 (by decide) (hp_n (n := 31) rfl ?_)
        cases hf
        exact q_iret C B hr hlk ⟨rfl, rfl⟩ dX5_at_31
      ·
        replace hf := ms_iF c5 hf
        refine lv_aload_n hx hb dX5_at_21 rfl (lv_at hl 0 rfl) (hp_n (n := 22) rfl ?_)
        refine q_getr (κ := 6) (k := 0) (φ := 300) (pc' := 25) C B (cw_k B.2.2 k0) fl_X5_9 rfl rfl rfl (cw_r B.2.2 k0 rfl rfl (by decide) (by decide)) dX5_at_22 rfl (fun b6 eb6 kb6 => ?_)
        replace hf := ms_lE eb6 hf
        refine lv_iload_n hx hb dX5_at_25 rfl (lv_at hl 1 rfl) (hp_n (n := 26) rfl ?_)
        obtain ⟨g7, hf⟩ := ms_gE hf
        refine q_ial (κ := 20) (n := 64) (pc' := 27) C B (cw_k B.2.2 kb6) (by decide) rfl (vi_of g7.1 g7.2) dX5_at_26 rfl ?_
        refine lv_goto (tgt := 31) hx hb dX5_at_27 (by decide) ?_
        cases hf
        exact q_iret C B hr hlk ⟨rfl, rfl⟩ dX5_at_31
def f_X5_put (n : Nat) (α : hp_T) (a0 : Nat) (a1 : Int32) : Option hp_T :=
  ms_l (hp_I α 301 a0) fun x1 =>
  if x1 < 0 then
    some α
  else
    ms_l (hp_I α 301 a0) fun x3 =>
    ms_l (hp_R α 300 a0) fun b4 =>
    if (64 : Int32) ≤ x3 then
      some α
    else
      ms_l (hp_R α 300 a0) fun b6 =>
      ms_l (hp_I α 301 a0) fun x7 =>
      ms_g x7 64 <|
      ms_l (hp_sE α 20 b6 (x7).toNatClampNeg a1) fun αh9 =>
      ms_l (hp_I αh9 301 a0) fun x10 =>
      ms_l (hp_sI αh9 301 a0 (x10 + (1 : Int32))) fun αh11 =>
      some αh11
set_option maxRecDepth 100000 in
set_option maxHeartbeats 4000000 in
theorem n_X5_put (n : Nat) (Γ : hp_G) (l : Launch) (α : hp_T) (g : GC α) (a0 : Nat) (k0 : hp_K α a0 = 6) (a1 : Int32) (res : hp_T) (hf : f_X5_put n α a0 a1 = some res) : Met l yX5_put (hp_ws yX5_put cX5_put 2 none) (hp_rm 0 0 0) (hp_Pc Γ α [.ref a0, .int a1]) (hp_Qv Γ (fun β => β = res ∧ cw w_X5_put α β)) 0 0 (hp_A Γ) := by
  unfold f_X5_put at hf
  refine hp_start (by decide) ?_
  intro p e s m below meth c C hr hlk B0 hnm
  have C : hp_C Γ p m c cX5_put 2 s ([.ref a0, .int a1] : List Value).toArray RX5 := C
  have hx := C.1.1
  have hb := C.1.2.1
  have hown := C.1.2.2.2.1
  have hts := C.1.2.2.2.2
  have B : hp_B Γ (cw w_X5_put) s α α s.heap [] := ⟨B0.1, B0.2.1, cw_rf g⟩
  have hl := lv_entry ([.ref a0, .int a1]) (n := 2) (Nat.le_of_ble_eq_true rfl)
  show W p l e (hp_rm 0 0 0) s m ([.ref a0, .int a1] : List Value).toArray below meth c s.heap [] 0 0 (MQ below (hp_Qv Γ (fun β => β = res ∧ cw w_X5_put α β)) ([.ref a0, .int a1] : List Value).toArray s 0 0 (hp_A Γ)) (entryFrame m ([.ref a0, .int a1] : List Value).toArray 2)
  rw [lg_entry_eq]
  generalize (lg_sl ([.ref a0, .int a1]) ++ List.replicate (2 - (lg_sl ([.ref a0, .int a1])).length) Slot.unset).toArray = ls at hl ⊢
  have hl : lv_has ls 2 [(0, .ref a0), (1, .int a1)] := hl
  refine lv_aload_n hx hb dX5_put_0 rfl (lv_at hl 0 rfl) (hp_n (n := 1) rfl ?_)
  refine q_geti (κ := 6) (k := 1) (φ := 301) (pc' := 4) C B (cw_k B.2.2 k0) fl_X5_15 rfl rfl rfl dX5_put_1 rfl (fun x1 ex1 => ?_)
  replace hf := ms_lE ex1 hf
  refine lv_if_lt (tgt := 39) hx hb dX5_put_4 (by decide) (fun c2 => ?_) (fun c2 => hp_n (n := 7) rfl ?_)
  ·
    replace hf := ms_iT c2 hf
    cases hf
    exact q_vret C B hr hlk ⟨rfl, B.2.2⟩ dX5_put_39
  ·
    replace hf := ms_iF c2 hf
    refine lv_aload_n hx hb dX5_put_7 rfl (lv_at hl 0 rfl) (hp_n (n := 8) rfl ?_)
    refine q_geti (κ := 6) (k := 1) (φ := 301) (pc' := 11) C B (cw_k B.2.2 k0) fl_X5_15 rfl rfl rfl dX5_put_8 rfl (fun x3 ex3 => ?_)
    replace hf := ms_lE ex3 hf
    refine lv_aload_n hx hb dX5_put_11 rfl (lv_at hl 0 rfl) (hp_n (n := 12) rfl ?_)
    refine q_getr (κ := 6) (k := 0) (φ := 300) (pc' := 15) C B (cw_k B.2.2 k0) fl_X5_9 rfl rfl rfl (cw_r B.2.2 k0 rfl rfl (by decide) (by decide)) dX5_put_12 rfl (fun b4 eb4 kb4 => ?_)
    replace hf := ms_lE eb4 hf
    refine q_alen (κ := 20) (t := 0) (n := 64) (x := 64) (ty := .int) (pc' := 16) C B (cw_k B.2.2 kb4) (by decide) rfl rfl rfl dX5_put_15 rfl ?_
    refine lv_icmp_ge (tgt := 39) hx hb dX5_put_16 (by decide) (fun c5 => ?_) (fun c5 => hp_n (n := 19) rfl ?_)
    ·
      replace hf := ms_iT c5 hf
      cases hf
      exact q_vret C B hr hlk ⟨rfl, B.2.2⟩ dX5_put_39
    ·
      replace hf := ms_iF c5 hf
      refine lv_aload_n hx hb dX5_put_19 rfl (lv_at hl 0 rfl) (hp_n (n := 20) rfl ?_)
      refine q_getr (κ := 6) (k := 0) (φ := 300) (pc' := 23) C B (cw_k B.2.2 k0) fl_X5_9 rfl rfl rfl (cw_r B.2.2 k0 rfl rfl (by decide) (by decide)) dX5_put_20 rfl (fun b6 eb6 kb6 => ?_)
      replace hf := ms_lE eb6 hf
      refine lv_aload_n hx hb dX5_put_23 rfl (lv_at hl 0 rfl) (hp_n (n := 24) rfl ?_)
      refine q_geti (κ := 6) (k := 1) (φ := 301) (pc' := 27) C B (cw_k B.2.2 k0) fl_X5_15 rfl rfl rfl dX5_put_24 rfl (fun x7 ex7 => ?_)
      replace hf := ms_lE ex7 hf
      refine lv_iload_n hx hb dX5_put_27 rfl (lv_at hl 1 rfl) (hp_n (n := 28) rfl ?_)
      obtain ⟨g8, hf⟩ := ms_gE hf
      refine q_ias (κ := 20) (n := 64) (pc' := 29) C B (cw_k B.2.2 kb6) (by decide) rfl (vi_of g8.1 g8.2) rfl (cw_sE B.2.2 (by decide)) dX5_put_28 rfl (fun αh9 Hh9 Lh9 eh9 Bh9 => ?_)
      replace hf := ms_lE eh9 hf
      refine lv_aload_n hx hb dX5_put_29 rfl (lv_at hl 0 rfl) (hp_n (n := 30) rfl ?_)
      refine lv_dup hx hb dX5_put_30 rfl (hp_n (n := 31) rfl ?_)
      refine q_geti (κ := 6) (k := 1) (φ := 301) (pc' := 34) C Bh9 (cw_k Bh9.2.2 k0) fl_X5_15 rfl rfl rfl dX5_put_31 rfl (fun x10 ex10 => ?_)
      replace hf := ms_lE ex10 hf
      refine lv_iconst (v := 1) hx hb dX5_put_34 (by decide) (hp_n (n := 35) rfl ?_)
      refine lv_iadd hx hb dX5_put_35 (hp_n (n := 36) rfl ?_)
      refine q_puti (κ := 6) (k := 1) (φ := 301) (pc' := 39) C Bh9 (cw_k Bh9.2.2 k0) fl_X5_15 rfl rfl rfl rfl rfl rfl (cw_sI Bh9.2.2 (by decide) (fun _ => by have q0 : x10 = x7 := (by rw [ex10, eh9, ex7]; rfl); rw [q0, ii_add (by rw [show (1 : Int32).toInt = 1 from rfl]; omega) (by rw [show (1 : Int32).toInt = 1 from rfl]; omega), show (1 : Int32).toInt = 1 from rfl]; have q1 := g8; omega)) dX5_put_36 rfl (fun αh11 Hh11 Lh11 eh11 Bh11 => ?_)
      replace hf := ms_lE eh11 hf
      cases hf
      exact q_vret C Bh11 hr hlk ⟨rfl, Bh11.2.2⟩ dX5_put_39
def f_X5_shorten (n : Nat) (α : hp_T) (a0 : Nat) (a1 : Int32) : Option hp_T :=
  if a1 < 0 then
    some α
  else
    ms_l (hp_I α 301 a0) fun x2 =>
    if x2 ≤ a1 then
      some α
    else
      ms_l (hp_sI α 301 a0 a1) fun αh4 =>
      some αh4
set_option maxRecDepth 100000 in
set_option maxHeartbeats 4000000 in
theorem n_X5_shorten (n : Nat) (Γ : hp_G) (l : Launch) (α : hp_T) (g : GC α) (a0 : Nat) (k0 : hp_K α a0 = 6) (a1 : Int32) (res : hp_T) (hf : f_X5_shorten n α a0 a1 = some res) : Met l yX5_shorten (hp_ws yX5_shorten cX5_shorten 2 none) (hp_rm 0 0 0) (hp_Pc Γ α [.ref a0, .int a1]) (hp_Qv Γ (fun β => β = res ∧ cw w_X5_shorten α β)) 0 0 (hp_A Γ) := by
  unfold f_X5_shorten at hf
  refine hp_start (by decide) ?_
  intro p e s m below meth c C hr hlk B0 hnm
  have C : hp_C Γ p m c cX5_shorten 2 s ([.ref a0, .int a1] : List Value).toArray RX5 := C
  have hx := C.1.1
  have hb := C.1.2.1
  have hown := C.1.2.2.2.1
  have hts := C.1.2.2.2.2
  have B : hp_B Γ (cw w_X5_shorten) s α α s.heap [] := ⟨B0.1, B0.2.1, cw_rf g⟩
  have hl := lv_entry ([.ref a0, .int a1]) (n := 2) (Nat.le_of_ble_eq_true rfl)
  show W p l e (hp_rm 0 0 0) s m ([.ref a0, .int a1] : List Value).toArray below meth c s.heap [] 0 0 (MQ below (hp_Qv Γ (fun β => β = res ∧ cw w_X5_shorten α β)) ([.ref a0, .int a1] : List Value).toArray s 0 0 (hp_A Γ)) (entryFrame m ([.ref a0, .int a1] : List Value).toArray 2)
  rw [lg_entry_eq]
  generalize (lg_sl ([.ref a0, .int a1]) ++ List.replicate (2 - (lg_sl ([.ref a0, .int a1])).length) Slot.unset).toArray = ls at hl ⊢
  have hl : lv_has ls 2 [(0, .ref a0), (1, .int a1)] := hl
  refine lv_iload_n hx hb dX5_shorten_0 rfl (lv_at hl 1 rfl) (hp_n (n := 1) rfl ?_)
  refine lv_if_lt (tgt := 17) hx hb dX5_shorten_1 (by decide) (fun c1 => ?_) (fun c1 => hp_n (n := 4) rfl ?_)
  ·
    replace hf := ms_iT c1 hf
    cases hf
    exact q_vret C B hr hlk ⟨rfl, B.2.2⟩ dX5_shorten_17
  ·
    replace hf := ms_iF c1 hf
    refine lv_iload_n hx hb dX5_shorten_4 rfl (lv_at hl 1 rfl) (hp_n (n := 5) rfl ?_)
    refine lv_aload_n hx hb dX5_shorten_5 rfl (lv_at hl 0 rfl) (hp_n (n := 6) rfl ?_)
    refine q_geti (κ := 6) (k := 1) (φ := 301) (pc' := 9) C B (cw_k B.2.2 k0) fl_X5_15 rfl rfl rfl dX5_shorten_6 rfl (fun x2 ex2 => ?_)
    replace hf := ms_lE ex2 hf
    refine lv_icmp_ge (tgt := 17) hx hb dX5_shorten_9 (by decide) (fun c3 => ?_) (fun c3 => hp_n (n := 12) rfl ?_)
    ·
      replace hf := ms_iT c3 hf
      cases hf
      exact q_vret C B hr hlk ⟨rfl, B.2.2⟩ dX5_shorten_17
    ·
      replace hf := ms_iF c3 hf
      refine lv_aload_n hx hb dX5_shorten_12 rfl (lv_at hl 0 rfl) (hp_n (n := 13) rfl ?_)
      refine lv_iload_n hx hb dX5_shorten_13 rfl (lv_at hl 1 rfl) (hp_n (n := 14) rfl ?_)
      refine q_puti (κ := 6) (k := 1) (φ := 301) (pc' := 17) C B (cw_k B.2.2 k0) fl_X5_15 rfl rfl rfl rfl rfl rfl (cw_sI B.2.2 (by decide) (fun _ => by have q0 := g.1 301 a0 rfl; rw [← ex2] at q0; have q1 := il_nlt c1; have q2 := il_nle c3; rw [show (0 : Int32).toInt = 0 from rfl] at q1; omega)) dX5_shorten_14 rfl (fun αh4 Hh4 Lh4 eh4 Bh4 => ?_)
      replace hf := ms_lE eh4 hf
      cases hf
      exact q_vret C Bh4 hr hlk ⟨rfl, Bh4.2.2⟩ dX5_shorten_17
def f_X9_letterAt (n : Nat) (α : hp_T) (a0 : Nat) (a1 : Int32) : Option Int32 :=
  if a1 < 0 then
    some (0 : Int32)
  else
    ms_l (hp_I α 501 a0) fun x2 =>
    if x2 ≤ a1 then
      some (0 : Int32)
    else
      ms_l (hp_R α 500 a0) fun b4 =>
      if (8 : Int32) ≤ a1 then
        some (0 : Int32)
      else
        ms_l (hp_R α 500 a0) fun b6 =>
        ms_g a1 8 <|
        some (hp_E α 27 b6 (a1).toNatClampNeg)
set_option maxRecDepth 100000 in
set_option maxHeartbeats 4000000 in
theorem n_X9_letterAt (n : Nat) (Γ : hp_G) (l : Launch) (α : hp_T) (g : GC α) (a0 : Nat) (k0 : hp_K α a0 = 10) (a1 : Int32) (res : Int32) (hf : f_X9_letterAt n α a0 a1 = some res) : Met l yX9_letterAt (hp_ws yX9_letterAt cX9_letterAt 2 (some .int)) (hp_rm 0 0 0) (hp_Pc Γ α [.ref a0, .int a1]) (hp_Qi Γ (fun r β => β = α ∧ r = res)) 0 0 (hp_A Γ) := by
  unfold f_X9_letterAt at hf
  refine hp_start (by decide) ?_
  intro p e s m below meth c C hr hlk B0 hnm
  have C : hp_C Γ p m c cX9_letterAt 2 s ([.ref a0, .int a1] : List Value).toArray RX9 := C
  have hx := C.1.1
  have hb := C.1.2.1
  have hown := C.1.2.2.2.1
  have hts := C.1.2.2.2.2
  have B : hp_B Γ (cw w_X9_letterAt) s α α s.heap [] := ⟨B0.1, B0.2.1, cw_rf g⟩
  have hl := lv_entry ([.ref a0, .int a1]) (n := 2) (Nat.le_of_ble_eq_true rfl)
  show W p l e (hp_rm 0 0 0) s m ([.ref a0, .int a1] : List Value).toArray below meth c s.heap [] 0 0 (MQ below (hp_Qi Γ (fun r β => β = α ∧ r = res)) ([.ref a0, .int a1] : List Value).toArray s 0 0 (hp_A Γ)) (entryFrame m ([.ref a0, .int a1] : List Value).toArray 2)
  rw [lg_entry_eq]
  generalize (lg_sl ([.ref a0, .int a1]) ++ List.replicate (2 - (lg_sl ([.ref a0, .int a1])).length) Slot.unset).toArray = ls at hl ⊢
  have hl : lv_has ls 2 [(0, .ref a0), (1, .int a1)] := hl
  refine lv_iload_n hx hb dX9_letterAt_0 rfl (lv_at hl 1 rfl) (hp_n (n := 1) rfl ?_)
  refine lv_if_lt (tgt := 30) hx hb dX9_letterAt_1 (by decide) (fun c1 => ?_) (fun c1 => hp_n (n := 4) rfl ?_)
  ·
    replace hf := ms_iT c1 hf
    refine lv_iconst (v := 0) hx hb dX9_letterAt_30 (by decide) (hp_n (n := 31) rfl ?_)
    cases hf
    exact q_iret C B hr hlk ⟨rfl, rfl⟩ dX9_letterAt_31
  ·
    replace hf := ms_iF c1 hf
    refine lv_iload_n hx hb dX9_letterAt_4 rfl (lv_at hl 1 rfl) (hp_n (n := 5) rfl ?_)
    refine lv_aload_n hx hb dX9_letterAt_5 rfl (lv_at hl 0 rfl) (hp_n (n := 6) rfl ?_)
    refine q_geti (κ := 10) (k := 1) (φ := 501) (pc' := 9) C B (cw_k B.2.2 k0) fl_X9_15 rfl rfl rfl dX9_letterAt_6 rfl (fun x2 ex2 => ?_)
    replace hf := ms_lE ex2 hf
    refine lv_icmp_ge (tgt := 30) hx hb dX9_letterAt_9 (by decide) (fun c3 => ?_) (fun c3 => hp_n (n := 12) rfl ?_)
    ·
      replace hf := ms_iT c3 hf
      refine lv_iconst (v := 0) hx hb dX9_letterAt_30 (by decide) (hp_n (n := 31) rfl ?_)
      cases hf
      exact q_iret C B hr hlk ⟨rfl, rfl⟩ dX9_letterAt_31
    ·
      replace hf := ms_iF c3 hf
      refine lv_iload_n hx hb dX9_letterAt_12 rfl (lv_at hl 1 rfl) (hp_n (n := 13) rfl ?_)
      refine lv_aload_n hx hb dX9_letterAt_13 rfl (lv_at hl 0 rfl) (hp_n (n := 14) rfl ?_)
      refine q_getr (κ := 10) (k := 0) (φ := 500) (pc' := 17) C B (cw_k B.2.2 k0) fl_X9_9 rfl rfl rfl (cw_r B.2.2 k0 rfl rfl (by decide) (by decide)) dX9_letterAt_14 rfl (fun b4 eb4 kb4 => ?_)
      replace hf := ms_lE eb4 hf
      refine q_alen (κ := 27) (t := 1) (n := 8) (x := 8) (ty := .byte) (pc' := 18) C B (cw_k B.2.2 kb4) (by decide) rfl rfl rfl dX9_letterAt_17 rfl ?_
      refine lv_icmp_ge (tgt := 30) hx hb dX9_letterAt_18 (by decide) (fun c5 => ?_) (fun c5 => hp_n (n := 21) rfl ?_)
      ·
        replace hf := ms_iT c5 hf
        refine lv_iconst (v := 0) hx hb dX9_letterAt_30 (by decide) (hp_n (n := 31) rfl ?_)
        cases hf
        exact q_iret C B hr hlk ⟨rfl, rfl⟩ dX9_letterAt_31
      ·
        replace hf := ms_iF c5 hf
        refine lv_aload_n hx hb dX9_letterAt_21 rfl (lv_at hl 0 rfl) (hp_n (n := 22) rfl ?_)
        refine q_getr (κ := 10) (k := 0) (φ := 500) (pc' := 25) C B (cw_k B.2.2 k0) fl_X9_9 rfl rfl rfl (cw_r B.2.2 k0 rfl rfl (by decide) (by decide)) dX9_letterAt_22 rfl (fun b6 eb6 kb6 => ?_)
        replace hf := ms_lE eb6 hf
        refine lv_iload_n hx hb dX9_letterAt_25 rfl (lv_at hl 1 rfl) (hp_n (n := 26) rfl ?_)
        obtain ⟨g7, hf⟩ := ms_gE hf
        refine q_bal (κ := 27) (n := 8) (pc' := 27) C B (cw_k B.2.2 kb6) (by decide) rfl (vi_of g7.1 g7.2) dX9_letterAt_26 rfl ?_
        refine lv_goto (tgt := 31) hx hb dX9_letterAt_27 (by decide) ?_
        cases hf
        exact q_iret C B hr hlk ⟨rfl, rfl⟩ dX9_letterAt_31
def f_X9_change (n : Nat) (α : hp_T) (a0 : Nat) (a1 : Int32) (a2 : Int32) : Option hp_T :=
  if a1 < 0 then
    some α
  else
    ms_l (hp_I α 501 a0) fun x2 =>
    if x2 ≤ a1 then
      some α
    else
      ms_l (hp_R α 500 a0) fun b4 =>
      if (8 : Int32) ≤ a1 then
        some α
      else
        ms_l (hp_R α 500 a0) fun b6 =>
        ms_g a1 8 <|
        ms_l (hp_sE α 27 b6 (a1).toNatClampNeg ((a2).toInt8.toInt32).toInt8.toInt32) fun αh8 =>
        some αh8
set_option maxRecDepth 100000 in
set_option maxHeartbeats 4000000 in
theorem n_X9_change (n : Nat) (Γ : hp_G) (l : Launch) (α : hp_T) (g : GC α) (a0 : Nat) (k0 : hp_K α a0 = 10) (a1 : Int32) (a2 : Int32) (res : hp_T) (hf : f_X9_change n α a0 a1 a2 = some res) : Met l yX9_change (hp_ws yX9_change cX9_change 3 none) (hp_rm 0 0 0) (hp_Pc Γ α [.ref a0, .int a1, .int a2]) (hp_Qv Γ (fun β => β = res ∧ cw w_X9_change α β)) 0 0 (hp_A Γ) := by
  unfold f_X9_change at hf
  refine hp_start (by decide) ?_
  intro p e s m below meth c C hr hlk B0 hnm
  have C : hp_C Γ p m c cX9_change 3 s ([.ref a0, .int a1, .int a2] : List Value).toArray RX9 := C
  have hx := C.1.1
  have hb := C.1.2.1
  have hown := C.1.2.2.2.1
  have hts := C.1.2.2.2.2
  have B : hp_B Γ (cw w_X9_change) s α α s.heap [] := ⟨B0.1, B0.2.1, cw_rf g⟩
  have hl := lv_entry ([.ref a0, .int a1, .int a2]) (n := 3) (Nat.le_of_ble_eq_true rfl)
  show W p l e (hp_rm 0 0 0) s m ([.ref a0, .int a1, .int a2] : List Value).toArray below meth c s.heap [] 0 0 (MQ below (hp_Qv Γ (fun β => β = res ∧ cw w_X9_change α β)) ([.ref a0, .int a1, .int a2] : List Value).toArray s 0 0 (hp_A Γ)) (entryFrame m ([.ref a0, .int a1, .int a2] : List Value).toArray 3)
  rw [lg_entry_eq]
  generalize (lg_sl ([.ref a0, .int a1, .int a2]) ++ List.replicate (3 - (lg_sl ([.ref a0, .int a1, .int a2])).length) Slot.unset).toArray = ls at hl ⊢
  have hl : lv_has ls 3 [(0, .ref a0), (1, .int a1), (2, .int a2)] := hl
  refine lv_iload_n hx hb dX9_change_0 rfl (lv_at hl 1 rfl) (hp_n (n := 1) rfl ?_)
  refine lv_if_lt (tgt := 29) hx hb dX9_change_1 (by decide) (fun c1 => ?_) (fun c1 => hp_n (n := 4) rfl ?_)
  ·
    replace hf := ms_iT c1 hf
    cases hf
    exact q_vret C B hr hlk ⟨rfl, B.2.2⟩ dX9_change_29
  ·
    replace hf := ms_iF c1 hf
    refine lv_iload_n hx hb dX9_change_4 rfl (lv_at hl 1 rfl) (hp_n (n := 5) rfl ?_)
    refine lv_aload_n hx hb dX9_change_5 rfl (lv_at hl 0 rfl) (hp_n (n := 6) rfl ?_)
    refine q_geti (κ := 10) (k := 1) (φ := 501) (pc' := 9) C B (cw_k B.2.2 k0) fl_X9_15 rfl rfl rfl dX9_change_6 rfl (fun x2 ex2 => ?_)
    replace hf := ms_lE ex2 hf
    refine lv_icmp_ge (tgt := 29) hx hb dX9_change_9 (by decide) (fun c3 => ?_) (fun c3 => hp_n (n := 12) rfl ?_)
    ·
      replace hf := ms_iT c3 hf
      cases hf
      exact q_vret C B hr hlk ⟨rfl, B.2.2⟩ dX9_change_29
    ·
      replace hf := ms_iF c3 hf
      refine lv_iload_n hx hb dX9_change_12 rfl (lv_at hl 1 rfl) (hp_n (n := 13) rfl ?_)
      refine lv_aload_n hx hb dX9_change_13 rfl (lv_at hl 0 rfl) (hp_n (n := 14) rfl ?_)
      refine q_getr (κ := 10) (k := 0) (φ := 500) (pc' := 17) C B (cw_k B.2.2 k0) fl_X9_9 rfl rfl rfl (cw_r B.2.2 k0 rfl rfl (by decide) (by decide)) dX9_change_14 rfl (fun b4 eb4 kb4 => ?_)
      replace hf := ms_lE eb4 hf
      refine q_alen (κ := 27) (t := 1) (n := 8) (x := 8) (ty := .byte) (pc' := 18) C B (cw_k B.2.2 kb4) (by decide) rfl rfl rfl dX9_change_17 rfl ?_
      refine lv_icmp_ge (tgt := 29) hx hb dX9_change_18 (by decide) (fun c5 => ?_) (fun c5 => hp_n (n := 21) rfl ?_)
      ·
        replace hf := ms_iT c5 hf
        cases hf
        exact q_vret C B hr hlk ⟨rfl, B.2.2⟩ dX9_change_29
      ·
        replace hf := ms_iF c5 hf
        refine lv_aload_n hx hb dX9_change_21 rfl (lv_at hl 0 rfl) (hp_n (n := 22) rfl ?_)
        refine q_getr (κ := 10) (k := 0) (φ := 500) (pc' := 25) C B (cw_k B.2.2 k0) fl_X9_9 rfl rfl rfl (cw_r B.2.2 k0 rfl rfl (by decide) (by decide)) dX9_change_22 rfl (fun b6 eb6 kb6 => ?_)
        replace hf := ms_lE eb6 hf
        refine lv_iload_n hx hb dX9_change_25 rfl (lv_at hl 1 rfl) (hp_n (n := 26) rfl ?_)
        refine lv_iload_n hx hb dX9_change_26 rfl (lv_at hl 2 rfl) (hp_n (n := 27) rfl ?_)
        refine lv_i2b hx hb dX9_change_27 rfl (hp_n (n := 28) rfl ?_)
        obtain ⟨g7, hf⟩ := ms_gE hf
        refine q_bas (κ := 27) (n := 8) (pc' := 29) (y := ((a2).toInt8.toInt32).toInt8.toInt32) C B (cw_k B.2.2 kb6) (by decide) rfl (vi_of g7.1 g7.2) rfl rfl (cw_sE B.2.2 (by decide)) dX9_change_28 rfl (fun αh8 Hh8 Lh8 eh8 Bh8 => ?_)
        replace hf := ms_lE eh8 hf
        cases hf
        exact q_vret C Bh8 hr hlk ⟨rfl, Bh8.2.2⟩ dX9_change_29
def f_X9_copy_L6 (n : Nat) (a0 : Nat) : Nat → hp_T → Nat → Int32 → Option hp_T
  | 0, _, _, _ => none
  | k6 + 1, αh2, v1_h2, v2_h2 =>
    ms_l (hp_I αh2 501 v1_h2) fun x3 =>
    if x3 ≤ v2_h2 then
      some αh2
    else
      ms_b (f_X9_letterAt n αh2 v1_h2 v2_h2) fun rh5 =>
      ms_b (f_X9_put n αh2 a0 rh5) fun αh6 =>
      ms_l (v2_h2 + 1) fun x7 =>
      (f_X9_copy_L6 n a0 k6) αh6 v1_h2 x7
def f_X9_copy (n : Nat) (α : hp_T) (a0 : Nat) (a1 : Nat) : Option hp_T :=
  ms_b (f_X9_clear n α a0) fun αh1 =>
  f_X9_copy_L6 n a0 n αh1 a1 (0 : Int32)
set_option maxRecDepth 100000 in
set_option maxHeartbeats 4000000 in
theorem n_X9_copy (n : Nat) (Γ : hp_G) (l : Launch) (α : hp_T) (g : GC α) (a0 : Nat) (k0 : hp_K α a0 = 10) (a1 : Nat) (k1 : hp_K α a1 = 10) (res : hp_T) (hf : f_X9_copy n α a0 a1 = some res) : Met l yX9_copy (hp_ws yX9_copy cX9_copy 3 none) (hp_rm 1 0 0) (hp_Pc Γ α [.ref a0, .ref a1]) (hp_Qv Γ (fun β => β = res ∧ cw w_X9_copy α β)) 0 0 (hp_A Γ) := by
  unfold f_X9_copy at hf
  refine hp_start (by decide) ?_
  intro p e s m below meth c C hr hlk B0 hnm
  have C : hp_C Γ p m c cX9_copy 3 s ([.ref a0, .ref a1] : List Value).toArray RX9 := C
  have hx := C.1.1
  have hb := C.1.2.1
  have hown := C.1.2.2.2.1
  have hts := C.1.2.2.2.2
  have B : hp_B Γ (cw w_X9_copy) s α α s.heap [] := ⟨B0.1, B0.2.1, cw_rf g⟩
  have hl := lv_entry ([.ref a0, .ref a1]) (n := 3) (Nat.le_of_ble_eq_true rfl)
  show W p l e (hp_rm 1 0 0) s m ([.ref a0, .ref a1] : List Value).toArray below meth c s.heap [] 0 0 (MQ below (hp_Qv Γ (fun β => β = res ∧ cw w_X9_copy α β)) ([.ref a0, .ref a1] : List Value).toArray s 0 0 (hp_A Γ)) (entryFrame m ([.ref a0, .ref a1] : List Value).toArray 3)
  rw [lg_entry_eq]
  generalize (lg_sl ([.ref a0, .ref a1]) ++ List.replicate (3 - (lg_sl ([.ref a0, .ref a1])).length) Slot.unset).toArray = ls at hl ⊢
  have hl : lv_has ls 3 [(0, .ref a0), (1, .ref a1)] := hl
  refine lv_aload_n hx hb dX9_copy_0 rfl (lv_at hl 0 rfl) (hp_n (n := 1) rfl ?_)
  obtain ⟨αh1, qh1, hf⟩ := ms_bE hf
  refine d_cv (pc' := 4) B (hp_runV (As := []) (rest := []) C B (n_X9_clear n Γ l α B.2.2.1 a0 (cw_k B.2.2 k0) αh1 qh1) lb_X9_clear lv_X9_clear lk_X9_19 (cw_k B.2.2 k0) rfl (by decide) rfl hl.1 rfl (Nat.le_of_ble_eq_true rfl) dX9_copy_1 ⟨Nat.le_refl _, Nat.le_refl _⟩) (by decide) rfl (fun Hh1 Lh1 Bh1 => ?_)
  refine lv_iconst (v := 0) hx hb dX9_copy_4 (by decide) (hp_n (n := 5) rfl ?_)
  have J6 : ∀ (k6 : Nat) (αh2 : hp_T) (Hh2 : Heap) (Lh2 : List Loc) (Bh2 : hp_B Γ (cw w_X9_copy) s α αh2 Hh2 Lh2) (v1_h2 : Nat) (kv1_h2 : hp_K α v1_h2 = 10) (v2_h2 : Int32) (ls : Array Slot) (hl : lv_has ls 3 [(0, .ref a0), (1, .ref v1_h2), (2, .int v2_h2)]) (hf : f_X9_copy_L6 n a0 k6 αh2 v1_h2 v2_h2 = some res), W p l e (hp_rm 1 0 0) s m ([.ref a0, .ref a1] : List Value).toArray below meth c Hh2 Lh2 0 0 (MQ below (hp_Qv Γ (fun β => β = res ∧ cw w_X9_copy α β)) ([.ref a0, .ref a1] : List Value).toArray s 0 0 (hp_A Γ)) (F0 m 6 ls []) := by
    intro k6
    induction k6 with
    | zero => intro αh2 Hh2 Lh2 Bh2 v1_h2 kv1_h2 v2_h2 ls hl hf; rw [f_X9_copy_L6.eq_1] at hf; cases hf
    | succ k6 ih6 =>
      intro αh2 Hh2 Lh2 Bh2 v1_h2 kv1_h2 v2_h2 ls hl hf
      rw [f_X9_copy_L6.eq_2] at hf
      refine lv_iload_n hx hb dX9_copy_6 rfl (lv_at hl 2 rfl) (hp_n (n := 7) rfl ?_)
      refine lv_aload_n hx hb dX9_copy_7 rfl (lv_at hl 1 rfl) (hp_n (n := 8) rfl ?_)
      refine q_geti (κ := 10) (k := 1) (φ := 501) (pc' := 11) C Bh2 (cw_k Bh2.2.2 kv1_h2) fl_X9_15 rfl rfl rfl dX9_copy_8 rfl (fun x3 ex3 => ?_)
      replace hf := ms_lE ex3 hf
      refine lv_icmp_ge (tgt := 29) hx hb dX9_copy_11 (by decide) (fun c4 => ?_) (fun c4 => hp_n (n := 14) rfl ?_)
      ·
        replace hf := ms_iT c4 hf
        cases hf
        exact q_vret C Bh2 hr hlk ⟨rfl, Bh2.2.2⟩ dX9_copy_29
      ·
        replace hf := ms_iF c4 hf
        refine lv_aload_n hx hb dX9_copy_14 rfl (lv_at hl 0 rfl) (hp_n (n := 15) rfl ?_)
        refine lv_aload_n hx hb dX9_copy_15 rfl (lv_at hl 1 rfl) (hp_n (n := 16) rfl ?_)
        refine lv_iload_n hx hb dX9_copy_16 rfl (lv_at hl 2 rfl) (hp_n (n := 17) rfl ?_)
        obtain ⟨rh5, qh5, hf⟩ := ms_bE hf
        refine d_pi (pc' := 20) Bh2 (hp_runV (As := [.int v2_h2]) (rest := [.ref a0]) C Bh2 (n_X9_letterAt n Γ l αh2 Bh2.2.2.1 v1_h2 (cw_k Bh2.2.2 kv1_h2) v2_h2 rh5 qh5) lb_X9_letterAt lv_X9_letterAt lk_X9_22 (cw_k Bh2.2.2 kv1_h2) rfl (by decide) rfl hl.1 rfl (Nat.le_of_ble_eq_true rfl) dX9_copy_17 ⟨Nat.le_refl _, Nat.le_refl _⟩) rfl (fun Hh5 Lh5 Bh5 => ?_)
        obtain ⟨αh6, qh6, hf⟩ := ms_bE hf
        refine d_cv (pc' := 23) Bh5 (hp_runV (As := [.int rh5]) (rest := []) C Bh5 (n_X9_put n Γ l αh2 Bh5.2.2.1 a0 (cw_k Bh5.2.2 k0) rh5 αh6 qh6) lb_X9_put lv_X9_put lk_X9_26 (cw_k Bh5.2.2 k0) rfl (by decide) rfl hl.1 rfl (Nat.le_of_ble_eq_true rfl) dX9_copy_20 ⟨Nat.le_refl _, Nat.le_refl _⟩) (by decide) rfl (fun Hh6 Lh6 Bh6 => ?_)
        obtain ⟨x7, ex7⟩ : ∃ y : Int32, y = v2_h2 + 1 := ⟨_, rfl⟩
        replace hf := ms_lE ex7 hf
        refine lv_iinc (v := x7) (lv' := [(2, .int x7), (0, .ref a0), (1, .ref v1_h2)]) hx hb dX9_copy_23 hl (k := 2) rfl (by rw [ex7]; rfl) (by decide) rfl (fun ls hl => hp_n (n := 26) rfl ?_)
        refine lv_goto (tgt := 6) hx hb dX9_copy_26 (by decide) ?_
        exact ih6 αh6 Hh6 Lh6 Bh6 v1_h2 kv1_h2 x7 ls (lv_sub hl [1, 2, 0] rfl) hf
  refine lv_istore_n (lv' := [(2, .int (0 : Int32)), (0, .ref a0), (1, .ref a1)]) hx hb dX9_copy_5 rfl hl (by decide) rfl (fun ls hl => hp_n (n := 6) rfl ?_)
  exact J6 n αh1 Hh1 Lh1 Bh1 a1 k1 (0 : Int32) ls (lv_sub hl [1, 2, 0] rfl) hf
def f_X7_trust (n : Nat) (α : hp_T) (a0 : Nat) (a1 : Int32) (a2 : Int32) : Option hp_T :=
  ms_l (hp_sI α 400 a0 a1) fun αh1 =>
  ms_l (hp_sI αh1 401 a0 a2) fun αh2 =>
  some αh2
set_option maxRecDepth 100000 in
set_option maxHeartbeats 4000000 in
theorem n_X7_trust (n : Nat) (Γ : hp_G) (l : Launch) (α : hp_T) (g : GC α) (a0 : Nat) (k0 : hp_K α a0 = 8) (a1 : Int32) (a2 : Int32) (res : hp_T) (hf : f_X7_trust n α a0 a1 a2 = some res) : Met l yX7_trust (hp_ws yX7_trust cX7_trust 3 none) (hp_rm 0 0 0) (hp_Pc Γ α [.ref a0, .int a1, .int a2]) (hp_Qv Γ (fun β => β = res ∧ cw w_X7_trust α β)) 0 0 (hp_A Γ) := by
  unfold f_X7_trust at hf
  refine hp_start (by decide) ?_
  intro p e s m below meth c C hr hlk B0 hnm
  have C : hp_C Γ p m c cX7_trust 3 s ([.ref a0, .int a1, .int a2] : List Value).toArray RX7 := C
  have hx := C.1.1
  have hb := C.1.2.1
  have hown := C.1.2.2.2.1
  have hts := C.1.2.2.2.2
  have B : hp_B Γ (cw w_X7_trust) s α α s.heap [] := ⟨B0.1, B0.2.1, cw_rf g⟩
  have hl := lv_entry ([.ref a0, .int a1, .int a2]) (n := 3) (Nat.le_of_ble_eq_true rfl)
  show W p l e (hp_rm 0 0 0) s m ([.ref a0, .int a1, .int a2] : List Value).toArray below meth c s.heap [] 0 0 (MQ below (hp_Qv Γ (fun β => β = res ∧ cw w_X7_trust α β)) ([.ref a0, .int a1, .int a2] : List Value).toArray s 0 0 (hp_A Γ)) (entryFrame m ([.ref a0, .int a1, .int a2] : List Value).toArray 3)
  rw [lg_entry_eq]
  generalize (lg_sl ([.ref a0, .int a1, .int a2]) ++ List.replicate (3 - (lg_sl ([.ref a0, .int a1, .int a2])).length) Slot.unset).toArray = ls at hl ⊢
  have hl : lv_has ls 3 [(0, .ref a0), (1, .int a1), (2, .int a2)] := hl
  refine lv_aload_n hx hb dX7_trust_0 rfl (lv_at hl 0 rfl) (hp_n (n := 1) rfl ?_)
  refine lv_iload_n hx hb dX7_trust_1 rfl (lv_at hl 1 rfl) (hp_n (n := 2) rfl ?_)
  refine q_puti (κ := 8) (k := 0) (φ := 400) (pc' := 5) C B (cw_k B.2.2 k0) fl_X7_9 rfl rfl rfl rfl rfl rfl (cw_sI B.2.2 (by decide) (fun h => absurd h (by decide))) dX7_trust_2 rfl (fun αh1 Hh1 Lh1 eh1 Bh1 => ?_)
  replace hf := ms_lE eh1 hf
  refine lv_aload_n hx hb dX7_trust_5 rfl (lv_at hl 0 rfl) (hp_n (n := 6) rfl ?_)
  refine lv_iload_n hx hb dX7_trust_6 rfl (lv_at hl 2 rfl) (hp_n (n := 7) rfl ?_)
  refine q_puti (κ := 8) (k := 1) (φ := 401) (pc' := 10) C Bh1 (cw_k Bh1.2.2 k0) fl_X7_15 rfl rfl rfl rfl rfl rfl (cw_sI Bh1.2.2 (by decide) (fun h => absurd h (by decide))) dX7_trust_7 rfl (fun αh2 Hh2 Lh2 eh2 Bh2 => ?_)
  replace hf := ms_lE eh2 hf
  cases hf
  exact q_vret C Bh2 hr hlk ⟨rfl, Bh2.2.2⟩ dX7_trust_10
def f_X7_renew (n : Nat) (α : hp_T) (a0 : Nat) : Option hp_T :=
  ms_b (f_X7_trust n α a0 (0 : Int32) (0 : Int32)) fun αh1 =>
  ms_l (hp_sI αh1 402 a0 (0 : Int32)) fun αh2 =>
  ms_l (hp_sI αh2 403 a0 (0 : Int32)) fun αh3 =>
  some αh3
set_option maxRecDepth 100000 in
set_option maxHeartbeats 4000000 in
theorem n_X7_renew (n : Nat) (Γ : hp_G) (l : Launch) (α : hp_T) (g : GC α) (a0 : Nat) (k0 : hp_K α a0 = 8) (res : hp_T) (hf : f_X7_renew n α a0 = some res) : Met l yX7_renew (hp_ws yX7_renew cX7_renew 1 none) (hp_rm 1 0 0) (hp_Pc Γ α [.ref a0]) (hp_Qv Γ (fun β => β = res ∧ cw w_X7_renew α β)) 0 0 (hp_A Γ) := by
  unfold f_X7_renew at hf
  refine hp_start (by decide) ?_
  intro p e s m below meth c C hr hlk B0 hnm
  have C : hp_C Γ p m c cX7_renew 1 s ([.ref a0] : List Value).toArray RX7 := C
  have hx := C.1.1
  have hb := C.1.2.1
  have hown := C.1.2.2.2.1
  have hts := C.1.2.2.2.2
  have B : hp_B Γ (cw w_X7_renew) s α α s.heap [] := ⟨B0.1, B0.2.1, cw_rf g⟩
  have hl := lv_entry ([.ref a0]) (n := 1) (Nat.le_of_ble_eq_true rfl)
  show W p l e (hp_rm 1 0 0) s m ([.ref a0] : List Value).toArray below meth c s.heap [] 0 0 (MQ below (hp_Qv Γ (fun β => β = res ∧ cw w_X7_renew α β)) ([.ref a0] : List Value).toArray s 0 0 (hp_A Γ)) (entryFrame m ([.ref a0] : List Value).toArray 1)
  rw [lg_entry_eq]
  generalize (lg_sl ([.ref a0]) ++ List.replicate (1 - (lg_sl ([.ref a0])).length) Slot.unset).toArray = ls at hl ⊢
  have hl : lv_has ls 1 [(0, .ref a0)] := hl
  refine lv_aload_n hx hb dX7_renew_0 rfl (lv_at hl 0 rfl) (hp_n (n := 1) rfl ?_)
  refine lv_iconst (v := 0) hx hb dX7_renew_1 (by decide) (hp_n (n := 2) rfl ?_)
  refine lv_iconst (v := 0) hx hb dX7_renew_2 (by decide) (hp_n (n := 3) rfl ?_)
  obtain ⟨αh1, qh1, hf⟩ := ms_bE hf
  refine d_cv (pc' := 6) B (hp_runV (As := [.int (0 : Int32), .int (0 : Int32)]) (rest := []) C B (n_X7_trust n Γ l α B.2.2.1 a0 (cw_k B.2.2 k0) (0 : Int32) (0 : Int32) αh1 qh1) lb_X7_trust lv_X7_trust lk_X7_25 (cw_k B.2.2 k0) rfl (by decide) rfl hl.1 rfl (Nat.le_of_ble_eq_true rfl) dX7_renew_3 ⟨Nat.le_refl _, Nat.le_refl _⟩) (by decide) rfl (fun Hh1 Lh1 Bh1 => ?_)
  refine lv_aload_n hx hb dX7_renew_6 rfl (lv_at hl 0 rfl) (hp_n (n := 7) rfl ?_)
  refine lv_iconst (v := 0) hx hb dX7_renew_7 (by decide) (hp_n (n := 8) rfl ?_)
  refine q_puti (κ := 8) (k := 2) (φ := 402) (pc' := 11) C Bh1 (cw_k Bh1.2.2 k0) fl_X7_18 rfl rfl rfl rfl rfl rfl (cw_sI Bh1.2.2 (by decide) (fun h => absurd h (by decide))) dX7_renew_8 rfl (fun αh2 Hh2 Lh2 eh2 Bh2 => ?_)
  replace hf := ms_lE eh2 hf
  refine lv_aload_n hx hb dX7_renew_11 rfl (lv_at hl 0 rfl) (hp_n (n := 12) rfl ?_)
  refine lv_iconst (v := 0) hx hb dX7_renew_12 (by decide) (hp_n (n := 13) rfl ?_)
  refine q_puti (κ := 8) (k := 3) (φ := 403) (pc' := 16) C Bh2 (cw_k Bh2.2.2 k0) fl_X7_21 rfl rfl rfl rfl rfl rfl (cw_sI Bh2.2.2 (by decide) (fun h => absurd h (by decide))) dX7_renew_13 rfl (fun αh3 Hh3 Lh3 eh3 Bh3 => ?_)
  replace hf := ms_lE eh3 hf
  cases hf
  exact q_vret C Bh3 hr hlk ⟨rfl, Bh3.2.2⟩ dX7_renew_16
def f_X7_hearWhy_J17 (n : Nat) (a0 : Nat) (αh2 : hp_T) (w0_h2 : Nat) : Option hp_T :=
  ms_l (hp_sI αh2 403 w0_h2 (1 : Int32)) fun αh3 =>
  some αh3
def f_X7_hearWhy_J21 (n : Nat) (a0 : Nat) (αh5 : hp_T) (w0_h5 : Nat) : Option hp_T :=
  ms_l (hp_sI αh5 403 w0_h5 (0 : Int32)) fun αh6 =>
  some αh6
def f_X7_hearWhy (n : Nat) (α : hp_T) (a0 : Nat) (a1 : Int32) : Option hp_T :=
  ms_l (hp_I α 403 a0) fun x1 =>
  if x1 = 0 then
    if a1 = 0 then
      f_X7_hearWhy_J21 n a0 α a0
    else
      if a1 = (5 : Int32) then
        f_X7_hearWhy_J21 n a0 α a0
      else
        f_X7_hearWhy_J17 n a0 α a0
  else
    f_X7_hearWhy_J17 n a0 α a0
set_option maxRecDepth 100000 in
set_option maxHeartbeats 4000000 in
theorem n_X7_hearWhy (n : Nat) (Γ : hp_G) (l : Launch) (α : hp_T) (g : GC α) (a0 : Nat) (k0 : hp_K α a0 = 8) (a1 : Int32) (res : hp_T) (hf : f_X7_hearWhy n α a0 a1 = some res) : Met l yX7_hearWhy (hp_ws yX7_hearWhy cX7_hearWhy 2 none) (hp_rm 0 0 0) (hp_Pc Γ α [.ref a0, .int a1]) (hp_Qv Γ (fun β => β = res ∧ cw w_X7_hearWhy α β)) 0 0 (hp_A Γ) := by
  unfold f_X7_hearWhy at hf
  refine hp_start (by decide) ?_
  intro p e s m below meth c C hr hlk B0 hnm
  have C : hp_C Γ p m c cX7_hearWhy 2 s ([.ref a0, .int a1] : List Value).toArray RX7 := C
  have hx := C.1.1
  have hb := C.1.2.1
  have hown := C.1.2.2.2.1
  have hts := C.1.2.2.2.2
  have B : hp_B Γ (cw w_X7_hearWhy) s α α s.heap [] := ⟨B0.1, B0.2.1, cw_rf g⟩
  have hl := lv_entry ([.ref a0, .int a1]) (n := 2) (Nat.le_of_ble_eq_true rfl)
  show W p l e (hp_rm 0 0 0) s m ([.ref a0, .int a1] : List Value).toArray below meth c s.heap [] 0 0 (MQ below (hp_Qv Γ (fun β => β = res ∧ cw w_X7_hearWhy α β)) ([.ref a0, .int a1] : List Value).toArray s 0 0 (hp_A Γ)) (entryFrame m ([.ref a0, .int a1] : List Value).toArray 2)
  rw [lg_entry_eq]
  generalize (lg_sl ([.ref a0, .int a1]) ++ List.replicate (2 - (lg_sl ([.ref a0, .int a1])).length) Slot.unset).toArray = ls at hl ⊢
  have hl : lv_has ls 2 [(0, .ref a0), (1, .int a1)] := hl
  refine lv_aload_n hx hb dX7_hearWhy_0 rfl (lv_at hl 0 rfl) (hp_n (n := 1) rfl ?_)
  refine lv_aload_n hx hb dX7_hearWhy_1 rfl (lv_at hl 0 rfl) (hp_n (n := 2) rfl ?_)
  refine q_geti (κ := 8) (k := 3) (φ := 403) (pc' := 5) C B (cw_k B.2.2 k0) fl_X7_21 rfl rfl rfl dX7_hearWhy_2 rfl (fun x1 ex1 => ?_)
  replace hf := ms_lE ex1 hf
  have J17 : ∀ (αh2 : hp_T) (Hh2 : Heap) (Lh2 : List Loc) (Bh2 : hp_B Γ (cw w_X7_hearWhy) s α αh2 Hh2 Lh2) (w0_h2 : Nat) (kw0_h2 : hp_K α w0_h2 = 8) (ls : Array Slot) (hl : lv_has ls 2 []) (hf : f_X7_hearWhy_J17 n a0 αh2 w0_h2 = some res), W p l e (hp_rm 0 0 0) s m ([.ref a0, .int a1] : List Value).toArray below meth c Hh2 Lh2 0 0 (MQ below (hp_Qv Γ (fun β => β = res ∧ cw w_X7_hearWhy α β)) ([.ref a0, .int a1] : List Value).toArray s 0 0 (hp_A Γ)) (F0 m 17 ls [.ref w0_h2]) := by
    intro αh2 Hh2 Lh2 Bh2 w0_h2 kw0_h2 ls hl hf
    unfold f_X7_hearWhy_J17 at hf
    refine lv_iconst (v := 1) hx hb dX7_hearWhy_17 (by decide) (hp_n (n := 18) rfl ?_)
    refine lv_goto (tgt := 22) hx hb dX7_hearWhy_18 (by decide) ?_
    refine q_puti (κ := 8) (k := 3) (φ := 403) (pc' := 25) C Bh2 (cw_k Bh2.2.2 kw0_h2) fl_X7_21 rfl rfl rfl rfl rfl rfl (cw_sI Bh2.2.2 (by decide) (fun h => absurd h (by decide))) dX7_hearWhy_22 rfl (fun αh3 Hh3 Lh3 eh3 Bh3 => ?_)
    replace hf := ms_lE eh3 hf
    cases hf
    exact q_vret C Bh3 hr hlk ⟨rfl, Bh3.2.2⟩ dX7_hearWhy_25
  refine lv_if_ne (tgt := 17) hx hb dX7_hearWhy_5 (by decide) (fun c4 => ?_) (fun c4 => hp_n (n := 8) rfl ?_)
  ·
    replace hf := ms_iF c4 hf
    exact J17 α s.heap [] B a0 k0 ls (lv_sub hl [] rfl) hf
  ·
    replace hf := ms_iT c4 hf
    refine lv_iload_n hx hb dX7_hearWhy_8 rfl (lv_at hl 1 rfl) (hp_n (n := 9) rfl ?_)
    have J21 : ∀ (αh5 : hp_T) (Hh5 : Heap) (Lh5 : List Loc) (Bh5 : hp_B Γ (cw w_X7_hearWhy) s α αh5 Hh5 Lh5) (w0_h5 : Nat) (kw0_h5 : hp_K α w0_h5 = 8) (ls : Array Slot) (hl : lv_has ls 2 []) (hf : f_X7_hearWhy_J21 n a0 αh5 w0_h5 = some res), W p l e (hp_rm 0 0 0) s m ([.ref a0, .int a1] : List Value).toArray below meth c Hh5 Lh5 0 0 (MQ below (hp_Qv Γ (fun β => β = res ∧ cw w_X7_hearWhy α β)) ([.ref a0, .int a1] : List Value).toArray s 0 0 (hp_A Γ)) (F0 m 21 ls [.ref w0_h5]) := by
      intro αh5 Hh5 Lh5 Bh5 w0_h5 kw0_h5 ls hl hf
      unfold f_X7_hearWhy_J21 at hf
      refine lv_iconst (v := 0) hx hb dX7_hearWhy_21 (by decide) (hp_n (n := 22) rfl ?_)
      refine q_puti (κ := 8) (k := 3) (φ := 403) (pc' := 25) C Bh5 (cw_k Bh5.2.2 kw0_h5) fl_X7_21 rfl rfl rfl rfl rfl rfl (cw_sI Bh5.2.2 (by decide) (fun h => absurd h (by decide))) dX7_hearWhy_22 rfl (fun αh6 Hh6 Lh6 eh6 Bh6 => ?_)
      replace hf := ms_lE eh6 hf
      cases hf
      exact q_vret C Bh6 hr hlk ⟨rfl, Bh6.2.2⟩ dX7_hearWhy_25
    refine lv_if_eq (tgt := 21) hx hb dX7_hearWhy_9 (by decide) (fun c7 => ?_) (fun c7 => hp_n (n := 12) rfl ?_)
    ·
      replace hf := ms_iT c7 hf
      exact J21 α s.heap [] B a0 k0 ls (lv_sub hl [] rfl) hf
    ·
      replace hf := ms_iF c7 hf
      refine lv_iload_n hx hb dX7_hearWhy_12 rfl (lv_at hl 1 rfl) (hp_n (n := 13) rfl ?_)
      refine lv_iconst (v := 5) hx hb dX7_hearWhy_13 (by decide) (hp_n (n := 14) rfl ?_)
      refine lv_icmp_eq (tgt := 21) hx hb dX7_hearWhy_14 (by decide) (fun c8 => ?_) (fun c8 => hp_n (n := 17) rfl ?_)
      ·
        replace hf := ms_iT c8 hf
        exact J21 α s.heap [] B a0 k0 ls (lv_sub hl [] rfl) hf
      ·
        replace hf := ms_iF c8 hf
        exact J17 α s.heap [] B a0 k0 ls (lv_sub hl [] rfl) hf
def f_X11_mixed (n : Nat) (a0 : Int32) (a1 : Int32) (a2 : Int32) : Option Int32 :=
  if 0 < a0 then
    ms_nl (a0).toInt64 <|
    some (((((((a1).toInt64 * (a1).toInt64) + ((3 : Int64) * (a1).toInt64)) + (a2).toInt64) + (7 : Int64)) - (((((a1).toInt64 * (a1).toInt64) + ((3 : Int64) * (a1).toInt64)) + (a2).toInt64) + (7 : Int64)) / (a0).toInt64 * (a0).toInt64)).toInt32
  else
    some (0 : Int32)
set_option maxRecDepth 100000 in
set_option maxHeartbeats 4000000 in
theorem n_X11_mixed (n : Nat) (Γ : hp_G) (l : Launch) (α : hp_T) (g : GC α) (a0 : Int32) (a1 : Int32) (a2 : Int32) (res : Int32) (hf : f_X11_mixed n a0 a1 a2 = some res) : Met l yX11_mixed (hp_ws yX11_mixed cX11_mixed 3 (some .int)) (hp_rm 0 0 0) (hp_Pc Γ α [.int a0, .int a1, .int a2]) (hp_Qi Γ (fun r β => β = α ∧ r = res)) 0 0 (hp_A Γ) := by
  unfold f_X11_mixed at hf
  refine hp_start (by decide) ?_
  intro p e s m below meth c C hr hlk B0 hnm
  have C : hp_C Γ p m c cX11_mixed 3 s ([.int a0, .int a1, .int a2] : List Value).toArray RX11 := C
  have hx := C.1.1
  have hb := C.1.2.1
  have hown := C.1.2.2.2.1
  have hts := C.1.2.2.2.2
  have B : hp_B Γ (cw w_X11_mixed) s α α s.heap [] := ⟨B0.1, B0.2.1, cw_rf g⟩
  have hl := lv_entry ([.int a0, .int a1, .int a2]) (n := 3) (Nat.le_of_ble_eq_true rfl)
  show W p l e (hp_rm 0 0 0) s m ([.int a0, .int a1, .int a2] : List Value).toArray below meth c s.heap [] 0 0 (MQ below (hp_Qi Γ (fun r β => β = α ∧ r = res)) ([.int a0, .int a1, .int a2] : List Value).toArray s 0 0 (hp_A Γ)) (entryFrame m ([.int a0, .int a1, .int a2] : List Value).toArray 3)
  rw [lg_entry_eq]
  generalize (lg_sl ([.int a0, .int a1, .int a2]) ++ List.replicate (3 - (lg_sl ([.int a0, .int a1, .int a2])).length) Slot.unset).toArray = ls at hl ⊢
  have hl : lv_has ls 3 [(0, .int a0), (1, .int a1), (2, .int a2)] := hl
  refine lv_iload_n hx hb dX11_mixed_0 rfl (lv_at hl 0 rfl) (hp_n (n := 1) rfl ?_)
  refine lv_if_gt (tgt := 6) hx hb dX11_mixed_1 (by decide) (fun c1 => ?_) (fun c1 => hp_n (n := 4) rfl ?_)
  ·
    replace hf := ms_iT c1 hf
    refine lv_iload_n hx hb dX11_mixed_6 rfl (lv_at hl 1 rfl) (hp_n (n := 7) rfl ?_)
    refine lv_i2l hx hb dX11_mixed_7 rfl (hp_n (n := 8) rfl ?_)
    refine lv_iload_n hx hb dX11_mixed_8 rfl (lv_at hl 1 rfl) (hp_n (n := 9) rfl ?_)
    refine lv_i2l hx hb dX11_mixed_9 rfl (hp_n (n := 10) rfl ?_)
    refine lv_lmul hx hb dX11_mixed_10 (hp_n (n := 11) rfl ?_)
    refine lv_ldc2 hx hb hown (hts _ kc_X11_502) dX11_mixed_11 (hp_n (n := 14) rfl ?_)
    refine lv_iload_n hx hb dX11_mixed_14 rfl (lv_at hl 1 rfl) (hp_n (n := 15) rfl ?_)
    refine lv_i2l hx hb dX11_mixed_15 rfl (hp_n (n := 16) rfl ?_)
    refine lv_lmul hx hb dX11_mixed_16 (hp_n (n := 17) rfl ?_)
    refine lv_ladd hx hb dX11_mixed_17 (hp_n (n := 18) rfl ?_)
    refine lv_iload_n hx hb dX11_mixed_18 rfl (lv_at hl 2 rfl) (hp_n (n := 19) rfl ?_)
    refine lv_i2l hx hb dX11_mixed_19 rfl (hp_n (n := 20) rfl ?_)
    refine lv_ladd hx hb dX11_mixed_20 (hp_n (n := 21) rfl ?_)
    refine lv_ldc2 hx hb hown (hts _ kc_X11_504) dX11_mixed_21 (hp_n (n := 24) rfl ?_)
    refine lv_ladd hx hb dX11_mixed_24 (hp_n (n := 25) rfl ?_)
    refine lv_iload_n hx hb dX11_mixed_25 rfl (lv_at hl 0 rfl) (hp_n (n := 26) rfl ?_)
    refine lv_i2l hx hb dX11_mixed_26 rfl (hp_n (n := 27) rfl ?_)
    obtain ⟨g2, hf⟩ := ms_nlE hf
    refine lv_lrem hx hb dX11_mixed_27 g2 (hp_n (n := 28) rfl ?_)
    refine lv_l2i hx hb dX11_mixed_28 rfl (hp_n (n := 29) rfl ?_)
    cases hf
    exact q_iret C B hr hlk ⟨rfl, rfl⟩ dX11_mixed_29
  ·
    replace hf := ms_iF c1 hf
    refine lv_iconst (v := 0) hx hb dX11_mixed_4 (by decide) (hp_n (n := 5) rfl ?_)
    cases hf
    exact q_iret C B hr hlk ⟨rfl, rfl⟩ dX11_mixed_5
def f_X11_markOfTwo (n : Nat) (a0 : Int32) (a1 : Int32) (a2 : Int32) : Option Int32 :=
  if 0 < a0 then
    ms_nl (a0).toInt64 <|
    ms_l ((((a1).toInt64 + (17 : Int64)) - ((a1).toInt64 + (17 : Int64)) / (a0).toInt64 * (a0).toInt64)) fun x3 =>
    ms_nl (a0).toInt64 <|
    some ((((((x3 * x3) + ((3 : Int64) * x3)) + (a2).toInt64) + (7 : Int64)) - ((((x3 * x3) + ((3 : Int64) * x3)) + (a2).toInt64) + (7 : Int64)) / (a0).toInt64 * (a0).toInt64)).toInt32
  else
    some (0 : Int32)
set_option maxRecDepth 100000 in
set_option maxHeartbeats 4000000 in
theorem n_X11_markOfTwo (n : Nat) (Γ : hp_G) (l : Launch) (α : hp_T) (g : GC α) (a0 : Int32) (a1 : Int32) (a2 : Int32) (res : Int32) (hf : f_X11_markOfTwo n a0 a1 a2 = some res) : Met l yX11_markOfTwo (hp_ws yX11_markOfTwo cX11_markOfTwo 5 (some .int)) (hp_rm 0 0 0) (hp_Pc Γ α [.int a0, .int a1, .int a2]) (hp_Qi Γ (fun r β => β = α ∧ r = res)) 0 0 (hp_A Γ) := by
  unfold f_X11_markOfTwo at hf
  refine hp_start (by decide) ?_
  intro p e s m below meth c C hr hlk B0 hnm
  have C : hp_C Γ p m c cX11_markOfTwo 5 s ([.int a0, .int a1, .int a2] : List Value).toArray RX11 := C
  have hx := C.1.1
  have hb := C.1.2.1
  have hown := C.1.2.2.2.1
  have hts := C.1.2.2.2.2
  have B : hp_B Γ (cw w_X11_markOfTwo) s α α s.heap [] := ⟨B0.1, B0.2.1, cw_rf g⟩
  have hl := lv_entry ([.int a0, .int a1, .int a2]) (n := 5) (Nat.le_of_ble_eq_true rfl)
  show W p l e (hp_rm 0 0 0) s m ([.int a0, .int a1, .int a2] : List Value).toArray below meth c s.heap [] 0 0 (MQ below (hp_Qi Γ (fun r β => β = α ∧ r = res)) ([.int a0, .int a1, .int a2] : List Value).toArray s 0 0 (hp_A Γ)) (entryFrame m ([.int a0, .int a1, .int a2] : List Value).toArray 5)
  rw [lg_entry_eq]
  generalize (lg_sl ([.int a0, .int a1, .int a2]) ++ List.replicate (5 - (lg_sl ([.int a0, .int a1, .int a2])).length) Slot.unset).toArray = ls at hl ⊢
  have hl : lv_has ls 5 [(0, .int a0), (1, .int a1), (2, .int a2)] := hl
  refine lv_iload_n hx hb dX11_markOfTwo_0 rfl (lv_at hl 0 rfl) (hp_n (n := 1) rfl ?_)
  refine lv_if_gt (tgt := 6) hx hb dX11_markOfTwo_1 (by decide) (fun c1 => ?_) (fun c1 => hp_n (n := 4) rfl ?_)
  ·
    replace hf := ms_iT c1 hf
    refine lv_iload_n hx hb dX11_markOfTwo_6 rfl (lv_at hl 1 rfl) (hp_n (n := 7) rfl ?_)
    refine lv_i2l hx hb dX11_markOfTwo_7 rfl (hp_n (n := 8) rfl ?_)
    refine lv_ldc2 hx hb hown (hts _ kc_X11_506) dX11_markOfTwo_8 (hp_n (n := 11) rfl ?_)
    refine lv_ladd hx hb dX11_markOfTwo_11 (hp_n (n := 12) rfl ?_)
    refine lv_iload_n hx hb dX11_markOfTwo_12 rfl (lv_at hl 0 rfl) (hp_n (n := 13) rfl ?_)
    refine lv_i2l hx hb dX11_markOfTwo_13 rfl (hp_n (n := 14) rfl ?_)
    obtain ⟨g2, hf⟩ := ms_nlE hf
    refine lv_lrem hx hb dX11_markOfTwo_14 g2 (hp_n (n := 15) rfl ?_)
    refine lv_topl (fun x3 ex3 => ?_)
    replace hf := ms_lE ex3 hf
    refine lv_lstore_n (lv' := [(3, .long x3), (0, .int a0), (1, .int a1), (2, .int a2)]) hx hb dX11_markOfTwo_15 rfl hl (by decide) rfl (fun ls hl => hp_n (n := 16) rfl ?_)
    refine lv_lload_n hx hb dX11_markOfTwo_16 rfl (lv_at hl 0 rfl) (hp_n (n := 17) rfl ?_)
    refine lv_lload_n hx hb dX11_markOfTwo_17 rfl (lv_at hl 0 rfl) (hp_n (n := 18) rfl ?_)
    refine lv_lmul hx hb dX11_markOfTwo_18 (hp_n (n := 19) rfl ?_)
    refine lv_ldc2 hx hb hown (hts _ kc_X11_502) dX11_markOfTwo_19 (hp_n (n := 22) rfl ?_)
    refine lv_lload_n hx hb dX11_markOfTwo_22 rfl (lv_at hl 0 rfl) (hp_n (n := 23) rfl ?_)
    refine lv_lmul hx hb dX11_markOfTwo_23 (hp_n (n := 24) rfl ?_)
    refine lv_ladd hx hb dX11_markOfTwo_24 (hp_n (n := 25) rfl ?_)
    refine lv_iload_n hx hb dX11_markOfTwo_25 rfl (lv_at hl 3 rfl) (hp_n (n := 26) rfl ?_)
    refine lv_i2l hx hb dX11_markOfTwo_26 rfl (hp_n (n := 27) rfl ?_)
    refine lv_ladd hx hb dX11_markOfTwo_27 (hp_n (n := 28) rfl ?_)
    refine lv_ldc2 hx hb hown (hts _ kc_X11_504) dX11_markOfTwo_28 (hp_n (n := 31) rfl ?_)
    refine lv_ladd hx hb dX11_markOfTwo_31 (hp_n (n := 32) rfl ?_)
    refine lv_iload_n hx hb dX11_markOfTwo_32 rfl (lv_at hl 1 rfl) (hp_n (n := 33) rfl ?_)
    refine lv_i2l hx hb dX11_markOfTwo_33 rfl (hp_n (n := 34) rfl ?_)
    obtain ⟨g4, hf⟩ := ms_nlE hf
    refine lv_lrem hx hb dX11_markOfTwo_34 g4 (hp_n (n := 35) rfl ?_)
    refine lv_l2i hx hb dX11_markOfTwo_35 rfl (hp_n (n := 36) rfl ?_)
    cases hf
    exact q_iret C B hr hlk ⟨rfl, rfl⟩ dX11_markOfTwo_36
  ·
    replace hf := ms_iF c1 hf
    refine lv_iconst (v := 0) hx hb dX11_markOfTwo_4 (by decide) (hp_n (n := 5) rfl ?_)
    cases hf
    exact q_iret C B hr hlk ⟨rfl, rfl⟩ dX11_markOfTwo_5
def f_X9_markBy_L4 (n : Nat) (α : hp_T) (a0 : Nat) : Nat → Int32 → Int32 → Int32 → Option Int32
  | 0, _, _, _ => none
  | k4 + 1, v1_h1, v2_h1, v3_h1 =>
    ms_l (hp_I α 501 a0) fun x2 =>
    if x2 ≤ v3_h1 then
      some v2_h1
    else
      ms_b (f_X9_letterAt n α a0 v3_h1) fun rh4 =>
      ms_b (f_X11_mixed n v1_h1 v2_h1 rh4) fun rh5 =>
      ms_l (v3_h1 + 1) fun x6 =>
      (f_X9_markBy_L4 n α a0 k4) v1_h1 rh5 x6
def f_X9_markBy (n : Nat) (α : hp_T) (a0 : Nat) (a1 : Int32) : Option Int32 :=
  f_X9_markBy_L4 n α a0 n a1 (1 : Int32) (0 : Int32)
set_option maxRecDepth 100000 in
set_option maxHeartbeats 4000000 in
theorem n_X9_markBy (n : Nat) (Γ : hp_G) (l : Launch) (α : hp_T) (g : GC α) (a0 : Nat) (k0 : hp_K α a0 = 10) (a1 : Int32) (res : Int32) (hf : f_X9_markBy n α a0 a1 = some res) : Met l yX9_markBy (hp_ws yX9_markBy cX9_markBy 4 (some .int)) (hp_rm 1 0 0) (hp_Pc Γ α [.ref a0, .int a1]) (hp_Qi Γ (fun r β => β = α ∧ r = res)) 0 0 (hp_A Γ) := by
  unfold f_X9_markBy at hf
  refine hp_start (by decide) ?_
  intro p e s m below meth c C hr hlk B0 hnm
  have C : hp_C Γ p m c cX9_markBy 4 s ([.ref a0, .int a1] : List Value).toArray RX9 := C
  have hx := C.1.1
  have hb := C.1.2.1
  have hown := C.1.2.2.2.1
  have hts := C.1.2.2.2.2
  have B : hp_B Γ (cw w_X9_markBy) s α α s.heap [] := ⟨B0.1, B0.2.1, cw_rf g⟩
  have hl := lv_entry ([.ref a0, .int a1]) (n := 4) (Nat.le_of_ble_eq_true rfl)
  show W p l e (hp_rm 1 0 0) s m ([.ref a0, .int a1] : List Value).toArray below meth c s.heap [] 0 0 (MQ below (hp_Qi Γ (fun r β => β = α ∧ r = res)) ([.ref a0, .int a1] : List Value).toArray s 0 0 (hp_A Γ)) (entryFrame m ([.ref a0, .int a1] : List Value).toArray 4)
  rw [lg_entry_eq]
  generalize (lg_sl ([.ref a0, .int a1]) ++ List.replicate (4 - (lg_sl ([.ref a0, .int a1])).length) Slot.unset).toArray = ls at hl ⊢
  have hl : lv_has ls 4 [(0, .ref a0), (1, .int a1)] := hl
  refine lv_iconst (v := 1) hx hb dX9_markBy_0 (by decide) (hp_n (n := 1) rfl ?_)
  refine lv_istore_n (lv' := [(2, .int (1 : Int32)), (0, .ref a0), (1, .int a1)]) hx hb dX9_markBy_1 rfl hl (by decide) rfl (fun ls hl => hp_n (n := 2) rfl ?_)
  refine lv_iconst (v := 0) hx hb dX9_markBy_2 (by decide) (hp_n (n := 3) rfl ?_)
  have J4 : ∀ (k4 : Nat) (Hh1 : Heap) (Lh1 : List Loc) (Bh1 : hp_B Γ (cw w_X9_markBy) s α α Hh1 Lh1) (v1_h1 : Int32) (v2_h1 : Int32) (v3_h1 : Int32) (ls : Array Slot) (hl : lv_has ls 4 [(0, .ref a0), (1, .int v1_h1), (2, .int v2_h1), (3, .int v3_h1)]) (hf : f_X9_markBy_L4 n α a0 k4 v1_h1 v2_h1 v3_h1 = some res), W p l e (hp_rm 1 0 0) s m ([.ref a0, .int a1] : List Value).toArray below meth c Hh1 Lh1 0 0 (MQ below (hp_Qi Γ (fun r β => β = α ∧ r = res)) ([.ref a0, .int a1] : List Value).toArray s 0 0 (hp_A Γ)) (F0 m 4 ls []) := by
    intro k4
    induction k4 with
    | zero => intro Hh1 Lh1 Bh1 v1_h1 v2_h1 v3_h1 ls hl hf; rw [f_X9_markBy_L4.eq_1] at hf; cases hf
    | succ k4 ih4 =>
      intro Hh1 Lh1 Bh1 v1_h1 v2_h1 v3_h1 ls hl hf
      rw [f_X9_markBy_L4.eq_2] at hf
      refine lv_iload_n hx hb dX9_markBy_4 rfl (lv_at hl 3 rfl) (hp_n (n := 5) rfl ?_)
      refine lv_aload_n hx hb dX9_markBy_5 rfl (lv_at hl 0 rfl) (hp_n (n := 6) rfl ?_)
      refine q_geti (κ := 10) (k := 1) (φ := 501) (pc' := 9) C Bh1 (cw_k Bh1.2.2 k0) fl_X9_15 rfl rfl rfl dX9_markBy_6 rfl (fun x2 ex2 => ?_)
      replace hf := ms_lE ex2 hf
      refine lv_icmp_ge (tgt := 29) hx hb dX9_markBy_9 (by decide) (fun c3 => ?_) (fun c3 => hp_n (n := 12) rfl ?_)
      ·
        replace hf := ms_iT c3 hf
        refine lv_iload_n hx hb dX9_markBy_29 rfl (lv_at hl 2 rfl) (hp_n (n := 30) rfl ?_)
        cases hf
        exact q_iret C Bh1 hr hlk ⟨rfl, rfl⟩ dX9_markBy_30
      ·
        replace hf := ms_iF c3 hf
        refine lv_iload_n hx hb dX9_markBy_12 rfl (lv_at hl 1 rfl) (hp_n (n := 13) rfl ?_)
        refine lv_iload_n hx hb dX9_markBy_13 rfl (lv_at hl 2 rfl) (hp_n (n := 14) rfl ?_)
        refine lv_aload_n hx hb dX9_markBy_14 rfl (lv_at hl 0 rfl) (hp_n (n := 15) rfl ?_)
        refine lv_iload_n hx hb dX9_markBy_15 rfl (lv_at hl 3 rfl) (hp_n (n := 16) rfl ?_)
        obtain ⟨rh4, qh4, hf⟩ := ms_bE hf
        refine d_pi (pc' := 19) Bh1 (hp_runV (As := [.int v3_h1]) (rest := [.int v2_h1, .int v1_h1]) C Bh1 (n_X9_letterAt n Γ l α Bh1.2.2.1 a0 (cw_k Bh1.2.2 k0) v3_h1 rh4 qh4) lb_X9_letterAt lv_X9_letterAt lk_X9_22 (cw_k Bh1.2.2 k0) rfl (by decide) rfl hl.1 rfl (Nat.le_of_ble_eq_true rfl) dX9_markBy_16 ⟨Nat.le_refl _, Nat.le_refl _⟩) rfl (fun Hh4 Lh4 Bh4 => ?_)
        obtain ⟨rh5, qh5, hf⟩ := ms_bE hf
        refine d_pi (pc' := 22) Bh4 (hp_runS (As := [.int v1_h1, .int v2_h1, .int rh4]) (rest := []) C Bh4 (n_X11_mixed n Γ l α Bh4.2.2.1 v1_h1 v2_h1 rh4 rh5 qh5) lb_X11_mixed ls_X11_mixed lk_X9_30 rfl (by decide) rfl hl.1 rfl (Nat.le_of_ble_eq_true rfl) dX9_markBy_19 ⟨Nat.le_refl _, Nat.le_refl _⟩) rfl (fun Hh5 Lh5 Bh5 => ?_)
        refine lv_istore_n (lv' := [(2, .int rh5), (0, .ref a0), (1, .int v1_h1), (3, .int v3_h1)]) hx hb dX9_markBy_22 rfl hl (by decide) rfl (fun ls hl => hp_n (n := 23) rfl ?_)
        obtain ⟨x6, ex6⟩ : ∃ y : Int32, y = v3_h1 + 1 := ⟨_, rfl⟩
        replace hf := ms_lE ex6 hf
        refine lv_iinc (v := x6) (lv' := [(3, .int x6), (2, .int rh5), (0, .ref a0), (1, .int v1_h1)]) hx hb dX9_markBy_23 hl (k := 3) rfl (by rw [ex6]; rfl) (by decide) rfl (fun ls hl => hp_n (n := 26) rfl ?_)
        refine lv_goto (tgt := 4) hx hb dX9_markBy_26 (by decide) ?_
        exact ih4 Hh5 Lh5 Bh5 v1_h1 rh5 x6 ls (lv_sub hl [2, 3, 1, 0] rfl) hf
  refine lv_istore_n (lv' := [(3, .int (0 : Int32)), (2, .int (1 : Int32)), (0, .ref a0), (1, .int a1)]) hx hb dX9_markBy_3 rfl hl (by decide) rfl (fun ls hl => hp_n (n := 4) rfl ?_)
  exact J4 n s.heap [] B a1 (1 : Int32) (0 : Int32) ls (lv_sub hl [2, 3, 1, 0] rfl) hf
def f_J9_min_7cf53 (n : Nat) (a0 : Int32) (a1 : Int32) : Option Int32 :=
  if a1 < a0 then
    some a1
  else
    some a0
set_option maxRecDepth 100000 in
set_option maxHeartbeats 4000000 in
theorem n_J9_min_7cf53 (n : Nat) (Γ : hp_G) (l : Launch) (α : hp_T) (g : GC α) (a0 : Int32) (a1 : Int32) (res : Int32) (hf : f_J9_min_7cf53 n a0 a1 = some res) : Met l yJ9_min_7cf53 (hp_ws yJ9_min_7cf53 cJ9_min_7cf53 2 (some .int)) (hp_rm 0 0 0) (hp_Pc Γ α [.int a0, .int a1]) (hp_Qi Γ (fun r β => β = α ∧ r = res)) 0 0 (hp_A Γ) := by
  unfold f_J9_min_7cf53 at hf
  refine hp_startF pf_J9_min_7cf53 ?_
  intro p e s m below meth c C hr hlk B0 hnm
  have C : hp_C Γ p m c cJ9_min_7cf53 2 s ([.int a0, .int a1] : List Value).toArray RJ9 := C
  have hx := C.1.1
  have hb := C.1.2.1
  have hown := C.1.2.2.2.1
  have hts := C.1.2.2.2.2
  have B : hp_B Γ (cw w_J9_min_7cf53) s α α s.heap [] := ⟨B0.1, B0.2.1, cw_rf g⟩
  have hl := lv_entry ([.int a0, .int a1]) (n := 2) (Nat.le_of_ble_eq_true rfl)
  show W p l e (hp_rm 0 0 0) s m ([.int a0, .int a1] : List Value).toArray below meth c s.heap [] 0 0 (MQ below (hp_Qi Γ (fun r β => β = α ∧ r = res)) ([.int a0, .int a1] : List Value).toArray s 0 0 (hp_A Γ)) (entryFrame m ([.int a0, .int a1] : List Value).toArray 2)
  rw [lg_entry_eq]
  generalize (lg_sl ([.int a0, .int a1]) ++ List.replicate (2 - (lg_sl ([.int a0, .int a1])).length) Slot.unset).toArray = ls at hl ⊢
  have hl : lv_has ls 2 [(0, .int a0), (1, .int a1)] := hl
  refine lv_iload_n hx hb dJ9_min_7cf53_0 rfl (lv_at hl 0 rfl) (hp_n (n := 1) rfl ?_)
  refine lv_iload_n hx hb dJ9_min_7cf53_1 rfl (lv_at hl 1 rfl) (hp_n (n := 2) rfl ?_)
  refine lv_icmp_gt (tgt := 9) hx hb dJ9_min_7cf53_2 (by decide) (fun c1 => ?_) (fun c1 => hp_n (n := 5) rfl ?_)
  ·
    replace hf := ms_iT c1 hf
    refine lv_iload_n hx hb dJ9_min_7cf53_9 rfl (lv_at hl 1 rfl) (hp_n (n := 10) rfl ?_)
    cases hf
    exact q_iret C B hr hlk ⟨rfl, rfl⟩ dJ9_min_7cf53_10
  ·
    replace hf := ms_iF c1 hf
    refine lv_iload_n hx hb dJ9_min_7cf53_5 rfl (lv_at hl 0 rfl) (hp_n (n := 6) rfl ?_)
    refine lv_goto (tgt := 10) hx hb dJ9_min_7cf53_6 (by decide) ?_
    cases hf
    exact q_iret C B hr hlk ⟨rfl, rfl⟩ dJ9_min_7cf53_10
def f_J9_max_7cf53 (n : Nat) (a0 : Int32) (a1 : Int32) : Option Int32 :=
  if a0 < a1 then
    some a1
  else
    some a0
set_option maxRecDepth 100000 in
set_option maxHeartbeats 4000000 in
theorem n_J9_max_7cf53 (n : Nat) (Γ : hp_G) (l : Launch) (α : hp_T) (g : GC α) (a0 : Int32) (a1 : Int32) (res : Int32) (hf : f_J9_max_7cf53 n a0 a1 = some res) : Met l yJ9_max_7cf53 (hp_ws yJ9_max_7cf53 cJ9_max_7cf53 2 (some .int)) (hp_rm 0 0 0) (hp_Pc Γ α [.int a0, .int a1]) (hp_Qi Γ (fun r β => β = α ∧ r = res)) 0 0 (hp_A Γ) := by
  unfold f_J9_max_7cf53 at hf
  refine hp_startF pf_J9_max_7cf53 ?_
  intro p e s m below meth c C hr hlk B0 hnm
  have C : hp_C Γ p m c cJ9_max_7cf53 2 s ([.int a0, .int a1] : List Value).toArray RJ9 := C
  have hx := C.1.1
  have hb := C.1.2.1
  have hown := C.1.2.2.2.1
  have hts := C.1.2.2.2.2
  have B : hp_B Γ (cw w_J9_max_7cf53) s α α s.heap [] := ⟨B0.1, B0.2.1, cw_rf g⟩
  have hl := lv_entry ([.int a0, .int a1]) (n := 2) (Nat.le_of_ble_eq_true rfl)
  show W p l e (hp_rm 0 0 0) s m ([.int a0, .int a1] : List Value).toArray below meth c s.heap [] 0 0 (MQ below (hp_Qi Γ (fun r β => β = α ∧ r = res)) ([.int a0, .int a1] : List Value).toArray s 0 0 (hp_A Γ)) (entryFrame m ([.int a0, .int a1] : List Value).toArray 2)
  rw [lg_entry_eq]
  generalize (lg_sl ([.int a0, .int a1]) ++ List.replicate (2 - (lg_sl ([.int a0, .int a1])).length) Slot.unset).toArray = ls at hl ⊢
  have hl : lv_has ls 2 [(0, .int a0), (1, .int a1)] := hl
  refine lv_iload_n hx hb dJ9_max_7cf53_0 rfl (lv_at hl 0 rfl) (hp_n (n := 1) rfl ?_)
  refine lv_iload_n hx hb dJ9_max_7cf53_1 rfl (lv_at hl 1 rfl) (hp_n (n := 2) rfl ?_)
  refine lv_icmp_lt (tgt := 9) hx hb dJ9_max_7cf53_2 (by decide) (fun c1 => ?_) (fun c1 => hp_n (n := 5) rfl ?_)
  ·
    replace hf := ms_iT c1 hf
    refine lv_iload_n hx hb dJ9_max_7cf53_9 rfl (lv_at hl 1 rfl) (hp_n (n := 10) rfl ?_)
    cases hf
    exact q_iret C B hr hlk ⟨rfl, rfl⟩ dJ9_max_7cf53_10
  ·
    replace hf := ms_iF c1 hf
    refine lv_iload_n hx hb dJ9_max_7cf53_5 rfl (lv_at hl 0 rfl) (hp_n (n := 6) rfl ?_)
    refine lv_goto (tgt := 10) hx hb dJ9_max_7cf53_6 (by decide) ?_
    cases hf
    exact q_iret C B hr hlk ⟨rfl, rfl⟩ dJ9_max_7cf53_10
def f_X6_byteAt (n : Nat) (α : hp_T) (a0 : Nat) (a1 : Int32) : Option Int32 :=
  if a1 < 0 then
    some (0 : Int32)
  else
    ms_l (hp_I α 351 a0) fun x2 =>
    if x2 ≤ a1 then
      some (0 : Int32)
    else
      ms_l (hp_R α 350 a0) fun b4 =>
      if hp_K α b4 = 24 then
        if (900 : Int32) ≤ a1 then
          some (0 : Int32)
        else
          ms_l (hp_R α 350 a0) fun b6 =>
          if hp_K α b6 = 24 then
            ms_g a1 900 <|
            some (hp_E α 24 b6 (a1).toNatClampNeg)
          else
            none
      else
        if (0 : Int32) ≤ a1 then
          some (0 : Int32)
        else
          ms_l (hp_R α 350 a0) fun b10 =>
          if hp_K α b10 = 24 then
            ms_g a1 900 <|
            some (hp_E α 24 b10 (a1).toNatClampNeg)
          else
            none
set_option maxRecDepth 100000 in
set_option maxHeartbeats 4000000 in
theorem n_X6_byteAt (n : Nat) (Γ : hp_G) (l : Launch) (α : hp_T) (g : GC α) (a0 : Nat) (k0 : hp_K α a0 = 7) (a1 : Int32) (res : Int32) (hf : f_X6_byteAt n α a0 a1 = some res) : Met l yX6_byteAt (hp_ws yX6_byteAt cX6_byteAt 2 (some .int)) (hp_rm 0 0 0) (hp_Pc Γ α [.ref a0, .int a1]) (hp_Qi Γ (fun r β => β = α ∧ r = res)) 0 0 (hp_A Γ) := by
  unfold f_X6_byteAt at hf
  refine hp_start (by decide) ?_
  intro p e s m below meth c C hr hlk B0 hnm
  have C : hp_C Γ p m c cX6_byteAt 2 s ([.ref a0, .int a1] : List Value).toArray RX6 := C
  have hx := C.1.1
  have hb := C.1.2.1
  have hown := C.1.2.2.2.1
  have hts := C.1.2.2.2.2
  have B : hp_B Γ (cw w_X6_byteAt) s α α s.heap [] := ⟨B0.1, B0.2.1, cw_rf g⟩
  have hl := lv_entry ([.ref a0, .int a1]) (n := 2) (Nat.le_of_ble_eq_true rfl)
  show W p l e (hp_rm 0 0 0) s m ([.ref a0, .int a1] : List Value).toArray below meth c s.heap [] 0 0 (MQ below (hp_Qi Γ (fun r β => β = α ∧ r = res)) ([.ref a0, .int a1] : List Value).toArray s 0 0 (hp_A Γ)) (entryFrame m ([.ref a0, .int a1] : List Value).toArray 2)
  rw [lg_entry_eq]
  generalize (lg_sl ([.ref a0, .int a1]) ++ List.replicate (2 - (lg_sl ([.ref a0, .int a1])).length) Slot.unset).toArray = ls at hl ⊢
  have hl : lv_has ls 2 [(0, .ref a0), (1, .int a1)] := hl
  refine lv_iload_n hx hb dX6_byteAt_0 rfl (lv_at hl 1 rfl) (hp_n (n := 1) rfl ?_)
  refine lv_if_lt (tgt := 30) hx hb dX6_byteAt_1 (by decide) (fun c1 => ?_) (fun c1 => hp_n (n := 4) rfl ?_)
  ·
    replace hf := ms_iT c1 hf
    refine lv_iconst (v := 0) hx hb dX6_byteAt_30 (by decide) (hp_n (n := 31) rfl ?_)
    cases hf
    exact q_iret C B hr hlk ⟨rfl, rfl⟩ dX6_byteAt_31
  ·
    replace hf := ms_iF c1 hf
    refine lv_iload_n hx hb dX6_byteAt_4 rfl (lv_at hl 1 rfl) (hp_n (n := 5) rfl ?_)
    refine lv_aload_n hx hb dX6_byteAt_5 rfl (lv_at hl 0 rfl) (hp_n (n := 6) rfl ?_)
    refine q_geti (κ := 7) (k := 1) (φ := 351) (pc' := 9) C B (cw_k B.2.2 k0) fl_X6_15 rfl rfl rfl dX6_byteAt_6 rfl (fun x2 ex2 => ?_)
    replace hf := ms_lE ex2 hf
    refine lv_icmp_ge (tgt := 30) hx hb dX6_byteAt_9 (by decide) (fun c3 => ?_) (fun c3 => hp_n (n := 12) rfl ?_)
    ·
      replace hf := ms_iT c3 hf
      refine lv_iconst (v := 0) hx hb dX6_byteAt_30 (by decide) (hp_n (n := 31) rfl ?_)
      cases hf
      exact q_iret C B hr hlk ⟨rfl, rfl⟩ dX6_byteAt_31
    ·
      replace hf := ms_iF c3 hf
      refine lv_iload_n hx hb dX6_byteAt_12 rfl (lv_at hl 1 rfl) (hp_n (n := 13) rfl ?_)
      refine lv_aload_n hx hb dX6_byteAt_13 rfl (lv_at hl 0 rfl) (hp_n (n := 14) rfl ?_)
      refine q_getu (κ := 7) (k := 0) (φ := 350) (pc' := 17) C B (cw_k B.2.2 k0) fl_X6_9 rfl rfl rfl (cw_u B.2.2 k0) dX6_byteAt_14 rfl (fun b4 eb4 kb4 => ?_)
      replace hf := ms_lE eb4 hf
      rcases kb4 with kb4 | kb4
      ·
        replace hf := ms_iT (cw_k B.2.2 kb4) hf
        refine q_alen (κ := 24) (t := 1) (n := 900) (x := 900) (ty := .byte) (pc' := 18) C B (cw_k B.2.2 kb4) (by decide) rfl rfl rfl dX6_byteAt_17 rfl ?_
        refine lv_icmp_ge (tgt := 30) hx hb dX6_byteAt_18 (by decide) (fun c5 => ?_) (fun c5 => hp_n (n := 21) rfl ?_)
        ·
          replace hf := ms_iT c5 hf
          refine lv_iconst (v := 0) hx hb dX6_byteAt_30 (by decide) (hp_n (n := 31) rfl ?_)
          cases hf
          exact q_iret C B hr hlk ⟨rfl, rfl⟩ dX6_byteAt_31
        ·
          replace hf := ms_iF c5 hf
          refine lv_aload_n hx hb dX6_byteAt_21 rfl (lv_at hl 0 rfl) (hp_n (n := 22) rfl ?_)
          refine q_getu (κ := 7) (k := 0) (φ := 350) (pc' := 25) C B (cw_k B.2.2 k0) fl_X6_9 rfl rfl rfl (cw_u B.2.2 k0) dX6_byteAt_22 rfl (fun b6 eb6 kb6 => ?_)
          replace hf := ms_lE eb6 hf
          rcases kb6 with kb6 | kb6
          ·
            replace hf := ms_iT (cw_k B.2.2 kb6) hf
            refine lv_iload_n hx hb dX6_byteAt_25 rfl (lv_at hl 1 rfl) (hp_n (n := 26) rfl ?_)
            obtain ⟨g7, hf⟩ := ms_gE hf
            refine q_bal (κ := 24) (n := 900) (pc' := 27) C B (cw_k B.2.2 kb6) (by decide) rfl (vi_of g7.1 g7.2) dX6_byteAt_26 rfl ?_
            refine lv_goto (tgt := 31) hx hb dX6_byteAt_27 (by decide) ?_
            cases hf
            exact q_iret C B hr hlk ⟨rfl, rfl⟩ dX6_byteAt_31
          ·
            replace hf := ms_iF (by rw [cw_k B.2.2 kb6]; decide) hf
            refine lv_iload_n hx hb dX6_byteAt_25 rfl (lv_at hl 1 rfl) (hp_n (n := 26) rfl ?_)
            cases hf
      ·
        replace hf := ms_iF (by rw [cw_k B.2.2 kb4]; decide) hf
        refine q_alen (κ := 36) (t := 1) (n := 0) (x := 0) (ty := .byte) (pc' := 18) C B (cw_k B.2.2 kb4) (by decide) rfl rfl rfl dX6_byteAt_17 rfl ?_
        refine lv_icmp_ge (tgt := 30) hx hb dX6_byteAt_18 (by decide) (fun c9 => ?_) (fun c9 => hp_n (n := 21) rfl ?_)
        ·
          replace hf := ms_iT c9 hf
          refine lv_iconst (v := 0) hx hb dX6_byteAt_30 (by decide) (hp_n (n := 31) rfl ?_)
          cases hf
          exact q_iret C B hr hlk ⟨rfl, rfl⟩ dX6_byteAt_31
        ·
          replace hf := ms_iF c9 hf
          refine lv_aload_n hx hb dX6_byteAt_21 rfl (lv_at hl 0 rfl) (hp_n (n := 22) rfl ?_)
          refine q_getu (κ := 7) (k := 0) (φ := 350) (pc' := 25) C B (cw_k B.2.2 k0) fl_X6_9 rfl rfl rfl (cw_u B.2.2 k0) dX6_byteAt_22 rfl (fun b10 eb10 kb10 => ?_)
          replace hf := ms_lE eb10 hf
          rcases kb10 with kb10 | kb10
          ·
            replace hf := ms_iT (cw_k B.2.2 kb10) hf
            refine lv_iload_n hx hb dX6_byteAt_25 rfl (lv_at hl 1 rfl) (hp_n (n := 26) rfl ?_)
            obtain ⟨g11, hf⟩ := ms_gE hf
            refine q_bal (κ := 24) (n := 900) (pc' := 27) C B (cw_k B.2.2 kb10) (by decide) rfl (vi_of g11.1 g11.2) dX6_byteAt_26 rfl ?_
            refine lv_goto (tgt := 31) hx hb dX6_byteAt_27 (by decide) ?_
            cases hf
            exact q_iret C B hr hlk ⟨rfl, rfl⟩ dX6_byteAt_31
          ·
            replace hf := ms_iF (by rw [cw_k B.2.2 kb10]; decide) hf
            refine lv_iload_n hx hb dX6_byteAt_25 rfl (lv_at hl 1 rfl) (hp_n (n := 26) rfl ?_)
            cases hf
def f_X6_isBlank_J12 (n : Nat) : Option Int32 :=
  some (1 : Int32)
def f_X6_isBlank (n : Nat) (a0 : Int32) : Option Int32 :=
  if a0 = (10 : Int32) then
    f_X6_isBlank_J12 n 
  else
    if a0 = (32 : Int32) then
      f_X6_isBlank_J12 n 
    else
      some (0 : Int32)
set_option maxRecDepth 100000 in
set_option maxHeartbeats 4000000 in
theorem n_X6_isBlank (n : Nat) (Γ : hp_G) (l : Launch) (α : hp_T) (g : GC α) (a0 : Int32) (res : Int32) (hf : f_X6_isBlank n a0 = some res) : Met l yX6_isBlank (hp_ws yX6_isBlank cX6_isBlank 1 (some .boolean)) (hp_rm 0 0 0) (hp_Pc Γ α [.int a0]) (hp_Qi Γ (fun r β => β = α ∧ r = res)) 0 0 (hp_A Γ) := by
  unfold f_X6_isBlank at hf
  refine hp_start (by decide) ?_
  intro p e s m below meth c C hr hlk B0 hnm
  have C : hp_C Γ p m c cX6_isBlank 1 s ([.int a0] : List Value).toArray RX6 := C
  have hx := C.1.1
  have hb := C.1.2.1
  have hown := C.1.2.2.2.1
  have hts := C.1.2.2.2.2
  have B : hp_B Γ (cw w_X6_isBlank) s α α s.heap [] := ⟨B0.1, B0.2.1, cw_rf g⟩
  have hl := lv_entry ([.int a0]) (n := 1) (Nat.le_of_ble_eq_true rfl)
  show W p l e (hp_rm 0 0 0) s m ([.int a0] : List Value).toArray below meth c s.heap [] 0 0 (MQ below (hp_Qi Γ (fun r β => β = α ∧ r = res)) ([.int a0] : List Value).toArray s 0 0 (hp_A Γ)) (entryFrame m ([.int a0] : List Value).toArray 1)
  rw [lg_entry_eq]
  generalize (lg_sl ([.int a0]) ++ List.replicate (1 - (lg_sl ([.int a0])).length) Slot.unset).toArray = ls at hl ⊢
  have hl : lv_has ls 1 [(0, .int a0)] := hl
  refine lv_iload_n hx hb dX6_isBlank_0 rfl (lv_at hl 0 rfl) (hp_n (n := 1) rfl ?_)
  refine lv_bipush (v := 10) hx hb dX6_isBlank_1 (by decide) (hp_n (n := 3) rfl ?_)
  have J12 : ∀ (Hh1 : Heap) (Lh1 : List Loc) (Bh1 : hp_B Γ (cw w_X6_isBlank) s α α Hh1 Lh1) (ls : Array Slot) (hl : lv_has ls 1 []) (hf : f_X6_isBlank_J12 n  = some res), W p l e (hp_rm 0 0 0) s m ([.int a0] : List Value).toArray below meth c Hh1 Lh1 0 0 (MQ below (hp_Qi Γ (fun r β => β = α ∧ r = res)) ([.int a0] : List Value).toArray s 0 0 (hp_A Γ)) (F0 m 12 ls []) := by
    intro Hh1 Lh1 Bh1 ls hl hf
    unfold f_X6_isBlank_J12 at hf
    refine lv_iconst (v := 1) hx hb dX6_isBlank_12 (by decide) (hp_n (n := 13) rfl ?_)
    refine lv_goto (tgt := 17) hx hb dX6_isBlank_13 (by decide) ?_
    cases hf
    exact q_zret C Bh1 hr hlk (by decide) ⟨rfl, rfl⟩ dX6_isBlank_17
  refine lv_icmp_eq (tgt := 12) hx hb dX6_isBlank_3 (by decide) (fun c2 => ?_) (fun c2 => hp_n (n := 6) rfl ?_)
  ·
    replace hf := ms_iT c2 hf
    exact J12 s.heap [] B ls (lv_sub hl [] rfl) hf
  ·
    replace hf := ms_iF c2 hf
    refine lv_iload_n hx hb dX6_isBlank_6 rfl (lv_at hl 0 rfl) (hp_n (n := 7) rfl ?_)
    refine lv_bipush (v := 32) hx hb dX6_isBlank_7 (by decide) (hp_n (n := 9) rfl ?_)
    refine lv_icmp_ne (tgt := 16) hx hb dX6_isBlank_9 (by decide) (fun c3 => ?_) (fun c3 => hp_n (n := 12) rfl ?_)
    ·
      replace hf := ms_iF c3 hf
      refine lv_iconst (v := 0) hx hb dX6_isBlank_16 (by decide) (hp_n (n := 17) rfl ?_)
      cases hf
      exact q_zret C B hr hlk (by decide) ⟨rfl, rfl⟩ dX6_isBlank_17
    ·
      replace hf := ms_iT c3 hf
      exact J12 s.heap [] B ls (lv_sub hl [] rfl) hf
def f_X6_kindOf_J28 (n : Nat) (v0_h2 : Int32) : Option Int32 :=
  if v0_h2 = (59 : Int32) then
    some (3 : Int32)
  else
    some (4 : Int32)
def f_X6_kindOf_J14 (n : Nat) (v0_h1 : Int32) : Option Int32 :=
  if v0_h1 < (48 : Int32) then
    f_X6_kindOf_J28 n v0_h1
  else
    if (57 : Int32) < v0_h1 then
      f_X6_kindOf_J28 n v0_h1
    else
      some (2 : Int32)
def f_X6_kindOf (n : Nat) (a0 : Int32) : Option Int32 :=
  if a0 < (97 : Int32) then
    f_X6_kindOf_J14 n a0
  else
    if (122 : Int32) < a0 then
      f_X6_kindOf_J14 n a0
    else
      some (1 : Int32)
set_option maxRecDepth 100000 in
set_option maxHeartbeats 4000000 in
theorem n_X6_kindOf (n : Nat) (Γ : hp_G) (l : Launch) (α : hp_T) (g : GC α) (a0 : Int32) (res : Int32) (hf : f_X6_kindOf n a0 = some res) : Met l yX6_kindOf (hp_ws yX6_kindOf cX6_kindOf 1 (some .int)) (hp_rm 0 0 0) (hp_Pc Γ α [.int a0]) (hp_Qi Γ (fun r β => β = α ∧ r = res)) 0 0 (hp_A Γ) := by
  unfold f_X6_kindOf at hf
  refine hp_start (by decide) ?_
  intro p e s m below meth c C hr hlk B0 hnm
  have C : hp_C Γ p m c cX6_kindOf 1 s ([.int a0] : List Value).toArray RX6 := C
  have hx := C.1.1
  have hb := C.1.2.1
  have hown := C.1.2.2.2.1
  have hts := C.1.2.2.2.2
  have B : hp_B Γ (cw w_X6_kindOf) s α α s.heap [] := ⟨B0.1, B0.2.1, cw_rf g⟩
  have hl := lv_entry ([.int a0]) (n := 1) (Nat.le_of_ble_eq_true rfl)
  show W p l e (hp_rm 0 0 0) s m ([.int a0] : List Value).toArray below meth c s.heap [] 0 0 (MQ below (hp_Qi Γ (fun r β => β = α ∧ r = res)) ([.int a0] : List Value).toArray s 0 0 (hp_A Γ)) (entryFrame m ([.int a0] : List Value).toArray 1)
  rw [lg_entry_eq]
  generalize (lg_sl ([.int a0]) ++ List.replicate (1 - (lg_sl ([.int a0])).length) Slot.unset).toArray = ls at hl ⊢
  have hl : lv_has ls 1 [(0, .int a0)] := hl
  refine lv_iload_n hx hb dX6_kindOf_0 rfl (lv_at hl 0 rfl) (hp_n (n := 1) rfl ?_)
  refine lv_bipush (v := 97) hx hb dX6_kindOf_1 (by decide) (hp_n (n := 3) rfl ?_)
  have J14 : ∀ (Hh1 : Heap) (Lh1 : List Loc) (Bh1 : hp_B Γ (cw w_X6_kindOf) s α α Hh1 Lh1) (v0_h1 : Int32) (ls : Array Slot) (hl : lv_has ls 1 [(0, .int v0_h1)]) (hf : f_X6_kindOf_J14 n v0_h1 = some res), W p l e (hp_rm 0 0 0) s m ([.int a0] : List Value).toArray below meth c Hh1 Lh1 0 0 (MQ below (hp_Qi Γ (fun r β => β = α ∧ r = res)) ([.int a0] : List Value).toArray s 0 0 (hp_A Γ)) (F0 m 14 ls []) := by
    intro Hh1 Lh1 Bh1 v0_h1 ls hl hf
    unfold f_X6_kindOf_J14 at hf
    refine lv_iload_n hx hb dX6_kindOf_14 rfl (lv_at hl 0 rfl) (hp_n (n := 15) rfl ?_)
    refine lv_bipush (v := 48) hx hb dX6_kindOf_15 (by decide) (hp_n (n := 17) rfl ?_)
    have J28 : ∀ (Hh2 : Heap) (Lh2 : List Loc) (Bh2 : hp_B Γ (cw w_X6_kindOf) s α α Hh2 Lh2) (v0_h2 : Int32) (ls : Array Slot) (hl : lv_has ls 1 [(0, .int v0_h2)]) (hf : f_X6_kindOf_J28 n v0_h2 = some res), W p l e (hp_rm 0 0 0) s m ([.int a0] : List Value).toArray below meth c Hh2 Lh2 0 0 (MQ below (hp_Qi Γ (fun r β => β = α ∧ r = res)) ([.int a0] : List Value).toArray s 0 0 (hp_A Γ)) (F0 m 28 ls []) := by
      intro Hh2 Lh2 Bh2 v0_h2 ls hl hf
      unfold f_X6_kindOf_J28 at hf
      refine lv_iload_n hx hb dX6_kindOf_28 rfl (lv_at hl 0 rfl) (hp_n (n := 29) rfl ?_)
      refine lv_bipush (v := 59) hx hb dX6_kindOf_29 (by decide) (hp_n (n := 31) rfl ?_)
      refine lv_icmp_ne (tgt := 38) hx hb dX6_kindOf_31 (by decide) (fun c3 => ?_) (fun c3 => hp_n (n := 34) rfl ?_)
      ·
        replace hf := ms_iF c3 hf
        refine lv_iconst (v := 4) hx hb dX6_kindOf_38 (by decide) (hp_n (n := 39) rfl ?_)
        cases hf
        exact q_iret C Bh2 hr hlk ⟨rfl, rfl⟩ dX6_kindOf_39
      ·
        replace hf := ms_iT c3 hf
        refine lv_iconst (v := 3) hx hb dX6_kindOf_34 (by decide) (hp_n (n := 35) rfl ?_)
        refine lv_goto (tgt := 39) hx hb dX6_kindOf_35 (by decide) ?_
        cases hf
        exact q_iret C Bh2 hr hlk ⟨rfl, rfl⟩ dX6_kindOf_39
    refine lv_icmp_lt (tgt := 28) hx hb dX6_kindOf_17 (by decide) (fun c4 => ?_) (fun c4 => hp_n (n := 20) rfl ?_)
    ·
      replace hf := ms_iT c4 hf
      exact J28 Hh1 Lh1 Bh1 v0_h1 ls (lv_sub hl [0] rfl) hf
    ·
      replace hf := ms_iF c4 hf
      refine lv_iload_n hx hb dX6_kindOf_20 rfl (lv_at hl 0 rfl) (hp_n (n := 21) rfl ?_)
      refine lv_bipush (v := 57) hx hb dX6_kindOf_21 (by decide) (hp_n (n := 23) rfl ?_)
      refine lv_icmp_gt (tgt := 28) hx hb dX6_kindOf_23 (by decide) (fun c5 => ?_) (fun c5 => hp_n (n := 26) rfl ?_)
      ·
        replace hf := ms_iT c5 hf
        exact J28 Hh1 Lh1 Bh1 v0_h1 ls (lv_sub hl [0] rfl) hf
      ·
        replace hf := ms_iF c5 hf
        refine lv_iconst (v := 2) hx hb dX6_kindOf_26 (by decide) (hp_n (n := 27) rfl ?_)
        cases hf
        exact q_iret C Bh1 hr hlk ⟨rfl, rfl⟩ dX6_kindOf_27
  refine lv_icmp_lt (tgt := 14) hx hb dX6_kindOf_3 (by decide) (fun c6 => ?_) (fun c6 => hp_n (n := 6) rfl ?_)
  ·
    replace hf := ms_iT c6 hf
    exact J14 s.heap [] B a0 ls (lv_sub hl [0] rfl) hf
  ·
    replace hf := ms_iF c6 hf
    refine lv_iload_n hx hb dX6_kindOf_6 rfl (lv_at hl 0 rfl) (hp_n (n := 7) rfl ?_)
    refine lv_bipush (v := 122) hx hb dX6_kindOf_7 (by decide) (hp_n (n := 9) rfl ?_)
    refine lv_icmp_gt (tgt := 14) hx hb dX6_kindOf_9 (by decide) (fun c7 => ?_) (fun c7 => hp_n (n := 12) rfl ?_)
    ·
      replace hf := ms_iT c7 hf
      exact J14 s.heap [] B a0 ls (lv_sub hl [0] rfl) hf
    ·
      replace hf := ms_iF c7 hf
      refine lv_iconst (v := 1) hx hb dX6_kindOf_12 (by decide) (hp_n (n := 13) rfl ?_)
      cases hf
      exact q_iret C B hr hlk ⟨rfl, rfl⟩ dX6_kindOf_13
def f_X6_begin (n : Nat) (α : hp_T) (a0 : Nat) (a1 : Nat) (a2 : Int32) : Option hp_T :=
  ms_l (hp_sR α 350 a0 a1) fun αh1 =>
  ms_b (f_J9_min_7cf53 n a2 (900 : Int32)) fun rh2 =>
  ms_b (f_J9_max_7cf53 n (0 : Int32) rh2) fun rh3 =>
  ms_l (hp_sI αh1 351 a0 rh3) fun αh4 =>
  ms_l (hp_sI αh4 352 a0 (0 : Int32)) fun αh5 =>
  some αh5
set_option maxRecDepth 100000 in
set_option maxHeartbeats 4000000 in
theorem n_X6_begin (n : Nat) (Γ : hp_G) (l : Launch) (α : hp_T) (g : GC α) (a0 : Nat) (k0 : hp_K α a0 = 7) (a1 : Nat) (k1 : hp_K α a1 = 24) (a2 : Int32) (res : hp_T) (hf : f_X6_begin n α a0 a1 a2 = some res) : Met l yX6_begin (hp_ws yX6_begin cX6_begin 3 none) (hp_rm 1 0 0) (hp_Pc Γ α [.ref a0, .ref a1, .int a2]) (hp_Qv Γ (fun β => β = res ∧ cw w_X6_begin α β)) 0 0 (hp_A Γ) := by
  unfold f_X6_begin at hf
  refine hp_start (by decide) ?_
  intro p e s m below meth c C hr hlk B0 hnm
  have C : hp_C Γ p m c cX6_begin 3 s ([.ref a0, .ref a1, .int a2] : List Value).toArray RX6 := C
  have hx := C.1.1
  have hb := C.1.2.1
  have hown := C.1.2.2.2.1
  have hts := C.1.2.2.2.2
  have B : hp_B Γ (cw w_X6_begin) s α α s.heap [] := ⟨B0.1, B0.2.1, cw_rf g⟩
  have hl := lv_entry ([.ref a0, .ref a1, .int a2]) (n := 3) (Nat.le_of_ble_eq_true rfl)
  show W p l e (hp_rm 1 0 0) s m ([.ref a0, .ref a1, .int a2] : List Value).toArray below meth c s.heap [] 0 0 (MQ below (hp_Qv Γ (fun β => β = res ∧ cw w_X6_begin α β)) ([.ref a0, .ref a1, .int a2] : List Value).toArray s 0 0 (hp_A Γ)) (entryFrame m ([.ref a0, .ref a1, .int a2] : List Value).toArray 3)
  rw [lg_entry_eq]
  generalize (lg_sl ([.ref a0, .ref a1, .int a2]) ++ List.replicate (3 - (lg_sl ([.ref a0, .ref a1, .int a2])).length) Slot.unset).toArray = ls at hl ⊢
  have hl : lv_has ls 3 [(0, .ref a0), (1, .ref a1), (2, .int a2)] := hl
  refine lv_aload_n hx hb dX6_begin_0 rfl (lv_at hl 0 rfl) (hp_n (n := 1) rfl ?_)
  refine lv_aload_n hx hb dX6_begin_1 rfl (lv_at hl 1 rfl) (hp_n (n := 2) rfl ?_)
  refine q_putr (κ := 7) (k := 0) (φ := 350) (pc' := 5) C B (cw_k B.2.2 k0) fl_X6_9 rfl rfl rfl rfl rfl rfl (cw_sR B.2.2 (by decide) (Or.inl k1)) dX6_begin_2 rfl (fun αh1 Hh1 Lh1 eh1 Bh1 => ?_)
  replace hf := ms_lE eh1 hf
  refine lv_aload_n hx hb dX6_begin_5 rfl (lv_at hl 0 rfl) (hp_n (n := 6) rfl ?_)
  refine lv_iconst (v := 0) hx hb dX6_begin_6 (by decide) (hp_n (n := 7) rfl ?_)
  refine lv_iload_n hx hb dX6_begin_7 rfl (lv_at hl 2 rfl) (hp_n (n := 8) rfl ?_)
  refine lv_aload_n hx hb dX6_begin_8 rfl (lv_at hl 1 rfl) (hp_n (n := 9) rfl ?_)
  refine q_alen (κ := 24) (t := 1) (n := 900) (x := 900) (ty := .byte) (pc' := 10) C Bh1 (cw_k Bh1.2.2 k1) (by decide) rfl rfl rfl dX6_begin_9 rfl ?_
  obtain ⟨rh2, qh2, hf⟩ := ms_bE hf
  refine d_pi (pc' := 13) Bh1 (hp_runS (As := [.int a2, .int (900 : Int32)]) (rest := [.int (0 : Int32), .ref a0]) C Bh1 (n_J9_min_7cf53 n Γ l αh1 Bh1.2.2.1 a2 (900 : Int32) rh2 qh2) lb_J9_min_7cf53 ls_J9_min_7cf53 lk_X6_34 rfl (by decide) rfl hl.1 rfl (Nat.le_of_ble_eq_true rfl) dX6_begin_10 ⟨Nat.le_refl _, Nat.le_refl _⟩) rfl (fun Hh2 Lh2 Bh2 => ?_)
  obtain ⟨rh3, qh3, hf⟩ := ms_bE hf
  refine d_pi (pc' := 16) Bh2 (hp_runS (As := [.int (0 : Int32), .int rh2]) (rest := [.ref a0]) C Bh2 (n_J9_max_7cf53 n Γ l αh1 Bh2.2.2.1 (0 : Int32) rh2 rh3 qh3) lb_J9_max_7cf53 ls_J9_max_7cf53 lk_X6_40 rfl (by decide) rfl hl.1 rfl (Nat.le_of_ble_eq_true rfl) dX6_begin_13 ⟨Nat.le_refl _, Nat.le_refl _⟩) rfl (fun Hh3 Lh3 Bh3 => ?_)
  refine q_puti (κ := 7) (k := 1) (φ := 351) (pc' := 19) C Bh3 (cw_k Bh3.2.2 k0) fl_X6_15 rfl rfl rfl rfl rfl rfl (cw_sI Bh3.2.2 (by decide) (fun h => absurd h (by decide))) dX6_begin_16 rfl (fun αh4 Hh4 Lh4 eh4 Bh4 => ?_)
  replace hf := ms_lE eh4 hf
  refine lv_aload_n hx hb dX6_begin_19 rfl (lv_at hl 0 rfl) (hp_n (n := 20) rfl ?_)
  refine lv_iconst (v := 0) hx hb dX6_begin_20 (by decide) (hp_n (n := 21) rfl ?_)
  refine q_puti (κ := 7) (k := 2) (φ := 352) (pc' := 24) C Bh4 (cw_k Bh4.2.2 k0) fl_X6_19 rfl rfl rfl rfl rfl rfl (cw_sI Bh4.2.2 (by decide) (fun h => absurd h (by decide))) dX6_begin_21 rfl (fun αh5 Hh5 Lh5 eh5 Bh5 => ?_)
  replace hf := ms_lE eh5 hf
  cases hf
  exact q_vret C Bh5 hr hlk ⟨rfl, Bh5.2.2⟩ dX6_begin_24
def f_X6_advance_J250 (n : Nat) (a0 : Nat) (αh23 : hp_T) (w0_h23 : Nat) : Option hp_T :=
  ms_l (hp_I αh23 353 a0) fun x24 =>
  ms_l (hp_sI αh23 353 w0_h23 x24) fun αh25 =>
  some αh25
def f_X6_advance_J229 (n : Nat) (a0 : Nat) (αh21 : hp_T) : Option hp_T :=
  ms_l (hp_I αh21 353 a0) fun x22 =>
  if x22 = (2 : Int32) then
    ms_l (hp_I αh21 355 a0) fun x27 =>
    if x27 ≤ (5 : Int32) then
      f_X6_advance_J250 n a0 αh21 a0
    else
      ms_l (hp_sI αh21 353 a0 (4 : Int32)) fun αh29 =>
      some αh29
  else
    f_X6_advance_J250 n a0 αh21 a0
def f_X6_advance_L177 (n : Nat) (a0 : Nat) : Nat → hp_T → Int32 → Option hp_T
  | 0, _, _ => none
  | k177 + 1, αh19, v1_h19 =>
    ms_l (hp_I αh19 355 a0) fun x20 =>
    if x20 ≤ v1_h19 then
      f_X6_advance_J229 n a0 αh19
    else
      if (5 : Int32) ≤ v1_h19 then
        f_X6_advance_J229 n a0 αh19
      else
        ms_l (hp_I αh19 353 a0) fun x32 =>
        if x32 = (2 : Int32) then
          ms_l (hp_I αh19 356 a0) fun x34 =>
          ms_l (hp_I αh19 354 a0) fun x35 =>
          ms_b (f_X6_byteAt n αh19 a0 (x35 + v1_h19)) fun rh36 =>
          ms_l (hp_sI αh19 356 a0 ((((10 : Int32) * x34) + rh36) - (48 : Int32))) fun αh37 =>
          ms_l (v1_h19 + 1) fun x38 =>
          (f_X6_advance_L177 n a0 k177) αh37 x38
        else
          f_X6_advance_J229 n a0 αh19
def f_X6_advance_J157 (n : Nat) (a0 : Nat) (αh14 : hp_T) : Option hp_T :=
  ms_l (hp_I αh14 352 a0) fun x15 =>
  ms_l (hp_I αh14 354 a0) fun x16 =>
  ms_l (hp_sI αh14 355 a0 (x15 - x16)) fun αh17 =>
  ms_l (hp_sI αh17 356 a0 (0 : Int32)) fun αh18 =>
  f_X6_advance_L177 n a0 n αh18 (0 : Int32)
def f_X6_advance_J123 (n : Nat) (a0 : Nat) (rec100 : hp_T → Int32 → Option hp_T) (αh41 : hp_T) (v1_h41 : Int32) : Option hp_T :=
  ms_l (hp_I αh41 352 a0) fun x42 =>
  ms_b (f_X6_byteAt n αh41 a0 x42) fun rh43 =>
  ms_b (f_X6_kindOf n rh43) fun rh44 =>
  ms_l (hp_I αh41 353 a0) fun x45 =>
  if rh44 = x45 then
    ms_l (hp_I αh41 352 a0) fun x47 =>
    ms_l (hp_sI αh41 352 a0 (x47 + (1 : Int32))) fun αh48 =>
    ms_l (v1_h41 + 1) fun x49 =>
    rec100 αh48 x49
  else
    f_X6_advance_J157 n a0 αh41
def f_X6_advance_L100 (n : Nat) (a0 : Nat) : Nat → hp_T → Int32 → Option hp_T
  | 0, _, _ => none
  | k100 + 1, αh13, v1_h13 =>
    if (900 : Int32) ≤ v1_h13 then
      f_X6_advance_J157 n a0 αh13
    else
      ms_l (hp_I αh13 353 a0) fun x40 =>
      if x40 = (1 : Int32) then
        f_X6_advance_J123 n a0 (f_X6_advance_L100 n a0 k100) αh13 v1_h13
      else
        ms_l (hp_I αh13 353 a0) fun x51 =>
        if x51 = (2 : Int32) then
          f_X6_advance_J123 n a0 (f_X6_advance_L100 n a0 k100) αh13 v1_h13
        else
          f_X6_advance_J157 n a0 αh13
def f_X6_advance_J94 (n : Nat) (a0 : Nat) (αh11 : hp_T) (w0_h11 : Int32) (w1_h11 : Int32) (w2_h11 : Nat) : Option hp_T :=
  ms_l (hp_sI αh11 352 w2_h11 (w1_h11 + w0_h11)) fun αh12 =>
  f_X6_advance_L100 n a0 n αh12 (0 : Int32)
def f_X6_advance_J74 (n : Nat) (a0 : Nat) (αh7 : hp_T) (w0_h7 : Int32) (w1_h7 : Nat) : Option hp_T :=
  ms_l (hp_sI αh7 353 w1_h7 w0_h7) fun αh8 =>
  ms_l (hp_I αh8 352 a0) fun x9 =>
  ms_l (hp_I αh8 353 a0) fun x10 =>
  if x10 = 0 then
    f_X6_advance_J94 n a0 αh8 (0 : Int32) x9 a0
  else
    f_X6_advance_J94 n a0 αh8 (1 : Int32) x9 a0
def f_X6_advance_J39 (n : Nat) (a0 : Nat) (αh2 : hp_T) : Option hp_T :=
  ms_l (hp_I αh2 352 a0) fun x3 =>
  ms_l (hp_sI αh2 354 a0 x3) fun αh4 =>
  ms_l (hp_I αh4 352 a0) fun x5 =>
  ms_l (hp_I αh4 351 a0) fun x6 =>
  if x6 ≤ x5 then
    f_X6_advance_J74 n a0 αh4 (0 : Int32) a0
  else
    ms_l (hp_I αh4 352 a0) fun x55 =>
    ms_b (f_X6_byteAt n αh4 a0 x55) fun rh56 =>
    ms_b (f_X6_kindOf n rh56) fun rh57 =>
    f_X6_advance_J74 n a0 αh4 rh57 a0
def f_X6_advance_L2 (n : Nat) (a0 : Nat) : Nat → hp_T → Int32 → Option hp_T
  | 0, _, _ => none
  | k2 + 1, αh1, v1_h1 =>
    if (900 : Int32) ≤ v1_h1 then
      f_X6_advance_J39 n a0 αh1
    else
      ms_l (hp_I αh1 352 a0) fun x59 =>
      ms_b (f_X6_byteAt n αh1 a0 x59) fun rh60 =>
      ms_b (f_X6_isBlank n rh60) fun rh61 =>
      if rh61 = 0 then
        f_X6_advance_J39 n a0 αh1
      else
        ms_l (hp_I αh1 352 a0) fun x63 =>
        ms_l (hp_sI αh1 352 a0 (x63 + (1 : Int32))) fun αh64 =>
        ms_l (v1_h1 + 1) fun x65 =>
        (f_X6_advance_L2 n a0 k2) αh64 x65
def f_X6_advance (n : Nat) (α : hp_T) (a0 : Nat) : Option hp_T :=
  f_X6_advance_L2 n a0 n α (0 : Int32)
set_option maxRecDepth 100000 in
set_option maxHeartbeats 4000000 in
theorem n_X6_advance (n : Nat) (Γ : hp_G) (l : Launch) (α : hp_T) (g : GC α) (a0 : Nat) (k0 : hp_K α a0 = 7) (res : hp_T) (hf : f_X6_advance n α a0 = some res) : Met l yX6_advance (hp_ws yX6_advance cX6_advance 2 none) (hp_rm 1 0 0) (hp_Pc Γ α [.ref a0]) (hp_Qv Γ (fun β => β = res ∧ cw w_X6_advance α β)) 0 0 (hp_A Γ) := by
  unfold f_X6_advance at hf
  refine hp_start (by decide) ?_
  intro p e s m below meth c C hr hlk B0 hnm
  have C : hp_C Γ p m c cX6_advance 2 s ([.ref a0] : List Value).toArray RX6 := C
  have hx := C.1.1
  have hb := C.1.2.1
  have hown := C.1.2.2.2.1
  have hts := C.1.2.2.2.2
  have B : hp_B Γ (cw w_X6_advance) s α α s.heap [] := ⟨B0.1, B0.2.1, cw_rf g⟩
  have hl := lv_entry ([.ref a0]) (n := 2) (Nat.le_of_ble_eq_true rfl)
  show W p l e (hp_rm 1 0 0) s m ([.ref a0] : List Value).toArray below meth c s.heap [] 0 0 (MQ below (hp_Qv Γ (fun β => β = res ∧ cw w_X6_advance α β)) ([.ref a0] : List Value).toArray s 0 0 (hp_A Γ)) (entryFrame m ([.ref a0] : List Value).toArray 2)
  rw [lg_entry_eq]
  generalize (lg_sl ([.ref a0]) ++ List.replicate (2 - (lg_sl ([.ref a0])).length) Slot.unset).toArray = ls at hl ⊢
  have hl : lv_has ls 2 [(0, .ref a0)] := hl
  refine lv_iconst (v := 0) hx hb dX6_advance_0 (by decide) (hp_n (n := 1) rfl ?_)
  have J2 : ∀ (k2 : Nat) (αh1 : hp_T) (Hh1 : Heap) (Lh1 : List Loc) (Bh1 : hp_B Γ (cw w_X6_advance) s α αh1 Hh1 Lh1) (v1_h1 : Int32) (ls : Array Slot) (hl : lv_has ls 2 [(0, .ref a0), (1, .int v1_h1)]) (hf : f_X6_advance_L2 n a0 k2 αh1 v1_h1 = some res), W p l e (hp_rm 1 0 0) s m ([.ref a0] : List Value).toArray below meth c Hh1 Lh1 0 0 (MQ below (hp_Qv Γ (fun β => β = res ∧ cw w_X6_advance α β)) ([.ref a0] : List Value).toArray s 0 0 (hp_A Γ)) (F0 m 2 ls []) := by
    intro k2
    induction k2 with
    | zero => intro αh1 Hh1 Lh1 Bh1 v1_h1 ls hl hf; rw [f_X6_advance_L2.eq_1] at hf; cases hf
    | succ k2 ih2 =>
      intro αh1 Hh1 Lh1 Bh1 v1_h1 ls hl hf
      rw [f_X6_advance_L2.eq_2] at hf
      refine lv_iload_n hx hb dX6_advance_2 rfl (lv_at hl 1 rfl) (hp_n (n := 3) rfl ?_)
      refine lv_sipush (v := 900) hx hb dX6_advance_3 (by decide) (hp_n (n := 6) rfl ?_)
      have J39 : ∀ (αh2 : hp_T) (Hh2 : Heap) (Lh2 : List Loc) (Bh2 : hp_B Γ (cw w_X6_advance) s α αh2 Hh2 Lh2) (ls : Array Slot) (hl : lv_has ls 2 [(0, .ref a0)]) (hf : f_X6_advance_J39 n a0 αh2 = some res), W p l e (hp_rm 1 0 0) s m ([.ref a0] : List Value).toArray below meth c Hh2 Lh2 0 0 (MQ below (hp_Qv Γ (fun β => β = res ∧ cw w_X6_advance α β)) ([.ref a0] : List Value).toArray s 0 0 (hp_A Γ)) (F0 m 39 ls []) := by
        intro αh2 Hh2 Lh2 Bh2 ls hl hf
        unfold f_X6_advance_J39 at hf
        refine lv_aload_n hx hb dX6_advance_39 rfl (lv_at hl 0 rfl) (hp_n (n := 40) rfl ?_)
        refine lv_aload_n hx hb dX6_advance_40 rfl (lv_at hl 0 rfl) (hp_n (n := 41) rfl ?_)
        refine q_geti (κ := 7) (k := 2) (φ := 352) (pc' := 44) C Bh2 (cw_k Bh2.2.2 k0) fl_X6_19 rfl rfl rfl dX6_advance_41 rfl (fun x3 ex3 => ?_)
        replace hf := ms_lE ex3 hf
        refine q_puti (κ := 7) (k := 4) (φ := 354) (pc' := 47) C Bh2 (cw_k Bh2.2.2 k0) fl_X6_25 rfl rfl rfl rfl rfl rfl (cw_sI Bh2.2.2 (by decide) (fun h => absurd h (by decide))) dX6_advance_44 rfl (fun αh4 Hh4 Lh4 eh4 Bh4 => ?_)
        replace hf := ms_lE eh4 hf
        refine lv_aload_n hx hb dX6_advance_47 rfl (lv_at hl 0 rfl) (hp_n (n := 48) rfl ?_)
        refine lv_aload_n hx hb dX6_advance_48 rfl (lv_at hl 0 rfl) (hp_n (n := 49) rfl ?_)
        refine q_geti (κ := 7) (k := 2) (φ := 352) (pc' := 52) C Bh4 (cw_k Bh4.2.2 k0) fl_X6_19 rfl rfl rfl dX6_advance_49 rfl (fun x5 ex5 => ?_)
        replace hf := ms_lE ex5 hf
        refine lv_aload_n hx hb dX6_advance_52 rfl (lv_at hl 0 rfl) (hp_n (n := 53) rfl ?_)
        refine q_geti (κ := 7) (k := 1) (φ := 351) (pc' := 56) C Bh4 (cw_k Bh4.2.2 k0) fl_X6_15 rfl rfl rfl dX6_advance_53 rfl (fun x6 ex6 => ?_)
        replace hf := ms_lE ex6 hf
        have J74 : ∀ (αh7 : hp_T) (Hh7 : Heap) (Lh7 : List Loc) (Bh7 : hp_B Γ (cw w_X6_advance) s α αh7 Hh7 Lh7) (w0_h7 : Int32) (w1_h7 : Nat) (kw1_h7 : hp_K α w1_h7 = 7) (ls : Array Slot) (hl : lv_has ls 2 [(0, .ref a0)]) (hf : f_X6_advance_J74 n a0 αh7 w0_h7 w1_h7 = some res), W p l e (hp_rm 1 0 0) s m ([.ref a0] : List Value).toArray below meth c Hh7 Lh7 0 0 (MQ below (hp_Qv Γ (fun β => β = res ∧ cw w_X6_advance α β)) ([.ref a0] : List Value).toArray s 0 0 (hp_A Γ)) (F0 m 74 ls [.int w0_h7, .ref w1_h7]) := by
          intro αh7 Hh7 Lh7 Bh7 w0_h7 w1_h7 kw1_h7 ls hl hf
          unfold f_X6_advance_J74 at hf
          refine q_puti (κ := 7) (k := 3) (φ := 353) (pc' := 77) C Bh7 (cw_k Bh7.2.2 kw1_h7) fl_X6_22 rfl rfl rfl rfl rfl rfl (cw_sI Bh7.2.2 (by decide) (fun h => absurd h (by decide))) dX6_advance_74 rfl (fun αh8 Hh8 Lh8 eh8 Bh8 => ?_)
          replace hf := ms_lE eh8 hf
          refine lv_aload_n hx hb dX6_advance_77 rfl (lv_at hl 0 rfl) (hp_n (n := 78) rfl ?_)
          refine lv_dup hx hb dX6_advance_78 rfl (hp_n (n := 79) rfl ?_)
          refine q_geti (κ := 7) (k := 2) (φ := 352) (pc' := 82) C Bh8 (cw_k Bh8.2.2 k0) fl_X6_19 rfl rfl rfl dX6_advance_79 rfl (fun x9 ex9 => ?_)
          replace hf := ms_lE ex9 hf
          refine lv_aload_n hx hb dX6_advance_82 rfl (lv_at hl 0 rfl) (hp_n (n := 83) rfl ?_)
          refine q_geti (κ := 7) (k := 3) (φ := 353) (pc' := 86) C Bh8 (cw_k Bh8.2.2 k0) fl_X6_22 rfl rfl rfl dX6_advance_83 rfl (fun x10 ex10 => ?_)
          replace hf := ms_lE ex10 hf
          have J94 : ∀ (αh11 : hp_T) (Hh11 : Heap) (Lh11 : List Loc) (Bh11 : hp_B Γ (cw w_X6_advance) s α αh11 Hh11 Lh11) (w0_h11 : Int32) (w1_h11 : Int32) (w2_h11 : Nat) (kw2_h11 : hp_K α w2_h11 = 7) (ls : Array Slot) (hl : lv_has ls 2 [(0, .ref a0)]) (hf : f_X6_advance_J94 n a0 αh11 w0_h11 w1_h11 w2_h11 = some res), W p l e (hp_rm 1 0 0) s m ([.ref a0] : List Value).toArray below meth c Hh11 Lh11 0 0 (MQ below (hp_Qv Γ (fun β => β = res ∧ cw w_X6_advance α β)) ([.ref a0] : List Value).toArray s 0 0 (hp_A Γ)) (F0 m 94 ls [.int w0_h11, .int w1_h11, .ref w2_h11]) := by
            intro αh11 Hh11 Lh11 Bh11 w0_h11 w1_h11 w2_h11 kw2_h11 ls hl hf
            unfold f_X6_advance_J94 at hf
            refine lv_iadd hx hb dX6_advance_94 (hp_n (n := 95) rfl ?_)
            refine q_puti (κ := 7) (k := 2) (φ := 352) (pc' := 98) C Bh11 (cw_k Bh11.2.2 kw2_h11) fl_X6_19 rfl rfl rfl rfl rfl rfl (cw_sI Bh11.2.2 (by decide) (fun h => absurd h (by decide))) dX6_advance_95 rfl (fun αh12 Hh12 Lh12 eh12 Bh12 => ?_)
            replace hf := ms_lE eh12 hf
            refine lv_iconst (v := 0) hx hb dX6_advance_98 (by decide) (hp_n (n := 99) rfl ?_)
            have J100 : ∀ (k100 : Nat) (αh13 : hp_T) (Hh13 : Heap) (Lh13 : List Loc) (Bh13 : hp_B Γ (cw w_X6_advance) s α αh13 Hh13 Lh13) (v1_h13 : Int32) (ls : Array Slot) (hl : lv_has ls 2 [(0, .ref a0), (1, .int v1_h13)]) (hf : f_X6_advance_L100 n a0 k100 αh13 v1_h13 = some res), W p l e (hp_rm 1 0 0) s m ([.ref a0] : List Value).toArray below meth c Hh13 Lh13 0 0 (MQ below (hp_Qv Γ (fun β => β = res ∧ cw w_X6_advance α β)) ([.ref a0] : List Value).toArray s 0 0 (hp_A Γ)) (F0 m 100 ls []) := by
              intro k100
              induction k100 with
              | zero => intro αh13 Hh13 Lh13 Bh13 v1_h13 ls hl hf; rw [f_X6_advance_L100.eq_1] at hf; cases hf
              | succ k100 ih100 =>
                intro αh13 Hh13 Lh13 Bh13 v1_h13 ls hl hf
                rw [f_X6_advance_L100.eq_2] at hf
                refine lv_iload_n hx hb dX6_advance_100 rfl (lv_at hl 1 rfl) (hp_n (n := 101) rfl ?_)
                refine lv_sipush (v := 900) hx hb dX6_advance_101 (by decide) (hp_n (n := 104) rfl ?_)
                have J157 : ∀ (αh14 : hp_T) (Hh14 : Heap) (Lh14 : List Loc) (Bh14 : hp_B Γ (cw w_X6_advance) s α αh14 Hh14 Lh14) (ls : Array Slot) (hl : lv_has ls 2 [(0, .ref a0)]) (hf : f_X6_advance_J157 n a0 αh14 = some res), W p l e (hp_rm 1 0 0) s m ([.ref a0] : List Value).toArray below meth c Hh14 Lh14 0 0 (MQ below (hp_Qv Γ (fun β => β = res ∧ cw w_X6_advance α β)) ([.ref a0] : List Value).toArray s 0 0 (hp_A Γ)) (F0 m 157 ls []) := by
                  intro αh14 Hh14 Lh14 Bh14 ls hl hf
                  unfold f_X6_advance_J157 at hf
                  refine lv_aload_n hx hb dX6_advance_157 rfl (lv_at hl 0 rfl) (hp_n (n := 158) rfl ?_)
                  refine lv_aload_n hx hb dX6_advance_158 rfl (lv_at hl 0 rfl) (hp_n (n := 159) rfl ?_)
                  refine q_geti (κ := 7) (k := 2) (φ := 352) (pc' := 162) C Bh14 (cw_k Bh14.2.2 k0) fl_X6_19 rfl rfl rfl dX6_advance_159 rfl (fun x15 ex15 => ?_)
                  replace hf := ms_lE ex15 hf
                  refine lv_aload_n hx hb dX6_advance_162 rfl (lv_at hl 0 rfl) (hp_n (n := 163) rfl ?_)
                  refine q_geti (κ := 7) (k := 4) (φ := 354) (pc' := 166) C Bh14 (cw_k Bh14.2.2 k0) fl_X6_25 rfl rfl rfl dX6_advance_163 rfl (fun x16 ex16 => ?_)
                  replace hf := ms_lE ex16 hf
                  refine lv_isub hx hb dX6_advance_166 (hp_n (n := 167) rfl ?_)
                  refine q_puti (κ := 7) (k := 5) (φ := 355) (pc' := 170) C Bh14 (cw_k Bh14.2.2 k0) fl_X6_28 rfl rfl rfl rfl rfl rfl (cw_sI Bh14.2.2 (by decide) (fun h => absurd h (by decide))) dX6_advance_167 rfl (fun αh17 Hh17 Lh17 eh17 Bh17 => ?_)
                  replace hf := ms_lE eh17 hf
                  refine lv_aload_n hx hb dX6_advance_170 rfl (lv_at hl 0 rfl) (hp_n (n := 171) rfl ?_)
                  refine lv_iconst (v := 0) hx hb dX6_advance_171 (by decide) (hp_n (n := 172) rfl ?_)
                  refine q_puti (κ := 7) (k := 6) (φ := 356) (pc' := 175) C Bh17 (cw_k Bh17.2.2 k0) fl_X6_31 rfl rfl rfl rfl rfl rfl (cw_sI Bh17.2.2 (by decide) (fun h => absurd h (by decide))) dX6_advance_172 rfl (fun αh18 Hh18 Lh18 eh18 Bh18 => ?_)
                  replace hf := ms_lE eh18 hf
                  refine lv_iconst (v := 0) hx hb dX6_advance_175 (by decide) (hp_n (n := 176) rfl ?_)
                  have J177 : ∀ (k177 : Nat) (αh19 : hp_T) (Hh19 : Heap) (Lh19 : List Loc) (Bh19 : hp_B Γ (cw w_X6_advance) s α αh19 Hh19 Lh19) (v1_h19 : Int32) (ls : Array Slot) (hl : lv_has ls 2 [(0, .ref a0), (1, .int v1_h19)]) (hf : f_X6_advance_L177 n a0 k177 αh19 v1_h19 = some res), W p l e (hp_rm 1 0 0) s m ([.ref a0] : List Value).toArray below meth c Hh19 Lh19 0 0 (MQ below (hp_Qv Γ (fun β => β = res ∧ cw w_X6_advance α β)) ([.ref a0] : List Value).toArray s 0 0 (hp_A Γ)) (F0 m 177 ls []) := by
                    intro k177
                    induction k177 with
                    | zero => intro αh19 Hh19 Lh19 Bh19 v1_h19 ls hl hf; rw [f_X6_advance_L177.eq_1] at hf; cases hf
                    | succ k177 ih177 =>
                      intro αh19 Hh19 Lh19 Bh19 v1_h19 ls hl hf
                      rw [f_X6_advance_L177.eq_2] at hf
                      refine lv_iload_n hx hb dX6_advance_177 rfl (lv_at hl 1 rfl) (hp_n (n := 178) rfl ?_)
                      refine lv_aload_n hx hb dX6_advance_178 rfl (lv_at hl 0 rfl) (hp_n (n := 179) rfl ?_)
                      refine q_geti (κ := 7) (k := 5) (φ := 355) (pc' := 182) C Bh19 (cw_k Bh19.2.2 k0) fl_X6_28 rfl rfl rfl dX6_advance_179 rfl (fun x20 ex20 => ?_)
                      replace hf := ms_lE ex20 hf
                      have J229 : ∀ (αh21 : hp_T) (Hh21 : Heap) (Lh21 : List Loc) (Bh21 : hp_B Γ (cw w_X6_advance) s α αh21 Hh21 Lh21) (ls : Array Slot) (hl : lv_has ls 2 [(0, .ref a0)]) (hf : f_X6_advance_J229 n a0 αh21 = some res), W p l e (hp_rm 1 0 0) s m ([.ref a0] : List Value).toArray below meth c Hh21 Lh21 0 0 (MQ below (hp_Qv Γ (fun β => β = res ∧ cw w_X6_advance α β)) ([.ref a0] : List Value).toArray s 0 0 (hp_A Γ)) (F0 m 229 ls []) := by
                        intro αh21 Hh21 Lh21 Bh21 ls hl hf
                        unfold f_X6_advance_J229 at hf
                        refine lv_aload_n hx hb dX6_advance_229 rfl (lv_at hl 0 rfl) (hp_n (n := 230) rfl ?_)
                        refine lv_aload_n hx hb dX6_advance_230 rfl (lv_at hl 0 rfl) (hp_n (n := 231) rfl ?_)
                        refine q_geti (κ := 7) (k := 3) (φ := 353) (pc' := 234) C Bh21 (cw_k Bh21.2.2 k0) fl_X6_22 rfl rfl rfl dX6_advance_231 rfl (fun x22 ex22 => ?_)
                        replace hf := ms_lE ex22 hf
                        refine lv_iconst (v := 2) hx hb dX6_advance_234 (by decide) (hp_n (n := 235) rfl ?_)
                        have J250 : ∀ (αh23 : hp_T) (Hh23 : Heap) (Lh23 : List Loc) (Bh23 : hp_B Γ (cw w_X6_advance) s α αh23 Hh23 Lh23) (w0_h23 : Nat) (kw0_h23 : hp_K α w0_h23 = 7) (ls : Array Slot) (hl : lv_has ls 2 [(0, .ref a0)]) (hf : f_X6_advance_J250 n a0 αh23 w0_h23 = some res), W p l e (hp_rm 1 0 0) s m ([.ref a0] : List Value).toArray below meth c Hh23 Lh23 0 0 (MQ below (hp_Qv Γ (fun β => β = res ∧ cw w_X6_advance α β)) ([.ref a0] : List Value).toArray s 0 0 (hp_A Γ)) (F0 m 250 ls [.ref w0_h23]) := by
                          intro αh23 Hh23 Lh23 Bh23 w0_h23 kw0_h23 ls hl hf
                          unfold f_X6_advance_J250 at hf
                          refine lv_aload_n hx hb dX6_advance_250 rfl (lv_at hl 0 rfl) (hp_n (n := 251) rfl ?_)
                          refine q_geti (κ := 7) (k := 3) (φ := 353) (pc' := 254) C Bh23 (cw_k Bh23.2.2 k0) fl_X6_22 rfl rfl rfl dX6_advance_251 rfl (fun x24 ex24 => ?_)
                          replace hf := ms_lE ex24 hf
                          refine q_puti (κ := 7) (k := 3) (φ := 353) (pc' := 257) C Bh23 (cw_k Bh23.2.2 kw0_h23) fl_X6_22 rfl rfl rfl rfl rfl rfl (cw_sI Bh23.2.2 (by decide) (fun h => absurd h (by decide))) dX6_advance_254 rfl (fun αh25 Hh25 Lh25 eh25 Bh25 => ?_)
                          replace hf := ms_lE eh25 hf
                          cases hf
                          exact q_vret C Bh25 hr hlk ⟨rfl, Bh25.2.2⟩ dX6_advance_257
                        refine lv_icmp_ne (tgt := 250) hx hb dX6_advance_235 (by decide) (fun c26 => ?_) (fun c26 => hp_n (n := 238) rfl ?_)
                        ·
                          replace hf := ms_iF c26 hf
                          exact J250 αh21 Hh21 Lh21 Bh21 a0 k0 ls (lv_sub hl [0] rfl) hf
                        ·
                          replace hf := ms_iT c26 hf
                          refine lv_aload_n hx hb dX6_advance_238 rfl (lv_at hl 0 rfl) (hp_n (n := 239) rfl ?_)
                          refine q_geti (κ := 7) (k := 5) (φ := 355) (pc' := 242) C Bh21 (cw_k Bh21.2.2 k0) fl_X6_28 rfl rfl rfl dX6_advance_239 rfl (fun x27 ex27 => ?_)
                          replace hf := ms_lE ex27 hf
                          refine lv_iconst (v := 5) hx hb dX6_advance_242 (by decide) (hp_n (n := 243) rfl ?_)
                          refine lv_icmp_le (tgt := 250) hx hb dX6_advance_243 (by decide) (fun c28 => ?_) (fun c28 => hp_n (n := 246) rfl ?_)
                          ·
                            replace hf := ms_iT c28 hf
                            exact J250 αh21 Hh21 Lh21 Bh21 a0 k0 ls (lv_sub hl [0] rfl) hf
                          ·
                            replace hf := ms_iF c28 hf
                            refine lv_iconst (v := 4) hx hb dX6_advance_246 (by decide) (hp_n (n := 247) rfl ?_)
                            refine lv_goto (tgt := 254) hx hb dX6_advance_247 (by decide) ?_
                            refine q_puti (κ := 7) (k := 3) (φ := 353) (pc' := 257) C Bh21 (cw_k Bh21.2.2 k0) fl_X6_22 rfl rfl rfl rfl rfl rfl (cw_sI Bh21.2.2 (by decide) (fun h => absurd h (by decide))) dX6_advance_254 rfl (fun αh29 Hh29 Lh29 eh29 Bh29 => ?_)
                            replace hf := ms_lE eh29 hf
                            cases hf
                            exact q_vret C Bh29 hr hlk ⟨rfl, Bh29.2.2⟩ dX6_advance_257
                      refine lv_icmp_ge (tgt := 229) hx hb dX6_advance_182 (by decide) (fun c30 => ?_) (fun c30 => hp_n (n := 185) rfl ?_)
                      ·
                        replace hf := ms_iT c30 hf
                        exact J229 αh19 Hh19 Lh19 Bh19 ls (lv_sub hl [0] rfl) hf
                      ·
                        replace hf := ms_iF c30 hf
                        refine lv_iload_n hx hb dX6_advance_185 rfl (lv_at hl 1 rfl) (hp_n (n := 186) rfl ?_)
                        refine lv_iconst (v := 5) hx hb dX6_advance_186 (by decide) (hp_n (n := 187) rfl ?_)
                        refine lv_icmp_ge (tgt := 229) hx hb dX6_advance_187 (by decide) (fun c31 => ?_) (fun c31 => hp_n (n := 190) rfl ?_)
                        ·
                          replace hf := ms_iT c31 hf
                          exact J229 αh19 Hh19 Lh19 Bh19 ls (lv_sub hl [0] rfl) hf
                        ·
                          replace hf := ms_iF c31 hf
                          refine lv_aload_n hx hb dX6_advance_190 rfl (lv_at hl 0 rfl) (hp_n (n := 191) rfl ?_)
                          refine q_geti (κ := 7) (k := 3) (φ := 353) (pc' := 194) C Bh19 (cw_k Bh19.2.2 k0) fl_X6_22 rfl rfl rfl dX6_advance_191 rfl (fun x32 ex32 => ?_)
                          replace hf := ms_lE ex32 hf
                          refine lv_iconst (v := 2) hx hb dX6_advance_194 (by decide) (hp_n (n := 195) rfl ?_)
                          refine lv_icmp_ne (tgt := 229) hx hb dX6_advance_195 (by decide) (fun c33 => ?_) (fun c33 => hp_n (n := 198) rfl ?_)
                          ·
                            replace hf := ms_iF c33 hf
                            exact J229 αh19 Hh19 Lh19 Bh19 ls (lv_sub hl [0] rfl) hf
                          ·
                            replace hf := ms_iT c33 hf
                            refine lv_aload_n hx hb dX6_advance_198 rfl (lv_at hl 0 rfl) (hp_n (n := 199) rfl ?_)
                            refine lv_bipush (v := 10) hx hb dX6_advance_199 (by decide) (hp_n (n := 201) rfl ?_)
                            refine lv_aload_n hx hb dX6_advance_201 rfl (lv_at hl 0 rfl) (hp_n (n := 202) rfl ?_)
                            refine q_geti (κ := 7) (k := 6) (φ := 356) (pc' := 205) C Bh19 (cw_k Bh19.2.2 k0) fl_X6_31 rfl rfl rfl dX6_advance_202 rfl (fun x34 ex34 => ?_)
                            replace hf := ms_lE ex34 hf
                            refine lv_imul hx hb dX6_advance_205 (hp_n (n := 206) rfl ?_)
                            refine lv_aload_n hx hb dX6_advance_206 rfl (lv_at hl 0 rfl) (hp_n (n := 207) rfl ?_)
                            refine lv_aload_n hx hb dX6_advance_207 rfl (lv_at hl 0 rfl) (hp_n (n := 208) rfl ?_)
                            refine q_geti (κ := 7) (k := 4) (φ := 354) (pc' := 211) C Bh19 (cw_k Bh19.2.2 k0) fl_X6_25 rfl rfl rfl dX6_advance_208 rfl (fun x35 ex35 => ?_)
                            replace hf := ms_lE ex35 hf
                            refine lv_iload_n hx hb dX6_advance_211 rfl (lv_at hl 1 rfl) (hp_n (n := 212) rfl ?_)
                            refine lv_iadd hx hb dX6_advance_212 (hp_n (n := 213) rfl ?_)
                            obtain ⟨rh36, qh36, hf⟩ := ms_bE hf
                            refine d_pi (pc' := 216) Bh19 (hp_runV (As := [.int (x35 + v1_h19)]) (rest := [.int ((10 : Int32) * x34), .ref a0]) C Bh19 (n_X6_byteAt n Γ l αh19 Bh19.2.2.1 a0 (cw_k Bh19.2.2 k0) (x35 + v1_h19) rh36 qh36) lb_X6_byteAt lv_X6_byteAt lk_X6_43 (cw_k Bh19.2.2 k0) rfl (by decide) rfl hl.1 rfl (Nat.le_of_ble_eq_true rfl) dX6_advance_213 ⟨Nat.le_refl _, Nat.le_refl _⟩) rfl (fun Hh36 Lh36 Bh36 => ?_)
                            refine lv_iadd hx hb dX6_advance_216 (hp_n (n := 217) rfl ?_)
                            refine lv_bipush (v := 48) hx hb dX6_advance_217 (by decide) (hp_n (n := 219) rfl ?_)
                            refine lv_isub hx hb dX6_advance_219 (hp_n (n := 220) rfl ?_)
                            refine q_puti (κ := 7) (k := 6) (φ := 356) (pc' := 223) C Bh36 (cw_k Bh36.2.2 k0) fl_X6_31 rfl rfl rfl rfl rfl rfl (cw_sI Bh36.2.2 (by decide) (fun h => absurd h (by decide))) dX6_advance_220 rfl (fun αh37 Hh37 Lh37 eh37 Bh37 => ?_)
                            replace hf := ms_lE eh37 hf
                            obtain ⟨x38, ex38⟩ : ∃ y : Int32, y = v1_h19 + 1 := ⟨_, rfl⟩
                            replace hf := ms_lE ex38 hf
                            refine lv_iinc (v := x38) (lv' := [(1, .int x38), (0, .ref a0)]) hx hb dX6_advance_223 hl (k := 1) rfl (by rw [ex38]; rfl) (by decide) rfl (fun ls hl => hp_n (n := 226) rfl ?_)
                            refine lv_goto (tgt := 177) hx hb dX6_advance_226 (by decide) ?_
                            exact ih177 αh37 Hh37 Lh37 Bh37 x38 ls (lv_sub hl [1, 0] rfl) hf
                  refine lv_istore_n (lv' := [(1, .int (0 : Int32)), (0, .ref a0)]) hx hb dX6_advance_176 rfl hl (by decide) rfl (fun ls hl => hp_n (n := 177) rfl ?_)
                  exact J177 n αh18 Hh18 Lh18 Bh18 (0 : Int32) ls (lv_sub hl [1, 0] rfl) hf
                refine lv_icmp_ge (tgt := 157) hx hb dX6_advance_104 (by decide) (fun c39 => ?_) (fun c39 => hp_n (n := 107) rfl ?_)
                ·
                  replace hf := ms_iT c39 hf
                  exact J157 αh13 Hh13 Lh13 Bh13 ls (lv_sub hl [0] rfl) hf
                ·
                  replace hf := ms_iF c39 hf
                  refine lv_aload_n hx hb dX6_advance_107 rfl (lv_at hl 0 rfl) (hp_n (n := 108) rfl ?_)
                  refine q_geti (κ := 7) (k := 3) (φ := 353) (pc' := 111) C Bh13 (cw_k Bh13.2.2 k0) fl_X6_22 rfl rfl rfl dX6_advance_108 rfl (fun x40 ex40 => ?_)
                  replace hf := ms_lE ex40 hf
                  refine lv_iconst (v := 1) hx hb dX6_advance_111 (by decide) (hp_n (n := 112) rfl ?_)
                  have J123 : ∀ (αh41 : hp_T) (Hh41 : Heap) (Lh41 : List Loc) (Bh41 : hp_B Γ (cw w_X6_advance) s α αh41 Hh41 Lh41) (v1_h41 : Int32) (ls : Array Slot) (hl : lv_has ls 2 [(0, .ref a0), (1, .int v1_h41)]) (hf : f_X6_advance_J123 n a0 (f_X6_advance_L100 n a0 k100) αh41 v1_h41 = some res), W p l e (hp_rm 1 0 0) s m ([.ref a0] : List Value).toArray below meth c Hh41 Lh41 0 0 (MQ below (hp_Qv Γ (fun β => β = res ∧ cw w_X6_advance α β)) ([.ref a0] : List Value).toArray s 0 0 (hp_A Γ)) (F0 m 123 ls []) := by
                    intro αh41 Hh41 Lh41 Bh41 v1_h41 ls hl hf
                    unfold f_X6_advance_J123 at hf
                    refine lv_aload_n hx hb dX6_advance_123 rfl (lv_at hl 0 rfl) (hp_n (n := 124) rfl ?_)
                    refine lv_aload_n hx hb dX6_advance_124 rfl (lv_at hl 0 rfl) (hp_n (n := 125) rfl ?_)
                    refine q_geti (κ := 7) (k := 2) (φ := 352) (pc' := 128) C Bh41 (cw_k Bh41.2.2 k0) fl_X6_19 rfl rfl rfl dX6_advance_125 rfl (fun x42 ex42 => ?_)
                    replace hf := ms_lE ex42 hf
                    obtain ⟨rh43, qh43, hf⟩ := ms_bE hf
                    refine d_pi (pc' := 131) Bh41 (hp_runV (As := [.int x42]) (rest := []) C Bh41 (n_X6_byteAt n Γ l αh41 Bh41.2.2.1 a0 (cw_k Bh41.2.2 k0) x42 rh43 qh43) lb_X6_byteAt lv_X6_byteAt lk_X6_43 (cw_k Bh41.2.2 k0) rfl (by decide) rfl hl.1 rfl (Nat.le_of_ble_eq_true rfl) dX6_advance_128 ⟨Nat.le_refl _, Nat.le_refl _⟩) rfl (fun Hh43 Lh43 Bh43 => ?_)
                    obtain ⟨rh44, qh44, hf⟩ := ms_bE hf
                    refine d_pi (pc' := 134) Bh43 (hp_runS (As := [.int rh43]) (rest := []) C Bh43 (n_X6_kindOf n Γ l αh41 Bh43.2.2.1 rh43 rh44 qh44) lb_X6_kindOf ls_X6_kindOf lk_X6_51 rfl (by decide) rfl hl.1 rfl (Nat.le_of_ble_eq_true rfl) dX6_advance_131 ⟨Nat.le_refl _, Nat.le_refl _⟩) rfl (fun Hh44 Lh44 Bh44 => ?_)
                    refine lv_aload_n hx hb dX6_advance_134 rfl (lv_at hl 0 rfl) (hp_n (n := 135) rfl ?_)
                    refine q_geti (κ := 7) (k := 3) (φ := 353) (pc' := 138) C Bh44 (cw_k Bh44.2.2 k0) fl_X6_22 rfl rfl rfl dX6_advance_135 rfl (fun x45 ex45 => ?_)
                    replace hf := ms_lE ex45 hf
                    refine lv_icmp_ne (tgt := 157) hx hb dX6_advance_138 (by decide) (fun c46 => ?_) (fun c46 => hp_n (n := 141) rfl ?_)
                    ·
                      replace hf := ms_iF c46 hf
                      exact J157 αh41 Hh44 Lh44 Bh44 ls (lv_sub hl [0] rfl) hf
                    ·
                      replace hf := ms_iT c46 hf
                      refine lv_aload_n hx hb dX6_advance_141 rfl (lv_at hl 0 rfl) (hp_n (n := 142) rfl ?_)
                      refine lv_dup hx hb dX6_advance_142 rfl (hp_n (n := 143) rfl ?_)
                      refine q_geti (κ := 7) (k := 2) (φ := 352) (pc' := 146) C Bh44 (cw_k Bh44.2.2 k0) fl_X6_19 rfl rfl rfl dX6_advance_143 rfl (fun x47 ex47 => ?_)
                      replace hf := ms_lE ex47 hf
                      refine lv_iconst (v := 1) hx hb dX6_advance_146 (by decide) (hp_n (n := 147) rfl ?_)
                      refine lv_iadd hx hb dX6_advance_147 (hp_n (n := 148) rfl ?_)
                      refine q_puti (κ := 7) (k := 2) (φ := 352) (pc' := 151) C Bh44 (cw_k Bh44.2.2 k0) fl_X6_19 rfl rfl rfl rfl rfl rfl (cw_sI Bh44.2.2 (by decide) (fun h => absurd h (by decide))) dX6_advance_148 rfl (fun αh48 Hh48 Lh48 eh48 Bh48 => ?_)
                      replace hf := ms_lE eh48 hf
                      obtain ⟨x49, ex49⟩ : ∃ y : Int32, y = v1_h41 + 1 := ⟨_, rfl⟩
                      replace hf := ms_lE ex49 hf
                      refine lv_iinc (v := x49) (lv' := [(1, .int x49), (0, .ref a0)]) hx hb dX6_advance_151 hl (k := 1) rfl (by rw [ex49]; rfl) (by decide) rfl (fun ls hl => hp_n (n := 154) rfl ?_)
                      refine lv_goto (tgt := 100) hx hb dX6_advance_154 (by decide) ?_
                      exact ih100 αh48 Hh48 Lh48 Bh48 x49 ls (lv_sub hl [1, 0] rfl) hf
                  refine lv_icmp_eq (tgt := 123) hx hb dX6_advance_112 (by decide) (fun c50 => ?_) (fun c50 => hp_n (n := 115) rfl ?_)
                  ·
                    replace hf := ms_iT c50 hf
                    exact J123 αh13 Hh13 Lh13 Bh13 v1_h13 ls (lv_sub hl [0, 1] rfl) hf
                  ·
                    replace hf := ms_iF c50 hf
                    refine lv_aload_n hx hb dX6_advance_115 rfl (lv_at hl 0 rfl) (hp_n (n := 116) rfl ?_)
                    refine q_geti (κ := 7) (k := 3) (φ := 353) (pc' := 119) C Bh13 (cw_k Bh13.2.2 k0) fl_X6_22 rfl rfl rfl dX6_advance_116 rfl (fun x51 ex51 => ?_)
                    replace hf := ms_lE ex51 hf
                    refine lv_iconst (v := 2) hx hb dX6_advance_119 (by decide) (hp_n (n := 120) rfl ?_)
                    refine lv_icmp_ne (tgt := 157) hx hb dX6_advance_120 (by decide) (fun c52 => ?_) (fun c52 => hp_n (n := 123) rfl ?_)
                    ·
                      replace hf := ms_iF c52 hf
                      exact J157 αh13 Hh13 Lh13 Bh13 ls (lv_sub hl [0] rfl) hf
                    ·
                      replace hf := ms_iT c52 hf
                      exact J123 αh13 Hh13 Lh13 Bh13 v1_h13 ls (lv_sub hl [0, 1] rfl) hf
            refine lv_istore_n (lv' := [(1, .int (0 : Int32)), (0, .ref a0)]) hx hb dX6_advance_99 rfl hl (by decide) rfl (fun ls hl => hp_n (n := 100) rfl ?_)
            exact J100 n αh12 Hh12 Lh12 Bh12 (0 : Int32) ls (lv_sub hl [1, 0] rfl) hf
          refine lv_if_ne (tgt := 93) hx hb dX6_advance_86 (by decide) (fun c53 => ?_) (fun c53 => hp_n (n := 89) rfl ?_)
          ·
            replace hf := ms_iF c53 hf
            refine lv_iconst (v := 1) hx hb dX6_advance_93 (by decide) (hp_n (n := 94) rfl ?_)
            exact J94 αh8 Hh8 Lh8 Bh8 (1 : Int32) x9 a0 k0 ls (lv_sub hl [0] rfl) hf
          ·
            replace hf := ms_iT c53 hf
            refine lv_iconst (v := 0) hx hb dX6_advance_89 (by decide) (hp_n (n := 90) rfl ?_)
            refine lv_goto (tgt := 94) hx hb dX6_advance_90 (by decide) ?_
            exact J94 αh8 Hh8 Lh8 Bh8 (0 : Int32) x9 a0 k0 ls (lv_sub hl [0] rfl) hf
        refine lv_icmp_ge (tgt := 73) hx hb dX6_advance_56 (by decide) (fun c54 => ?_) (fun c54 => hp_n (n := 59) rfl ?_)
        ·
          replace hf := ms_iT c54 hf
          refine lv_iconst (v := 0) hx hb dX6_advance_73 (by decide) (hp_n (n := 74) rfl ?_)
          exact J74 αh4 Hh4 Lh4 Bh4 (0 : Int32) a0 k0 ls (lv_sub hl [0] rfl) hf
        ·
          replace hf := ms_iF c54 hf
          refine lv_aload_n hx hb dX6_advance_59 rfl (lv_at hl 0 rfl) (hp_n (n := 60) rfl ?_)
          refine lv_aload_n hx hb dX6_advance_60 rfl (lv_at hl 0 rfl) (hp_n (n := 61) rfl ?_)
          refine q_geti (κ := 7) (k := 2) (φ := 352) (pc' := 64) C Bh4 (cw_k Bh4.2.2 k0) fl_X6_19 rfl rfl rfl dX6_advance_61 rfl (fun x55 ex55 => ?_)
          replace hf := ms_lE ex55 hf
          obtain ⟨rh56, qh56, hf⟩ := ms_bE hf
          refine d_pi (pc' := 67) Bh4 (hp_runV (As := [.int x55]) (rest := [.ref a0]) C Bh4 (n_X6_byteAt n Γ l αh4 Bh4.2.2.1 a0 (cw_k Bh4.2.2 k0) x55 rh56 qh56) lb_X6_byteAt lv_X6_byteAt lk_X6_43 (cw_k Bh4.2.2 k0) rfl (by decide) rfl hl.1 rfl (Nat.le_of_ble_eq_true rfl) dX6_advance_64 ⟨Nat.le_refl _, Nat.le_refl _⟩) rfl (fun Hh56 Lh56 Bh56 => ?_)
          obtain ⟨rh57, qh57, hf⟩ := ms_bE hf
          refine d_pi (pc' := 70) Bh56 (hp_runS (As := [.int rh56]) (rest := [.ref a0]) C Bh56 (n_X6_kindOf n Γ l αh4 Bh56.2.2.1 rh56 rh57 qh57) lb_X6_kindOf ls_X6_kindOf lk_X6_51 rfl (by decide) rfl hl.1 rfl (Nat.le_of_ble_eq_true rfl) dX6_advance_67 ⟨Nat.le_refl _, Nat.le_refl _⟩) rfl (fun Hh57 Lh57 Bh57 => ?_)
          refine lv_goto (tgt := 74) hx hb dX6_advance_70 (by decide) ?_
          exact J74 αh4 Hh57 Lh57 Bh57 rh57 a0 k0 ls (lv_sub hl [0] rfl) hf
      refine lv_icmp_ge (tgt := 39) hx hb dX6_advance_6 (by decide) (fun c58 => ?_) (fun c58 => hp_n (n := 9) rfl ?_)
      ·
        replace hf := ms_iT c58 hf
        exact J39 αh1 Hh1 Lh1 Bh1 ls (lv_sub hl [0] rfl) hf
      ·
        replace hf := ms_iF c58 hf
        refine lv_aload_n hx hb dX6_advance_9 rfl (lv_at hl 0 rfl) (hp_n (n := 10) rfl ?_)
        refine lv_aload_n hx hb dX6_advance_10 rfl (lv_at hl 0 rfl) (hp_n (n := 11) rfl ?_)
        refine q_geti (κ := 7) (k := 2) (φ := 352) (pc' := 14) C Bh1 (cw_k Bh1.2.2 k0) fl_X6_19 rfl rfl rfl dX6_advance_11 rfl (fun x59 ex59 => ?_)
        replace hf := ms_lE ex59 hf
        obtain ⟨rh60, qh60, hf⟩ := ms_bE hf
        refine d_pi (pc' := 17) Bh1 (hp_runV (As := [.int x59]) (rest := []) C Bh1 (n_X6_byteAt n Γ l αh1 Bh1.2.2.1 a0 (cw_k Bh1.2.2 k0) x59 rh60 qh60) lb_X6_byteAt lv_X6_byteAt lk_X6_43 (cw_k Bh1.2.2 k0) rfl (by decide) rfl hl.1 rfl (Nat.le_of_ble_eq_true rfl) dX6_advance_14 ⟨Nat.le_refl _, Nat.le_refl _⟩) rfl (fun Hh60 Lh60 Bh60 => ?_)
        obtain ⟨rh61, qh61, hf⟩ := ms_bE hf
        refine d_pi (pc' := 20) Bh60 (hp_runS (As := [.int rh60]) (rest := []) C Bh60 (n_X6_isBlank n Γ l αh1 Bh60.2.2.1 rh60 rh61 qh61) lb_X6_isBlank ls_X6_isBlank lk_X6_47 rfl (by decide) rfl hl.1 rfl (Nat.le_of_ble_eq_true rfl) dX6_advance_17 ⟨Nat.le_refl _, Nat.le_refl _⟩) rfl (fun Hh61 Lh61 Bh61 => ?_)
        refine lv_if_eq (tgt := 39) hx hb dX6_advance_20 (by decide) (fun c62 => ?_) (fun c62 => hp_n (n := 23) rfl ?_)
        ·
          replace hf := ms_iT c62 hf
          exact J39 αh1 Hh61 Lh61 Bh61 ls (lv_sub hl [0] rfl) hf
        ·
          replace hf := ms_iF c62 hf
          refine lv_aload_n hx hb dX6_advance_23 rfl (lv_at hl 0 rfl) (hp_n (n := 24) rfl ?_)
          refine lv_dup hx hb dX6_advance_24 rfl (hp_n (n := 25) rfl ?_)
          refine q_geti (κ := 7) (k := 2) (φ := 352) (pc' := 28) C Bh61 (cw_k Bh61.2.2 k0) fl_X6_19 rfl rfl rfl dX6_advance_25 rfl (fun x63 ex63 => ?_)
          replace hf := ms_lE ex63 hf
          refine lv_iconst (v := 1) hx hb dX6_advance_28 (by decide) (hp_n (n := 29) rfl ?_)
          refine lv_iadd hx hb dX6_advance_29 (hp_n (n := 30) rfl ?_)
          refine q_puti (κ := 7) (k := 2) (φ := 352) (pc' := 33) C Bh61 (cw_k Bh61.2.2 k0) fl_X6_19 rfl rfl rfl rfl rfl rfl (cw_sI Bh61.2.2 (by decide) (fun h => absurd h (by decide))) dX6_advance_30 rfl (fun αh64 Hh64 Lh64 eh64 Bh64 => ?_)
          replace hf := ms_lE eh64 hf
          obtain ⟨x65, ex65⟩ : ∃ y : Int32, y = v1_h1 + 1 := ⟨_, rfl⟩
          replace hf := ms_lE ex65 hf
          refine lv_iinc (v := x65) (lv' := [(1, .int x65), (0, .ref a0)]) hx hb dX6_advance_33 hl (k := 1) rfl (by rw [ex65]; rfl) (by decide) rfl (fun ls hl => hp_n (n := 36) rfl ?_)
          refine lv_goto (tgt := 2) hx hb dX6_advance_36 (by decide) ?_
          exact ih2 αh64 Hh64 Lh64 Bh64 x65 ls (lv_sub hl [1, 0] rfl) hf
  refine lv_istore_n (lv' := [(1, .int (0 : Int32)), (0, .ref a0)]) hx hb dX6_advance_1 rfl hl (by decide) rfl (fun ls hl => hp_n (n := 2) rfl ?_)
  exact J2 n α s.heap [] B (0 : Int32) ls (lv_sub hl [1, 0] rfl) hf
def f_X6_spells_J62 (n : Nat) (α : hp_T) (a0 : Nat) (i1 : Nat) (rec27 : Int32 → Int32 → Option Int32) (v3_h13 : Int32) (w0_h13 : Int32) : Option Int32 :=
  ms_l (v3_h13 + 1) fun x14 =>
  rec27 w0_h13 x14
def f_X6_spells_L27 (n : Nat) (α : hp_T) (a0 : Nat) (i1 : Nat) : Nat → Int32 → Int32 → Option Int32
  | 0, _, _ => none
  | k27 + 1, v2_h3, v3_h3 =>
    if (hp_len i1) ≤ v3_h3 then
      ms_z v2_h3 <|
      some v2_h3
    else
      if v2_h3 = 0 then
        ms_z v2_h3 <|
        some v2_h3
      else
        ms_l (hp_I α 354 a0) fun x9 =>
        ms_b (f_X6_byteAt n α a0 (x9 + v3_h3)) fun rh10 =>
        ms_q v3_h3 (hp_len i1) <|
        if rh10 = (hp_ch i1 (v3_h3).toNatClampNeg) then
          f_X6_spells_J62 n α a0 i1 (f_X6_spells_L27 n α a0 i1 k27) v3_h3 (1 : Int32)
        else
          f_X6_spells_J62 n α a0 i1 (f_X6_spells_L27 n α a0 i1 k27) v3_h3 (0 : Int32)
def f_X6_spells_J24 (n : Nat) (α : hp_T) (a0 : Nat) (i1 : Nat) (w0_h2 : Int32) : Option Int32 :=
  f_X6_spells_L27 n α a0 i1 n w0_h2 (0 : Int32)
def f_X6_spells_J23 (n : Nat) (α : hp_T) (a0 : Nat) (i1 : Nat) : Option Int32 :=
  f_X6_spells_J24 n α a0 i1 (0 : Int32)
def f_X6_spells (n : Nat) (α : hp_T) (a0 : Nat) (i1 : Nat) : Option Int32 :=
  ms_l (hp_I α 353 a0) fun x1 =>
  if x1 = (1 : Int32) then
    ms_l (hp_I α 355 a0) fun x18 =>
    if x18 = (hp_len i1) then
      f_X6_spells_J24 n α a0 i1 (1 : Int32)
    else
      f_X6_spells_J23 n α a0 i1 
  else
    f_X6_spells_J23 n α a0 i1 
set_option maxRecDepth 100000 in
set_option maxHeartbeats 4000000 in
theorem n_X6_spells (n : Nat) (Γ : hp_G) (l : Launch) (α : hp_T) (g : GC α) (a0 : Nat) (k0 : hp_K α a0 = 7) (i1 : Nat) (h1 : i1 < 21) (res : Int32) (hf : f_X6_spells n α a0 i1 = some res) : Met l yX6_spells (hp_ws yX6_spells cX6_spells 4 (some .boolean)) (hp_rm 4 0 0) (hp_Pc Γ α [.ref a0, .ref (Γ.2.2.2.2.1 i1)]) (hp_Qi Γ (fun r β => β = α ∧ r = res)) 0 0 (hp_A Γ) := by
  unfold f_X6_spells at hf
  refine hp_start (by decide) ?_
  intro p e s m below meth c C hr hlk B0 hnm
  have C : hp_C Γ p m c cX6_spells 4 s ([.ref a0, .ref (Γ.2.2.2.2.1 i1)] : List Value).toArray RX6 := C
  have hx := C.1.1
  have hb := C.1.2.1
  have hown := C.1.2.2.2.1
  have hts := C.1.2.2.2.2
  have B : hp_B Γ (cw w_X6_spells) s α α s.heap [] := ⟨B0.1, B0.2.1, cw_rf g⟩
  have hl := lv_entry ([.ref a0, .ref (Γ.2.2.2.2.1 i1)]) (n := 4) (Nat.le_of_ble_eq_true rfl)
  show W p l e (hp_rm 4 0 0) s m ([.ref a0, .ref (Γ.2.2.2.2.1 i1)] : List Value).toArray below meth c s.heap [] 0 0 (MQ below (hp_Qi Γ (fun r β => β = α ∧ r = res)) ([.ref a0, .ref (Γ.2.2.2.2.1 i1)] : List Value).toArray s 0 0 (hp_A Γ)) (entryFrame m ([.ref a0, .ref (Γ.2.2.2.2.1 i1)] : List Value).toArray 4)
  rw [lg_entry_eq]
  generalize (lg_sl ([.ref a0, .ref (Γ.2.2.2.2.1 i1)]) ++ List.replicate (4 - (lg_sl ([.ref a0, .ref (Γ.2.2.2.2.1 i1)])).length) Slot.unset).toArray = ls at hl ⊢
  have hl : lv_has ls 4 [(0, .ref a0), (1, .ref (Γ.2.2.2.2.1 i1))] := hl
  refine lv_aload_n hx hb dX6_spells_0 rfl (lv_at hl 0 rfl) (hp_n (n := 1) rfl ?_)
  refine q_geti (κ := 7) (k := 3) (φ := 353) (pc' := 4) C B (cw_k B.2.2 k0) fl_X6_22 rfl rfl rfl dX6_spells_1 rfl (fun x1 ex1 => ?_)
  replace hf := ms_lE ex1 hf
  refine lv_iconst (v := 1) hx hb dX6_spells_4 (by decide) (hp_n (n := 5) rfl ?_)
  have J24 : ∀ (Hh2 : Heap) (Lh2 : List Loc) (Bh2 : hp_B Γ (cw w_X6_spells) s α α Hh2 Lh2) (w0_h2 : Int32) (ls : Array Slot) (hl : lv_has ls 4 [(0, .ref a0), (1, .ref (Γ.2.2.2.2.1 i1))]) (hf : f_X6_spells_J24 n α a0 i1 w0_h2 = some res), W p l e (hp_rm 4 0 0) s m ([.ref a0, .ref (Γ.2.2.2.2.1 i1)] : List Value).toArray below meth c Hh2 Lh2 0 0 (MQ below (hp_Qi Γ (fun r β => β = α ∧ r = res)) ([.ref a0, .ref (Γ.2.2.2.2.1 i1)] : List Value).toArray s 0 0 (hp_A Γ)) (F0 m 24 ls [.int w0_h2]) := by
    intro Hh2 Lh2 Bh2 w0_h2 ls hl hf
    unfold f_X6_spells_J24 at hf
    refine lv_istore_n (lv' := [(2, .int w0_h2), (0, .ref a0), (1, .ref (Γ.2.2.2.2.1 i1))]) hx hb dX6_spells_24 rfl hl (by decide) rfl (fun ls hl => hp_n (n := 25) rfl ?_)
    refine lv_iconst (v := 0) hx hb dX6_spells_25 (by decide) (hp_n (n := 26) rfl ?_)
    have J27 : ∀ (k27 : Nat) (Hh3 : Heap) (Lh3 : List Loc) (Bh3 : hp_B Γ (cw w_X6_spells) s α α Hh3 Lh3) (v2_h3 : Int32) (v3_h3 : Int32) (ls : Array Slot) (hl : lv_has ls 4 [(0, .ref a0), (1, .ref (Γ.2.2.2.2.1 i1)), (2, .int v2_h3), (3, .int v3_h3)]) (hf : f_X6_spells_L27 n α a0 i1 k27 v2_h3 v3_h3 = some res), W p l e (hp_rm 4 0 0) s m ([.ref a0, .ref (Γ.2.2.2.2.1 i1)] : List Value).toArray below meth c Hh3 Lh3 0 0 (MQ below (hp_Qi Γ (fun r β => β = α ∧ r = res)) ([.ref a0, .ref (Γ.2.2.2.2.1 i1)] : List Value).toArray s 0 0 (hp_A Γ)) (F0 m 27 ls []) := by
      intro k27
      induction k27 with
      | zero => intro Hh3 Lh3 Bh3 v2_h3 v3_h3 ls hl hf; rw [f_X6_spells_L27.eq_1] at hf; cases hf
      | succ k27 ih27 =>
        intro Hh3 Lh3 Bh3 v2_h3 v3_h3 ls hl hf
        rw [f_X6_spells_L27.eq_2] at hf
        refine lv_iload_n hx hb dX6_spells_27 rfl (lv_at hl 3 rfl) (hp_n (n := 28) rfl ?_)
        refine lv_aload_n hx hb dX6_spells_28 rfl (lv_at hl 1 rfl) (hp_n (n := 29) rfl ?_)
        refine d_pi (pc' := 32) Bh3 (hp_runT (i := i1) (As := []) (rest := [.int v3_h3]) C B0.1 Bh3 h1 (t_J0_length_8abf5 Γ l α i1 h1) lb_J0_length_8abf5 li_J0_length_8abf5 sx_J0_length_8abf5 rfl lk_X6_54 rfl (by decide) rfl hl.1 rfl (Nat.le_of_ble_eq_true rfl) dX6_spells_29 ⟨Nat.le_refl _, Nat.le_refl _⟩) rfl (fun Hh4 Lh4 Bh4 => ?_)
        refine lv_icmp_ge (tgt := 69) hx hb dX6_spells_32 (by decide) (fun c5 => ?_) (fun c5 => hp_n (n := 35) rfl ?_)
        ·
          replace hf := ms_iT c5 hf
          refine lv_iload_n hx hb dX6_spells_69 rfl (lv_at hl 2 rfl) (hp_n (n := 70) rfl ?_)
          obtain ⟨g6, hf⟩ := ms_zE hf
          cases hf
          exact q_zret C Bh4 hr hlk (nz_z g6) ⟨rfl, rfl⟩ dX6_spells_70
        ·
          replace hf := ms_iF c5 hf
          refine lv_iload_n hx hb dX6_spells_35 rfl (lv_at hl 2 rfl) (hp_n (n := 36) rfl ?_)
          refine lv_if_eq (tgt := 69) hx hb dX6_spells_36 (by decide) (fun c7 => ?_) (fun c7 => hp_n (n := 39) rfl ?_)
          ·
            replace hf := ms_iT c7 hf
            refine lv_iload_n hx hb dX6_spells_69 rfl (lv_at hl 2 rfl) (hp_n (n := 70) rfl ?_)
            obtain ⟨g8, hf⟩ := ms_zE hf
            cases hf
            exact q_zret C Bh4 hr hlk (nz_z g8) ⟨rfl, rfl⟩ dX6_spells_70
          ·
            replace hf := ms_iF c7 hf
            refine lv_aload_n hx hb dX6_spells_39 rfl (lv_at hl 0 rfl) (hp_n (n := 40) rfl ?_)
            refine lv_aload_n hx hb dX6_spells_40 rfl (lv_at hl 0 rfl) (hp_n (n := 41) rfl ?_)
            refine q_geti (κ := 7) (k := 4) (φ := 354) (pc' := 44) C Bh4 (cw_k Bh4.2.2 k0) fl_X6_25 rfl rfl rfl dX6_spells_41 rfl (fun x9 ex9 => ?_)
            replace hf := ms_lE ex9 hf
            refine lv_iload_n hx hb dX6_spells_44 rfl (lv_at hl 3 rfl) (hp_n (n := 45) rfl ?_)
            refine lv_iadd hx hb dX6_spells_45 (hp_n (n := 46) rfl ?_)
            obtain ⟨rh10, qh10, hf⟩ := ms_bE hf
            refine d_pi (pc' := 49) Bh4 (hp_runV (As := [.int (x9 + v3_h3)]) (rest := []) C Bh4 (n_X6_byteAt n Γ l α Bh4.2.2.1 a0 (cw_k Bh4.2.2 k0) (x9 + v3_h3) rh10 qh10) lb_X6_byteAt lv_X6_byteAt lk_X6_43 (cw_k Bh4.2.2 k0) rfl (by decide) rfl hl.1 rfl (Nat.le_of_ble_eq_true rfl) dX6_spells_46 ⟨Nat.le_refl _, Nat.le_refl _⟩) rfl (fun Hh10 Lh10 Bh10 => ?_)
            refine lv_aload_n hx hb dX6_spells_49 rfl (lv_at hl 1 rfl) (hp_n (n := 50) rfl ?_)
            refine lv_iload_n hx hb dX6_spells_50 rfl (lv_at hl 3 rfl) (hp_n (n := 51) rfl ?_)
            obtain ⟨g12, hf⟩ := ms_qE hf
            refine d_pi (pc' := 54) Bh10 (hp_runT (i := i1) (As := [.int v3_h3]) (rest := [.int rh10]) C B0.1 Bh10 h1 (t_J0_charAt_5068e Γ l α i1 h1 v3_h3 g12.1 g12.2) lb_J0_charAt_5068e li_J0_charAt_5068e sx_J0_charAt_5068e rfl lk_X6_59 rfl (by decide) rfl hl.1 rfl (Nat.le_of_ble_eq_true rfl) dX6_spells_51 ⟨Nat.le_refl _, Nat.le_refl _⟩) rfl (fun Hh11 Lh11 Bh11 => ?_)
            have J62 : ∀ (Hh13 : Heap) (Lh13 : List Loc) (Bh13 : hp_B Γ (cw w_X6_spells) s α α Hh13 Lh13) (v3_h13 : Int32) (w0_h13 : Int32) (ls : Array Slot) (hl : lv_has ls 4 [(0, .ref a0), (1, .ref (Γ.2.2.2.2.1 i1)), (3, .int v3_h13)]) (hf : f_X6_spells_J62 n α a0 i1 (f_X6_spells_L27 n α a0 i1 k27) v3_h13 w0_h13 = some res), W p l e (hp_rm 4 0 0) s m ([.ref a0, .ref (Γ.2.2.2.2.1 i1)] : List Value).toArray below meth c Hh13 Lh13 0 0 (MQ below (hp_Qi Γ (fun r β => β = α ∧ r = res)) ([.ref a0, .ref (Γ.2.2.2.2.1 i1)] : List Value).toArray s 0 0 (hp_A Γ)) (F0 m 62 ls [.int w0_h13]) := by
              intro Hh13 Lh13 Bh13 v3_h13 w0_h13 ls hl hf
              unfold f_X6_spells_J62 at hf
              refine lv_istore_n (lv' := [(2, .int w0_h13), (0, .ref a0), (1, .ref (Γ.2.2.2.2.1 i1)), (3, .int v3_h13)]) hx hb dX6_spells_62 rfl hl (by decide) rfl (fun ls hl => hp_n (n := 63) rfl ?_)
              obtain ⟨x14, ex14⟩ : ∃ y : Int32, y = v3_h13 + 1 := ⟨_, rfl⟩
              replace hf := ms_lE ex14 hf
              refine lv_iinc (v := x14) (lv' := [(3, .int x14), (2, .int w0_h13), (0, .ref a0), (1, .ref (Γ.2.2.2.2.1 i1))]) hx hb dX6_spells_63 hl (k := 3) rfl (by rw [ex14]; rfl) (by decide) rfl (fun ls hl => hp_n (n := 66) rfl ?_)
              refine lv_goto (tgt := 27) hx hb dX6_spells_66 (by decide) ?_
              exact ih27 Hh13 Lh13 Bh13 w0_h13 x14 ls (lv_sub hl [2, 3, 1, 0] rfl) hf
            refine lv_icmp_ne (tgt := 61) hx hb dX6_spells_54 (by decide) (fun c15 => ?_) (fun c15 => hp_n (n := 57) rfl ?_)
            ·
              replace hf := ms_iF c15 hf
              refine lv_iconst (v := 0) hx hb dX6_spells_61 (by decide) (hp_n (n := 62) rfl ?_)
              exact J62 Hh11 Lh11 Bh11 v3_h3 (0 : Int32) ls (lv_sub hl [0, 1, 3] rfl) hf
            ·
              replace hf := ms_iT c15 hf
              refine lv_iconst (v := 1) hx hb dX6_spells_57 (by decide) (hp_n (n := 58) rfl ?_)
              refine lv_goto (tgt := 62) hx hb dX6_spells_58 (by decide) ?_
              exact J62 Hh11 Lh11 Bh11 v3_h3 (1 : Int32) ls (lv_sub hl [0, 1, 3] rfl) hf
    refine lv_istore_n (lv' := [(3, .int (0 : Int32)), (2, .int w0_h2), (0, .ref a0), (1, .ref (Γ.2.2.2.2.1 i1))]) hx hb dX6_spells_26 rfl hl (by decide) rfl (fun ls hl => hp_n (n := 27) rfl ?_)
    exact J27 n Hh2 Lh2 Bh2 w0_h2 (0 : Int32) ls (lv_sub hl [2, 3, 1, 0] rfl) hf
  have J23 : ∀ (Hh16 : Heap) (Lh16 : List Loc) (Bh16 : hp_B Γ (cw w_X6_spells) s α α Hh16 Lh16) (ls : Array Slot) (hl : lv_has ls 4 [(0, .ref a0), (1, .ref (Γ.2.2.2.2.1 i1))]) (hf : f_X6_spells_J23 n α a0 i1  = some res), W p l e (hp_rm 4 0 0) s m ([.ref a0, .ref (Γ.2.2.2.2.1 i1)] : List Value).toArray below meth c Hh16 Lh16 0 0 (MQ below (hp_Qi Γ (fun r β => β = α ∧ r = res)) ([.ref a0, .ref (Γ.2.2.2.2.1 i1)] : List Value).toArray s 0 0 (hp_A Γ)) (F0 m 23 ls []) := by
    intro Hh16 Lh16 Bh16 ls hl hf
    unfold f_X6_spells_J23 at hf
    refine lv_iconst (v := 0) hx hb dX6_spells_23 (by decide) (hp_n (n := 24) rfl ?_)
    exact J24 Hh16 Lh16 Bh16 (0 : Int32) ls (lv_sub hl [0, 1] rfl) hf
  refine lv_icmp_ne (tgt := 23) hx hb dX6_spells_5 (by decide) (fun c17 => ?_) (fun c17 => hp_n (n := 8) rfl ?_)
  ·
    replace hf := ms_iF c17 hf
    exact J23 s.heap [] B ls (lv_sub hl [0, 1] rfl) hf
  ·
    replace hf := ms_iT c17 hf
    refine lv_aload_n hx hb dX6_spells_8 rfl (lv_at hl 0 rfl) (hp_n (n := 9) rfl ?_)
    refine q_geti (κ := 7) (k := 5) (φ := 355) (pc' := 12) C B (cw_k B.2.2 k0) fl_X6_28 rfl rfl rfl dX6_spells_9 rfl (fun x18 ex18 => ?_)
    replace hf := ms_lE ex18 hf
    refine lv_aload_n hx hb dX6_spells_12 rfl (lv_at hl 1 rfl) (hp_n (n := 13) rfl ?_)
    refine d_pi (pc' := 16) B (hp_runT (i := i1) (As := []) (rest := [.int x18]) C B0.1 B h1 (t_J0_length_8abf5 Γ l α i1 h1) lb_J0_length_8abf5 li_J0_length_8abf5 sx_J0_length_8abf5 rfl lk_X6_54 rfl (by decide) rfl hl.1 rfl (Nat.le_of_ble_eq_true rfl) dX6_spells_13 ⟨Nat.le_refl _, Nat.le_refl _⟩) rfl (fun Hh19 Lh19 Bh19 => ?_)
    refine lv_icmp_ne (tgt := 23) hx hb dX6_spells_16 (by decide) (fun c20 => ?_) (fun c20 => hp_n (n := 19) rfl ?_)
    ·
      replace hf := ms_iF c20 hf
      exact J23 Hh19 Lh19 Bh19 ls (lv_sub hl [0, 1] rfl) hf
    ·
      replace hf := ms_iT c20 hf
      refine lv_iconst (v := 1) hx hb dX6_spells_19 (by decide) (hp_n (n := 20) rfl ?_)
      refine lv_goto (tgt := 24) hx hb dX6_spells_20 (by decide) ?_
      exact J24 Hh19 Lh19 Bh19 (1 : Int32) ls (lv_sub hl [0, 1] rfl) hf
def f_X6_copyWord_L6 (n : Nat) (a0 : Nat) : Nat → hp_T → Nat → Int32 → Option hp_T
  | 0, _, _, _ => none
  | k6 + 1, αh2, v1_h2, v2_h2 =>
    ms_l (hp_I αh2 355 a0) fun x3 =>
    if x3 ≤ v2_h2 then
      some αh2
    else
      if (8 : Int32) ≤ v2_h2 then
        some αh2
      else
        ms_l (hp_I αh2 354 a0) fun x6 =>
        ms_b (f_X6_byteAt n αh2 a0 (x6 + v2_h2)) fun rh7 =>
        ms_b (f_X9_put n αh2 v1_h2 ((rh7 - (97 : Int32)) + (1 : Int32))) fun αh8 =>
        ms_l (v2_h2 + 1) fun x9 =>
        (f_X6_copyWord_L6 n a0 k6) αh8 v1_h2 x9
def f_X6_copyWord (n : Nat) (α : hp_T) (a0 : Nat) (a1 : Nat) : Option hp_T :=
  ms_b (f_X9_clear n α a1) fun αh1 =>
  f_X6_copyWord_L6 n a0 n αh1 a1 (0 : Int32)
set_option maxRecDepth 100000 in
set_option maxHeartbeats 4000000 in
theorem n_X6_copyWord (n : Nat) (Γ : hp_G) (l : Launch) (α : hp_T) (g : GC α) (a0 : Nat) (k0 : hp_K α a0 = 7) (a1 : Nat) (k1 : hp_K α a1 = 10) (res : hp_T) (hf : f_X6_copyWord n α a0 a1 = some res) : Met l yX6_copyWord (hp_ws yX6_copyWord cX6_copyWord 3 none) (hp_rm 1 0 0) (hp_Pc Γ α [.ref a0, .ref a1]) (hp_Qv Γ (fun β => β = res ∧ cw w_X6_copyWord α β)) 0 0 (hp_A Γ) := by
  unfold f_X6_copyWord at hf
  refine hp_start (by decide) ?_
  intro p e s m below meth c C hr hlk B0 hnm
  have C : hp_C Γ p m c cX6_copyWord 3 s ([.ref a0, .ref a1] : List Value).toArray RX6 := C
  have hx := C.1.1
  have hb := C.1.2.1
  have hown := C.1.2.2.2.1
  have hts := C.1.2.2.2.2
  have B : hp_B Γ (cw w_X6_copyWord) s α α s.heap [] := ⟨B0.1, B0.2.1, cw_rf g⟩
  have hl := lv_entry ([.ref a0, .ref a1]) (n := 3) (Nat.le_of_ble_eq_true rfl)
  show W p l e (hp_rm 1 0 0) s m ([.ref a0, .ref a1] : List Value).toArray below meth c s.heap [] 0 0 (MQ below (hp_Qv Γ (fun β => β = res ∧ cw w_X6_copyWord α β)) ([.ref a0, .ref a1] : List Value).toArray s 0 0 (hp_A Γ)) (entryFrame m ([.ref a0, .ref a1] : List Value).toArray 3)
  rw [lg_entry_eq]
  generalize (lg_sl ([.ref a0, .ref a1]) ++ List.replicate (3 - (lg_sl ([.ref a0, .ref a1])).length) Slot.unset).toArray = ls at hl ⊢
  have hl : lv_has ls 3 [(0, .ref a0), (1, .ref a1)] := hl
  refine lv_aload_n hx hb dX6_copyWord_0 rfl (lv_at hl 1 rfl) (hp_n (n := 1) rfl ?_)
  obtain ⟨αh1, qh1, hf⟩ := ms_bE hf
  refine d_cv (pc' := 4) B (hp_runV (As := []) (rest := []) C B (n_X9_clear n Γ l α B.2.2.1 a1 (cw_k B.2.2 k1) αh1 qh1) lb_X9_clear lv_X9_clear lk_X6_63 (cw_k B.2.2 k1) rfl (by decide) rfl hl.1 rfl (Nat.le_of_ble_eq_true rfl) dX6_copyWord_1 ⟨Nat.le_refl _, Nat.le_refl _⟩) (by decide) rfl (fun Hh1 Lh1 Bh1 => ?_)
  refine lv_iconst (v := 0) hx hb dX6_copyWord_4 (by decide) (hp_n (n := 5) rfl ?_)
  have J6 : ∀ (k6 : Nat) (αh2 : hp_T) (Hh2 : Heap) (Lh2 : List Loc) (Bh2 : hp_B Γ (cw w_X6_copyWord) s α αh2 Hh2 Lh2) (v1_h2 : Nat) (kv1_h2 : hp_K α v1_h2 = 10) (v2_h2 : Int32) (ls : Array Slot) (hl : lv_has ls 3 [(0, .ref a0), (1, .ref v1_h2), (2, .int v2_h2)]) (hf : f_X6_copyWord_L6 n a0 k6 αh2 v1_h2 v2_h2 = some res), W p l e (hp_rm 1 0 0) s m ([.ref a0, .ref a1] : List Value).toArray below meth c Hh2 Lh2 0 0 (MQ below (hp_Qv Γ (fun β => β = res ∧ cw w_X6_copyWord α β)) ([.ref a0, .ref a1] : List Value).toArray s 0 0 (hp_A Γ)) (F0 m 6 ls []) := by
    intro k6
    induction k6 with
    | zero => intro αh2 Hh2 Lh2 Bh2 v1_h2 kv1_h2 v2_h2 ls hl hf; rw [f_X6_copyWord_L6.eq_1] at hf; cases hf
    | succ k6 ih6 =>
      intro αh2 Hh2 Lh2 Bh2 v1_h2 kv1_h2 v2_h2 ls hl hf
      rw [f_X6_copyWord_L6.eq_2] at hf
      refine lv_iload_n hx hb dX6_copyWord_6 rfl (lv_at hl 2 rfl) (hp_n (n := 7) rfl ?_)
      refine lv_aload_n hx hb dX6_copyWord_7 rfl (lv_at hl 0 rfl) (hp_n (n := 8) rfl ?_)
      refine q_geti (κ := 7) (k := 5) (φ := 355) (pc' := 11) C Bh2 (cw_k Bh2.2.2 k0) fl_X6_28 rfl rfl rfl dX6_copyWord_8 rfl (fun x3 ex3 => ?_)
      replace hf := ms_lE ex3 hf
      refine lv_icmp_ge (tgt := 45) hx hb dX6_copyWord_11 (by decide) (fun c4 => ?_) (fun c4 => hp_n (n := 14) rfl ?_)
      ·
        replace hf := ms_iT c4 hf
        cases hf
        exact q_vret C Bh2 hr hlk ⟨rfl, Bh2.2.2⟩ dX6_copyWord_45
      ·
        replace hf := ms_iF c4 hf
        refine lv_iload_n hx hb dX6_copyWord_14 rfl (lv_at hl 2 rfl) (hp_n (n := 15) rfl ?_)
        refine lv_bipush (v := 8) hx hb dX6_copyWord_15 (by decide) (hp_n (n := 17) rfl ?_)
        refine lv_icmp_ge (tgt := 45) hx hb dX6_copyWord_17 (by decide) (fun c5 => ?_) (fun c5 => hp_n (n := 20) rfl ?_)
        ·
          replace hf := ms_iT c5 hf
          cases hf
          exact q_vret C Bh2 hr hlk ⟨rfl, Bh2.2.2⟩ dX6_copyWord_45
        ·
          replace hf := ms_iF c5 hf
          refine lv_aload_n hx hb dX6_copyWord_20 rfl (lv_at hl 1 rfl) (hp_n (n := 21) rfl ?_)
          refine lv_aload_n hx hb dX6_copyWord_21 rfl (lv_at hl 0 rfl) (hp_n (n := 22) rfl ?_)
          refine lv_aload_n hx hb dX6_copyWord_22 rfl (lv_at hl 0 rfl) (hp_n (n := 23) rfl ?_)
          refine q_geti (κ := 7) (k := 4) (φ := 354) (pc' := 26) C Bh2 (cw_k Bh2.2.2 k0) fl_X6_25 rfl rfl rfl dX6_copyWord_23 rfl (fun x6 ex6 => ?_)
          replace hf := ms_lE ex6 hf
          refine lv_iload_n hx hb dX6_copyWord_26 rfl (lv_at hl 2 rfl) (hp_n (n := 27) rfl ?_)
          refine lv_iadd hx hb dX6_copyWord_27 (hp_n (n := 28) rfl ?_)
          obtain ⟨rh7, qh7, hf⟩ := ms_bE hf
          refine d_pi (pc' := 31) Bh2 (hp_runV (As := [.int (x6 + v2_h2)]) (rest := [.ref v1_h2]) C Bh2 (n_X6_byteAt n Γ l αh2 Bh2.2.2.1 a0 (cw_k Bh2.2.2 k0) (x6 + v2_h2) rh7 qh7) lb_X6_byteAt lv_X6_byteAt lk_X6_43 (cw_k Bh2.2.2 k0) rfl (by decide) rfl hl.1 rfl (Nat.le_of_ble_eq_true rfl) dX6_copyWord_28 ⟨Nat.le_refl _, Nat.le_refl _⟩) rfl (fun Hh7 Lh7 Bh7 => ?_)
          refine lv_bipush (v := 97) hx hb dX6_copyWord_31 (by decide) (hp_n (n := 33) rfl ?_)
          refine lv_isub hx hb dX6_copyWord_33 (hp_n (n := 34) rfl ?_)
          refine lv_iconst (v := 1) hx hb dX6_copyWord_34 (by decide) (hp_n (n := 35) rfl ?_)
          refine lv_iadd hx hb dX6_copyWord_35 (hp_n (n := 36) rfl ?_)
          obtain ⟨αh8, qh8, hf⟩ := ms_bE hf
          refine d_cv (pc' := 39) Bh7 (hp_runV (As := [.int ((rh7 - (97 : Int32)) + (1 : Int32))]) (rest := []) C Bh7 (n_X9_put n Γ l αh2 Bh7.2.2.1 v1_h2 (cw_k Bh7.2.2 kv1_h2) ((rh7 - (97 : Int32)) + (1 : Int32)) αh8 qh8) lb_X9_put lv_X9_put lk_X6_68 (cw_k Bh7.2.2 kv1_h2) rfl (by decide) rfl hl.1 rfl (Nat.le_of_ble_eq_true rfl) dX6_copyWord_36 ⟨Nat.le_refl _, Nat.le_refl _⟩) (by decide) rfl (fun Hh8 Lh8 Bh8 => ?_)
          obtain ⟨x9, ex9⟩ : ∃ y : Int32, y = v2_h2 + 1 := ⟨_, rfl⟩
          replace hf := ms_lE ex9 hf
          refine lv_iinc (v := x9) (lv' := [(2, .int x9), (0, .ref a0), (1, .ref v1_h2)]) hx hb dX6_copyWord_39 hl (k := 2) rfl (by rw [ex9]; rfl) (by decide) rfl (fun ls hl => hp_n (n := 42) rfl ?_)
          refine lv_goto (tgt := 6) hx hb dX6_copyWord_42 (by decide) ?_
          exact ih6 αh8 Hh8 Lh8 Bh8 v1_h2 kv1_h2 x9 ls (lv_sub hl [1, 2, 0] rfl) hf
  refine lv_istore_n (lv' := [(2, .int (0 : Int32)), (0, .ref a0), (1, .ref a1)]) hx hb dX6_copyWord_5 rfl hl (by decide) rfl (fun ls hl => hp_n (n := 6) rfl ?_)
  exact J6 n αh1 Hh1 Lh1 Bh1 a1 k1 (0 : Int32) ls (lv_sub hl [1, 2, 0] rfl) hf
def f_X3_fail (n : Nat) (α : hp_T) (a0 : Nat) (a1 : Int32) : Option (Int32 × hp_T) :=
  ms_l (hp_sI α 204 a0 a1) fun αh1 =>
  ms_l (hp_R αh1 200 a0) fun b2 =>
  ms_l (hp_I αh1 354 b2) fun x3 =>
  ms_l (hp_sI αh1 205 a0 x3) fun αh4 =>
  some ((0 : Int32), αh4)
set_option maxRecDepth 100000 in
set_option maxHeartbeats 4000000 in
theorem n_X3_fail (n : Nat) (Γ : hp_G) (l : Launch) (α : hp_T) (g : GC α) (a0 : Nat) (k0 : hp_K α a0 = 4) (a1 : Int32) (res : (Int32 × hp_T)) (hf : f_X3_fail n α a0 a1 = some res) : Met l yX3_fail (hp_ws yX3_fail cX3_fail 2 (some .boolean)) (hp_rm 0 0 0) (hp_Pc Γ α [.ref a0, .int a1]) (hp_Qi Γ (fun r β => r = res.1 ∧ β = res.2 ∧ cw w_X3_fail α β)) 0 0 (hp_A Γ) := by
  unfold f_X3_fail at hf
  refine hp_start (by decide) ?_
  intro p e s m below meth c C hr hlk B0 hnm
  have C : hp_C Γ p m c cX3_fail 2 s ([.ref a0, .int a1] : List Value).toArray RX3 := C
  have hx := C.1.1
  have hb := C.1.2.1
  have hown := C.1.2.2.2.1
  have hts := C.1.2.2.2.2
  have B : hp_B Γ (cw w_X3_fail) s α α s.heap [] := ⟨B0.1, B0.2.1, cw_rf g⟩
  have hl := lv_entry ([.ref a0, .int a1]) (n := 2) (Nat.le_of_ble_eq_true rfl)
  show W p l e (hp_rm 0 0 0) s m ([.ref a0, .int a1] : List Value).toArray below meth c s.heap [] 0 0 (MQ below (hp_Qi Γ (fun r β => r = res.1 ∧ β = res.2 ∧ cw w_X3_fail α β)) ([.ref a0, .int a1] : List Value).toArray s 0 0 (hp_A Γ)) (entryFrame m ([.ref a0, .int a1] : List Value).toArray 2)
  rw [lg_entry_eq]
  generalize (lg_sl ([.ref a0, .int a1]) ++ List.replicate (2 - (lg_sl ([.ref a0, .int a1])).length) Slot.unset).toArray = ls at hl ⊢
  have hl : lv_has ls 2 [(0, .ref a0), (1, .int a1)] := hl
  refine lv_aload_n hx hb dX3_fail_0 rfl (lv_at hl 0 rfl) (hp_n (n := 1) rfl ?_)
  refine lv_iload_n hx hb dX3_fail_1 rfl (lv_at hl 1 rfl) (hp_n (n := 2) rfl ?_)
  refine q_puti (κ := 4) (k := 4) (φ := 204) (pc' := 5) C B (cw_k B.2.2 k0) fl_X3_37 rfl rfl rfl rfl rfl rfl (cw_sI B.2.2 (by decide) (fun h => absurd h (by decide))) dX3_fail_2 rfl (fun αh1 Hh1 Lh1 eh1 Bh1 => ?_)
  replace hf := ms_lE eh1 hf
  refine lv_aload_n hx hb dX3_fail_5 rfl (lv_at hl 0 rfl) (hp_n (n := 6) rfl ?_)
  refine lv_aload_n hx hb dX3_fail_6 rfl (lv_at hl 0 rfl) (hp_n (n := 7) rfl ?_)
  refine q_getr (κ := 4) (k := 0) (φ := 200) (pc' := 10) C Bh1 (cw_k Bh1.2.2 k0) fl_X3_12 rfl rfl rfl (cw_r Bh1.2.2 k0 rfl rfl (by decide) (by decide)) dX3_fail_7 rfl (fun b2 eb2 kb2 => ?_)
  replace hf := ms_lE eb2 hf
  refine q_geti (κ := 7) (k := 4) (φ := 354) (pc' := 13) C Bh1 (cw_k Bh1.2.2 kb2) fl_X3_191 rfl rfl rfl dX3_fail_10 rfl (fun x3 ex3 => ?_)
  replace hf := ms_lE ex3 hf
  refine q_puti (κ := 4) (k := 5) (φ := 205) (pc' := 16) C Bh1 (cw_k Bh1.2.2 k0) fl_X3_40 rfl rfl rfl rfl rfl rfl (cw_sI Bh1.2.2 (by decide) (fun h => absurd h (by decide))) dX3_fail_13 rfl (fun αh4 Hh4 Lh4 eh4 Bh4 => ?_)
  replace hf := ms_lE eh4 hf
  refine lv_iconst (v := 0) hx hb dX3_fail_16 (by decide) (hp_n (n := 17) rfl ?_)
  cases hf
  exact q_zret C Bh4 hr hlk (by decide) ⟨rfl, rfl, Bh4.2.2⟩ dX3_fail_17
def f_X3_stray_J17 (n : Nat) (a0 : Nat) (αh3 : hp_T) (w0_h3 : Int32) (w1_h3 : Nat) : Option (Int32 × hp_T) :=
  hq_c (f_X3_fail n αh3 w1_h3 w0_h3) fun rh4 αh4 =>
  ms_z rh4 <|
  some (rh4, αh4)
def f_X3_stray (n : Nat) (α : hp_T) (a0 : Nat) : Option (Int32 × hp_T) :=
  ms_l (hp_R α 200 a0) fun b1 =>
  ms_l (hp_I α 353 b1) fun x2 =>
  if x2 = (4 : Int32) then
    f_X3_stray_J17 n a0 α (1 : Int32) a0
  else
    f_X3_stray_J17 n a0 α (2 : Int32) a0
set_option maxRecDepth 100000 in
set_option maxHeartbeats 4000000 in
theorem n_X3_stray (n : Nat) (Γ : hp_G) (l : Launch) (α : hp_T) (g : GC α) (a0 : Nat) (k0 : hp_K α a0 = 4) (res : (Int32 × hp_T)) (hf : f_X3_stray n α a0 = some res) : Met l yX3_stray (hp_ws yX3_stray cX3_stray 1 (some .boolean)) (hp_rm 1 0 0) (hp_Pc Γ α [.ref a0]) (hp_Qi Γ (fun r β => r = res.1 ∧ β = res.2 ∧ cw w_X3_stray α β)) 0 0 (hp_A Γ) := by
  unfold f_X3_stray at hf
  refine hp_start (by decide) ?_
  intro p e s m below meth c C hr hlk B0 hnm
  have C : hp_C Γ p m c cX3_stray 1 s ([.ref a0] : List Value).toArray RX3 := C
  have hx := C.1.1
  have hb := C.1.2.1
  have hown := C.1.2.2.2.1
  have hts := C.1.2.2.2.2
  have B : hp_B Γ (cw w_X3_stray) s α α s.heap [] := ⟨B0.1, B0.2.1, cw_rf g⟩
  have hl := lv_entry ([.ref a0]) (n := 1) (Nat.le_of_ble_eq_true rfl)
  show W p l e (hp_rm 1 0 0) s m ([.ref a0] : List Value).toArray below meth c s.heap [] 0 0 (MQ below (hp_Qi Γ (fun r β => r = res.1 ∧ β = res.2 ∧ cw w_X3_stray α β)) ([.ref a0] : List Value).toArray s 0 0 (hp_A Γ)) (entryFrame m ([.ref a0] : List Value).toArray 1)
  rw [lg_entry_eq]
  generalize (lg_sl ([.ref a0]) ++ List.replicate (1 - (lg_sl ([.ref a0])).length) Slot.unset).toArray = ls at hl ⊢
  have hl : lv_has ls 1 [(0, .ref a0)] := hl
  refine lv_aload_n hx hb dX3_stray_0 rfl (lv_at hl 0 rfl) (hp_n (n := 1) rfl ?_)
  refine lv_aload_n hx hb dX3_stray_1 rfl (lv_at hl 0 rfl) (hp_n (n := 2) rfl ?_)
  refine q_getr (κ := 4) (k := 0) (φ := 200) (pc' := 5) C B (cw_k B.2.2 k0) fl_X3_12 rfl rfl rfl (cw_r B.2.2 k0 rfl rfl (by decide) (by decide)) dX3_stray_2 rfl (fun b1 eb1 kb1 => ?_)
  replace hf := ms_lE eb1 hf
  refine q_geti (κ := 7) (k := 3) (φ := 353) (pc' := 8) C B (cw_k B.2.2 kb1) fl_X3_66 rfl rfl rfl dX3_stray_5 rfl (fun x2 ex2 => ?_)
  replace hf := ms_lE ex2 hf
  refine lv_iconst (v := 4) hx hb dX3_stray_8 (by decide) (hp_n (n := 9) rfl ?_)
  have J17 : ∀ (αh3 : hp_T) (Hh3 : Heap) (Lh3 : List Loc) (Bh3 : hp_B Γ (cw w_X3_stray) s α αh3 Hh3 Lh3) (w0_h3 : Int32) (w1_h3 : Nat) (kw1_h3 : hp_K α w1_h3 = 4) (ls : Array Slot) (hl : lv_has ls 1 []) (hf : f_X3_stray_J17 n a0 αh3 w0_h3 w1_h3 = some res), W p l e (hp_rm 1 0 0) s m ([.ref a0] : List Value).toArray below meth c Hh3 Lh3 0 0 (MQ below (hp_Qi Γ (fun r β => r = res.1 ∧ β = res.2 ∧ cw w_X3_stray α β)) ([.ref a0] : List Value).toArray s 0 0 (hp_A Γ)) (F0 m 17 ls [.int w0_h3, .ref w1_h3]) := by
    intro αh3 Hh3 Lh3 Bh3 w0_h3 w1_h3 kw1_h3 ls hl hf
    unfold f_X3_stray_J17 at hf
    obtain ⟨rh4, αh4, qh4, hf⟩ := hq_cE hf
    refine d_ci (pc' := 20) Bh3 (hp_runV (As := [.int w0_h3]) (rest := []) C Bh3 (n_X3_fail n Γ l αh3 Bh3.2.2.1 w1_h3 (cw_k Bh3.2.2 kw1_h3) w0_h3 (rh4, αh4) qh4) lb_X3_fail lv_X3_fail lk_X3_145 (cw_k Bh3.2.2 kw1_h3) rfl (by decide) rfl hl.1 rfl (Nat.le_of_ble_eq_true rfl) dX3_stray_17 ⟨Nat.le_refl _, Nat.le_refl _⟩) (by decide) rfl (fun Hh4 Lh4 Bh4 => ?_)
    obtain ⟨g5, hf⟩ := ms_zE hf
    cases hf
    exact q_zret C Bh4 hr hlk (nz_z g5) ⟨rfl, rfl, Bh4.2.2⟩ dX3_stray_20
  refine lv_icmp_ne (tgt := 16) hx hb dX3_stray_9 (by decide) (fun c6 => ?_) (fun c6 => hp_n (n := 12) rfl ?_)
  ·
    replace hf := ms_iF c6 hf
    refine lv_iconst (v := 2) hx hb dX3_stray_16 (by decide) (hp_n (n := 17) rfl ?_)
    exact J17 α s.heap [] B (2 : Int32) a0 k0 ls (lv_sub hl [] rfl) hf
  ·
    replace hf := ms_iT c6 hf
    refine lv_iconst (v := 1) hx hb dX3_stray_12 (by decide) (hp_n (n := 13) rfl ?_)
    refine lv_goto (tgt := 17) hx hb dX3_stray_13 (by decide) ?_
    exact J17 α s.heap [] B (1 : Int32) a0 k0 ls (lv_sub hl [] rfl) hf
def f_X3_hasRoom_J14 (n : Nat) (a0 : Nat) (αh1 : hp_T) : Option (Int32 × hp_T) :=
  some ((1 : Int32), αh1)
def f_X3_hasRoom (n : Nat) (α : hp_T) (a0 : Nat) (a1 : Int32) (a2 : Int32) : Option (Int32 × hp_T) :=
  if a1 < a2 then
    f_X3_hasRoom_J14 n a0 α
  else
    hq_c (f_X3_fail n α a0 (6 : Int32)) fun rh3 αh3 =>
    if rh3 = 0 then
      some ((0 : Int32), αh3)
    else
      f_X3_hasRoom_J14 n a0 αh3
set_option maxRecDepth 100000 in
set_option maxHeartbeats 4000000 in
theorem n_X3_hasRoom (n : Nat) (Γ : hp_G) (l : Launch) (α : hp_T) (g : GC α) (a0 : Nat) (k0 : hp_K α a0 = 4) (a1 : Int32) (a2 : Int32) (res : (Int32 × hp_T)) (hf : f_X3_hasRoom n α a0 a1 a2 = some res) : Met l yX3_hasRoom (hp_ws yX3_hasRoom cX3_hasRoom 3 (some .boolean)) (hp_rm 1 0 0) (hp_Pc Γ α [.ref a0, .int a1, .int a2]) (hp_Qi Γ (fun r β => r = res.1 ∧ β = res.2 ∧ cw w_X3_hasRoom α β)) 0 0 (hp_A Γ) := by
  unfold f_X3_hasRoom at hf
  refine hp_start (by decide) ?_
  intro p e s m below meth c C hr hlk B0 hnm
  have C : hp_C Γ p m c cX3_hasRoom 3 s ([.ref a0, .int a1, .int a2] : List Value).toArray RX3 := C
  have hx := C.1.1
  have hb := C.1.2.1
  have hown := C.1.2.2.2.1
  have hts := C.1.2.2.2.2
  have B : hp_B Γ (cw w_X3_hasRoom) s α α s.heap [] := ⟨B0.1, B0.2.1, cw_rf g⟩
  have hl := lv_entry ([.ref a0, .int a1, .int a2]) (n := 3) (Nat.le_of_ble_eq_true rfl)
  show W p l e (hp_rm 1 0 0) s m ([.ref a0, .int a1, .int a2] : List Value).toArray below meth c s.heap [] 0 0 (MQ below (hp_Qi Γ (fun r β => r = res.1 ∧ β = res.2 ∧ cw w_X3_hasRoom α β)) ([.ref a0, .int a1, .int a2] : List Value).toArray s 0 0 (hp_A Γ)) (entryFrame m ([.ref a0, .int a1, .int a2] : List Value).toArray 3)
  rw [lg_entry_eq]
  generalize (lg_sl ([.ref a0, .int a1, .int a2]) ++ List.replicate (3 - (lg_sl ([.ref a0, .int a1, .int a2])).length) Slot.unset).toArray = ls at hl ⊢
  have hl : lv_has ls 3 [(0, .ref a0), (1, .int a1), (2, .int a2)] := hl
  refine lv_iload_n hx hb dX3_hasRoom_0 rfl (lv_at hl 1 rfl) (hp_n (n := 1) rfl ?_)
  refine lv_iload_n hx hb dX3_hasRoom_1 rfl (lv_at hl 2 rfl) (hp_n (n := 2) rfl ?_)
  have J14 : ∀ (αh1 : hp_T) (Hh1 : Heap) (Lh1 : List Loc) (Bh1 : hp_B Γ (cw w_X3_hasRoom) s α αh1 Hh1 Lh1) (ls : Array Slot) (hl : lv_has ls 3 []) (hf : f_X3_hasRoom_J14 n a0 αh1 = some res), W p l e (hp_rm 1 0 0) s m ([.ref a0, .int a1, .int a2] : List Value).toArray below meth c Hh1 Lh1 0 0 (MQ below (hp_Qi Γ (fun r β => r = res.1 ∧ β = res.2 ∧ cw w_X3_hasRoom α β)) ([.ref a0, .int a1, .int a2] : List Value).toArray s 0 0 (hp_A Γ)) (F0 m 14 ls []) := by
    intro αh1 Hh1 Lh1 Bh1 ls hl hf
    unfold f_X3_hasRoom_J14 at hf
    refine lv_iconst (v := 1) hx hb dX3_hasRoom_14 (by decide) (hp_n (n := 15) rfl ?_)
    refine lv_goto (tgt := 19) hx hb dX3_hasRoom_15 (by decide) ?_
    cases hf
    exact q_zret C Bh1 hr hlk (by decide) ⟨rfl, rfl, Bh1.2.2⟩ dX3_hasRoom_19
  refine lv_icmp_lt (tgt := 14) hx hb dX3_hasRoom_2 (by decide) (fun c2 => ?_) (fun c2 => hp_n (n := 5) rfl ?_)
  ·
    replace hf := ms_iT c2 hf
    exact J14 α s.heap [] B ls (lv_sub hl [] rfl) hf
  ·
    replace hf := ms_iF c2 hf
    refine lv_aload_n hx hb dX3_hasRoom_5 rfl (lv_at hl 0 rfl) (hp_n (n := 6) rfl ?_)
    refine lv_bipush (v := 6) hx hb dX3_hasRoom_6 (by decide) (hp_n (n := 8) rfl ?_)
    obtain ⟨rh3, αh3, qh3, hf⟩ := hq_cE hf
    refine d_ci (pc' := 11) B (hp_runV (As := [.int (6 : Int32)]) (rest := []) C B (n_X3_fail n Γ l α B.2.2.1 a0 (cw_k B.2.2 k0) (6 : Int32) (rh3, αh3) qh3) lb_X3_fail lv_X3_fail lk_X3_145 (cw_k B.2.2 k0) rfl (by decide) rfl hl.1 rfl (Nat.le_of_ble_eq_true rfl) dX3_hasRoom_8 ⟨Nat.le_refl _, Nat.le_refl _⟩) (by decide) rfl (fun Hh3 Lh3 Bh3 => ?_)
    refine lv_if_eq (tgt := 18) hx hb dX3_hasRoom_11 (by decide) (fun c4 => ?_) (fun c4 => hp_n (n := 14) rfl ?_)
    ·
      replace hf := ms_iT c4 hf
      refine lv_iconst (v := 0) hx hb dX3_hasRoom_18 (by decide) (hp_n (n := 19) rfl ?_)
      cases hf
      exact q_zret C Bh3 hr hlk (by decide) ⟨rfl, rfl, Bh3.2.2⟩ dX3_hasRoom_19
    ·
      replace hf := ms_iF c4 hf
      exact J14 αh3 Hh3 Lh3 Bh3 ls (lv_sub hl [] rfl) hf
def f_X3_begin (n : Nat) (α : hp_T) (a0 : Nat) (a1 : Nat) (a2 : Int32) : Option hp_T :=
  ms_l (hp_sI α 204 a0 (0 : Int32)) fun αh1 =>
  ms_l (hp_sI αh1 205 a0 (-1 : Int32)) fun αh2 =>
  ms_l (hp_R αh2 200 a0) fun b3 =>
  ms_b (f_X6_begin n αh2 b3 a1 a2) fun αh4 =>
  ms_l (hp_R αh4 200 a0) fun b5 =>
  ms_b (f_X6_advance n αh4 b5) fun αh6 =>
  some αh6
set_option maxRecDepth 100000 in
set_option maxHeartbeats 4000000 in
theorem n_X3_begin (n : Nat) (Γ : hp_G) (l : Launch) (α : hp_T) (g : GC α) (a0 : Nat) (k0 : hp_K α a0 = 4) (a1 : Nat) (k1 : hp_K α a1 = 24) (a2 : Int32) (res : hp_T) (hf : f_X3_begin n α a0 a1 a2 = some res) : Met l yX3_begin (hp_ws yX3_begin cX3_begin 3 none) (hp_rm 2 0 0) (hp_Pc Γ α [.ref a0, .ref a1, .int a2]) (hp_Qv Γ (fun β => β = res ∧ cw w_X3_begin α β)) 0 0 (hp_A Γ) := by
  unfold f_X3_begin at hf
  refine hp_start (by decide) ?_
  intro p e s m below meth c C hr hlk B0 hnm
  have C : hp_C Γ p m c cX3_begin 3 s ([.ref a0, .ref a1, .int a2] : List Value).toArray RX3 := C
  have hx := C.1.1
  have hb := C.1.2.1
  have hown := C.1.2.2.2.1
  have hts := C.1.2.2.2.2
  have B : hp_B Γ (cw w_X3_begin) s α α s.heap [] := ⟨B0.1, B0.2.1, cw_rf g⟩
  have hl := lv_entry ([.ref a0, .ref a1, .int a2]) (n := 3) (Nat.le_of_ble_eq_true rfl)
  show W p l e (hp_rm 2 0 0) s m ([.ref a0, .ref a1, .int a2] : List Value).toArray below meth c s.heap [] 0 0 (MQ below (hp_Qv Γ (fun β => β = res ∧ cw w_X3_begin α β)) ([.ref a0, .ref a1, .int a2] : List Value).toArray s 0 0 (hp_A Γ)) (entryFrame m ([.ref a0, .ref a1, .int a2] : List Value).toArray 3)
  rw [lg_entry_eq]
  generalize (lg_sl ([.ref a0, .ref a1, .int a2]) ++ List.replicate (3 - (lg_sl ([.ref a0, .ref a1, .int a2])).length) Slot.unset).toArray = ls at hl ⊢
  have hl : lv_has ls 3 [(0, .ref a0), (1, .ref a1), (2, .int a2)] := hl
  refine lv_aload_n hx hb dX3_begin_0 rfl (lv_at hl 0 rfl) (hp_n (n := 1) rfl ?_)
  refine lv_iconst (v := 0) hx hb dX3_begin_1 (by decide) (hp_n (n := 2) rfl ?_)
  refine q_puti (κ := 4) (k := 4) (φ := 204) (pc' := 5) C B (cw_k B.2.2 k0) fl_X3_37 rfl rfl rfl rfl rfl rfl (cw_sI B.2.2 (by decide) (fun h => absurd h (by decide))) dX3_begin_2 rfl (fun αh1 Hh1 Lh1 eh1 Bh1 => ?_)
  replace hf := ms_lE eh1 hf
  refine lv_aload_n hx hb dX3_begin_5 rfl (lv_at hl 0 rfl) (hp_n (n := 6) rfl ?_)
  refine lv_iconst (v := (-1)) hx hb dX3_begin_6 (by decide) (hp_n (n := 7) rfl ?_)
  refine q_puti (κ := 4) (k := 5) (φ := 205) (pc' := 10) C Bh1 (cw_k Bh1.2.2 k0) fl_X3_40 rfl rfl rfl rfl rfl rfl (cw_sI Bh1.2.2 (by decide) (fun h => absurd h (by decide))) dX3_begin_7 rfl (fun αh2 Hh2 Lh2 eh2 Bh2 => ?_)
  replace hf := ms_lE eh2 hf
  refine lv_aload_n hx hb dX3_begin_10 rfl (lv_at hl 0 rfl) (hp_n (n := 11) rfl ?_)
  refine q_getr (κ := 4) (k := 0) (φ := 200) (pc' := 14) C Bh2 (cw_k Bh2.2.2 k0) fl_X3_12 rfl rfl rfl (cw_r Bh2.2.2 k0 rfl rfl (by decide) (by decide)) dX3_begin_11 rfl (fun b3 eb3 kb3 => ?_)
  replace hf := ms_lE eb3 hf
  refine lv_aload_n hx hb dX3_begin_14 rfl (lv_at hl 1 rfl) (hp_n (n := 15) rfl ?_)
  refine lv_iload_n hx hb dX3_begin_15 rfl (lv_at hl 2 rfl) (hp_n (n := 16) rfl ?_)
  obtain ⟨αh4, qh4, hf⟩ := ms_bE hf
  refine d_cv (pc' := 19) Bh2 (hp_runV (As := [.ref a1, .int a2]) (rest := []) C Bh2 (n_X6_begin n Γ l αh2 Bh2.2.2.1 b3 (cw_k Bh2.2.2 kb3) a1 (cw_k Bh2.2.2 k1) a2 αh4 qh4) lb_X6_begin lv_X6_begin lk_X3_59 (cw_k Bh2.2.2 kb3) rfl (by decide) rfl hl.1 rfl (Nat.le_of_ble_eq_true rfl) dX3_begin_16 ⟨Nat.le_refl _, Nat.le_refl _⟩) (by decide) rfl (fun Hh4 Lh4 Bh4 => ?_)
  refine lv_aload_n hx hb dX3_begin_19 rfl (lv_at hl 0 rfl) (hp_n (n := 20) rfl ?_)
  refine q_getr (κ := 4) (k := 0) (φ := 200) (pc' := 23) C Bh4 (cw_k Bh4.2.2 k0) fl_X3_12 rfl rfl rfl (cw_r Bh4.2.2 k0 rfl rfl (by decide) (by decide)) dX3_begin_20 rfl (fun b5 eb5 kb5 => ?_)
  replace hf := ms_lE eb5 hf
  obtain ⟨αh6, qh6, hf⟩ := ms_bE hf
  refine d_cv (pc' := 26) Bh4 (hp_runV (As := []) (rest := []) C Bh4 (n_X6_advance n Γ l αh4 Bh4.2.2.1 b5 (cw_k Bh4.2.2 kb5) αh6 qh6) lb_X6_advance lv_X6_advance lk_X3_63 (cw_k Bh4.2.2 kb5) rfl (by decide) rfl hl.1 rfl (Nat.le_of_ble_eq_true rfl) dX3_begin_23 ⟨Nat.le_refl _, Nat.le_refl _⟩) (by decide) rfl (fun Hh6 Lh6 Bh6 => ?_)
  cases hf
  exact q_vret C Bh6 hr hlk ⟨rfl, Bh6.2.2⟩ dX3_begin_26
def f_X3_isAtEnd (n : Nat) (α : hp_T) (a0 : Nat) : Option Int32 :=
  ms_l (hp_R α 200 a0) fun b1 =>
  ms_l (hp_I α 353 b1) fun x2 =>
  if x2 = 0 then
    some (1 : Int32)
  else
    some (0 : Int32)
set_option maxRecDepth 100000 in
set_option maxHeartbeats 4000000 in
theorem n_X3_isAtEnd (n : Nat) (Γ : hp_G) (l : Launch) (α : hp_T) (g : GC α) (a0 : Nat) (k0 : hp_K α a0 = 4) (res : Int32) (hf : f_X3_isAtEnd n α a0 = some res) : Met l yX3_isAtEnd (hp_ws yX3_isAtEnd cX3_isAtEnd 1 (some .boolean)) (hp_rm 0 0 0) (hp_Pc Γ α [.ref a0]) (hp_Qi Γ (fun r β => β = α ∧ r = res)) 0 0 (hp_A Γ) := by
  unfold f_X3_isAtEnd at hf
  refine hp_start (by decide) ?_
  intro p e s m below meth c C hr hlk B0 hnm
  have C : hp_C Γ p m c cX3_isAtEnd 1 s ([.ref a0] : List Value).toArray RX3 := C
  have hx := C.1.1
  have hb := C.1.2.1
  have hown := C.1.2.2.2.1
  have hts := C.1.2.2.2.2
  have B : hp_B Γ (cw w_X3_isAtEnd) s α α s.heap [] := ⟨B0.1, B0.2.1, cw_rf g⟩
  have hl := lv_entry ([.ref a0]) (n := 1) (Nat.le_of_ble_eq_true rfl)
  show W p l e (hp_rm 0 0 0) s m ([.ref a0] : List Value).toArray below meth c s.heap [] 0 0 (MQ below (hp_Qi Γ (fun r β => β = α ∧ r = res)) ([.ref a0] : List Value).toArray s 0 0 (hp_A Γ)) (entryFrame m ([.ref a0] : List Value).toArray 1)
  rw [lg_entry_eq]
  generalize (lg_sl ([.ref a0]) ++ List.replicate (1 - (lg_sl ([.ref a0])).length) Slot.unset).toArray = ls at hl ⊢
  have hl : lv_has ls 1 [(0, .ref a0)] := hl
  refine lv_aload_n hx hb dX3_isAtEnd_0 rfl (lv_at hl 0 rfl) (hp_n (n := 1) rfl ?_)
  refine q_getr (κ := 4) (k := 0) (φ := 200) (pc' := 4) C B (cw_k B.2.2 k0) fl_X3_12 rfl rfl rfl (cw_r B.2.2 k0 rfl rfl (by decide) (by decide)) dX3_isAtEnd_1 rfl (fun b1 eb1 kb1 => ?_)
  replace hf := ms_lE eb1 hf
  refine q_geti (κ := 7) (k := 3) (φ := 353) (pc' := 7) C B (cw_k B.2.2 kb1) fl_X3_66 rfl rfl rfl dX3_isAtEnd_4 rfl (fun x2 ex2 => ?_)
  replace hf := ms_lE ex2 hf
  refine lv_if_ne (tgt := 14) hx hb dX3_isAtEnd_7 (by decide) (fun c3 => ?_) (fun c3 => hp_n (n := 10) rfl ?_)
  ·
    replace hf := ms_iF c3 hf
    refine lv_iconst (v := 0) hx hb dX3_isAtEnd_14 (by decide) (hp_n (n := 15) rfl ?_)
    cases hf
    exact q_zret C B hr hlk (by decide) ⟨rfl, rfl⟩ dX3_isAtEnd_15
  ·
    replace hf := ms_iT c3 hf
    refine lv_iconst (v := 1) hx hb dX3_isAtEnd_10 (by decide) (hp_n (n := 11) rfl ?_)
    refine lv_goto (tgt := 15) hx hb dX3_isAtEnd_11 (by decide) ?_
    cases hf
    exact q_zret C B hr hlk (by decide) ⟨rfl, rfl⟩ dX3_isAtEnd_15
def f_X3_readNumber_J58 (n : Nat) (a0 : Nat) (αh10 : hp_T) : Option (Int32 × hp_T) :=
  some ((1 : Int32), αh10)
def f_X3_readNumber_J50 (n : Nat) (a0 : Nat) (αh11 : hp_T) : Option (Int32 × hp_T) :=
  hq_c (f_X3_fail n αh11 a0 (3 : Int32)) fun rh12 αh12 =>
  if rh12 = 0 then
    some ((0 : Int32), αh12)
  else
    f_X3_readNumber_J58 n a0 αh12
def f_X3_readNumber (n : Nat) (α : hp_T) (a0 : Nat) (a1 : Int32) (a2 : Int32) : Option (Int32 × hp_T) :=
  ms_l (hp_R α 200 a0) fun b1 =>
  ms_b (f_X6_advance n α b1) fun αh2 =>
  ms_l (hp_R αh2 200 a0) fun b3 =>
  ms_l (hp_I αh2 353 b3) fun x4 =>
  if x4 = (2 : Int32) then
    ms_l (hp_R αh2 200 a0) fun b6 =>
    ms_l (hp_I αh2 356 b6) fun x7 =>
    ms_l (hp_sI αh2 209 a0 x7) fun αh8 =>
    ms_l (hp_I αh8 209 a0) fun x9 =>
    if x9 < a1 then
      f_X3_readNumber_J50 n a0 αh8
    else
      ms_l (hp_I αh8 209 a0) fun x15 =>
      if x15 ≤ a2 then
        f_X3_readNumber_J58 n a0 αh8
      else
        f_X3_readNumber_J50 n a0 αh8
  else
    hq_c (f_X3_stray n αh2 a0) fun rh17 αh17 =>
    ms_z rh17 <|
    some (rh17, αh17)
set_option maxRecDepth 100000 in
set_option maxHeartbeats 4000000 in
theorem n_X3_readNumber (n : Nat) (Γ : hp_G) (l : Launch) (α : hp_T) (g : GC α) (a0 : Nat) (k0 : hp_K α a0 = 4) (a1 : Int32) (a2 : Int32) (res : (Int32 × hp_T)) (hf : f_X3_readNumber n α a0 a1 a2 = some res) : Met l yX3_readNumber (hp_ws yX3_readNumber cX3_readNumber 3 (some .boolean)) (hp_rm 2 0 0) (hp_Pc Γ α [.ref a0, .int a1, .int a2]) (hp_Qi Γ (fun r β => r = res.1 ∧ β = res.2 ∧ cw w_X3_readNumber α β)) 0 0 (hp_A Γ) := by
  unfold f_X3_readNumber at hf
  refine hp_start (by decide) ?_
  intro p e s m below meth c C hr hlk B0 hnm
  have C : hp_C Γ p m c cX3_readNumber 3 s ([.ref a0, .int a1, .int a2] : List Value).toArray RX3 := C
  have hx := C.1.1
  have hb := C.1.2.1
  have hown := C.1.2.2.2.1
  have hts := C.1.2.2.2.2
  have B : hp_B Γ (cw w_X3_readNumber) s α α s.heap [] := ⟨B0.1, B0.2.1, cw_rf g⟩
  have hl := lv_entry ([.ref a0, .int a1, .int a2]) (n := 3) (Nat.le_of_ble_eq_true rfl)
  show W p l e (hp_rm 2 0 0) s m ([.ref a0, .int a1, .int a2] : List Value).toArray below meth c s.heap [] 0 0 (MQ below (hp_Qi Γ (fun r β => r = res.1 ∧ β = res.2 ∧ cw w_X3_readNumber α β)) ([.ref a0, .int a1, .int a2] : List Value).toArray s 0 0 (hp_A Γ)) (entryFrame m ([.ref a0, .int a1, .int a2] : List Value).toArray 3)
  rw [lg_entry_eq]
  generalize (lg_sl ([.ref a0, .int a1, .int a2]) ++ List.replicate (3 - (lg_sl ([.ref a0, .int a1, .int a2])).length) Slot.unset).toArray = ls at hl ⊢
  have hl : lv_has ls 3 [(0, .ref a0), (1, .int a1), (2, .int a2)] := hl
  refine lv_aload_n hx hb dX3_readNumber_0 rfl (lv_at hl 0 rfl) (hp_n (n := 1) rfl ?_)
  refine q_getr (κ := 4) (k := 0) (φ := 200) (pc' := 4) C B (cw_k B.2.2 k0) fl_X3_12 rfl rfl rfl (cw_r B.2.2 k0 rfl rfl (by decide) (by decide)) dX3_readNumber_1 rfl (fun b1 eb1 kb1 => ?_)
  replace hf := ms_lE eb1 hf
  obtain ⟨αh2, qh2, hf⟩ := ms_bE hf
  refine d_cv (pc' := 7) B (hp_runV (As := []) (rest := []) C B (n_X6_advance n Γ l α B.2.2.1 b1 (cw_k B.2.2 kb1) αh2 qh2) lb_X6_advance lv_X6_advance lk_X3_63 (cw_k B.2.2 kb1) rfl (by decide) rfl hl.1 rfl (Nat.le_of_ble_eq_true rfl) dX3_readNumber_4 ⟨Nat.le_refl _, Nat.le_refl _⟩) (by decide) rfl (fun Hh2 Lh2 Bh2 => ?_)
  refine lv_aload_n hx hb dX3_readNumber_7 rfl (lv_at hl 0 rfl) (hp_n (n := 8) rfl ?_)
  refine q_getr (κ := 4) (k := 0) (φ := 200) (pc' := 11) C Bh2 (cw_k Bh2.2.2 k0) fl_X3_12 rfl rfl rfl (cw_r Bh2.2.2 k0 rfl rfl (by decide) (by decide)) dX3_readNumber_8 rfl (fun b3 eb3 kb3 => ?_)
  replace hf := ms_lE eb3 hf
  refine q_geti (κ := 7) (k := 3) (φ := 353) (pc' := 14) C Bh2 (cw_k Bh2.2.2 kb3) fl_X3_66 rfl rfl rfl dX3_readNumber_11 rfl (fun x4 ex4 => ?_)
  replace hf := ms_lE ex4 hf
  refine lv_iconst (v := 2) hx hb dX3_readNumber_14 (by decide) (hp_n (n := 15) rfl ?_)
  refine lv_icmp_eq (tgt := 23) hx hb dX3_readNumber_15 (by decide) (fun c5 => ?_) (fun c5 => hp_n (n := 18) rfl ?_)
  ·
    replace hf := ms_iT c5 hf
    refine lv_aload_n hx hb dX3_readNumber_23 rfl (lv_at hl 0 rfl) (hp_n (n := 24) rfl ?_)
    refine lv_aload_n hx hb dX3_readNumber_24 rfl (lv_at hl 0 rfl) (hp_n (n := 25) rfl ?_)
    refine q_getr (κ := 4) (k := 0) (φ := 200) (pc' := 28) C Bh2 (cw_k Bh2.2.2 k0) fl_X3_12 rfl rfl rfl (cw_r Bh2.2.2 k0 rfl rfl (by decide) (by decide)) dX3_readNumber_25 rfl (fun b6 eb6 kb6 => ?_)
    replace hf := ms_lE eb6 hf
    refine q_geti (κ := 7) (k := 6) (φ := 356) (pc' := 31) C Bh2 (cw_k Bh2.2.2 kb6) fl_X3_188 rfl rfl rfl dX3_readNumber_28 rfl (fun x7 ex7 => ?_)
    replace hf := ms_lE ex7 hf
    refine q_puti (κ := 4) (k := 9) (φ := 209) (pc' := 34) C Bh2 (cw_k Bh2.2.2 k0) fl_X3_56 rfl rfl rfl rfl rfl rfl (cw_sI Bh2.2.2 (by decide) (fun h => absurd h (by decide))) dX3_readNumber_31 rfl (fun αh8 Hh8 Lh8 eh8 Bh8 => ?_)
    replace hf := ms_lE eh8 hf
    refine lv_aload_n hx hb dX3_readNumber_34 rfl (lv_at hl 0 rfl) (hp_n (n := 35) rfl ?_)
    refine q_geti (κ := 4) (k := 9) (φ := 209) (pc' := 38) C Bh8 (cw_k Bh8.2.2 k0) fl_X3_56 rfl rfl rfl dX3_readNumber_35 rfl (fun x9 ex9 => ?_)
    replace hf := ms_lE ex9 hf
    refine lv_iload_n hx hb dX3_readNumber_38 rfl (lv_at hl 1 rfl) (hp_n (n := 39) rfl ?_)
    have J58 : ∀ (αh10 : hp_T) (Hh10 : Heap) (Lh10 : List Loc) (Bh10 : hp_B Γ (cw w_X3_readNumber) s α αh10 Hh10 Lh10) (ls : Array Slot) (hl : lv_has ls 3 []) (hf : f_X3_readNumber_J58 n a0 αh10 = some res), W p l e (hp_rm 2 0 0) s m ([.ref a0, .int a1, .int a2] : List Value).toArray below meth c Hh10 Lh10 0 0 (MQ below (hp_Qi Γ (fun r β => r = res.1 ∧ β = res.2 ∧ cw w_X3_readNumber α β)) ([.ref a0, .int a1, .int a2] : List Value).toArray s 0 0 (hp_A Γ)) (F0 m 58 ls []) := by
      intro αh10 Hh10 Lh10 Bh10 ls hl hf
      unfold f_X3_readNumber_J58 at hf
      refine lv_iconst (v := 1) hx hb dX3_readNumber_58 (by decide) (hp_n (n := 59) rfl ?_)
      refine lv_goto (tgt := 63) hx hb dX3_readNumber_59 (by decide) ?_
      cases hf
      exact q_zret C Bh10 hr hlk (by decide) ⟨rfl, rfl, Bh10.2.2⟩ dX3_readNumber_63
    have J50 : ∀ (αh11 : hp_T) (Hh11 : Heap) (Lh11 : List Loc) (Bh11 : hp_B Γ (cw w_X3_readNumber) s α αh11 Hh11 Lh11) (ls : Array Slot) (hl : lv_has ls 3 [(0, .ref a0)]) (hf : f_X3_readNumber_J50 n a0 αh11 = some res), W p l e (hp_rm 2 0 0) s m ([.ref a0, .int a1, .int a2] : List Value).toArray below meth c Hh11 Lh11 0 0 (MQ below (hp_Qi Γ (fun r β => r = res.1 ∧ β = res.2 ∧ cw w_X3_readNumber α β)) ([.ref a0, .int a1, .int a2] : List Value).toArray s 0 0 (hp_A Γ)) (F0 m 50 ls []) := by
      intro αh11 Hh11 Lh11 Bh11 ls hl hf
      unfold f_X3_readNumber_J50 at hf
      refine lv_aload_n hx hb dX3_readNumber_50 rfl (lv_at hl 0 rfl) (hp_n (n := 51) rfl ?_)
      refine lv_iconst (v := 3) hx hb dX3_readNumber_51 (by decide) (hp_n (n := 52) rfl ?_)
      obtain ⟨rh12, αh12, qh12, hf⟩ := hq_cE hf
      refine d_ci (pc' := 55) Bh11 (hp_runV (As := [.int (3 : Int32)]) (rest := []) C Bh11 (n_X3_fail n Γ l αh11 Bh11.2.2.1 a0 (cw_k Bh11.2.2 k0) (3 : Int32) (rh12, αh12) qh12) lb_X3_fail lv_X3_fail lk_X3_145 (cw_k Bh11.2.2 k0) rfl (by decide) rfl hl.1 rfl (Nat.le_of_ble_eq_true rfl) dX3_readNumber_52 ⟨Nat.le_refl _, Nat.le_refl _⟩) (by decide) rfl (fun Hh12 Lh12 Bh12 => ?_)
      refine lv_if_eq (tgt := 62) hx hb dX3_readNumber_55 (by decide) (fun c13 => ?_) (fun c13 => hp_n (n := 58) rfl ?_)
      ·
        replace hf := ms_iT c13 hf
        refine lv_iconst (v := 0) hx hb dX3_readNumber_62 (by decide) (hp_n (n := 63) rfl ?_)
        cases hf
        exact q_zret C Bh12 hr hlk (by decide) ⟨rfl, rfl, Bh12.2.2⟩ dX3_readNumber_63
      ·
        replace hf := ms_iF c13 hf
        exact J58 αh12 Hh12 Lh12 Bh12 ls (lv_sub hl [] rfl) hf
    refine lv_icmp_lt (tgt := 50) hx hb dX3_readNumber_39 (by decide) (fun c14 => ?_) (fun c14 => hp_n (n := 42) rfl ?_)
    ·
      replace hf := ms_iT c14 hf
      exact J50 αh8 Hh8 Lh8 Bh8 ls (lv_sub hl [0] rfl) hf
    ·
      replace hf := ms_iF c14 hf
      refine lv_aload_n hx hb dX3_readNumber_42 rfl (lv_at hl 0 rfl) (hp_n (n := 43) rfl ?_)
      refine q_geti (κ := 4) (k := 9) (φ := 209) (pc' := 46) C Bh8 (cw_k Bh8.2.2 k0) fl_X3_56 rfl rfl rfl dX3_readNumber_43 rfl (fun x15 ex15 => ?_)
      replace hf := ms_lE ex15 hf
      refine lv_iload_n hx hb dX3_readNumber_46 rfl (lv_at hl 2 rfl) (hp_n (n := 47) rfl ?_)
      refine lv_icmp_le (tgt := 58) hx hb dX3_readNumber_47 (by decide) (fun c16 => ?_) (fun c16 => hp_n (n := 50) rfl ?_)
      ·
        replace hf := ms_iT c16 hf
        exact J58 αh8 Hh8 Lh8 Bh8 ls (lv_sub hl [] rfl) hf
      ·
        replace hf := ms_iF c16 hf
        exact J50 αh8 Hh8 Lh8 Bh8 ls (lv_sub hl [0] rfl) hf
  ·
    replace hf := ms_iF c5 hf
    refine lv_aload_n hx hb dX3_readNumber_18 rfl (lv_at hl 0 rfl) (hp_n (n := 19) rfl ?_)
    obtain ⟨rh17, αh17, qh17, hf⟩ := hq_cE hf
    refine d_ci (pc' := 22) Bh2 (hp_runV (As := []) (rest := []) C Bh2 (n_X3_stray n Γ l αh2 Bh2.2.2.1 a0 (cw_k Bh2.2.2 k0) (rh17, αh17) qh17) lb_X3_stray lv_X3_stray lk_X3_117 (cw_k Bh2.2.2 k0) rfl (by decide) rfl hl.1 rfl (Nat.le_of_ble_eq_true rfl) dX3_readNumber_19 ⟨Nat.le_refl _, Nat.le_refl _⟩) (by decide) rfl (fun Hh17 Lh17 Bh17 => ?_)
    obtain ⟨g18, hf⟩ := ms_zE hf
    cases hf
    exact q_zret C Bh17 hr hlk (nz_z g18) ⟨rfl, rfl, Bh17.2.2⟩ dX3_readNumber_22
def f_X3_readSign_J25 (n : Nat) (a0 : Nat) (αh5 : hp_T) : Option (Int32 × hp_T) :=
  some ((1 : Int32), αh5)
def f_X3_readSign (n : Nat) (α : hp_T) (a0 : Nat) : Option (Int32 × hp_T) :=
  ms_l (hp_R α 200 a0) fun b1 =>
  ms_b (f_X6_advance n α b1) fun αh2 =>
  ms_l (hp_R αh2 200 a0) fun b3 =>
  ms_l (hp_I αh2 353 b3) fun x4 =>
  if x4 = (3 : Int32) then
    f_X3_readSign_J25 n a0 αh2
  else
    hq_c (f_X3_stray n αh2 a0) fun rh7 αh7 =>
    if rh7 = 0 then
      some ((0 : Int32), αh7)
    else
      f_X3_readSign_J25 n a0 αh7
set_option maxRecDepth 100000 in
set_option maxHeartbeats 4000000 in
theorem n_X3_readSign (n : Nat) (Γ : hp_G) (l : Launch) (α : hp_T) (g : GC α) (a0 : Nat) (k0 : hp_K α a0 = 4) (res : (Int32 × hp_T)) (hf : f_X3_readSign n α a0 = some res) : Met l yX3_readSign (hp_ws yX3_readSign cX3_readSign 1 (some .boolean)) (hp_rm 2 0 0) (hp_Pc Γ α [.ref a0]) (hp_Qi Γ (fun r β => r = res.1 ∧ β = res.2 ∧ cw w_X3_readSign α β)) 0 0 (hp_A Γ) := by
  unfold f_X3_readSign at hf
  refine hp_start (by decide) ?_
  intro p e s m below meth c C hr hlk B0 hnm
  have C : hp_C Γ p m c cX3_readSign 1 s ([.ref a0] : List Value).toArray RX3 := C
  have hx := C.1.1
  have hb := C.1.2.1
  have hown := C.1.2.2.2.1
  have hts := C.1.2.2.2.2
  have B : hp_B Γ (cw w_X3_readSign) s α α s.heap [] := ⟨B0.1, B0.2.1, cw_rf g⟩
  have hl := lv_entry ([.ref a0]) (n := 1) (Nat.le_of_ble_eq_true rfl)
  show W p l e (hp_rm 2 0 0) s m ([.ref a0] : List Value).toArray below meth c s.heap [] 0 0 (MQ below (hp_Qi Γ (fun r β => r = res.1 ∧ β = res.2 ∧ cw w_X3_readSign α β)) ([.ref a0] : List Value).toArray s 0 0 (hp_A Γ)) (entryFrame m ([.ref a0] : List Value).toArray 1)
  rw [lg_entry_eq]
  generalize (lg_sl ([.ref a0]) ++ List.replicate (1 - (lg_sl ([.ref a0])).length) Slot.unset).toArray = ls at hl ⊢
  have hl : lv_has ls 1 [(0, .ref a0)] := hl
  refine lv_aload_n hx hb dX3_readSign_0 rfl (lv_at hl 0 rfl) (hp_n (n := 1) rfl ?_)
  refine q_getr (κ := 4) (k := 0) (φ := 200) (pc' := 4) C B (cw_k B.2.2 k0) fl_X3_12 rfl rfl rfl (cw_r B.2.2 k0 rfl rfl (by decide) (by decide)) dX3_readSign_1 rfl (fun b1 eb1 kb1 => ?_)
  replace hf := ms_lE eb1 hf
  obtain ⟨αh2, qh2, hf⟩ := ms_bE hf
  refine d_cv (pc' := 7) B (hp_runV (As := []) (rest := []) C B (n_X6_advance n Γ l α B.2.2.1 b1 (cw_k B.2.2 kb1) αh2 qh2) lb_X6_advance lv_X6_advance lk_X3_63 (cw_k B.2.2 kb1) rfl (by decide) rfl hl.1 rfl (Nat.le_of_ble_eq_true rfl) dX3_readSign_4 ⟨Nat.le_refl _, Nat.le_refl _⟩) (by decide) rfl (fun Hh2 Lh2 Bh2 => ?_)
  refine lv_aload_n hx hb dX3_readSign_7 rfl (lv_at hl 0 rfl) (hp_n (n := 8) rfl ?_)
  refine q_getr (κ := 4) (k := 0) (φ := 200) (pc' := 11) C Bh2 (cw_k Bh2.2.2 k0) fl_X3_12 rfl rfl rfl (cw_r Bh2.2.2 k0 rfl rfl (by decide) (by decide)) dX3_readSign_8 rfl (fun b3 eb3 kb3 => ?_)
  replace hf := ms_lE eb3 hf
  refine q_geti (κ := 7) (k := 3) (φ := 353) (pc' := 14) C Bh2 (cw_k Bh2.2.2 kb3) fl_X3_66 rfl rfl rfl dX3_readSign_11 rfl (fun x4 ex4 => ?_)
  replace hf := ms_lE ex4 hf
  refine lv_iconst (v := 3) hx hb dX3_readSign_14 (by decide) (hp_n (n := 15) rfl ?_)
  have J25 : ∀ (αh5 : hp_T) (Hh5 : Heap) (Lh5 : List Loc) (Bh5 : hp_B Γ (cw w_X3_readSign) s α αh5 Hh5 Lh5) (ls : Array Slot) (hl : lv_has ls 1 []) (hf : f_X3_readSign_J25 n a0 αh5 = some res), W p l e (hp_rm 2 0 0) s m ([.ref a0] : List Value).toArray below meth c Hh5 Lh5 0 0 (MQ below (hp_Qi Γ (fun r β => r = res.1 ∧ β = res.2 ∧ cw w_X3_readSign α β)) ([.ref a0] : List Value).toArray s 0 0 (hp_A Γ)) (F0 m 25 ls []) := by
    intro αh5 Hh5 Lh5 Bh5 ls hl hf
    unfold f_X3_readSign_J25 at hf
    refine lv_iconst (v := 1) hx hb dX3_readSign_25 (by decide) (hp_n (n := 26) rfl ?_)
    refine lv_goto (tgt := 30) hx hb dX3_readSign_26 (by decide) ?_
    cases hf
    exact q_zret C Bh5 hr hlk (by decide) ⟨rfl, rfl, Bh5.2.2⟩ dX3_readSign_30
  refine lv_icmp_eq (tgt := 25) hx hb dX3_readSign_15 (by decide) (fun c6 => ?_) (fun c6 => hp_n (n := 18) rfl ?_)
  ·
    replace hf := ms_iT c6 hf
    exact J25 αh2 Hh2 Lh2 Bh2 ls (lv_sub hl [] rfl) hf
  ·
    replace hf := ms_iF c6 hf
    refine lv_aload_n hx hb dX3_readSign_18 rfl (lv_at hl 0 rfl) (hp_n (n := 19) rfl ?_)
    obtain ⟨rh7, αh7, qh7, hf⟩ := hq_cE hf
    refine d_ci (pc' := 22) Bh2 (hp_runV (As := []) (rest := []) C Bh2 (n_X3_stray n Γ l αh2 Bh2.2.2.1 a0 (cw_k Bh2.2.2 k0) (rh7, αh7) qh7) lb_X3_stray lv_X3_stray lk_X3_117 (cw_k Bh2.2.2 k0) rfl (by decide) rfl hl.1 rfl (Nat.le_of_ble_eq_true rfl) dX3_readSign_19 ⟨Nat.le_refl _, Nat.le_refl _⟩) (by decide) rfl (fun Hh7 Lh7 Bh7 => ?_)
    refine lv_if_eq (tgt := 29) hx hb dX3_readSign_22 (by decide) (fun c8 => ?_) (fun c8 => hp_n (n := 25) rfl ?_)
    ·
      replace hf := ms_iT c8 hf
      refine lv_iconst (v := 0) hx hb dX3_readSign_29 (by decide) (hp_n (n := 30) rfl ?_)
      cases hf
      exact q_zret C Bh7 hr hlk (by decide) ⟨rfl, rfl, Bh7.2.2⟩ dX3_readSign_30
    ·
      replace hf := ms_iF c8 hf
      exact J25 αh7 Hh7 Lh7 Bh7 ls (lv_sub hl [] rfl) hf
def f_X3_readWord_J25 (n : Nat) (a0 : Nat) (i1 : Nat) (αh5 : hp_T) : Option (Int32 × hp_T) :=
  some ((1 : Int32), αh5)
def f_X3_readWord (n : Nat) (α : hp_T) (a0 : Nat) (i1 : Nat) : Option (Int32 × hp_T) :=
  ms_l (hp_R α 200 a0) fun b1 =>
  ms_b (f_X6_advance n α b1) fun αh2 =>
  ms_l (hp_R αh2 200 a0) fun b3 =>
  ms_b (f_X6_spells n αh2 b3 i1) fun rh4 =>
  if rh4 = 0 then
    hq_c (f_X3_stray n αh2 a0) fun rh7 αh7 =>
    if rh7 = 0 then
      some ((0 : Int32), αh7)
    else
      f_X3_readWord_J25 n a0 i1 αh7
  else
    f_X3_readWord_J25 n a0 i1 αh2
set_option maxRecDepth 100000 in
set_option maxHeartbeats 4000000 in
theorem n_X3_readWord (n : Nat) (Γ : hp_G) (l : Launch) (α : hp_T) (g : GC α) (a0 : Nat) (k0 : hp_K α a0 = 4) (i1 : Nat) (h1 : i1 < 21) (res : (Int32 × hp_T)) (hf : f_X3_readWord n α a0 i1 = some res) : Met l yX3_readWord (hp_ws yX3_readWord cX3_readWord 2 (some .boolean)) (hp_rm 5 0 0) (hp_Pc Γ α [.ref a0, .ref (Γ.2.2.2.2.1 i1)]) (hp_Qi Γ (fun r β => r = res.1 ∧ β = res.2 ∧ cw w_X3_readWord α β)) 0 0 (hp_A Γ) := by
  unfold f_X3_readWord at hf
  refine hp_start (by decide) ?_
  intro p e s m below meth c C hr hlk B0 hnm
  have C : hp_C Γ p m c cX3_readWord 2 s ([.ref a0, .ref (Γ.2.2.2.2.1 i1)] : List Value).toArray RX3 := C
  have hx := C.1.1
  have hb := C.1.2.1
  have hown := C.1.2.2.2.1
  have hts := C.1.2.2.2.2
  have B : hp_B Γ (cw w_X3_readWord) s α α s.heap [] := ⟨B0.1, B0.2.1, cw_rf g⟩
  have hl := lv_entry ([.ref a0, .ref (Γ.2.2.2.2.1 i1)]) (n := 2) (Nat.le_of_ble_eq_true rfl)
  show W p l e (hp_rm 5 0 0) s m ([.ref a0, .ref (Γ.2.2.2.2.1 i1)] : List Value).toArray below meth c s.heap [] 0 0 (MQ below (hp_Qi Γ (fun r β => r = res.1 ∧ β = res.2 ∧ cw w_X3_readWord α β)) ([.ref a0, .ref (Γ.2.2.2.2.1 i1)] : List Value).toArray s 0 0 (hp_A Γ)) (entryFrame m ([.ref a0, .ref (Γ.2.2.2.2.1 i1)] : List Value).toArray 2)
  rw [lg_entry_eq]
  generalize (lg_sl ([.ref a0, .ref (Γ.2.2.2.2.1 i1)]) ++ List.replicate (2 - (lg_sl ([.ref a0, .ref (Γ.2.2.2.2.1 i1)])).length) Slot.unset).toArray = ls at hl ⊢
  have hl : lv_has ls 2 [(0, .ref a0), (1, .ref (Γ.2.2.2.2.1 i1))] := hl
  refine lv_aload_n hx hb dX3_readWord_0 rfl (lv_at hl 0 rfl) (hp_n (n := 1) rfl ?_)
  refine q_getr (κ := 4) (k := 0) (φ := 200) (pc' := 4) C B (cw_k B.2.2 k0) fl_X3_12 rfl rfl rfl (cw_r B.2.2 k0 rfl rfl (by decide) (by decide)) dX3_readWord_1 rfl (fun b1 eb1 kb1 => ?_)
  replace hf := ms_lE eb1 hf
  obtain ⟨αh2, qh2, hf⟩ := ms_bE hf
  refine d_cv (pc' := 7) B (hp_runV (As := []) (rest := []) C B (n_X6_advance n Γ l α B.2.2.1 b1 (cw_k B.2.2 kb1) αh2 qh2) lb_X6_advance lv_X6_advance lk_X3_63 (cw_k B.2.2 kb1) rfl (by decide) rfl hl.1 rfl (Nat.le_of_ble_eq_true rfl) dX3_readWord_4 ⟨Nat.le_refl _, Nat.le_refl _⟩) (by decide) rfl (fun Hh2 Lh2 Bh2 => ?_)
  refine lv_aload_n hx hb dX3_readWord_7 rfl (lv_at hl 0 rfl) (hp_n (n := 8) rfl ?_)
  refine q_getr (κ := 4) (k := 0) (φ := 200) (pc' := 11) C Bh2 (cw_k Bh2.2.2 k0) fl_X3_12 rfl rfl rfl (cw_r Bh2.2.2 k0 rfl rfl (by decide) (by decide)) dX3_readWord_8 rfl (fun b3 eb3 kb3 => ?_)
  replace hf := ms_lE eb3 hf
  refine lv_aload_n hx hb dX3_readWord_11 rfl (lv_at hl 1 rfl) (hp_n (n := 12) rfl ?_)
  obtain ⟨rh4, qh4, hf⟩ := ms_bE hf
  refine d_pi (pc' := 15) Bh2 (hp_runV (As := [.ref (Γ.2.2.2.2.1 i1)]) (rest := []) C Bh2 (n_X6_spells n Γ l αh2 Bh2.2.2.1 b3 (cw_k Bh2.2.2 kb3) i1 h1 rh4 qh4) lb_X6_spells lv_X6_spells lk_X3_71 (cw_k Bh2.2.2 kb3) rfl (by decide) rfl hl.1 rfl (Nat.le_of_ble_eq_true rfl) dX3_readWord_12 ⟨Nat.le_refl _, Nat.le_refl _⟩) rfl (fun Hh4 Lh4 Bh4 => ?_)
  have J25 : ∀ (αh5 : hp_T) (Hh5 : Heap) (Lh5 : List Loc) (Bh5 : hp_B Γ (cw w_X3_readWord) s α αh5 Hh5 Lh5) (ls : Array Slot) (hl : lv_has ls 2 []) (hf : f_X3_readWord_J25 n a0 i1 αh5 = some res), W p l e (hp_rm 5 0 0) s m ([.ref a0, .ref (Γ.2.2.2.2.1 i1)] : List Value).toArray below meth c Hh5 Lh5 0 0 (MQ below (hp_Qi Γ (fun r β => r = res.1 ∧ β = res.2 ∧ cw w_X3_readWord α β)) ([.ref a0, .ref (Γ.2.2.2.2.1 i1)] : List Value).toArray s 0 0 (hp_A Γ)) (F0 m 25 ls []) := by
    intro αh5 Hh5 Lh5 Bh5 ls hl hf
    unfold f_X3_readWord_J25 at hf
    refine lv_iconst (v := 1) hx hb dX3_readWord_25 (by decide) (hp_n (n := 26) rfl ?_)
    refine lv_goto (tgt := 30) hx hb dX3_readWord_26 (by decide) ?_
    cases hf
    exact q_zret C Bh5 hr hlk (by decide) ⟨rfl, rfl, Bh5.2.2⟩ dX3_readWord_30
  refine lv_if_ne (tgt := 25) hx hb dX3_readWord_15 (by decide) (fun c6 => ?_) (fun c6 => hp_n (n := 18) rfl ?_)
  ·
    replace hf := ms_iF c6 hf
    exact J25 αh2 Hh4 Lh4 Bh4 ls (lv_sub hl [] rfl) hf
  ·
    replace hf := ms_iT c6 hf
    refine lv_aload_n hx hb dX3_readWord_18 rfl (lv_at hl 0 rfl) (hp_n (n := 19) rfl ?_)
    obtain ⟨rh7, αh7, qh7, hf⟩ := hq_cE hf
    refine d_ci (pc' := 22) Bh4 (hp_runV (As := []) (rest := []) C Bh4 (n_X3_stray n Γ l αh2 Bh4.2.2.1 a0 (cw_k Bh4.2.2 k0) (rh7, αh7) qh7) lb_X3_stray lv_X3_stray lk_X3_117 (cw_k Bh4.2.2 k0) rfl (by decide) rfl hl.1 rfl (Nat.le_of_ble_eq_true rfl) dX3_readWord_19 ⟨Nat.le_refl _, Nat.le_refl _⟩) (by decide) rfl (fun Hh7 Lh7 Bh7 => ?_)
    refine lv_if_eq (tgt := 29) hx hb dX3_readWord_22 (by decide) (fun c8 => ?_) (fun c8 => hp_n (n := 25) rfl ?_)
    ·
      replace hf := ms_iT c8 hf
      refine lv_iconst (v := 0) hx hb dX3_readWord_29 (by decide) (hp_n (n := 30) rfl ?_)
      cases hf
      exact q_zret C Bh7 hr hlk (by decide) ⟨rfl, rfl, Bh7.2.2⟩ dX3_readWord_30
    ·
      replace hf := ms_iF c8 hf
      exact J25 αh7 Hh7 Lh7 Bh7 ls (lv_sub hl [] rfl) hf
def f_X3_readModulus (n : Nat) (α : hp_T) (a0 : Nat) (a1 : Nat) : Option (Int32 × hp_T) :=
  ms_l (hp_R α 200 a0) fun b1 =>
  ms_b (f_X6_spells n α b1 17) fun rh2 =>
  if rh2 = 0 then
    some ((1 : Int32), α)
  else
    hq_c (f_X3_readNumber n α a0 (101 : Int32) (65521 : Int32)) fun rh4 αh4 =>
    if rh4 = 0 then
      some ((0 : Int32), αh4)
    else
      hq_c (f_X3_readSign n αh4 a0) fun rh6 αh6 =>
      if rh6 = 0 then
        some ((0 : Int32), αh6)
      else
        ms_l (hp_I αh6 209 a0) fun x8 =>
        ms_l (hp_sI αh6 550 a1 x8) fun αh9 =>
        ms_l (hp_R αh9 200 a0) fun b10 =>
        ms_b (f_X6_advance n αh9 b10) fun αh11 =>
        some ((1 : Int32), αh11)
set_option maxRecDepth 100000 in
set_option maxHeartbeats 4000000 in
theorem n_X3_readModulus (n : Nat) (Γ : hp_G) (l : Launch) (α : hp_T) (g : GC α) (a0 : Nat) (k0 : hp_K α a0 = 4) (a1 : Nat) (k1 : hp_K α a1 = 11) (res : (Int32 × hp_T)) (hf : f_X3_readModulus n α a0 a1 = some res) : Met l yX3_readModulus (hp_ws yX3_readModulus cX3_readModulus 2 (some .boolean)) (hp_rm 5 0 0) (hp_Pc Γ α [.ref a0, .ref a1]) (hp_Qi Γ (fun r β => r = res.1 ∧ β = res.2 ∧ cw w_X3_readModulus α β)) 0 0 (hp_A Γ) := by
  unfold f_X3_readModulus at hf
  refine hp_start (by decide) ?_
  intro p e s m below meth c C hr hlk B0 hnm
  have C : hp_C Γ p m c cX3_readModulus 2 s ([.ref a0, .ref a1] : List Value).toArray RX3 := C
  have hx := C.1.1
  have hb := C.1.2.1
  have hown := C.1.2.2.2.1
  have hts := C.1.2.2.2.2
  have B : hp_B Γ (cw w_X3_readModulus) s α α s.heap [] := ⟨B0.1, B0.2.1, cw_rf g⟩
  have hl := lv_entry ([.ref a0, .ref a1]) (n := 2) (Nat.le_of_ble_eq_true rfl)
  show W p l e (hp_rm 5 0 0) s m ([.ref a0, .ref a1] : List Value).toArray below meth c s.heap [] 0 0 (MQ below (hp_Qi Γ (fun r β => r = res.1 ∧ β = res.2 ∧ cw w_X3_readModulus α β)) ([.ref a0, .ref a1] : List Value).toArray s 0 0 (hp_A Γ)) (entryFrame m ([.ref a0, .ref a1] : List Value).toArray 2)
  rw [lg_entry_eq]
  generalize (lg_sl ([.ref a0, .ref a1]) ++ List.replicate (2 - (lg_sl ([.ref a0, .ref a1])).length) Slot.unset).toArray = ls at hl ⊢
  have hl : lv_has ls 2 [(0, .ref a0), (1, .ref a1)] := hl
  refine lv_aload_n hx hb dX3_readModulus_0 rfl (lv_at hl 0 rfl) (hp_n (n := 1) rfl ?_)
  refine q_getr (κ := 4) (k := 0) (φ := 200) (pc' := 4) C B (cw_k B.2.2 k0) fl_X3_12 rfl rfl rfl (cw_r B.2.2 k0 rfl rfl (by decide) (by decide)) dX3_readModulus_1 rfl (fun b1 eb1 kb1 => ?_)
  replace hf := ms_lE eb1 hf
  refine va_ldcS hx hb hown (sr_X3_69 C.2) dX3_readModulus_4 (hp_n (n := 6) rfl ?_)
  obtain ⟨rh2, qh2, hf⟩ := ms_bE hf
  refine d_pi (pc' := 9) B (hp_runV (As := [.ref (Γ.2.2.2.2.1 17)]) (rest := []) C B (n_X6_spells n Γ l α B.2.2.1 b1 (cw_k B.2.2 kb1) 17 (by decide) rh2 qh2) lb_X6_spells lv_X6_spells lk_X3_71 (cw_k B.2.2 kb1) rfl (by decide) rfl hl.1 rfl (Nat.le_of_ble_eq_true rfl) dX3_readModulus_6 ⟨Nat.le_refl _, Nat.le_refl _⟩) rfl (fun Hh2 Lh2 Bh2 => ?_)
  refine lv_if_ne (tgt := 14) hx hb dX3_readModulus_9 (by decide) (fun c3 => ?_) (fun c3 => hp_n (n := 12) rfl ?_)
  ·
    replace hf := ms_iF c3 hf
    refine lv_aload_n hx hb dX3_readModulus_14 rfl (lv_at hl 0 rfl) (hp_n (n := 15) rfl ?_)
    refine lv_bipush (v := 101) hx hb dX3_readModulus_15 (by decide) (hp_n (n := 17) rfl ?_)
    refine lv_ldc hx hb hown (hts _ kc_X3_32) dX3_readModulus_17 (hp_n (n := 19) rfl ?_)
    obtain ⟨rh4, αh4, qh4, hf⟩ := hq_cE hf
    refine d_ci (pc' := 22) Bh2 (hp_runV (As := [.int (101 : Int32), .int (65521 : Int32)]) (rest := []) C Bh2 (n_X3_readNumber n Γ l α Bh2.2.2.1 a0 (cw_k Bh2.2.2 k0) (101 : Int32) (65521 : Int32) (rh4, αh4) qh4) lb_X3_readNumber lv_X3_readNumber lk_X3_75 (cw_k Bh2.2.2 k0) rfl (by decide) rfl hl.1 rfl (Nat.le_of_ble_eq_true rfl) dX3_readModulus_19 ⟨Nat.le_refl _, Nat.le_refl _⟩) (by decide) rfl (fun Hh4 Lh4 Bh4 => ?_)
    refine lv_if_eq (tgt := 32) hx hb dX3_readModulus_22 (by decide) (fun c5 => ?_) (fun c5 => hp_n (n := 25) rfl ?_)
    ·
      replace hf := ms_iT c5 hf
      refine lv_iconst (v := 0) hx hb dX3_readModulus_32 (by decide) (hp_n (n := 33) rfl ?_)
      cases hf
      exact q_zret C Bh4 hr hlk (by decide) ⟨rfl, rfl, Bh4.2.2⟩ dX3_readModulus_33
    ·
      replace hf := ms_iF c5 hf
      refine lv_aload_n hx hb dX3_readModulus_25 rfl (lv_at hl 0 rfl) (hp_n (n := 26) rfl ?_)
      obtain ⟨rh6, αh6, qh6, hf⟩ := hq_cE hf
      refine d_ci (pc' := 29) Bh4 (hp_runV (As := []) (rest := []) C Bh4 (n_X3_readSign n Γ l αh4 Bh4.2.2.1 a0 (cw_k Bh4.2.2 k0) (rh6, αh6) qh6) lb_X3_readSign lv_X3_readSign lk_X3_79 (cw_k Bh4.2.2 k0) rfl (by decide) rfl hl.1 rfl (Nat.le_of_ble_eq_true rfl) dX3_readModulus_26 ⟨Nat.le_refl _, Nat.le_refl _⟩) (by decide) rfl (fun Hh6 Lh6 Bh6 => ?_)
      refine lv_if_ne (tgt := 34) hx hb dX3_readModulus_29 (by decide) (fun c7 => ?_) (fun c7 => hp_n (n := 32) rfl ?_)
      ·
        replace hf := ms_iF c7 hf
        refine lv_aload_n hx hb dX3_readModulus_34 rfl (lv_at hl 1 rfl) (hp_n (n := 35) rfl ?_)
        refine lv_aload_n hx hb dX3_readModulus_35 rfl (lv_at hl 0 rfl) (hp_n (n := 36) rfl ?_)
        refine q_geti (κ := 4) (k := 9) (φ := 209) (pc' := 39) C Bh6 (cw_k Bh6.2.2 k0) fl_X3_56 rfl rfl rfl dX3_readModulus_36 rfl (fun x8 ex8 => ?_)
        replace hf := ms_lE ex8 hf
        refine q_puti (κ := 11) (k := 0) (φ := 550) (pc' := 42) C Bh6 (cw_k Bh6.2.2 k1) fl_X3_83 rfl rfl rfl rfl rfl rfl (cw_sI Bh6.2.2 (by decide) (fun h => absurd h (by decide))) dX3_readModulus_39 rfl (fun αh9 Hh9 Lh9 eh9 Bh9 => ?_)
        replace hf := ms_lE eh9 hf
        refine lv_aload_n hx hb dX3_readModulus_42 rfl (lv_at hl 0 rfl) (hp_n (n := 43) rfl ?_)
        refine q_getr (κ := 4) (k := 0) (φ := 200) (pc' := 46) C Bh9 (cw_k Bh9.2.2 k0) fl_X3_12 rfl rfl rfl (cw_r Bh9.2.2 k0 rfl rfl (by decide) (by decide)) dX3_readModulus_43 rfl (fun b10 eb10 kb10 => ?_)
        replace hf := ms_lE eb10 hf
        obtain ⟨αh11, qh11, hf⟩ := ms_bE hf
        refine d_cv (pc' := 49) Bh9 (hp_runV (As := []) (rest := []) C Bh9 (n_X6_advance n Γ l αh9 Bh9.2.2.1 b10 (cw_k Bh9.2.2 kb10) αh11 qh11) lb_X6_advance lv_X6_advance lk_X3_63 (cw_k Bh9.2.2 kb10) rfl (by decide) rfl hl.1 rfl (Nat.le_of_ble_eq_true rfl) dX3_readModulus_46 ⟨Nat.le_refl _, Nat.le_refl _⟩) (by decide) rfl (fun Hh11 Lh11 Bh11 => ?_)
        refine lv_iconst (v := 1) hx hb dX3_readModulus_49 (by decide) (hp_n (n := 50) rfl ?_)
        cases hf
        exact q_zret C Bh11 hr hlk (by decide) ⟨rfl, rfl, Bh11.2.2⟩ dX3_readModulus_50
      ·
        replace hf := ms_iT c7 hf
        refine lv_iconst (v := 0) hx hb dX3_readModulus_32 (by decide) (hp_n (n := 33) rfl ?_)
        cases hf
        exact q_zret C Bh6 hr hlk (by decide) ⟨rfl, rfl, Bh6.2.2⟩ dX3_readModulus_33
  ·
    replace hf := ms_iT c3 hf
    refine lv_iconst (v := 1) hx hb dX3_readModulus_12 (by decide) (hp_n (n := 13) rfl ?_)
    cases hf
    exact q_zret C Bh2 hr hlk (by decide) ⟨rfl, rfl, Bh2.2.2⟩ dX3_readModulus_13
def f_X3_readAdd_J99 (n : Nat) (a0 : Nat) (αh14 : hp_T) : Option (Int32 × hp_T) :=
  some ((1 : Int32), αh14)
def f_X3_readAdd_J81 (n : Nat) (a0 : Nat) (αh11 : hp_T) : Option (Int32 × hp_T) :=
  ms_l (hp_R αh11 200 a0) fun b12 =>
  ms_l (hp_I αh11 353 b12) fun x13 =>
  if x13 = (3 : Int32) then
    f_X3_readAdd_J99 n a0 αh11
  else
    hq_c (f_X3_stray n αh11 a0) fun rh16 αh16 =>
    if rh16 = 0 then
      some ((0 : Int32), αh16)
    else
      f_X3_readAdd_J99 n a0 αh16
def f_X3_readAdd (n : Nat) (α : hp_T) (a0 : Nat) (a1 : Nat) : Option (Int32 × hp_T) :=
  ms_l (hp_sI α 206 a0 (0 : Int32)) fun αh1 =>
  ms_l (hp_I αh1 152 a1) fun x2 =>
  hq_c (f_X3_hasRoom n αh1 a0 x2 (48 : Int32)) fun rh3 αh3 =>
  if rh3 = 0 then
    some ((0 : Int32), αh3)
  else
    ms_l (hp_R αh3 207 a0) fun b5 =>
    ms_b (f_X9_clear n αh3 b5) fun αh6 =>
    ms_l (hp_R αh6 200 a0) fun b7 =>
    ms_b (f_X6_advance n αh6 b7) fun αh8 =>
    ms_l (hp_R αh8 200 a0) fun b9 =>
    ms_l (hp_I αh8 353 b9) fun x10 =>
    if x10 = (1 : Int32) then
      ms_l (hp_R αh8 200 a0) fun b19 =>
      ms_l (hp_I αh8 355 b19) fun x20 =>
      if x20 ≤ (8 : Int32) then
        ms_l (hp_R αh8 200 a0) fun b22 =>
        ms_l (hp_R αh8 207 a0) fun b23 =>
        ms_b (f_X6_copyWord n αh8 b22 b23) fun αh24 =>
        ms_l (hp_R αh24 200 a0) fun b25 =>
        ms_b (f_X6_advance n αh24 b25) fun αh26 =>
        f_X3_readAdd_J81 n a0 αh26
      else
        hq_c (f_X3_fail n αh8 a0 (4 : Int32)) fun rh27 αh27 =>
        ms_z rh27 <|
        some (rh27, αh27)
    else
      f_X3_readAdd_J81 n a0 αh8
set_option maxRecDepth 100000 in
set_option maxHeartbeats 4000000 in
theorem n_X3_readAdd (n : Nat) (Γ : hp_G) (l : Launch) (α : hp_T) (g : GC α) (a0 : Nat) (k0 : hp_K α a0 = 4) (a1 : Nat) (k1 : hp_K α a1 = 3) (res : (Int32 × hp_T)) (hf : f_X3_readAdd n α a0 a1 = some res) : Met l yX3_readAdd (hp_ws yX3_readAdd cX3_readAdd 2 (some .boolean)) (hp_rm 2 0 0) (hp_Pc Γ α [.ref a0, .ref a1]) (hp_Qi Γ (fun r β => r = res.1 ∧ β = res.2 ∧ cw w_X3_readAdd α β)) 0 0 (hp_A Γ) := by
  unfold f_X3_readAdd at hf
  refine hp_start (by decide) ?_
  intro p e s m below meth c C hr hlk B0 hnm
  have C : hp_C Γ p m c cX3_readAdd 2 s ([.ref a0, .ref a1] : List Value).toArray RX3 := C
  have hx := C.1.1
  have hb := C.1.2.1
  have hown := C.1.2.2.2.1
  have hts := C.1.2.2.2.2
  have B : hp_B Γ (cw w_X3_readAdd) s α α s.heap [] := ⟨B0.1, B0.2.1, cw_rf g⟩
  have hl := lv_entry ([.ref a0, .ref a1]) (n := 2) (Nat.le_of_ble_eq_true rfl)
  show W p l e (hp_rm 2 0 0) s m ([.ref a0, .ref a1] : List Value).toArray below meth c s.heap [] 0 0 (MQ below (hp_Qi Γ (fun r β => r = res.1 ∧ β = res.2 ∧ cw w_X3_readAdd α β)) ([.ref a0, .ref a1] : List Value).toArray s 0 0 (hp_A Γ)) (entryFrame m ([.ref a0, .ref a1] : List Value).toArray 2)
  rw [lg_entry_eq]
  generalize (lg_sl ([.ref a0, .ref a1]) ++ List.replicate (2 - (lg_sl ([.ref a0, .ref a1])).length) Slot.unset).toArray = ls at hl ⊢
  have hl : lv_has ls 2 [(0, .ref a0), (1, .ref a1)] := hl
  refine lv_aload_n hx hb dX3_readAdd_0 rfl (lv_at hl 0 rfl) (hp_n (n := 1) rfl ?_)
  refine lv_iconst (v := 0) hx hb dX3_readAdd_1 (by decide) (hp_n (n := 2) rfl ?_)
  refine q_puti (κ := 4) (k := 6) (φ := 206) (pc' := 5) C B (cw_k B.2.2 k0) fl_X3_43 rfl rfl rfl rfl rfl rfl (cw_sI B.2.2 (by decide) (fun h => absurd h (by decide))) dX3_readAdd_2 rfl (fun αh1 Hh1 Lh1 eh1 Bh1 => ?_)
  replace hf := ms_lE eh1 hf
  refine lv_aload_n hx hb dX3_readAdd_5 rfl (lv_at hl 0 rfl) (hp_n (n := 6) rfl ?_)
  refine lv_aload_n hx hb dX3_readAdd_6 rfl (lv_at hl 1 rfl) (hp_n (n := 7) rfl ?_)
  refine q_geti (κ := 3) (k := 2) (φ := 152) (pc' := 10) C Bh1 (cw_k Bh1.2.2 k1) fl_X3_102 rfl rfl rfl dX3_readAdd_7 rfl (fun x2 ex2 => ?_)
  replace hf := ms_lE ex2 hf
  refine lv_bipush (v := 48) hx hb dX3_readAdd_10 (by decide) (hp_n (n := 12) rfl ?_)
  obtain ⟨rh3, αh3, qh3, hf⟩ := hq_cE hf
  refine d_ci (pc' := 15) Bh1 (hp_runV (As := [.int x2, .int (48 : Int32)]) (rest := []) C Bh1 (n_X3_hasRoom n Γ l αh1 Bh1.2.2.1 a0 (cw_k Bh1.2.2 k0) x2 (48 : Int32) (rh3, αh3) qh3) lb_X3_hasRoom lv_X3_hasRoom lk_X3_99 (cw_k Bh1.2.2 k0) rfl (by decide) rfl hl.1 rfl (Nat.le_of_ble_eq_true rfl) dX3_readAdd_12 ⟨Nat.le_refl _, Nat.le_refl _⟩) (by decide) rfl (fun Hh3 Lh3 Bh3 => ?_)
  refine lv_if_ne (tgt := 20) hx hb dX3_readAdd_15 (by decide) (fun c4 => ?_) (fun c4 => hp_n (n := 18) rfl ?_)
  ·
    replace hf := ms_iF c4 hf
    refine lv_aload_n hx hb dX3_readAdd_20 rfl (lv_at hl 0 rfl) (hp_n (n := 21) rfl ?_)
    refine q_getr (κ := 4) (k := 7) (φ := 207) (pc' := 24) C Bh3 (cw_k Bh3.2.2 k0) fl_X3_49 rfl rfl rfl (cw_r Bh3.2.2 k0 rfl rfl (by decide) (by decide)) dX3_readAdd_21 rfl (fun b5 eb5 kb5 => ?_)
    replace hf := ms_lE eb5 hf
    obtain ⟨αh6, qh6, hf⟩ := ms_bE hf
    refine d_cv (pc' := 27) Bh3 (hp_runV (As := []) (rest := []) C Bh3 (n_X9_clear n Γ l αh3 Bh3.2.2.1 b5 (cw_k Bh3.2.2 kb5) αh6 qh6) lb_X9_clear lv_X9_clear lk_X3_141 (cw_k Bh3.2.2 kb5) rfl (by decide) rfl hl.1 rfl (Nat.le_of_ble_eq_true rfl) dX3_readAdd_24 ⟨Nat.le_refl _, Nat.le_refl _⟩) (by decide) rfl (fun Hh6 Lh6 Bh6 => ?_)
    refine lv_aload_n hx hb dX3_readAdd_27 rfl (lv_at hl 0 rfl) (hp_n (n := 28) rfl ?_)
    refine q_getr (κ := 4) (k := 0) (φ := 200) (pc' := 31) C Bh6 (cw_k Bh6.2.2 k0) fl_X3_12 rfl rfl rfl (cw_r Bh6.2.2 k0 rfl rfl (by decide) (by decide)) dX3_readAdd_28 rfl (fun b7 eb7 kb7 => ?_)
    replace hf := ms_lE eb7 hf
    obtain ⟨αh8, qh8, hf⟩ := ms_bE hf
    refine d_cv (pc' := 34) Bh6 (hp_runV (As := []) (rest := []) C Bh6 (n_X6_advance n Γ l αh6 Bh6.2.2.1 b7 (cw_k Bh6.2.2 kb7) αh8 qh8) lb_X6_advance lv_X6_advance lk_X3_63 (cw_k Bh6.2.2 kb7) rfl (by decide) rfl hl.1 rfl (Nat.le_of_ble_eq_true rfl) dX3_readAdd_31 ⟨Nat.le_refl _, Nat.le_refl _⟩) (by decide) rfl (fun Hh8 Lh8 Bh8 => ?_)
    refine lv_aload_n hx hb dX3_readAdd_34 rfl (lv_at hl 0 rfl) (hp_n (n := 35) rfl ?_)
    refine q_getr (κ := 4) (k := 0) (φ := 200) (pc' := 38) C Bh8 (cw_k Bh8.2.2 k0) fl_X3_12 rfl rfl rfl (cw_r Bh8.2.2 k0 rfl rfl (by decide) (by decide)) dX3_readAdd_35 rfl (fun b9 eb9 kb9 => ?_)
    replace hf := ms_lE eb9 hf
    refine q_geti (κ := 7) (k := 3) (φ := 353) (pc' := 41) C Bh8 (cw_k Bh8.2.2 kb9) fl_X3_66 rfl rfl rfl dX3_readAdd_38 rfl (fun x10 ex10 => ?_)
    replace hf := ms_lE ex10 hf
    refine lv_iconst (v := 1) hx hb dX3_readAdd_41 (by decide) (hp_n (n := 42) rfl ?_)
    have J81 : ∀ (αh11 : hp_T) (Hh11 : Heap) (Lh11 : List Loc) (Bh11 : hp_B Γ (cw w_X3_readAdd) s α αh11 Hh11 Lh11) (ls : Array Slot) (hl : lv_has ls 2 [(0, .ref a0)]) (hf : f_X3_readAdd_J81 n a0 αh11 = some res), W p l e (hp_rm 2 0 0) s m ([.ref a0, .ref a1] : List Value).toArray below meth c Hh11 Lh11 0 0 (MQ below (hp_Qi Γ (fun r β => r = res.1 ∧ β = res.2 ∧ cw w_X3_readAdd α β)) ([.ref a0, .ref a1] : List Value).toArray s 0 0 (hp_A Γ)) (F0 m 81 ls []) := by
      intro αh11 Hh11 Lh11 Bh11 ls hl hf
      unfold f_X3_readAdd_J81 at hf
      refine lv_aload_n hx hb dX3_readAdd_81 rfl (lv_at hl 0 rfl) (hp_n (n := 82) rfl ?_)
      refine q_getr (κ := 4) (k := 0) (φ := 200) (pc' := 85) C Bh11 (cw_k Bh11.2.2 k0) fl_X3_12 rfl rfl rfl (cw_r Bh11.2.2 k0 rfl rfl (by decide) (by decide)) dX3_readAdd_82 rfl (fun b12 eb12 kb12 => ?_)
      replace hf := ms_lE eb12 hf
      refine q_geti (κ := 7) (k := 3) (φ := 353) (pc' := 88) C Bh11 (cw_k Bh11.2.2 kb12) fl_X3_66 rfl rfl rfl dX3_readAdd_85 rfl (fun x13 ex13 => ?_)
      replace hf := ms_lE ex13 hf
      refine lv_iconst (v := 3) hx hb dX3_readAdd_88 (by decide) (hp_n (n := 89) rfl ?_)
      have J99 : ∀ (αh14 : hp_T) (Hh14 : Heap) (Lh14 : List Loc) (Bh14 : hp_B Γ (cw w_X3_readAdd) s α αh14 Hh14 Lh14) (ls : Array Slot) (hl : lv_has ls 2 []) (hf : f_X3_readAdd_J99 n a0 αh14 = some res), W p l e (hp_rm 2 0 0) s m ([.ref a0, .ref a1] : List Value).toArray below meth c Hh14 Lh14 0 0 (MQ below (hp_Qi Γ (fun r β => r = res.1 ∧ β = res.2 ∧ cw w_X3_readAdd α β)) ([.ref a0, .ref a1] : List Value).toArray s 0 0 (hp_A Γ)) (F0 m 99 ls []) := by
        intro αh14 Hh14 Lh14 Bh14 ls hl hf
        unfold f_X3_readAdd_J99 at hf
        refine lv_iconst (v := 1) hx hb dX3_readAdd_99 (by decide) (hp_n (n := 100) rfl ?_)
        refine lv_goto (tgt := 104) hx hb dX3_readAdd_100 (by decide) ?_
        cases hf
        exact q_zret C Bh14 hr hlk (by decide) ⟨rfl, rfl, Bh14.2.2⟩ dX3_readAdd_104
      refine lv_icmp_eq (tgt := 99) hx hb dX3_readAdd_89 (by decide) (fun c15 => ?_) (fun c15 => hp_n (n := 92) rfl ?_)
      ·
        replace hf := ms_iT c15 hf
        exact J99 αh11 Hh11 Lh11 Bh11 ls (lv_sub hl [] rfl) hf
      ·
        replace hf := ms_iF c15 hf
        refine lv_aload_n hx hb dX3_readAdd_92 rfl (lv_at hl 0 rfl) (hp_n (n := 93) rfl ?_)
        obtain ⟨rh16, αh16, qh16, hf⟩ := hq_cE hf
        refine d_ci (pc' := 96) Bh11 (hp_runV (As := []) (rest := []) C Bh11 (n_X3_stray n Γ l αh11 Bh11.2.2.1 a0 (cw_k Bh11.2.2 k0) (rh16, αh16) qh16) lb_X3_stray lv_X3_stray lk_X3_117 (cw_k Bh11.2.2 k0) rfl (by decide) rfl hl.1 rfl (Nat.le_of_ble_eq_true rfl) dX3_readAdd_93 ⟨Nat.le_refl _, Nat.le_refl _⟩) (by decide) rfl (fun Hh16 Lh16 Bh16 => ?_)
        refine lv_if_eq (tgt := 103) hx hb dX3_readAdd_96 (by decide) (fun c17 => ?_) (fun c17 => hp_n (n := 99) rfl ?_)
        ·
          replace hf := ms_iT c17 hf
          refine lv_iconst (v := 0) hx hb dX3_readAdd_103 (by decide) (hp_n (n := 104) rfl ?_)
          cases hf
          exact q_zret C Bh16 hr hlk (by decide) ⟨rfl, rfl, Bh16.2.2⟩ dX3_readAdd_104
        ·
          replace hf := ms_iF c17 hf
          exact J99 αh16 Hh16 Lh16 Bh16 ls (lv_sub hl [] rfl) hf
    refine lv_icmp_ne (tgt := 81) hx hb dX3_readAdd_42 (by decide) (fun c18 => ?_) (fun c18 => hp_n (n := 45) rfl ?_)
    ·
      replace hf := ms_iF c18 hf
      exact J81 αh8 Hh8 Lh8 Bh8 ls (lv_sub hl [0] rfl) hf
    ·
      replace hf := ms_iT c18 hf
      refine lv_aload_n hx hb dX3_readAdd_45 rfl (lv_at hl 0 rfl) (hp_n (n := 46) rfl ?_)
      refine q_getr (κ := 4) (k := 0) (φ := 200) (pc' := 49) C Bh8 (cw_k Bh8.2.2 k0) fl_X3_12 rfl rfl rfl (cw_r Bh8.2.2 k0 rfl rfl (by decide) (by decide)) dX3_readAdd_46 rfl (fun b19 eb19 kb19 => ?_)
      replace hf := ms_lE eb19 hf
      refine q_geti (κ := 7) (k := 5) (φ := 355) (pc' := 52) C Bh8 (cw_k Bh8.2.2 kb19) fl_X3_144 rfl rfl rfl dX3_readAdd_49 rfl (fun x20 ex20 => ?_)
      replace hf := ms_lE ex20 hf
      refine lv_bipush (v := 8) hx hb dX3_readAdd_52 (by decide) (hp_n (n := 54) rfl ?_)
      refine lv_icmp_le (tgt := 63) hx hb dX3_readAdd_54 (by decide) (fun c21 => ?_) (fun c21 => hp_n (n := 57) rfl ?_)
      ·
        replace hf := ms_iT c21 hf
        refine lv_aload_n hx hb dX3_readAdd_63 rfl (lv_at hl 0 rfl) (hp_n (n := 64) rfl ?_)
        refine q_getr (κ := 4) (k := 0) (φ := 200) (pc' := 67) C Bh8 (cw_k Bh8.2.2 k0) fl_X3_12 rfl rfl rfl (cw_r Bh8.2.2 k0 rfl rfl (by decide) (by decide)) dX3_readAdd_64 rfl (fun b22 eb22 kb22 => ?_)
        replace hf := ms_lE eb22 hf
        refine lv_aload_n hx hb dX3_readAdd_67 rfl (lv_at hl 0 rfl) (hp_n (n := 68) rfl ?_)
        refine q_getr (κ := 4) (k := 7) (φ := 207) (pc' := 71) C Bh8 (cw_k Bh8.2.2 k0) fl_X3_49 rfl rfl rfl (cw_r Bh8.2.2 k0 rfl rfl (by decide) (by decide)) dX3_readAdd_68 rfl (fun b23 eb23 kb23 => ?_)
        replace hf := ms_lE eb23 hf
        obtain ⟨αh24, qh24, hf⟩ := ms_bE hf
        refine d_cv (pc' := 74) Bh8 (hp_runV (As := [.ref b23]) (rest := []) C Bh8 (n_X6_copyWord n Γ l αh8 Bh8.2.2.1 b22 (cw_k Bh8.2.2 kb22) b23 (cw_k Bh8.2.2 kb23) αh24 qh24) lb_X6_copyWord lv_X6_copyWord lk_X3_149 (cw_k Bh8.2.2 kb22) rfl (by decide) rfl hl.1 rfl (Nat.le_of_ble_eq_true rfl) dX3_readAdd_71 ⟨Nat.le_refl _, Nat.le_refl _⟩) (by decide) rfl (fun Hh24 Lh24 Bh24 => ?_)
        refine lv_aload_n hx hb dX3_readAdd_74 rfl (lv_at hl 0 rfl) (hp_n (n := 75) rfl ?_)
        refine q_getr (κ := 4) (k := 0) (φ := 200) (pc' := 78) C Bh24 (cw_k Bh24.2.2 k0) fl_X3_12 rfl rfl rfl (cw_r Bh24.2.2 k0 rfl rfl (by decide) (by decide)) dX3_readAdd_75 rfl (fun b25 eb25 kb25 => ?_)
        replace hf := ms_lE eb25 hf
        obtain ⟨αh26, qh26, hf⟩ := ms_bE hf
        refine d_cv (pc' := 81) Bh24 (hp_runV (As := []) (rest := []) C Bh24 (n_X6_advance n Γ l αh24 Bh24.2.2.1 b25 (cw_k Bh24.2.2 kb25) αh26 qh26) lb_X6_advance lv_X6_advance lk_X3_63 (cw_k Bh24.2.2 kb25) rfl (by decide) rfl hl.1 rfl (Nat.le_of_ble_eq_true rfl) dX3_readAdd_78 ⟨Nat.le_refl _, Nat.le_refl _⟩) (by decide) rfl (fun Hh26 Lh26 Bh26 => ?_)
        exact J81 αh26 Hh26 Lh26 Bh26 ls (lv_sub hl [0] rfl) hf
      ·
        replace hf := ms_iF c21 hf
        refine lv_aload_n hx hb dX3_readAdd_57 rfl (lv_at hl 0 rfl) (hp_n (n := 58) rfl ?_)
        refine lv_iconst (v := 4) hx hb dX3_readAdd_58 (by decide) (hp_n (n := 59) rfl ?_)
        obtain ⟨rh27, αh27, qh27, hf⟩ := hq_cE hf
        refine d_ci (pc' := 62) Bh8 (hp_runV (As := [.int (4 : Int32)]) (rest := []) C Bh8 (n_X3_fail n Γ l αh8 Bh8.2.2.1 a0 (cw_k Bh8.2.2 k0) (4 : Int32) (rh27, αh27) qh27) lb_X3_fail lv_X3_fail lk_X3_145 (cw_k Bh8.2.2 k0) rfl (by decide) rfl hl.1 rfl (Nat.le_of_ble_eq_true rfl) dX3_readAdd_59 ⟨Nat.le_refl _, Nat.le_refl _⟩) (by decide) rfl (fun Hh27 Lh27 Bh27 => ?_)
        obtain ⟨g28, hf⟩ := ms_zE hf
        cases hf
        exact q_zret C Bh27 hr hlk (nz_z g28) ⟨rfl, rfl, Bh27.2.2⟩ dX3_readAdd_62
  ·
    replace hf := ms_iT c4 hf
    refine lv_iconst (v := 0) hx hb dX3_readAdd_18 (by decide) (hp_n (n := 19) rfl ?_)
    cases hf
    exact q_zret C Bh3 hr hlk (by decide) ⟨rfl, rfl, Bh3.2.2⟩ dX3_readAdd_19
def f_X3_readShow (n : Nat) (α : hp_T) (a0 : Nat) (a1 : Nat) : Option (Int32 × hp_T) :=
  ms_l (hp_sI α 206 a0 (4 : Int32)) fun αh1 =>
  hq_c (f_X3_readNumber n αh1 a0 (0 : Int32) (3 : Int32)) fun rh2 αh2 =>
  if rh2 = 0 then
    some ((0 : Int32), αh2)
  else
    ms_l (hp_I αh2 209 a0) fun x4 =>
    ms_l (hp_sI αh2 208 a0 x4) fun αh5 =>
    ms_l (hp_I αh5 152 a1) fun x6 =>
    hq_c (f_X3_readNumber n αh5 a0 (0 : Int32) x6) fun rh7 αh7 =>
    if rh7 = 0 then
      some ((0 : Int32), αh7)
    else
      hq_c (f_X3_readSign n αh7 a0) fun rh9 αh9 =>
      if rh9 = 0 then
        some ((0 : Int32), αh9)
      else
        some ((1 : Int32), αh9)
set_option maxRecDepth 100000 in
set_option maxHeartbeats 4000000 in
theorem n_X3_readShow (n : Nat) (Γ : hp_G) (l : Launch) (α : hp_T) (g : GC α) (a0 : Nat) (k0 : hp_K α a0 = 4) (a1 : Nat) (k1 : hp_K α a1 = 3) (res : (Int32 × hp_T)) (hf : f_X3_readShow n α a0 a1 = some res) : Met l yX3_readShow (hp_ws yX3_readShow cX3_readShow 2 (some .boolean)) (hp_rm 3 0 0) (hp_Pc Γ α [.ref a0, .ref a1]) (hp_Qi Γ (fun r β => r = res.1 ∧ β = res.2 ∧ cw w_X3_readShow α β)) 0 0 (hp_A Γ) := by
  unfold f_X3_readShow at hf
  refine hp_start (by decide) ?_
  intro p e s m below meth c C hr hlk B0 hnm
  have C : hp_C Γ p m c cX3_readShow 2 s ([.ref a0, .ref a1] : List Value).toArray RX3 := C
  have hx := C.1.1
  have hb := C.1.2.1
  have hown := C.1.2.2.2.1
  have hts := C.1.2.2.2.2
  have B : hp_B Γ (cw w_X3_readShow) s α α s.heap [] := ⟨B0.1, B0.2.1, cw_rf g⟩
  have hl := lv_entry ([.ref a0, .ref a1]) (n := 2) (Nat.le_of_ble_eq_true rfl)
  show W p l e (hp_rm 3 0 0) s m ([.ref a0, .ref a1] : List Value).toArray below meth c s.heap [] 0 0 (MQ below (hp_Qi Γ (fun r β => r = res.1 ∧ β = res.2 ∧ cw w_X3_readShow α β)) ([.ref a0, .ref a1] : List Value).toArray s 0 0 (hp_A Γ)) (entryFrame m ([.ref a0, .ref a1] : List Value).toArray 2)
  rw [lg_entry_eq]
  generalize (lg_sl ([.ref a0, .ref a1]) ++ List.replicate (2 - (lg_sl ([.ref a0, .ref a1])).length) Slot.unset).toArray = ls at hl ⊢
  have hl : lv_has ls 2 [(0, .ref a0), (1, .ref a1)] := hl
  refine lv_aload_n hx hb dX3_readShow_0 rfl (lv_at hl 0 rfl) (hp_n (n := 1) rfl ?_)
  refine lv_iconst (v := 4) hx hb dX3_readShow_1 (by decide) (hp_n (n := 2) rfl ?_)
  refine q_puti (κ := 4) (k := 6) (φ := 206) (pc' := 5) C B (cw_k B.2.2 k0) fl_X3_43 rfl rfl rfl rfl rfl rfl (cw_sI B.2.2 (by decide) (fun h => absurd h (by decide))) dX3_readShow_2 rfl (fun αh1 Hh1 Lh1 eh1 Bh1 => ?_)
  replace hf := ms_lE eh1 hf
  refine lv_aload_n hx hb dX3_readShow_5 rfl (lv_at hl 0 rfl) (hp_n (n := 6) rfl ?_)
  refine lv_iconst (v := 0) hx hb dX3_readShow_6 (by decide) (hp_n (n := 7) rfl ?_)
  refine lv_iconst (v := 3) hx hb dX3_readShow_7 (by decide) (hp_n (n := 8) rfl ?_)
  obtain ⟨rh2, αh2, qh2, hf⟩ := hq_cE hf
  refine d_ci (pc' := 11) Bh1 (hp_runV (As := [.int (0 : Int32), .int (3 : Int32)]) (rest := []) C Bh1 (n_X3_readNumber n Γ l αh1 Bh1.2.2.1 a0 (cw_k Bh1.2.2 k0) (0 : Int32) (3 : Int32) (rh2, αh2) qh2) lb_X3_readNumber lv_X3_readNumber lk_X3_75 (cw_k Bh1.2.2 k0) rfl (by decide) rfl hl.1 rfl (Nat.le_of_ble_eq_true rfl) dX3_readShow_8 ⟨Nat.le_refl _, Nat.le_refl _⟩) (by decide) rfl (fun Hh2 Lh2 Bh2 => ?_)
  refine lv_if_ne (tgt := 16) hx hb dX3_readShow_11 (by decide) (fun c3 => ?_) (fun c3 => hp_n (n := 14) rfl ?_)
  ·
    replace hf := ms_iF c3 hf
    refine lv_aload_n hx hb dX3_readShow_16 rfl (lv_at hl 0 rfl) (hp_n (n := 17) rfl ?_)
    refine lv_aload_n hx hb dX3_readShow_17 rfl (lv_at hl 0 rfl) (hp_n (n := 18) rfl ?_)
    refine q_geti (κ := 4) (k := 9) (φ := 209) (pc' := 21) C Bh2 (cw_k Bh2.2.2 k0) fl_X3_56 rfl rfl rfl dX3_readShow_18 rfl (fun x4 ex4 => ?_)
    replace hf := ms_lE ex4 hf
    refine q_puti (κ := 4) (k := 8) (φ := 208) (pc' := 24) C Bh2 (cw_k Bh2.2.2 k0) fl_X3_53 rfl rfl rfl rfl rfl rfl (cw_sI Bh2.2.2 (by decide) (fun h => absurd h (by decide))) dX3_readShow_21 rfl (fun αh5 Hh5 Lh5 eh5 Bh5 => ?_)
    replace hf := ms_lE eh5 hf
    refine lv_aload_n hx hb dX3_readShow_24 rfl (lv_at hl 0 rfl) (hp_n (n := 25) rfl ?_)
    refine lv_iconst (v := 0) hx hb dX3_readShow_25 (by decide) (hp_n (n := 26) rfl ?_)
    refine lv_aload_n hx hb dX3_readShow_26 rfl (lv_at hl 1 rfl) (hp_n (n := 27) rfl ?_)
    refine q_geti (κ := 3) (k := 2) (φ := 152) (pc' := 30) C Bh5 (cw_k Bh5.2.2 k1) fl_X3_102 rfl rfl rfl dX3_readShow_27 rfl (fun x6 ex6 => ?_)
    replace hf := ms_lE ex6 hf
    obtain ⟨rh7, αh7, qh7, hf⟩ := hq_cE hf
    refine d_ci (pc' := 33) Bh5 (hp_runV (As := [.int (0 : Int32), .int x6]) (rest := []) C Bh5 (n_X3_readNumber n Γ l αh5 Bh5.2.2.1 a0 (cw_k Bh5.2.2 k0) (0 : Int32) x6 (rh7, αh7) qh7) lb_X3_readNumber lv_X3_readNumber lk_X3_75 (cw_k Bh5.2.2 k0) rfl (by decide) rfl hl.1 rfl (Nat.le_of_ble_eq_true rfl) dX3_readShow_30 ⟨Nat.le_refl _, Nat.le_refl _⟩) (by decide) rfl (fun Hh7 Lh7 Bh7 => ?_)
    refine lv_if_eq (tgt := 47) hx hb dX3_readShow_33 (by decide) (fun c8 => ?_) (fun c8 => hp_n (n := 36) rfl ?_)
    ·
      replace hf := ms_iT c8 hf
      refine lv_iconst (v := 0) hx hb dX3_readShow_47 (by decide) (hp_n (n := 48) rfl ?_)
      cases hf
      exact q_zret C Bh7 hr hlk (by decide) ⟨rfl, rfl, Bh7.2.2⟩ dX3_readShow_48
    ·
      replace hf := ms_iF c8 hf
      refine lv_aload_n hx hb dX3_readShow_36 rfl (lv_at hl 0 rfl) (hp_n (n := 37) rfl ?_)
      obtain ⟨rh9, αh9, qh9, hf⟩ := hq_cE hf
      refine d_ci (pc' := 40) Bh7 (hp_runV (As := []) (rest := []) C Bh7 (n_X3_readSign n Γ l αh7 Bh7.2.2.1 a0 (cw_k Bh7.2.2 k0) (rh9, αh9) qh9) lb_X3_readSign lv_X3_readSign lk_X3_79 (cw_k Bh7.2.2 k0) rfl (by decide) rfl hl.1 rfl (Nat.le_of_ble_eq_true rfl) dX3_readShow_37 ⟨Nat.le_refl _, Nat.le_refl _⟩) (by decide) rfl (fun Hh9 Lh9 Bh9 => ?_)
      refine lv_if_eq (tgt := 47) hx hb dX3_readShow_40 (by decide) (fun c10 => ?_) (fun c10 => hp_n (n := 43) rfl ?_)
      ·
        replace hf := ms_iT c10 hf
        refine lv_iconst (v := 0) hx hb dX3_readShow_47 (by decide) (hp_n (n := 48) rfl ?_)
        cases hf
        exact q_zret C Bh9 hr hlk (by decide) ⟨rfl, rfl, Bh9.2.2⟩ dX3_readShow_48
      ·
        replace hf := ms_iF c10 hf
        refine lv_iconst (v := 1) hx hb dX3_readShow_43 (by decide) (hp_n (n := 44) rfl ?_)
        refine lv_goto (tgt := 48) hx hb dX3_readShow_44 (by decide) ?_
        cases hf
        exact q_zret C Bh9 hr hlk (by decide) ⟨rfl, rfl, Bh9.2.2⟩ dX3_readShow_48
  ·
    replace hf := ms_iT c3 hf
    refine lv_iconst (v := 0) hx hb dX3_readShow_14 (by decide) (hp_n (n := 15) rfl ?_)
    cases hf
    exact q_zret C Bh2 hr hlk (by decide) ⟨rfl, rfl, Bh2.2.2⟩ dX3_readShow_15
def f_X3_readLine_J197 (n : Nat) (a0 : Nat) (αh3 : hp_T) (v3_h3 : Int32) : Option (Int32 × hp_T) :=
  if v3_h3 = 0 then
    ms_z v3_h3 <|
    some (v3_h3, αh3)
  else
    ms_l (hp_R αh3 200 a0) fun b6 =>
    ms_b (f_X6_advance n αh3 b6) fun αh7 =>
    ms_z v3_h3 <|
    some (v3_h3, αh7)
def f_X3_readLine_J167 (n : Nat) (a0 : Nat) (αh27 : hp_T) (w0_h27 : Int32) : Option (Int32 × hp_T) :=
  f_X3_readLine_J197 n a0 αh27 w0_h27
def f_X3_readLine_J166 (n : Nat) (a0 : Nat) (αh28 : hp_T) : Option (Int32 × hp_T) :=
  f_X3_readLine_J167 n a0 αh28 (0 : Int32)
def f_X3_readLine_J121 (n : Nat) (a0 : Nat) (αh35 : hp_T) (w0_h35 : Int32) : Option (Int32 × hp_T) :=
  f_X3_readLine_J197 n a0 αh35 w0_h35
def f_X3_readLine_J120 (n : Nat) (a0 : Nat) (αh36 : hp_T) : Option (Int32 × hp_T) :=
  f_X3_readLine_J121 n a0 αh36 (0 : Int32)
def f_X3_readLine_J64 (n : Nat) (a0 : Nat) (αh46 : hp_T) (w0_h46 : Int32) : Option (Int32 × hp_T) :=
  f_X3_readLine_J197 n a0 αh46 w0_h46
def f_X3_readLine_J63 (n : Nat) (a0 : Nat) (αh47 : hp_T) : Option (Int32 × hp_T) :=
  f_X3_readLine_J64 n a0 αh47 (0 : Int32)
def f_X3_readLine (n : Nat) (α : hp_T) (a0 : Nat) (a1 : Nat) (a2 : Nat) : Option (Int32 × hp_T) :=
  ms_l (hp_R α 200 a0) fun b1 =>
  ms_b (f_X6_spells n α b1 7) fun rh2 =>
  if rh2 = 0 then
    ms_l (hp_R α 200 a0) fun b10 =>
    ms_b (f_X6_spells n α b10 20) fun rh11 =>
    if rh11 = 0 then
      ms_l (hp_R α 200 a0) fun b13 =>
      ms_b (f_X6_spells n α b13 9) fun rh14 =>
      if rh14 = 0 then
        ms_l (hp_R α 200 a0) fun b16 =>
        ms_b (f_X6_spells n α b16 10) fun rh17 =>
        if rh17 = 0 then
          ms_l (hp_R α 200 a0) fun b19 =>
          ms_b (f_X6_spells n α b19 19) fun rh20 =>
          if rh20 = 0 then
            hq_c (f_X3_stray n α a0) fun rh22 αh22 =>
            f_X3_readLine_J197 n a0 αh22 rh22
          else
            hq_c (f_X3_readShow n α a0 a2) fun rh23 αh23 =>
            f_X3_readLine_J197 n a0 αh23 rh23
        else
          ms_l (hp_sI α 206 a0 (3 : Int32)) fun αh24 =>
          ms_l (hp_I αh24 554 a1) fun x25 =>
          hq_c (f_X3_hasRoom n αh24 a0 x25 (16 : Int32)) fun rh26 αh26 =>
          if rh26 = 0 then
            f_X3_readLine_J166 n a0 αh26
          else
            hq_c (f_X3_readSign n αh26 a0) fun rh30 αh30 =>
            if rh30 = 0 then
              f_X3_readLine_J166 n a0 αh30
            else
              f_X3_readLine_J167 n a0 αh30 (1 : Int32)
      else
        ms_l (hp_sI α 206 a0 (2 : Int32)) fun αh32 =>
        ms_l (hp_I αh32 552 a1) fun x33 =>
        hq_c (f_X3_hasRoom n αh32 a0 x33 (4 : Int32)) fun rh34 αh34 =>
        if rh34 = 0 then
          f_X3_readLine_J120 n a0 αh34
        else
          ms_l (hp_I αh34 152 a2) fun x38 =>
          hq_c (f_X3_readNumber n αh34 a0 (0 : Int32) x38) fun rh39 αh39 =>
          if rh39 = 0 then
            f_X3_readLine_J120 n a0 αh39
          else
            hq_c (f_X3_readSign n αh39 a0) fun rh41 αh41 =>
            if rh41 = 0 then
              f_X3_readLine_J120 n a0 αh41
            else
              f_X3_readLine_J121 n a0 αh41 (1 : Int32)
    else
      ms_l (hp_sI α 206 a0 (1 : Int32)) fun αh43 =>
      ms_l (hp_I αh43 552 a1) fun x44 =>
      hq_c (f_X3_readNumber n αh43 a0 (0 : Int32) (x44 - (1 : Int32))) fun rh45 αh45 =>
      if rh45 = 0 then
        f_X3_readLine_J63 n a0 αh45
      else
        hq_c (f_X3_readSign n αh45 a0) fun rh49 αh49 =>
        if rh49 = 0 then
          f_X3_readLine_J63 n a0 αh49
        else
          f_X3_readLine_J64 n a0 αh49 (1 : Int32)
  else
    hq_c (f_X3_readAdd n α a0 a2) fun rh51 αh51 =>
    f_X3_readLine_J197 n a0 αh51 rh51
set_option maxRecDepth 100000 in
set_option maxHeartbeats 4000000 in
theorem n_X3_readLine (n : Nat) (Γ : hp_G) (l : Launch) (α : hp_T) (g : GC α) (a0 : Nat) (k0 : hp_K α a0 = 4) (a1 : Nat) (k1 : hp_K α a1 = 11) (a2 : Nat) (k2 : hp_K α a2 = 3) (res : (Int32 × hp_T)) (hf : f_X3_readLine n α a0 a1 a2 = some res) : Met l yX3_readLine (hp_ws yX3_readLine cX3_readLine 4 (some .boolean)) (hp_rm 5 0 0) (hp_Pc Γ α [.ref a0, .ref a1, .ref a2]) (hp_Qi Γ (fun r β => r = res.1 ∧ β = res.2 ∧ cw w_X3_readLine α β)) 0 0 (hp_A Γ) := by
  unfold f_X3_readLine at hf
  refine hp_start (by decide) ?_
  intro p e s m below meth c C hr hlk B0 hnm
  have C : hp_C Γ p m c cX3_readLine 4 s ([.ref a0, .ref a1, .ref a2] : List Value).toArray RX3 := C
  have hx := C.1.1
  have hb := C.1.2.1
  have hown := C.1.2.2.2.1
  have hts := C.1.2.2.2.2
  have B : hp_B Γ (cw w_X3_readLine) s α α s.heap [] := ⟨B0.1, B0.2.1, cw_rf g⟩
  have hl := lv_entry ([.ref a0, .ref a1, .ref a2]) (n := 4) (Nat.le_of_ble_eq_true rfl)
  show W p l e (hp_rm 5 0 0) s m ([.ref a0, .ref a1, .ref a2] : List Value).toArray below meth c s.heap [] 0 0 (MQ below (hp_Qi Γ (fun r β => r = res.1 ∧ β = res.2 ∧ cw w_X3_readLine α β)) ([.ref a0, .ref a1, .ref a2] : List Value).toArray s 0 0 (hp_A Γ)) (entryFrame m ([.ref a0, .ref a1, .ref a2] : List Value).toArray 4)
  rw [lg_entry_eq]
  generalize (lg_sl ([.ref a0, .ref a1, .ref a2]) ++ List.replicate (4 - (lg_sl ([.ref a0, .ref a1, .ref a2])).length) Slot.unset).toArray = ls at hl ⊢
  have hl : lv_has ls 4 [(0, .ref a0), (1, .ref a1), (2, .ref a2)] := hl
  refine lv_aload_n hx hb dX3_readLine_0 rfl (lv_at hl 0 rfl) (hp_n (n := 1) rfl ?_)
  refine q_getr (κ := 4) (k := 0) (φ := 200) (pc' := 4) C B (cw_k B.2.2 k0) fl_X3_12 rfl rfl rfl (cw_r B.2.2 k0 rfl rfl (by decide) (by decide)) dX3_readLine_1 rfl (fun b1 eb1 kb1 => ?_)
  replace hf := ms_lE eb1 hf
  refine va_ldcS hx hb hown (sr_X3_86 C.2) dX3_readLine_4 (hp_n (n := 6) rfl ?_)
  obtain ⟨rh2, qh2, hf⟩ := ms_bE hf
  refine d_pi (pc' := 9) B (hp_runV (As := [.ref (Γ.2.2.2.2.1 7)]) (rest := []) C B (n_X6_spells n Γ l α B.2.2.1 b1 (cw_k B.2.2 kb1) 7 (by decide) rh2 qh2) lb_X6_spells lv_X6_spells lk_X3_71 (cw_k B.2.2 kb1) rfl (by decide) rfl hl.1 rfl (Nat.le_of_ble_eq_true rfl) dX3_readLine_6 ⟨Nat.le_refl _, Nat.le_refl _⟩) rfl (fun Hh2 Lh2 Bh2 => ?_)
  have J197 : ∀ (αh3 : hp_T) (Hh3 : Heap) (Lh3 : List Loc) (Bh3 : hp_B Γ (cw w_X3_readLine) s α αh3 Hh3 Lh3) (v3_h3 : Int32) (ls : Array Slot) (hl : lv_has ls 4 [(0, .ref a0), (3, .int v3_h3)]) (hf : f_X3_readLine_J197 n a0 αh3 v3_h3 = some res), W p l e (hp_rm 5 0 0) s m ([.ref a0, .ref a1, .ref a2] : List Value).toArray below meth c Hh3 Lh3 0 0 (MQ below (hp_Qi Γ (fun r β => r = res.1 ∧ β = res.2 ∧ cw w_X3_readLine α β)) ([.ref a0, .ref a1, .ref a2] : List Value).toArray s 0 0 (hp_A Γ)) (F0 m 197 ls []) := by
    intro αh3 Hh3 Lh3 Bh3 v3_h3 ls hl hf
    unfold f_X3_readLine_J197 at hf
    refine lv_iload_n hx hb dX3_readLine_197 rfl (lv_at hl 1 rfl) (hp_n (n := 198) rfl ?_)
    refine lv_if_eq (tgt := 208) hx hb dX3_readLine_198 (by decide) (fun c4 => ?_) (fun c4 => hp_n (n := 201) rfl ?_)
    ·
      replace hf := ms_iT c4 hf
      refine lv_iload_n hx hb dX3_readLine_208 rfl (lv_at hl 1 rfl) (hp_n (n := 209) rfl ?_)
      obtain ⟨g5, hf⟩ := ms_zE hf
      cases hf
      exact q_zret C Bh3 hr hlk (nz_z g5) ⟨rfl, rfl, Bh3.2.2⟩ dX3_readLine_209
    ·
      replace hf := ms_iF c4 hf
      refine lv_aload_n hx hb dX3_readLine_201 rfl (lv_at hl 0 rfl) (hp_n (n := 202) rfl ?_)
      refine q_getr (κ := 4) (k := 0) (φ := 200) (pc' := 205) C Bh3 (cw_k Bh3.2.2 k0) fl_X3_12 rfl rfl rfl (cw_r Bh3.2.2 k0 rfl rfl (by decide) (by decide)) dX3_readLine_202 rfl (fun b6 eb6 kb6 => ?_)
      replace hf := ms_lE eb6 hf
      obtain ⟨αh7, qh7, hf⟩ := ms_bE hf
      refine d_cv (pc' := 208) Bh3 (hp_runV (As := []) (rest := []) C Bh3 (n_X6_advance n Γ l αh3 Bh3.2.2.1 b6 (cw_k Bh3.2.2 kb6) αh7 qh7) lb_X6_advance lv_X6_advance lk_X3_63 (cw_k Bh3.2.2 kb6) rfl (by decide) rfl hl.1 rfl (Nat.le_of_ble_eq_true rfl) dX3_readLine_205 ⟨Nat.le_refl _, Nat.le_refl _⟩) (by decide) rfl (fun Hh7 Lh7 Bh7 => ?_)
      refine lv_iload_n hx hb dX3_readLine_208 rfl (lv_at hl 1 rfl) (hp_n (n := 209) rfl ?_)
      obtain ⟨g8, hf⟩ := ms_zE hf
      cases hf
      exact q_zret C Bh7 hr hlk (nz_z g8) ⟨rfl, rfl, Bh7.2.2⟩ dX3_readLine_209
  refine lv_if_eq (tgt := 21) hx hb dX3_readLine_9 (by decide) (fun c9 => ?_) (fun c9 => hp_n (n := 12) rfl ?_)
  ·
    replace hf := ms_iT c9 hf
    refine lv_aload_n hx hb dX3_readLine_21 rfl (lv_at hl 0 rfl) (hp_n (n := 22) rfl ?_)
    refine q_getr (κ := 4) (k := 0) (φ := 200) (pc' := 25) C Bh2 (cw_k Bh2.2.2 k0) fl_X3_12 rfl rfl rfl (cw_r Bh2.2.2 k0 rfl rfl (by decide) (by decide)) dX3_readLine_22 rfl (fun b10 eb10 kb10 => ?_)
    replace hf := ms_lE eb10 hf
    refine va_ldcS hx hb hown (sr_X3_92 C.2) dX3_readLine_25 (hp_n (n := 27) rfl ?_)
    obtain ⟨rh11, qh11, hf⟩ := ms_bE hf
    refine d_pi (pc' := 30) Bh2 (hp_runV (As := [.ref (Γ.2.2.2.2.1 20)]) (rest := []) C Bh2 (n_X6_spells n Γ l α Bh2.2.2.1 b10 (cw_k Bh2.2.2 kb10) 20 (by decide) rh11 qh11) lb_X6_spells lv_X6_spells lk_X3_71 (cw_k Bh2.2.2 kb10) rfl (by decide) rfl hl.1 rfl (Nat.le_of_ble_eq_true rfl) dX3_readLine_27 ⟨Nat.le_refl _, Nat.le_refl _⟩) rfl (fun Hh11 Lh11 Bh11 => ?_)
    refine lv_if_eq (tgt := 68) hx hb dX3_readLine_30 (by decide) (fun c12 => ?_) (fun c12 => hp_n (n := 33) rfl ?_)
    ·
      replace hf := ms_iT c12 hf
      refine lv_aload_n hx hb dX3_readLine_68 rfl (lv_at hl 0 rfl) (hp_n (n := 69) rfl ?_)
      refine q_getr (κ := 4) (k := 0) (φ := 200) (pc' := 72) C Bh11 (cw_k Bh11.2.2 k0) fl_X3_12 rfl rfl rfl (cw_r Bh11.2.2 k0 rfl rfl (by decide) (by decide)) dX3_readLine_69 rfl (fun b13 eb13 kb13 => ?_)
      replace hf := ms_lE eb13 hf
      refine va_ldcS hx hb hown (sr_X3_97 C.2) dX3_readLine_72 (hp_n (n := 74) rfl ?_)
      obtain ⟨rh14, qh14, hf⟩ := ms_bE hf
      refine d_pi (pc' := 77) Bh11 (hp_runV (As := [.ref (Γ.2.2.2.2.1 9)]) (rest := []) C Bh11 (n_X6_spells n Γ l α Bh11.2.2.1 b13 (cw_k Bh11.2.2 kb13) 9 (by decide) rh14 qh14) lb_X6_spells lv_X6_spells lk_X3_71 (cw_k Bh11.2.2 kb13) rfl (by decide) rfl hl.1 rfl (Nat.le_of_ble_eq_true rfl) dX3_readLine_74 ⟨Nat.le_refl _, Nat.le_refl _⟩) rfl (fun Hh14 Lh14 Bh14 => ?_)
      refine lv_if_eq (tgt := 125) hx hb dX3_readLine_77 (by decide) (fun c15 => ?_) (fun c15 => hp_n (n := 80) rfl ?_)
      ·
        replace hf := ms_iT c15 hf
        refine lv_aload_n hx hb dX3_readLine_125 rfl (lv_at hl 0 rfl) (hp_n (n := 126) rfl ?_)
        refine q_getr (κ := 4) (k := 0) (φ := 200) (pc' := 129) C Bh14 (cw_k Bh14.2.2 k0) fl_X3_12 rfl rfl rfl (cw_r Bh14.2.2 k0 rfl rfl (by decide) (by decide)) dX3_readLine_126 rfl (fun b16 eb16 kb16 => ?_)
        replace hf := ms_lE eb16 hf
        refine va_ldcS hx hb hown (sr_X3_107 C.2) dX3_readLine_129 (hp_n (n := 131) rfl ?_)
        obtain ⟨rh17, qh17, hf⟩ := ms_bE hf
        refine d_pi (pc' := 134) Bh14 (hp_runV (As := [.ref (Γ.2.2.2.2.1 10)]) (rest := []) C Bh14 (n_X6_spells n Γ l α Bh14.2.2.1 b16 (cw_k Bh14.2.2 kb16) 10 (by decide) rh17 qh17) lb_X6_spells lv_X6_spells lk_X3_71 (cw_k Bh14.2.2 kb16) rfl (by decide) rfl hl.1 rfl (Nat.le_of_ble_eq_true rfl) dX3_readLine_131 ⟨Nat.le_refl _, Nat.le_refl _⟩) rfl (fun Hh17 Lh17 Bh17 => ?_)
        refine lv_if_eq (tgt := 171) hx hb dX3_readLine_134 (by decide) (fun c18 => ?_) (fun c18 => hp_n (n := 137) rfl ?_)
        ·
          replace hf := ms_iT c18 hf
          refine lv_aload_n hx hb dX3_readLine_171 rfl (lv_at hl 0 rfl) (hp_n (n := 172) rfl ?_)
          refine q_getr (κ := 4) (k := 0) (φ := 200) (pc' := 175) C Bh17 (cw_k Bh17.2.2 k0) fl_X3_12 rfl rfl rfl (cw_r Bh17.2.2 k0 rfl rfl (by decide) (by decide)) dX3_readLine_172 rfl (fun b19 eb19 kb19 => ?_)
          replace hf := ms_lE eb19 hf
          refine va_ldcS hx hb hown (sr_X3_112 C.2) dX3_readLine_175 (hp_n (n := 177) rfl ?_)
          obtain ⟨rh20, qh20, hf⟩ := ms_bE hf
          refine d_pi (pc' := 180) Bh17 (hp_runV (As := [.ref (Γ.2.2.2.2.1 19)]) (rest := []) C Bh17 (n_X6_spells n Γ l α Bh17.2.2.1 b19 (cw_k Bh17.2.2 kb19) 19 (by decide) rh20 qh20) lb_X6_spells lv_X6_spells lk_X3_71 (cw_k Bh17.2.2 kb19) rfl (by decide) rfl hl.1 rfl (Nat.le_of_ble_eq_true rfl) dX3_readLine_177 ⟨Nat.le_refl _, Nat.le_refl _⟩) rfl (fun Hh20 Lh20 Bh20 => ?_)
          refine lv_if_eq (tgt := 192) hx hb dX3_readLine_180 (by decide) (fun c21 => ?_) (fun c21 => hp_n (n := 183) rfl ?_)
          ·
            replace hf := ms_iT c21 hf
            refine lv_aload_n hx hb dX3_readLine_192 rfl (lv_at hl 0 rfl) (hp_n (n := 193) rfl ?_)
            obtain ⟨rh22, αh22, qh22, hf⟩ := hq_cE hf
            refine d_ci (pc' := 196) Bh20 (hp_runV (As := []) (rest := []) C Bh20 (n_X3_stray n Γ l α Bh20.2.2.1 a0 (cw_k Bh20.2.2 k0) (rh22, αh22) qh22) lb_X3_stray lv_X3_stray lk_X3_117 (cw_k Bh20.2.2 k0) rfl (by decide) rfl hl.1 rfl (Nat.le_of_ble_eq_true rfl) dX3_readLine_193 ⟨Nat.le_refl _, Nat.le_refl _⟩) (by decide) rfl (fun Hh22 Lh22 Bh22 => ?_)
            refine lv_istore_n (lv' := [(3, .int rh22), (0, .ref a0), (1, .ref a1), (2, .ref a2)]) hx hb dX3_readLine_196 rfl hl (by decide) rfl (fun ls hl => hp_n (n := 197) rfl ?_)
            exact J197 αh22 Hh22 Lh22 Bh22 rh22 ls (lv_sub hl [1, 0] rfl) hf
          ·
            replace hf := ms_iF c21 hf
            refine lv_aload_n hx hb dX3_readLine_183 rfl (lv_at hl 0 rfl) (hp_n (n := 184) rfl ?_)
            refine lv_aload_n hx hb dX3_readLine_184 rfl (lv_at hl 2 rfl) (hp_n (n := 185) rfl ?_)
            obtain ⟨rh23, αh23, qh23, hf⟩ := hq_cE hf
            refine d_ci (pc' := 188) Bh20 (hp_runV (As := [.ref a2]) (rest := []) C Bh20 (n_X3_readShow n Γ l α Bh20.2.2.1 a0 (cw_k Bh20.2.2 k0) a2 (cw_k Bh20.2.2 k2) (rh23, αh23) qh23) lb_X3_readShow lv_X3_readShow lk_X3_114 (cw_k Bh20.2.2 k0) rfl (by decide) rfl hl.1 rfl (Nat.le_of_ble_eq_true rfl) dX3_readLine_185 ⟨Nat.le_refl _, Nat.le_refl _⟩) (by decide) rfl (fun Hh23 Lh23 Bh23 => ?_)
            refine lv_istore_n (lv' := [(3, .int rh23), (0, .ref a0), (1, .ref a1), (2, .ref a2)]) hx hb dX3_readLine_188 rfl hl (by decide) rfl (fun ls hl => hp_n (n := 189) rfl ?_)
            refine lv_goto (tgt := 197) hx hb dX3_readLine_189 (by decide) ?_
            exact J197 αh23 Hh23 Lh23 Bh23 rh23 ls (lv_sub hl [1, 0] rfl) hf
        ·
          replace hf := ms_iF c18 hf
          refine lv_aload_n hx hb dX3_readLine_137 rfl (lv_at hl 0 rfl) (hp_n (n := 138) rfl ?_)
          refine lv_iconst (v := 3) hx hb dX3_readLine_138 (by decide) (hp_n (n := 139) rfl ?_)
          refine q_puti (κ := 4) (k := 6) (φ := 206) (pc' := 142) C Bh17 (cw_k Bh17.2.2 k0) fl_X3_43 rfl rfl rfl rfl rfl rfl (cw_sI Bh17.2.2 (by decide) (fun h => absurd h (by decide))) dX3_readLine_139 rfl (fun αh24 Hh24 Lh24 eh24 Bh24 => ?_)
          replace hf := ms_lE eh24 hf
          refine lv_aload_n hx hb dX3_readLine_142 rfl (lv_at hl 0 rfl) (hp_n (n := 143) rfl ?_)
          refine lv_aload_n hx hb dX3_readLine_143 rfl (lv_at hl 1 rfl) (hp_n (n := 144) rfl ?_)
          refine q_geti (κ := 11) (k := 4) (φ := 554) (pc' := 147) C Bh24 (cw_k Bh24.2.2 k1) fl_X3_109 rfl rfl rfl dX3_readLine_144 rfl (fun x25 ex25 => ?_)
          replace hf := ms_lE ex25 hf
          refine lv_bipush (v := 16) hx hb dX3_readLine_147 (by decide) (hp_n (n := 149) rfl ?_)
          obtain ⟨rh26, αh26, qh26, hf⟩ := hq_cE hf
          refine d_ci (pc' := 152) Bh24 (hp_runV (As := [.int x25, .int (16 : Int32)]) (rest := []) C Bh24 (n_X3_hasRoom n Γ l αh24 Bh24.2.2.1 a0 (cw_k Bh24.2.2 k0) x25 (16 : Int32) (rh26, αh26) qh26) lb_X3_hasRoom lv_X3_hasRoom lk_X3_99 (cw_k Bh24.2.2 k0) rfl (by decide) rfl hl.1 rfl (Nat.le_of_ble_eq_true rfl) dX3_readLine_149 ⟨Nat.le_refl _, Nat.le_refl _⟩) (by decide) rfl (fun Hh26 Lh26 Bh26 => ?_)
          have J167 : ∀ (αh27 : hp_T) (Hh27 : Heap) (Lh27 : List Loc) (Bh27 : hp_B Γ (cw w_X3_readLine) s α αh27 Hh27 Lh27) (w0_h27 : Int32) (ls : Array Slot) (hl : lv_has ls 4 [(0, .ref a0)]) (hf : f_X3_readLine_J167 n a0 αh27 w0_h27 = some res), W p l e (hp_rm 5 0 0) s m ([.ref a0, .ref a1, .ref a2] : List Value).toArray below meth c Hh27 Lh27 0 0 (MQ below (hp_Qi Γ (fun r β => r = res.1 ∧ β = res.2 ∧ cw w_X3_readLine α β)) ([.ref a0, .ref a1, .ref a2] : List Value).toArray s 0 0 (hp_A Γ)) (F0 m 167 ls [.int w0_h27]) := by
            intro αh27 Hh27 Lh27 Bh27 w0_h27 ls hl hf
            unfold f_X3_readLine_J167 at hf
            refine lv_istore_n (lv' := [(3, .int w0_h27), (0, .ref a0)]) hx hb dX3_readLine_167 rfl hl (by decide) rfl (fun ls hl => hp_n (n := 168) rfl ?_)
            refine lv_goto (tgt := 197) hx hb dX3_readLine_168 (by decide) ?_
            exact J197 αh27 Hh27 Lh27 Bh27 w0_h27 ls (lv_sub hl [1, 0] rfl) hf
          have J166 : ∀ (αh28 : hp_T) (Hh28 : Heap) (Lh28 : List Loc) (Bh28 : hp_B Γ (cw w_X3_readLine) s α αh28 Hh28 Lh28) (ls : Array Slot) (hl : lv_has ls 4 [(0, .ref a0)]) (hf : f_X3_readLine_J166 n a0 αh28 = some res), W p l e (hp_rm 5 0 0) s m ([.ref a0, .ref a1, .ref a2] : List Value).toArray below meth c Hh28 Lh28 0 0 (MQ below (hp_Qi Γ (fun r β => r = res.1 ∧ β = res.2 ∧ cw w_X3_readLine α β)) ([.ref a0, .ref a1, .ref a2] : List Value).toArray s 0 0 (hp_A Γ)) (F0 m 166 ls []) := by
            intro αh28 Hh28 Lh28 Bh28 ls hl hf
            unfold f_X3_readLine_J166 at hf
            refine lv_iconst (v := 0) hx hb dX3_readLine_166 (by decide) (hp_n (n := 167) rfl ?_)
            exact J167 αh28 Hh28 Lh28 Bh28 (0 : Int32) ls (lv_sub hl [0] rfl) hf
          refine lv_if_eq (tgt := 166) hx hb dX3_readLine_152 (by decide) (fun c29 => ?_) (fun c29 => hp_n (n := 155) rfl ?_)
          ·
            replace hf := ms_iT c29 hf
            exact J166 αh26 Hh26 Lh26 Bh26 ls (lv_sub hl [0] rfl) hf
          ·
            replace hf := ms_iF c29 hf
            refine lv_aload_n hx hb dX3_readLine_155 rfl (lv_at hl 0 rfl) (hp_n (n := 156) rfl ?_)
            obtain ⟨rh30, αh30, qh30, hf⟩ := hq_cE hf
            refine d_ci (pc' := 159) Bh26 (hp_runV (As := []) (rest := []) C Bh26 (n_X3_readSign n Γ l αh26 Bh26.2.2.1 a0 (cw_k Bh26.2.2 k0) (rh30, αh30) qh30) lb_X3_readSign lv_X3_readSign lk_X3_79 (cw_k Bh26.2.2 k0) rfl (by decide) rfl hl.1 rfl (Nat.le_of_ble_eq_true rfl) dX3_readLine_156 ⟨Nat.le_refl _, Nat.le_refl _⟩) (by decide) rfl (fun Hh30 Lh30 Bh30 => ?_)
            refine lv_if_eq (tgt := 166) hx hb dX3_readLine_159 (by decide) (fun c31 => ?_) (fun c31 => hp_n (n := 162) rfl ?_)
            ·
              replace hf := ms_iT c31 hf
              exact J166 αh30 Hh30 Lh30 Bh30 ls (lv_sub hl [0] rfl) hf
            ·
              replace hf := ms_iF c31 hf
              refine lv_iconst (v := 1) hx hb dX3_readLine_162 (by decide) (hp_n (n := 163) rfl ?_)
              refine lv_goto (tgt := 167) hx hb dX3_readLine_163 (by decide) ?_
              exact J167 αh30 Hh30 Lh30 Bh30 (1 : Int32) ls (lv_sub hl [0] rfl) hf
      ·
        replace hf := ms_iF c15 hf
        refine lv_aload_n hx hb dX3_readLine_80 rfl (lv_at hl 0 rfl) (hp_n (n := 81) rfl ?_)
        refine lv_iconst (v := 2) hx hb dX3_readLine_81 (by decide) (hp_n (n := 82) rfl ?_)
        refine q_puti (κ := 4) (k := 6) (φ := 206) (pc' := 85) C Bh14 (cw_k Bh14.2.2 k0) fl_X3_43 rfl rfl rfl rfl rfl rfl (cw_sI Bh14.2.2 (by decide) (fun h => absurd h (by decide))) dX3_readLine_82 rfl (fun αh32 Hh32 Lh32 eh32 Bh32 => ?_)
        replace hf := ms_lE eh32 hf
        refine lv_aload_n hx hb dX3_readLine_85 rfl (lv_at hl 0 rfl) (hp_n (n := 86) rfl ?_)
        refine lv_aload_n hx hb dX3_readLine_86 rfl (lv_at hl 1 rfl) (hp_n (n := 87) rfl ?_)
        refine q_geti (κ := 11) (k := 2) (φ := 552) (pc' := 90) C Bh32 (cw_k Bh32.2.2 k1) fl_X3_94 rfl rfl rfl dX3_readLine_87 rfl (fun x33 ex33 => ?_)
        replace hf := ms_lE ex33 hf
        refine lv_iconst (v := 4) hx hb dX3_readLine_90 (by decide) (hp_n (n := 91) rfl ?_)
        obtain ⟨rh34, αh34, qh34, hf⟩ := hq_cE hf
        refine d_ci (pc' := 94) Bh32 (hp_runV (As := [.int x33, .int (4 : Int32)]) (rest := []) C Bh32 (n_X3_hasRoom n Γ l αh32 Bh32.2.2.1 a0 (cw_k Bh32.2.2 k0) x33 (4 : Int32) (rh34, αh34) qh34) lb_X3_hasRoom lv_X3_hasRoom lk_X3_99 (cw_k Bh32.2.2 k0) rfl (by decide) rfl hl.1 rfl (Nat.le_of_ble_eq_true rfl) dX3_readLine_91 ⟨Nat.le_refl _, Nat.le_refl _⟩) (by decide) rfl (fun Hh34 Lh34 Bh34 => ?_)
        have J121 : ∀ (αh35 : hp_T) (Hh35 : Heap) (Lh35 : List Loc) (Bh35 : hp_B Γ (cw w_X3_readLine) s α αh35 Hh35 Lh35) (w0_h35 : Int32) (ls : Array Slot) (hl : lv_has ls 4 [(0, .ref a0)]) (hf : f_X3_readLine_J121 n a0 αh35 w0_h35 = some res), W p l e (hp_rm 5 0 0) s m ([.ref a0, .ref a1, .ref a2] : List Value).toArray below meth c Hh35 Lh35 0 0 (MQ below (hp_Qi Γ (fun r β => r = res.1 ∧ β = res.2 ∧ cw w_X3_readLine α β)) ([.ref a0, .ref a1, .ref a2] : List Value).toArray s 0 0 (hp_A Γ)) (F0 m 121 ls [.int w0_h35]) := by
          intro αh35 Hh35 Lh35 Bh35 w0_h35 ls hl hf
          unfold f_X3_readLine_J121 at hf
          refine lv_istore_n (lv' := [(3, .int w0_h35), (0, .ref a0)]) hx hb dX3_readLine_121 rfl hl (by decide) rfl (fun ls hl => hp_n (n := 122) rfl ?_)
          refine lv_goto (tgt := 197) hx hb dX3_readLine_122 (by decide) ?_
          exact J197 αh35 Hh35 Lh35 Bh35 w0_h35 ls (lv_sub hl [1, 0] rfl) hf
        have J120 : ∀ (αh36 : hp_T) (Hh36 : Heap) (Lh36 : List Loc) (Bh36 : hp_B Γ (cw w_X3_readLine) s α αh36 Hh36 Lh36) (ls : Array Slot) (hl : lv_has ls 4 [(0, .ref a0)]) (hf : f_X3_readLine_J120 n a0 αh36 = some res), W p l e (hp_rm 5 0 0) s m ([.ref a0, .ref a1, .ref a2] : List Value).toArray below meth c Hh36 Lh36 0 0 (MQ below (hp_Qi Γ (fun r β => r = res.1 ∧ β = res.2 ∧ cw w_X3_readLine α β)) ([.ref a0, .ref a1, .ref a2] : List Value).toArray s 0 0 (hp_A Γ)) (F0 m 120 ls []) := by
          intro αh36 Hh36 Lh36 Bh36 ls hl hf
          unfold f_X3_readLine_J120 at hf
          refine lv_iconst (v := 0) hx hb dX3_readLine_120 (by decide) (hp_n (n := 121) rfl ?_)
          exact J121 αh36 Hh36 Lh36 Bh36 (0 : Int32) ls (lv_sub hl [0] rfl) hf
        refine lv_if_eq (tgt := 120) hx hb dX3_readLine_94 (by decide) (fun c37 => ?_) (fun c37 => hp_n (n := 97) rfl ?_)
        ·
          replace hf := ms_iT c37 hf
          exact J120 αh34 Hh34 Lh34 Bh34 ls (lv_sub hl [0] rfl) hf
        ·
          replace hf := ms_iF c37 hf
          refine lv_aload_n hx hb dX3_readLine_97 rfl (lv_at hl 0 rfl) (hp_n (n := 98) rfl ?_)
          refine lv_iconst (v := 0) hx hb dX3_readLine_98 (by decide) (hp_n (n := 99) rfl ?_)
          refine lv_aload_n hx hb dX3_readLine_99 rfl (lv_at hl 2 rfl) (hp_n (n := 100) rfl ?_)
          refine q_geti (κ := 3) (k := 2) (φ := 152) (pc' := 103) C Bh34 (cw_k Bh34.2.2 k2) fl_X3_102 rfl rfl rfl dX3_readLine_100 rfl (fun x38 ex38 => ?_)
          replace hf := ms_lE ex38 hf
          obtain ⟨rh39, αh39, qh39, hf⟩ := hq_cE hf
          refine d_ci (pc' := 106) Bh34 (hp_runV (As := [.int (0 : Int32), .int x38]) (rest := []) C Bh34 (n_X3_readNumber n Γ l αh34 Bh34.2.2.1 a0 (cw_k Bh34.2.2 k0) (0 : Int32) x38 (rh39, αh39) qh39) lb_X3_readNumber lv_X3_readNumber lk_X3_75 (cw_k Bh34.2.2 k0) rfl (by decide) rfl hl.1 rfl (Nat.le_of_ble_eq_true rfl) dX3_readLine_103 ⟨Nat.le_refl _, Nat.le_refl _⟩) (by decide) rfl (fun Hh39 Lh39 Bh39 => ?_)
          refine lv_if_eq (tgt := 120) hx hb dX3_readLine_106 (by decide) (fun c40 => ?_) (fun c40 => hp_n (n := 109) rfl ?_)
          ·
            replace hf := ms_iT c40 hf
            exact J120 αh39 Hh39 Lh39 Bh39 ls (lv_sub hl [0] rfl) hf
          ·
            replace hf := ms_iF c40 hf
            refine lv_aload_n hx hb dX3_readLine_109 rfl (lv_at hl 0 rfl) (hp_n (n := 110) rfl ?_)
            obtain ⟨rh41, αh41, qh41, hf⟩ := hq_cE hf
            refine d_ci (pc' := 113) Bh39 (hp_runV (As := []) (rest := []) C Bh39 (n_X3_readSign n Γ l αh39 Bh39.2.2.1 a0 (cw_k Bh39.2.2 k0) (rh41, αh41) qh41) lb_X3_readSign lv_X3_readSign lk_X3_79 (cw_k Bh39.2.2 k0) rfl (by decide) rfl hl.1 rfl (Nat.le_of_ble_eq_true rfl) dX3_readLine_110 ⟨Nat.le_refl _, Nat.le_refl _⟩) (by decide) rfl (fun Hh41 Lh41 Bh41 => ?_)
            refine lv_if_eq (tgt := 120) hx hb dX3_readLine_113 (by decide) (fun c42 => ?_) (fun c42 => hp_n (n := 116) rfl ?_)
            ·
              replace hf := ms_iT c42 hf
              exact J120 αh41 Hh41 Lh41 Bh41 ls (lv_sub hl [0] rfl) hf
            ·
              replace hf := ms_iF c42 hf
              refine lv_iconst (v := 1) hx hb dX3_readLine_116 (by decide) (hp_n (n := 117) rfl ?_)
              refine lv_goto (tgt := 121) hx hb dX3_readLine_117 (by decide) ?_
              exact J121 αh41 Hh41 Lh41 Bh41 (1 : Int32) ls (lv_sub hl [0] rfl) hf
    ·
      replace hf := ms_iF c12 hf
      refine lv_aload_n hx hb dX3_readLine_33 rfl (lv_at hl 0 rfl) (hp_n (n := 34) rfl ?_)
      refine lv_iconst (v := 1) hx hb dX3_readLine_34 (by decide) (hp_n (n := 35) rfl ?_)
      refine q_puti (κ := 4) (k := 6) (φ := 206) (pc' := 38) C Bh11 (cw_k Bh11.2.2 k0) fl_X3_43 rfl rfl rfl rfl rfl rfl (cw_sI Bh11.2.2 (by decide) (fun h => absurd h (by decide))) dX3_readLine_35 rfl (fun αh43 Hh43 Lh43 eh43 Bh43 => ?_)
      replace hf := ms_lE eh43 hf
      refine lv_aload_n hx hb dX3_readLine_38 rfl (lv_at hl 0 rfl) (hp_n (n := 39) rfl ?_)
      refine lv_iconst (v := 0) hx hb dX3_readLine_39 (by decide) (hp_n (n := 40) rfl ?_)
      refine lv_aload_n hx hb dX3_readLine_40 rfl (lv_at hl 1 rfl) (hp_n (n := 41) rfl ?_)
      refine q_geti (κ := 11) (k := 2) (φ := 552) (pc' := 44) C Bh43 (cw_k Bh43.2.2 k1) fl_X3_94 rfl rfl rfl dX3_readLine_41 rfl (fun x44 ex44 => ?_)
      replace hf := ms_lE ex44 hf
      refine lv_iconst (v := 1) hx hb dX3_readLine_44 (by decide) (hp_n (n := 45) rfl ?_)
      refine lv_isub hx hb dX3_readLine_45 (hp_n (n := 46) rfl ?_)
      obtain ⟨rh45, αh45, qh45, hf⟩ := hq_cE hf
      refine d_ci (pc' := 49) Bh43 (hp_runV (As := [.int (0 : Int32), .int (x44 - (1 : Int32))]) (rest := []) C Bh43 (n_X3_readNumber n Γ l αh43 Bh43.2.2.1 a0 (cw_k Bh43.2.2 k0) (0 : Int32) (x44 - (1 : Int32)) (rh45, αh45) qh45) lb_X3_readNumber lv_X3_readNumber lk_X3_75 (cw_k Bh43.2.2 k0) rfl (by decide) rfl hl.1 rfl (Nat.le_of_ble_eq_true rfl) dX3_readLine_46 ⟨Nat.le_refl _, Nat.le_refl _⟩) (by decide) rfl (fun Hh45 Lh45 Bh45 => ?_)
      have J64 : ∀ (αh46 : hp_T) (Hh46 : Heap) (Lh46 : List Loc) (Bh46 : hp_B Γ (cw w_X3_readLine) s α αh46 Hh46 Lh46) (w0_h46 : Int32) (ls : Array Slot) (hl : lv_has ls 4 [(0, .ref a0)]) (hf : f_X3_readLine_J64 n a0 αh46 w0_h46 = some res), W p l e (hp_rm 5 0 0) s m ([.ref a0, .ref a1, .ref a2] : List Value).toArray below meth c Hh46 Lh46 0 0 (MQ below (hp_Qi Γ (fun r β => r = res.1 ∧ β = res.2 ∧ cw w_X3_readLine α β)) ([.ref a0, .ref a1, .ref a2] : List Value).toArray s 0 0 (hp_A Γ)) (F0 m 64 ls [.int w0_h46]) := by
        intro αh46 Hh46 Lh46 Bh46 w0_h46 ls hl hf
        unfold f_X3_readLine_J64 at hf
        refine lv_istore_n (lv' := [(3, .int w0_h46), (0, .ref a0)]) hx hb dX3_readLine_64 rfl hl (by decide) rfl (fun ls hl => hp_n (n := 65) rfl ?_)
        refine lv_goto (tgt := 197) hx hb dX3_readLine_65 (by decide) ?_
        exact J197 αh46 Hh46 Lh46 Bh46 w0_h46 ls (lv_sub hl [1, 0] rfl) hf
      have J63 : ∀ (αh47 : hp_T) (Hh47 : Heap) (Lh47 : List Loc) (Bh47 : hp_B Γ (cw w_X3_readLine) s α αh47 Hh47 Lh47) (ls : Array Slot) (hl : lv_has ls 4 [(0, .ref a0)]) (hf : f_X3_readLine_J63 n a0 αh47 = some res), W p l e (hp_rm 5 0 0) s m ([.ref a0, .ref a1, .ref a2] : List Value).toArray below meth c Hh47 Lh47 0 0 (MQ below (hp_Qi Γ (fun r β => r = res.1 ∧ β = res.2 ∧ cw w_X3_readLine α β)) ([.ref a0, .ref a1, .ref a2] : List Value).toArray s 0 0 (hp_A Γ)) (F0 m 63 ls []) := by
        intro αh47 Hh47 Lh47 Bh47 ls hl hf
        unfold f_X3_readLine_J63 at hf
        refine lv_iconst (v := 0) hx hb dX3_readLine_63 (by decide) (hp_n (n := 64) rfl ?_)
        exact J64 αh47 Hh47 Lh47 Bh47 (0 : Int32) ls (lv_sub hl [0] rfl) hf
      refine lv_if_eq (tgt := 63) hx hb dX3_readLine_49 (by decide) (fun c48 => ?_) (fun c48 => hp_n (n := 52) rfl ?_)
      ·
        replace hf := ms_iT c48 hf
        exact J63 αh45 Hh45 Lh45 Bh45 ls (lv_sub hl [0] rfl) hf
      ·
        replace hf := ms_iF c48 hf
        refine lv_aload_n hx hb dX3_readLine_52 rfl (lv_at hl 0 rfl) (hp_n (n := 53) rfl ?_)
        obtain ⟨rh49, αh49, qh49, hf⟩ := hq_cE hf
        refine d_ci (pc' := 56) Bh45 (hp_runV (As := []) (rest := []) C Bh45 (n_X3_readSign n Γ l αh45 Bh45.2.2.1 a0 (cw_k Bh45.2.2 k0) (rh49, αh49) qh49) lb_X3_readSign lv_X3_readSign lk_X3_79 (cw_k Bh45.2.2 k0) rfl (by decide) rfl hl.1 rfl (Nat.le_of_ble_eq_true rfl) dX3_readLine_53 ⟨Nat.le_refl _, Nat.le_refl _⟩) (by decide) rfl (fun Hh49 Lh49 Bh49 => ?_)
        refine lv_if_eq (tgt := 63) hx hb dX3_readLine_56 (by decide) (fun c50 => ?_) (fun c50 => hp_n (n := 59) rfl ?_)
        ·
          replace hf := ms_iT c50 hf
          exact J63 αh49 Hh49 Lh49 Bh49 ls (lv_sub hl [0] rfl) hf
        ·
          replace hf := ms_iF c50 hf
          refine lv_iconst (v := 1) hx hb dX3_readLine_59 (by decide) (hp_n (n := 60) rfl ?_)
          refine lv_goto (tgt := 64) hx hb dX3_readLine_60 (by decide) ?_
          exact J64 αh49 Hh49 Lh49 Bh49 (1 : Int32) ls (lv_sub hl [0] rfl) hf
  ·
    replace hf := ms_iF c9 hf
    refine lv_aload_n hx hb dX3_readLine_12 rfl (lv_at hl 0 rfl) (hp_n (n := 13) rfl ?_)
    refine lv_aload_n hx hb dX3_readLine_13 rfl (lv_at hl 2 rfl) (hp_n (n := 14) rfl ?_)
    obtain ⟨rh51, αh51, qh51, hf⟩ := hq_cE hf
    refine d_ci (pc' := 17) Bh2 (hp_runV (As := [.ref a2]) (rest := []) C Bh2 (n_X3_readAdd n Γ l α Bh2.2.2.1 a0 (cw_k Bh2.2.2 k0) a2 (cw_k Bh2.2.2 k2) (rh51, αh51) qh51) lb_X3_readAdd lv_X3_readAdd lk_X3_88 (cw_k Bh2.2.2 k0) rfl (by decide) rfl hl.1 rfl (Nat.le_of_ble_eq_true rfl) dX3_readLine_14 ⟨Nat.le_refl _, Nat.le_refl _⟩) (by decide) rfl (fun Hh51 Lh51 Bh51 => ?_)
    refine lv_istore_n (lv' := [(3, .int rh51), (0, .ref a0), (1, .ref a1), (2, .ref a2)]) hx hb dX3_readLine_17 rfl hl (by decide) rfl (fun ls hl => hp_n (n := 18) rfl ?_)
    refine lv_goto (tgt := 197) hx hb dX3_readLine_18 (by decide) ?_
    exact J197 αh51 Hh51 Lh51 Bh51 rh51 ls (lv_sub hl [1, 0] rfl) hf
def f_X2_wordAt (n : Nat) (α : hp_T) (a0 : Nat) (a1 : Int32) : Option (Option Nat) :=
  if a1 < 0 then
    some none
  else
    ms_l (hp_I α 152 a0) fun x2 =>
    if x2 ≤ a1 then
      some none
    else
      ms_l (hp_R α 150 a0) fun b4 =>
      if (48 : Int32) ≤ a1 then
        some none
      else
        ms_l (hp_R α 150 a0) fun b6 =>
        ms_g a1 48 <|
        hq_m (hp_Q α 28 b6 (a1).toNatClampNeg) (
          some none) fun b8 =>
        some (some b8)
set_option maxRecDepth 100000 in
set_option maxHeartbeats 4000000 in
theorem n_X2_wordAt (n : Nat) (Γ : hp_G) (l : Launch) (α : hp_T) (g : GC α) (a0 : Nat) (k0 : hp_K α a0 = 3) (a1 : Int32) (res : Option Nat) (hf : f_X2_wordAt n α a0 a1 = some res) : Met l yX2_wordAt (hp_ws yX2_wordAt cX2_wordAt 2 (some (.object "ProvenRecord$Word"))) (hp_rm 0 0 0) (hp_Pc Γ α [.ref a0, .int a1]) (hp_Qq Γ (fun r β => (β = α ∧ r = res) ∧ ∀ b, r = some b → hp_K α b = 10)) 0 0 (hp_A Γ) := by
  unfold f_X2_wordAt at hf
  refine hp_start (by decide) ?_
  intro p e s m below meth c C hr hlk B0 hnm
  have C : hp_C Γ p m c cX2_wordAt 2 s ([.ref a0, .int a1] : List Value).toArray RX2 := C
  have hx := C.1.1
  have hb := C.1.2.1
  have hown := C.1.2.2.2.1
  have hts := C.1.2.2.2.2
  have B : hp_B Γ (cw w_X2_wordAt) s α α s.heap [] := ⟨B0.1, B0.2.1, cw_rf g⟩
  have hl := lv_entry ([.ref a0, .int a1]) (n := 2) (Nat.le_of_ble_eq_true rfl)
  show W p l e (hp_rm 0 0 0) s m ([.ref a0, .int a1] : List Value).toArray below meth c s.heap [] 0 0 (MQ below (hp_Qq Γ (fun r β => (β = α ∧ r = res) ∧ ∀ b, r = some b → hp_K α b = 10)) ([.ref a0, .int a1] : List Value).toArray s 0 0 (hp_A Γ)) (entryFrame m ([.ref a0, .int a1] : List Value).toArray 2)
  rw [lg_entry_eq]
  generalize (lg_sl ([.ref a0, .int a1]) ++ List.replicate (2 - (lg_sl ([.ref a0, .int a1])).length) Slot.unset).toArray = ls at hl ⊢
  have hl : lv_has ls 2 [(0, .ref a0), (1, .int a1)] := hl
  refine lv_iload_n hx hb dX2_wordAt_0 rfl (lv_at hl 1 rfl) (hp_n (n := 1) rfl ?_)
  refine lv_if_lt (tgt := 30) hx hb dX2_wordAt_1 (by decide) (fun c1 => ?_) (fun c1 => hp_n (n := 4) rfl ?_)
  ·
    replace hf := ms_iT c1 hf
    refine lv_null hx hb dX2_wordAt_30 (hp_n (n := 31) rfl ?_)
    cases hf
    exact q_aret (x := none) C B hr hlk ⟨⟨rfl, rfl⟩, fun b h => by cases h⟩ dX2_wordAt_31
  ·
    replace hf := ms_iF c1 hf
    refine lv_iload_n hx hb dX2_wordAt_4 rfl (lv_at hl 1 rfl) (hp_n (n := 5) rfl ?_)
    refine lv_aload_n hx hb dX2_wordAt_5 rfl (lv_at hl 0 rfl) (hp_n (n := 6) rfl ?_)
    refine q_geti (κ := 3) (k := 2) (φ := 152) (pc' := 9) C B (cw_k B.2.2 k0) fl_X2_21 rfl rfl rfl dX2_wordAt_6 rfl (fun x2 ex2 => ?_)
    replace hf := ms_lE ex2 hf
    refine lv_icmp_ge (tgt := 30) hx hb dX2_wordAt_9 (by decide) (fun c3 => ?_) (fun c3 => hp_n (n := 12) rfl ?_)
    ·
      replace hf := ms_iT c3 hf
      refine lv_null hx hb dX2_wordAt_30 (hp_n (n := 31) rfl ?_)
      cases hf
      exact q_aret (x := none) C B hr hlk ⟨⟨rfl, rfl⟩, fun b h => by cases h⟩ dX2_wordAt_31
    ·
      replace hf := ms_iF c3 hf
      refine lv_iload_n hx hb dX2_wordAt_12 rfl (lv_at hl 1 rfl) (hp_n (n := 13) rfl ?_)
      refine lv_aload_n hx hb dX2_wordAt_13 rfl (lv_at hl 0 rfl) (hp_n (n := 14) rfl ?_)
      refine q_getr (κ := 3) (k := 0) (φ := 150) (pc' := 17) C B (cw_k B.2.2 k0) fl_X2_11 rfl rfl rfl (cw_r B.2.2 k0 rfl rfl (by decide) (by decide)) dX2_wordAt_14 rfl (fun b4 eb4 kb4 => ?_)
      replace hf := ms_lE eb4 hf
      refine q_alen (κ := 28) (t := 7) (n := 48) (x := 48) (ty := .object "ProvenRecord$Word") (pc' := 18) C B (cw_k B.2.2 kb4) (by decide) rfl rfl rfl dX2_wordAt_17 rfl ?_
      refine lv_icmp_ge (tgt := 30) hx hb dX2_wordAt_18 (by decide) (fun c5 => ?_) (fun c5 => hp_n (n := 21) rfl ?_)
      ·
        replace hf := ms_iT c5 hf
        refine lv_null hx hb dX2_wordAt_30 (hp_n (n := 31) rfl ?_)
        cases hf
        exact q_aret (x := none) C B hr hlk ⟨⟨rfl, rfl⟩, fun b h => by cases h⟩ dX2_wordAt_31
      ·
        replace hf := ms_iF c5 hf
        refine lv_aload_n hx hb dX2_wordAt_21 rfl (lv_at hl 0 rfl) (hp_n (n := 22) rfl ?_)
        refine q_getr (κ := 3) (k := 0) (φ := 150) (pc' := 25) C B (cw_k B.2.2 k0) fl_X2_11 rfl rfl rfl (cw_r B.2.2 k0 rfl rfl (by decide) (by decide)) dX2_wordAt_22 rfl (fun b6 eb6 kb6 => ?_)
        replace hf := ms_lE eb6 hf
        refine lv_iload_n hx hb dX2_wordAt_25 rfl (lv_at hl 1 rfl) (hp_n (n := 26) rfl ?_)
        obtain ⟨g7, hf⟩ := ms_gE hf
        refine q_aal (κ := 28) (t := 7) (n := 48) (C0 := "ProvenRecord$Word") (pc' := 27) C B (cw_k B.2.2 kb6) (by decide) rfl rfl (by decide) (vi_of g7.1 g7.2) dX2_wordAt_26 rfl ?_
        rcases hq_E hf with ⟨hqb8, hf⟩ | ⟨b8, hqb8, hf⟩
        ·
          rw [hqb8]
          refine lv_goto (tgt := 31) hx hb dX2_wordAt_27 (by decide) ?_
          cases hf
          exact q_aret (x := none) C B hr hlk ⟨⟨rfl, rfl⟩, fun b h => by cases h⟩ dX2_wordAt_31
        ·
          rw [hqb8]
          have kb8 := cw_q B.2.2 kb6 rfl (by decide) hqb8
          refine lv_goto (tgt := 31) hx hb dX2_wordAt_27 (by decide) ?_
          cases hf
          exact q_aret (x := (some b8)) C B hr hlk ⟨⟨rfl, rfl⟩, fun b h => by cases h; exact kb8⟩ dX2_wordAt_31
def f_X2_markAt (n : Nat) (α : hp_T) (a0 : Nat) (a1 : Int32) : Option Int32 :=
  if a1 < 0 then
    some (0 : Int32)
  else
    ms_l (hp_I α 152 a0) fun x2 =>
    if x2 ≤ a1 then
      some (0 : Int32)
    else
      ms_l (hp_R α 151 a0) fun b4 =>
      if (48 : Int32) ≤ a1 then
        some (0 : Int32)
      else
        ms_l (hp_R α 151 a0) fun b6 =>
        ms_g a1 48 <|
        some (hp_E α 29 b6 (a1).toNatClampNeg)
set_option maxRecDepth 100000 in
set_option maxHeartbeats 4000000 in
theorem n_X2_markAt (n : Nat) (Γ : hp_G) (l : Launch) (α : hp_T) (g : GC α) (a0 : Nat) (k0 : hp_K α a0 = 3) (a1 : Int32) (res : Int32) (hf : f_X2_markAt n α a0 a1 = some res) : Met l yX2_markAt (hp_ws yX2_markAt cX2_markAt 2 (some .int)) (hp_rm 0 0 0) (hp_Pc Γ α [.ref a0, .int a1]) (hp_Qi Γ (fun r β => β = α ∧ r = res)) 0 0 (hp_A Γ) := by
  unfold f_X2_markAt at hf
  refine hp_start (by decide) ?_
  intro p e s m below meth c C hr hlk B0 hnm
  have C : hp_C Γ p m c cX2_markAt 2 s ([.ref a0, .int a1] : List Value).toArray RX2 := C
  have hx := C.1.1
  have hb := C.1.2.1
  have hown := C.1.2.2.2.1
  have hts := C.1.2.2.2.2
  have B : hp_B Γ (cw w_X2_markAt) s α α s.heap [] := ⟨B0.1, B0.2.1, cw_rf g⟩
  have hl := lv_entry ([.ref a0, .int a1]) (n := 2) (Nat.le_of_ble_eq_true rfl)
  show W p l e (hp_rm 0 0 0) s m ([.ref a0, .int a1] : List Value).toArray below meth c s.heap [] 0 0 (MQ below (hp_Qi Γ (fun r β => β = α ∧ r = res)) ([.ref a0, .int a1] : List Value).toArray s 0 0 (hp_A Γ)) (entryFrame m ([.ref a0, .int a1] : List Value).toArray 2)
  rw [lg_entry_eq]
  generalize (lg_sl ([.ref a0, .int a1]) ++ List.replicate (2 - (lg_sl ([.ref a0, .int a1])).length) Slot.unset).toArray = ls at hl ⊢
  have hl : lv_has ls 2 [(0, .ref a0), (1, .int a1)] := hl
  refine lv_iload_n hx hb dX2_markAt_0 rfl (lv_at hl 1 rfl) (hp_n (n := 1) rfl ?_)
  refine lv_if_lt (tgt := 30) hx hb dX2_markAt_1 (by decide) (fun c1 => ?_) (fun c1 => hp_n (n := 4) rfl ?_)
  ·
    replace hf := ms_iT c1 hf
    refine lv_iconst (v := 0) hx hb dX2_markAt_30 (by decide) (hp_n (n := 31) rfl ?_)
    cases hf
    exact q_iret C B hr hlk ⟨rfl, rfl⟩ dX2_markAt_31
  ·
    replace hf := ms_iF c1 hf
    refine lv_iload_n hx hb dX2_markAt_4 rfl (lv_at hl 1 rfl) (hp_n (n := 5) rfl ?_)
    refine lv_aload_n hx hb dX2_markAt_5 rfl (lv_at hl 0 rfl) (hp_n (n := 6) rfl ?_)
    refine q_geti (κ := 3) (k := 2) (φ := 152) (pc' := 9) C B (cw_k B.2.2 k0) fl_X2_21 rfl rfl rfl dX2_markAt_6 rfl (fun x2 ex2 => ?_)
    replace hf := ms_lE ex2 hf
    refine lv_icmp_ge (tgt := 30) hx hb dX2_markAt_9 (by decide) (fun c3 => ?_) (fun c3 => hp_n (n := 12) rfl ?_)
    ·
      replace hf := ms_iT c3 hf
      refine lv_iconst (v := 0) hx hb dX2_markAt_30 (by decide) (hp_n (n := 31) rfl ?_)
      cases hf
      exact q_iret C B hr hlk ⟨rfl, rfl⟩ dX2_markAt_31
    ·
      replace hf := ms_iF c3 hf
      refine lv_iload_n hx hb dX2_markAt_12 rfl (lv_at hl 1 rfl) (hp_n (n := 13) rfl ?_)
      refine lv_aload_n hx hb dX2_markAt_13 rfl (lv_at hl 0 rfl) (hp_n (n := 14) rfl ?_)
      refine q_getr (κ := 3) (k := 1) (φ := 151) (pc' := 17) C B (cw_k B.2.2 k0) fl_X2_17 rfl rfl rfl (cw_r B.2.2 k0 rfl rfl (by decide) (by decide)) dX2_markAt_14 rfl (fun b4 eb4 kb4 => ?_)
      replace hf := ms_lE eb4 hf
      refine q_alen (κ := 29) (t := 0) (n := 48) (x := 48) (ty := .int) (pc' := 18) C B (cw_k B.2.2 kb4) (by decide) rfl rfl rfl dX2_markAt_17 rfl ?_
      refine lv_icmp_ge (tgt := 30) hx hb dX2_markAt_18 (by decide) (fun c5 => ?_) (fun c5 => hp_n (n := 21) rfl ?_)
      ·
        replace hf := ms_iT c5 hf
        refine lv_iconst (v := 0) hx hb dX2_markAt_30 (by decide) (hp_n (n := 31) rfl ?_)
        cases hf
        exact q_iret C B hr hlk ⟨rfl, rfl⟩ dX2_markAt_31
      ·
        replace hf := ms_iF c5 hf
        refine lv_aload_n hx hb dX2_markAt_21 rfl (lv_at hl 0 rfl) (hp_n (n := 22) rfl ?_)
        refine q_getr (κ := 3) (k := 1) (φ := 151) (pc' := 25) C B (cw_k B.2.2 k0) fl_X2_17 rfl rfl rfl (cw_r B.2.2 k0 rfl rfl (by decide) (by decide)) dX2_markAt_22 rfl (fun b6 eb6 kb6 => ?_)
        replace hf := ms_lE eb6 hf
        refine lv_iload_n hx hb dX2_markAt_25 rfl (lv_at hl 1 rfl) (hp_n (n := 26) rfl ?_)
        obtain ⟨g7, hf⟩ := ms_gE hf
        refine q_ial (κ := 29) (n := 48) (pc' := 27) C B (cw_k B.2.2 kb6) (by decide) rfl (vi_of g7.1 g7.2) dX2_markAt_26 rfl ?_
        refine lv_goto (tgt := 31) hx hb dX2_markAt_27 (by decide) ?_
        cases hf
        exact q_iret C B hr hlk ⟨rfl, rfl⟩ dX2_markAt_31
def f_X10_treeMarks_J161 (n : Nat) (a0 : Nat) (αh7 : hp_T) : Option (Int32 × hp_T) :=
  ms_l (hp_R αh7 557 a0) fun b8 =>
  ms_g (0 : Int32) 48 <|
  some ((hp_E αh7 33 b8 ((0 : Int32)).toNatClampNeg), αh7)
def f_X10_treeMarks_J148 (n : Nat) (a0 : Nat) (rec55 : hp_T → Int32 → Int32 → Option (Int32 × hp_T)) (αh15 : hp_T) (v4_h15 : Int32) (v5_h15 : Int32) (v6_h15 : Int32) : Option (Int32 × hp_T) :=
  ms_l ((v4_h15 - v6_h15)) fun x16 =>
  ms_l (v5_h15 + 1) fun x17 =>
  rec55 αh15 x16 x17
def f_X10_treeMarks_L77 (n : Nat) (a0 : Nat) (rec55 : hp_T → Int32 → Int32 → Option (Int32 × hp_T)) : Nat → hp_T → Int32 → Int32 → Int32 → Int32 → Option (Int32 × hp_T)
  | 0, _, _, _, _, _ => none
  | k77 + 1, αh13, v4_h13, v5_h13, v6_h13, v7_h13 =>
    if v6_h13 ≤ v7_h13 then
      if (v4_h13 - v4_h13 / (2 : Int32) * (2 : Int32)) = (1 : Int32) then
        ms_l (hp_R αh13 557 a0) fun b19 =>
        ms_l (hp_R αh13 557 a0) fun b20 =>
        ms_g (v4_h13 - (1 : Int32)) 48 <|
        ms_g v6_h13 48 <|
        ms_l (hp_sE αh13 33 b19 (v6_h13).toNatClampNeg (hp_E αh13 33 b20 ((v4_h13 - (1 : Int32))).toNatClampNeg)) fun αh23 =>
        f_X10_treeMarks_J148 n a0 rec55 αh23 v4_h13 v5_h13 v6_h13
      else
        f_X10_treeMarks_J148 n a0 rec55 αh13 v4_h13 v5_h13 v6_h13
    else
      ms_l (hp_R αh13 557 a0) fun b24 =>
      ms_l (hp_I αh13 550 a0) fun x25 =>
      ms_l (hp_R αh13 557 a0) fun b26 =>
      ms_g ((2 : Int32) * v7_h13) 48 <|
      ms_l (hp_R αh13 557 a0) fun b28 =>
      ms_g (((2 : Int32) * v7_h13) + (1 : Int32)) 48 <|
      ms_b (f_X11_markOfTwo n x25 (hp_E αh13 33 b26 (((2 : Int32) * v7_h13)).toNatClampNeg) (hp_E αh13 33 b28 ((((2 : Int32) * v7_h13) + (1 : Int32))).toNatClampNeg)) fun rh30 =>
      ms_g v7_h13 48 <|
      ms_l (hp_sE αh13 33 b24 (v7_h13).toNatClampNeg rh30) fun αh32 =>
      ms_l (v7_h13 + 1) fun x33 =>
      (f_X10_treeMarks_L77 n a0 rec55 k77) αh32 v4_h13 v5_h13 v6_h13 x33
def f_X10_treeMarks_L55 (n : Nat) (a0 : Nat) : Nat → hp_T → Int32 → Int32 → Option (Int32 × hp_T)
  | 0, _, _, _ => none
  | k55 + 1, αh6, v4_h6, v5_h6 =>
    if (40 : Int32) ≤ v5_h6 then
      f_X10_treeMarks_J161 n a0 αh6
    else
      if v4_h6 ≤ (1 : Int32) then
        f_X10_treeMarks_J161 n a0 αh6
      else
        ms_l ((v4_h6 / (2 : Int32))) fun x12 =>
        f_X10_treeMarks_L77 n a0 (f_X10_treeMarks_L55 n a0 k55) n αh6 v4_h6 v5_h6 x12 (0 : Int32)
def f_X10_treeMarks_L24 (n : Nat) (a0 : Nat) : Nat → hp_T → Nat → Int32 → Int32 → Int32 → Option (Int32 × hp_T)
  | 0, _, _, _, _, _ => none
  | k24 + 1, αh4, v1_h4, v2_h4, v4_h4, v5_h4 =>
    if v4_h4 ≤ v5_h4 then
      f_X10_treeMarks_L55 n a0 n αh4 v4_h4 (0 : Int32)
    else
      ms_l (hp_R αh4 557 a0) fun b34 =>
      ms_b (f_X2_markAt n αh4 v1_h4 (v2_h4 + v5_h4)) fun rh35 =>
      ms_g v5_h4 48 <|
      ms_l (hp_sE αh4 33 b34 (v5_h4).toNatClampNeg rh35) fun αh37 =>
      ms_l (v5_h4 + 1) fun x38 =>
      (f_X10_treeMarks_L24 n a0 k24) αh37 v1_h4 v2_h4 v4_h4 x38
def f_X10_treeMark (n : Nat) (α : hp_T) (a0 : Nat) (o1 : Option Nat) (a2 : Int32) (a3 : Int32) : Option (Int32 × hp_T) :=
  hq_m o1 (
    some ((0 : Int32), α)) fun a1 =>
  if 0 < a3 then
    ms_l (hp_R α 557 a0) fun b2 =>
    ms_b (f_J9_min_7cf53 n a3 (48 : Int32)) fun rh3 =>
    f_X10_treeMarks_L24 n a0 n α a1 a2 rh3 (0 : Int32)
  else
    some ((0 : Int32), α)
set_option maxRecDepth 100000 in
set_option maxHeartbeats 4000000 in
theorem n_X10_treeMark (n : Nat) (Γ : hp_G) (l : Launch) (α : hp_T) (g : GC α) (a0 : Nat) (k0 : hp_K α a0 = 11) (o1 : Option Nat) (k1 : ∀ b, o1 = some b → hp_K α b = 3) (a2 : Int32) (a3 : Int32) (res : (Int32 × hp_T)) (hf : f_X10_treeMark n α a0 o1 a2 a3 = some res) : Met l yX10_treeMark (hp_ws yX10_treeMark cX10_treeMark 8 (some .int)) (hp_rm 1 0 0) (hp_Pc Γ α [.ref a0, va_rf o1, .int a2, .int a3]) (hp_Qi Γ (fun r β => r = res.1 ∧ β = res.2 ∧ cw w_X10_treeMark α β)) 0 0 (hp_A Γ) := by
  unfold f_X10_treeMark at hf
  refine hp_start (by decide) ?_
  intro p e s m below meth c C hr hlk B0 hnm
  have C : hp_C Γ p m c cX10_treeMark 8 s ([.ref a0, va_rf o1, .int a2, .int a3] : List Value).toArray RX10 := C
  have hx := C.1.1
  have hb := C.1.2.1
  have hown := C.1.2.2.2.1
  have hts := C.1.2.2.2.2
  have B : hp_B Γ (cw w_X10_treeMark) s α α s.heap [] := ⟨B0.1, B0.2.1, cw_rf g⟩
  rcases o1 with _ | a1
  ·
    replace hf := hq_N hf
    have hl := lv_entry ([.ref a0, .null, .int a2, .int a3]) (n := 8) (Nat.le_of_ble_eq_true rfl)
    show W p l e (hp_rm 1 0 0) s m ([.ref a0, .null, .int a2, .int a3] : List Value).toArray below meth c s.heap [] 0 0 (MQ below (hp_Qi Γ (fun r β => r = res.1 ∧ β = res.2 ∧ cw w_X10_treeMark α β)) ([.ref a0, .null, .int a2, .int a3] : List Value).toArray s 0 0 (hp_A Γ)) (entryFrame m ([.ref a0, .null, .int a2, .int a3] : List Value).toArray 8)
    rw [lg_entry_eq]
    generalize (lg_sl ([.ref a0, .null, .int a2, .int a3]) ++ List.replicate (8 - (lg_sl ([.ref a0, .null, .int a2, .int a3])).length) Slot.unset).toArray = ls at hl ⊢
    have hl : lv_has ls 8 [(0, .ref a0), (1, .null), (2, .int a2), (3, .int a3)] := hl
    refine lv_aload_nN hx hb dX10_treeMark_0 rfl (lv_at hl 1 rfl) (hp_n (n := 1) rfl ?_)
    refine lv_ifnullN (tgt := 8) hx hb dX10_treeMark_1 (by decide) ?_
    refine lv_iconst (v := 0) hx hb dX10_treeMark_8 (by decide) (hp_n (n := 9) rfl ?_)
    cases hf
    exact q_iret C B hr hlk ⟨rfl, rfl, B.2.2⟩ dX10_treeMark_9
  ·
    replace hf := hq_S hf
    have ka1 := k1 a1 rfl
    have hl := lv_entry ([.ref a0, .ref a1, .int a2, .int a3]) (n := 8) (Nat.le_of_ble_eq_true rfl)
    show W p l e (hp_rm 1 0 0) s m ([.ref a0, .ref a1, .int a2, .int a3] : List Value).toArray below meth c s.heap [] 0 0 (MQ below (hp_Qi Γ (fun r β => r = res.1 ∧ β = res.2 ∧ cw w_X10_treeMark α β)) ([.ref a0, .ref a1, .int a2, .int a3] : List Value).toArray s 0 0 (hp_A Γ)) (entryFrame m ([.ref a0, .ref a1, .int a2, .int a3] : List Value).toArray 8)
    rw [lg_entry_eq]
    generalize (lg_sl ([.ref a0, .ref a1, .int a2, .int a3]) ++ List.replicate (8 - (lg_sl ([.ref a0, .ref a1, .int a2, .int a3])).length) Slot.unset).toArray = ls at hl ⊢
    have hl : lv_has ls 8 [(0, .ref a0), (1, .ref a1), (2, .int a2), (3, .int a3)] := hl
    refine lv_aload_n hx hb dX10_treeMark_0 rfl (lv_at hl 1 rfl) (hp_n (n := 1) rfl ?_)
    refine lv_ifnull hx hb dX10_treeMark_1 (hp_n (n := 4) rfl ?_)
    refine lv_iload_n hx hb dX10_treeMark_4 rfl (lv_at hl 3 rfl) (hp_n (n := 5) rfl ?_)
    refine lv_if_gt (tgt := 10) hx hb dX10_treeMark_5 (by decide) (fun c1 => ?_) (fun c1 => hp_n (n := 8) rfl ?_)
    ·
      replace hf := ms_iT c1 hf
      refine lv_iload_n hx hb dX10_treeMark_10 rfl (lv_at hl 3 rfl) (hp_n (n := 11) rfl ?_)
      refine lv_aload_n hx hb dX10_treeMark_11 rfl (lv_at hl 0 rfl) (hp_n (n := 12) rfl ?_)
      refine q_getr (κ := 11) (k := 7) (φ := 557) (pc' := 15) C B (cw_k B.2.2 k0) fl_X10_43 rfl rfl rfl (cw_r B.2.2 k0 rfl rfl (by decide) (by decide)) dX10_treeMark_12 rfl (fun b2 eb2 kb2 => ?_)
      replace hf := ms_lE eb2 hf
      refine q_alen (κ := 33) (t := 0) (n := 48) (x := 48) (ty := .int) (pc' := 16) C B (cw_k B.2.2 kb2) (by decide) rfl rfl rfl dX10_treeMark_15 rfl ?_
      obtain ⟨rh3, qh3, hf⟩ := ms_bE hf
      refine d_pi (pc' := 19) B (hp_runS (As := [.int a3, .int (48 : Int32)]) (rest := []) C B (n_J9_min_7cf53 n Γ l α B.2.2.1 a3 (48 : Int32) rh3 qh3) lb_J9_min_7cf53 ls_J9_min_7cf53 lk_X10_82 rfl (by decide) rfl hl.1 rfl (Nat.le_of_ble_eq_true rfl) dX10_treeMark_16 ⟨Nat.le_refl _, Nat.le_refl _⟩) rfl (fun Hh3 Lh3 Bh3 => ?_)
      refine lv_istore (lv' := [(4, .int rh3), (0, .ref a0), (1, .ref a1), (2, .int a2), (3, .int a3)]) hx hb dX10_treeMark_19 hl (by decide) rfl (fun ls hl => hp_n (n := 21) rfl ?_)
      refine lv_iconst (v := 0) hx hb dX10_treeMark_21 (by decide) (hp_n (n := 22) rfl ?_)
      have J24 : ∀ (k24 : Nat) (αh4 : hp_T) (Hh4 : Heap) (Lh4 : List Loc) (Bh4 : hp_B Γ (cw w_X10_treeMark) s α αh4 Hh4 Lh4) (v1_h4 : Nat) (kv1_h4 : hp_K α v1_h4 = 3) (v2_h4 : Int32) (v4_h4 : Int32) (v5_h4 : Int32) (ls : Array Slot) (hl : lv_has ls 8 [(0, .ref a0), (1, .ref v1_h4), (2, .int v2_h4), (4, .int v4_h4), (5, .int v5_h4)]) (hf : f_X10_treeMarks_L24 n a0 k24 αh4 v1_h4 v2_h4 v4_h4 v5_h4 = some res), W p l e (hp_rm 1 0 0) s m ([.ref a0, .ref a1, .int a2, .int a3] : List Value).toArray below meth c Hh4 Lh4 0 0 (MQ below (hp_Qi Γ (fun r β => r = res.1 ∧ β = res.2 ∧ cw w_X10_treeMark α β)) ([.ref a0, .ref a1, .int a2, .int a3] : List Value).toArray s 0 0 (hp_A Γ)) (F0 m 24 ls []) := by
        intro k24
        induction k24 with
        | zero => intro αh4 Hh4 Lh4 Bh4 v1_h4 kv1_h4 v2_h4 v4_h4 v5_h4 ls hl hf; rw [f_X10_treeMarks_L24.eq_1] at hf; cases hf
        | succ k24 ih24 =>
          intro αh4 Hh4 Lh4 Bh4 v1_h4 kv1_h4 v2_h4 v4_h4 v5_h4 ls hl hf
          rw [f_X10_treeMarks_L24.eq_2] at hf
          refine lv_iload hx hb dX10_treeMark_24 (lv_at hl 4 rfl) (hp_n (n := 26) rfl ?_)
          refine lv_iload hx hb dX10_treeMark_26 (lv_at hl 3 rfl) (hp_n (n := 28) rfl ?_)
          refine lv_icmp_ge (tgt := 52) hx hb dX10_treeMark_28 (by decide) (fun c5 => ?_) (fun c5 => hp_n (n := 31) rfl ?_)
          ·
            replace hf := ms_iT c5 hf
            refine lv_iconst (v := 0) hx hb dX10_treeMark_52 (by decide) (hp_n (n := 53) rfl ?_)
            have J55 : ∀ (k55 : Nat) (αh6 : hp_T) (Hh6 : Heap) (Lh6 : List Loc) (Bh6 : hp_B Γ (cw w_X10_treeMark) s α αh6 Hh6 Lh6) (v4_h6 : Int32) (v5_h6 : Int32) (ls : Array Slot) (hl : lv_has ls 8 [(0, .ref a0), (4, .int v4_h6), (5, .int v5_h6)]) (hf : f_X10_treeMarks_L55 n a0 k55 αh6 v4_h6 v5_h6 = some res), W p l e (hp_rm 1 0 0) s m ([.ref a0, .ref a1, .int a2, .int a3] : List Value).toArray below meth c Hh6 Lh6 0 0 (MQ below (hp_Qi Γ (fun r β => r = res.1 ∧ β = res.2 ∧ cw w_X10_treeMark α β)) ([.ref a0, .ref a1, .int a2, .int a3] : List Value).toArray s 0 0 (hp_A Γ)) (F0 m 55 ls []) := by
              intro k55
              induction k55 with
              | zero => intro αh6 Hh6 Lh6 Bh6 v4_h6 v5_h6 ls hl hf; rw [f_X10_treeMarks_L55.eq_1] at hf; cases hf
              | succ k55 ih55 =>
                intro αh6 Hh6 Lh6 Bh6 v4_h6 v5_h6 ls hl hf
                rw [f_X10_treeMarks_L55.eq_2] at hf
                refine lv_iload hx hb dX10_treeMark_55 (lv_at hl 2 rfl) (hp_n (n := 57) rfl ?_)
                refine lv_bipush (v := 40) hx hb dX10_treeMark_57 (by decide) (hp_n (n := 59) rfl ?_)
                have J161 : ∀ (αh7 : hp_T) (Hh7 : Heap) (Lh7 : List Loc) (Bh7 : hp_B Γ (cw w_X10_treeMark) s α αh7 Hh7 Lh7) (ls : Array Slot) (hl : lv_has ls 8 [(0, .ref a0)]) (hf : f_X10_treeMarks_J161 n a0 αh7 = some res), W p l e (hp_rm 1 0 0) s m ([.ref a0, .ref a1, .int a2, .int a3] : List Value).toArray below meth c Hh7 Lh7 0 0 (MQ below (hp_Qi Γ (fun r β => r = res.1 ∧ β = res.2 ∧ cw w_X10_treeMark α β)) ([.ref a0, .ref a1, .int a2, .int a3] : List Value).toArray s 0 0 (hp_A Γ)) (F0 m 161 ls []) := by
                  intro αh7 Hh7 Lh7 Bh7 ls hl hf
                  unfold f_X10_treeMarks_J161 at hf
                  refine lv_aload_n hx hb dX10_treeMark_161 rfl (lv_at hl 0 rfl) (hp_n (n := 162) rfl ?_)
                  refine q_getr (κ := 11) (k := 7) (φ := 557) (pc' := 165) C Bh7 (cw_k Bh7.2.2 k0) fl_X10_43 rfl rfl rfl (cw_r Bh7.2.2 k0 rfl rfl (by decide) (by decide)) dX10_treeMark_162 rfl (fun b8 eb8 kb8 => ?_)
                  replace hf := ms_lE eb8 hf
                  refine lv_iconst (v := 0) hx hb dX10_treeMark_165 (by decide) (hp_n (n := 166) rfl ?_)
                  obtain ⟨g9, hf⟩ := ms_gE hf
                  refine q_ial (κ := 33) (n := 48) (pc' := 167) C Bh7 (cw_k Bh7.2.2 kb8) (by decide) rfl (vi_of g9.1 g9.2) dX10_treeMark_166 rfl ?_
                  cases hf
                  exact q_iret C Bh7 hr hlk ⟨rfl, rfl, Bh7.2.2⟩ dX10_treeMark_167
                refine lv_icmp_ge (tgt := 161) hx hb dX10_treeMark_59 (by decide) (fun c10 => ?_) (fun c10 => hp_n (n := 62) rfl ?_)
                ·
                  replace hf := ms_iT c10 hf
                  exact J161 αh6 Hh6 Lh6 Bh6 ls (lv_sub hl [0] rfl) hf
                ·
                  replace hf := ms_iF c10 hf
                  refine lv_iload hx hb dX10_treeMark_62 (lv_at hl 1 rfl) (hp_n (n := 64) rfl ?_)
                  refine lv_iconst (v := 1) hx hb dX10_treeMark_64 (by decide) (hp_n (n := 65) rfl ?_)
                  refine lv_icmp_le (tgt := 161) hx hb dX10_treeMark_65 (by decide) (fun c11 => ?_) (fun c11 => hp_n (n := 68) rfl ?_)
                  ·
                    replace hf := ms_iT c11 hf
                    exact J161 αh6 Hh6 Lh6 Bh6 ls (lv_sub hl [0] rfl) hf
                  ·
                    replace hf := ms_iF c11 hf
                    refine lv_iload hx hb dX10_treeMark_68 (lv_at hl 1 rfl) (hp_n (n := 70) rfl ?_)
                    refine lv_iconst (v := 2) hx hb dX10_treeMark_70 (by decide) (hp_n (n := 71) rfl ?_)
                    refine lv_idiv hx hb dX10_treeMark_71 (by decide) (hp_n (n := 72) rfl ?_)
                    refine lv_topi (fun x12 ex12 => ?_)
                    replace hf := ms_lE ex12 hf
                    refine lv_istore (lv' := [(6, .int x12), (0, .ref a0), (4, .int v4_h6), (5, .int v5_h6)]) hx hb dX10_treeMark_72 hl (by decide) rfl (fun ls hl => hp_n (n := 74) rfl ?_)
                    refine lv_iconst (v := 0) hx hb dX10_treeMark_74 (by decide) (hp_n (n := 75) rfl ?_)
                    have J77 : ∀ (k77 : Nat) (αh13 : hp_T) (Hh13 : Heap) (Lh13 : List Loc) (Bh13 : hp_B Γ (cw w_X10_treeMark) s α αh13 Hh13 Lh13) (v4_h13 : Int32) (v5_h13 : Int32) (v6_h13 : Int32) (v7_h13 : Int32) (ls : Array Slot) (hl : lv_has ls 8 [(0, .ref a0), (4, .int v4_h13), (5, .int v5_h13), (6, .int v6_h13), (7, .int v7_h13)]) (hf : f_X10_treeMarks_L77 n a0 (f_X10_treeMarks_L55 n a0 k55) k77 αh13 v4_h13 v5_h13 v6_h13 v7_h13 = some res), W p l e (hp_rm 1 0 0) s m ([.ref a0, .ref a1, .int a2, .int a3] : List Value).toArray below meth c Hh13 Lh13 0 0 (MQ below (hp_Qi Γ (fun r β => r = res.1 ∧ β = res.2 ∧ cw w_X10_treeMark α β)) ([.ref a0, .ref a1, .int a2, .int a3] : List Value).toArray s 0 0 (hp_A Γ)) (F0 m 77 ls []) := by
                      intro k77
                      induction k77 with
                      | zero => intro αh13 Hh13 Lh13 Bh13 v4_h13 v5_h13 v6_h13 v7_h13 ls hl hf; rw [f_X10_treeMarks_L77.eq_1] at hf; cases hf
                      | succ k77 ih77 =>
                        intro αh13 Hh13 Lh13 Bh13 v4_h13 v5_h13 v6_h13 v7_h13 ls hl hf
                        rw [f_X10_treeMarks_L77.eq_2] at hf
                        refine lv_iload hx hb dX10_treeMark_77 (lv_at hl 4 rfl) (hp_n (n := 79) rfl ?_)
                        refine lv_iload hx hb dX10_treeMark_79 (lv_at hl 3 rfl) (hp_n (n := 81) rfl ?_)
                        refine lv_icmp_ge (tgt := 124) hx hb dX10_treeMark_81 (by decide) (fun c14 => ?_) (fun c14 => hp_n (n := 84) rfl ?_)
                        ·
                          replace hf := ms_iT c14 hf
                          refine lv_iload hx hb dX10_treeMark_124 (lv_at hl 1 rfl) (hp_n (n := 126) rfl ?_)
                          refine lv_iconst (v := 2) hx hb dX10_treeMark_126 (by decide) (hp_n (n := 127) rfl ?_)
                          refine lv_irem hx hb dX10_treeMark_127 (by decide) (hp_n (n := 128) rfl ?_)
                          refine lv_iconst (v := 1) hx hb dX10_treeMark_128 (by decide) (hp_n (n := 129) rfl ?_)
                          have J148 : ∀ (αh15 : hp_T) (Hh15 : Heap) (Lh15 : List Loc) (Bh15 : hp_B Γ (cw w_X10_treeMark) s α αh15 Hh15 Lh15) (v4_h15 : Int32) (v5_h15 : Int32) (v6_h15 : Int32) (ls : Array Slot) (hl : lv_has ls 8 [(0, .ref a0), (4, .int v4_h15), (5, .int v5_h15), (6, .int v6_h15)]) (hf : f_X10_treeMarks_J148 n a0 (f_X10_treeMarks_L55 n a0 k55) αh15 v4_h15 v5_h15 v6_h15 = some res), W p l e (hp_rm 1 0 0) s m ([.ref a0, .ref a1, .int a2, .int a3] : List Value).toArray below meth c Hh15 Lh15 0 0 (MQ below (hp_Qi Γ (fun r β => r = res.1 ∧ β = res.2 ∧ cw w_X10_treeMark α β)) ([.ref a0, .ref a1, .int a2, .int a3] : List Value).toArray s 0 0 (hp_A Γ)) (F0 m 148 ls []) := by
                            intro αh15 Hh15 Lh15 Bh15 v4_h15 v5_h15 v6_h15 ls hl hf
                            unfold f_X10_treeMarks_J148 at hf
                            refine lv_iload hx hb dX10_treeMark_148 (lv_at hl 1 rfl) (hp_n (n := 150) rfl ?_)
                            refine lv_iload hx hb dX10_treeMark_150 (lv_at hl 3 rfl) (hp_n (n := 152) rfl ?_)
                            refine lv_isub hx hb dX10_treeMark_152 (hp_n (n := 153) rfl ?_)
                            refine lv_topi (fun x16 ex16 => ?_)
                            replace hf := ms_lE ex16 hf
                            refine lv_istore (lv' := [(4, .int x16), (0, .ref a0), (5, .int v5_h15), (6, .int v6_h15)]) hx hb dX10_treeMark_153 hl (by decide) rfl (fun ls hl => hp_n (n := 155) rfl ?_)
                            obtain ⟨x17, ex17⟩ : ∃ y : Int32, y = v5_h15 + 1 := ⟨_, rfl⟩
                            replace hf := ms_lE ex17 hf
                            refine lv_iinc (v := x17) (lv' := [(5, .int x17), (4, .int x16), (0, .ref a0), (6, .int v6_h15)]) hx hb dX10_treeMark_155 hl (k := 2) rfl (by rw [ex17]; rfl) (by decide) rfl (fun ls hl => hp_n (n := 158) rfl ?_)
                            refine lv_goto (tgt := 55) hx hb dX10_treeMark_158 (by decide) ?_
                            exact ih55 αh15 Hh15 Lh15 Bh15 x16 x17 ls (lv_sub hl [2, 1, 0] rfl) hf
                          refine lv_icmp_ne (tgt := 148) hx hb dX10_treeMark_129 (by decide) (fun c18 => ?_) (fun c18 => hp_n (n := 132) rfl ?_)
                          ·
                            replace hf := ms_iF c18 hf
                            exact J148 αh13 Hh13 Lh13 Bh13 v4_h13 v5_h13 v6_h13 ls (lv_sub hl [0, 1, 2, 3] rfl) hf
                          ·
                            replace hf := ms_iT c18 hf
                            refine lv_aload_n hx hb dX10_treeMark_132 rfl (lv_at hl 0 rfl) (hp_n (n := 133) rfl ?_)
                            refine q_getr (κ := 11) (k := 7) (φ := 557) (pc' := 136) C Bh13 (cw_k Bh13.2.2 k0) fl_X10_43 rfl rfl rfl (cw_r Bh13.2.2 k0 rfl rfl (by decide) (by decide)) dX10_treeMark_133 rfl (fun b19 eb19 kb19 => ?_)
                            replace hf := ms_lE eb19 hf
                            refine lv_iload hx hb dX10_treeMark_136 (lv_at hl 3 rfl) (hp_n (n := 138) rfl ?_)
                            refine lv_aload_n hx hb dX10_treeMark_138 rfl (lv_at hl 0 rfl) (hp_n (n := 139) rfl ?_)
                            refine q_getr (κ := 11) (k := 7) (φ := 557) (pc' := 142) C Bh13 (cw_k Bh13.2.2 k0) fl_X10_43 rfl rfl rfl (cw_r Bh13.2.2 k0 rfl rfl (by decide) (by decide)) dX10_treeMark_139 rfl (fun b20 eb20 kb20 => ?_)
                            replace hf := ms_lE eb20 hf
                            refine lv_iload hx hb dX10_treeMark_142 (lv_at hl 1 rfl) (hp_n (n := 144) rfl ?_)
                            refine lv_iconst (v := 1) hx hb dX10_treeMark_144 (by decide) (hp_n (n := 145) rfl ?_)
                            refine lv_isub hx hb dX10_treeMark_145 (hp_n (n := 146) rfl ?_)
                            obtain ⟨g21, hf⟩ := ms_gE hf
                            refine q_ial (κ := 33) (n := 48) (pc' := 147) C Bh13 (cw_k Bh13.2.2 kb20) (by decide) rfl (vi_of g21.1 g21.2) dX10_treeMark_146 rfl ?_
                            obtain ⟨g22, hf⟩ := ms_gE hf
                            refine q_ias (κ := 33) (n := 48) (pc' := 148) C Bh13 (cw_k Bh13.2.2 kb19) (by decide) rfl (vi_of g22.1 g22.2) rfl (cw_sE Bh13.2.2 (by decide)) dX10_treeMark_147 rfl (fun αh23 Hh23 Lh23 eh23 Bh23 => ?_)
                            replace hf := ms_lE eh23 hf
                            exact J148 αh23 Hh23 Lh23 Bh23 v4_h13 v5_h13 v6_h13 ls (lv_sub hl [0, 1, 2, 3] rfl) hf
                        ·
                          replace hf := ms_iF c14 hf
                          refine lv_aload_n hx hb dX10_treeMark_84 rfl (lv_at hl 0 rfl) (hp_n (n := 85) rfl ?_)
                          refine q_getr (κ := 11) (k := 7) (φ := 557) (pc' := 88) C Bh13 (cw_k Bh13.2.2 k0) fl_X10_43 rfl rfl rfl (cw_r Bh13.2.2 k0 rfl rfl (by decide) (by decide)) dX10_treeMark_85 rfl (fun b24 eb24 kb24 => ?_)
                          replace hf := ms_lE eb24 hf
                          refine lv_iload hx hb dX10_treeMark_88 (lv_at hl 4 rfl) (hp_n (n := 90) rfl ?_)
                          refine lv_aload_n hx hb dX10_treeMark_90 rfl (lv_at hl 0 rfl) (hp_n (n := 91) rfl ?_)
                          refine q_geti (κ := 11) (k := 0) (φ := 550) (pc' := 94) C Bh13 (cw_k Bh13.2.2 k0) fl_X10_10 rfl rfl rfl dX10_treeMark_91 rfl (fun x25 ex25 => ?_)
                          replace hf := ms_lE ex25 hf
                          refine lv_aload_n hx hb dX10_treeMark_94 rfl (lv_at hl 0 rfl) (hp_n (n := 95) rfl ?_)
                          refine q_getr (κ := 11) (k := 7) (φ := 557) (pc' := 98) C Bh13 (cw_k Bh13.2.2 k0) fl_X10_43 rfl rfl rfl (cw_r Bh13.2.2 k0 rfl rfl (by decide) (by decide)) dX10_treeMark_95 rfl (fun b26 eb26 kb26 => ?_)
                          replace hf := ms_lE eb26 hf
                          refine lv_iconst (v := 2) hx hb dX10_treeMark_98 (by decide) (hp_n (n := 99) rfl ?_)
                          refine lv_iload hx hb dX10_treeMark_99 (lv_at hl 4 rfl) (hp_n (n := 101) rfl ?_)
                          refine lv_imul hx hb dX10_treeMark_101 (hp_n (n := 102) rfl ?_)
                          obtain ⟨g27, hf⟩ := ms_gE hf
                          refine q_ial (κ := 33) (n := 48) (pc' := 103) C Bh13 (cw_k Bh13.2.2 kb26) (by decide) rfl (vi_of g27.1 g27.2) dX10_treeMark_102 rfl ?_
                          refine lv_aload_n hx hb dX10_treeMark_103 rfl (lv_at hl 0 rfl) (hp_n (n := 104) rfl ?_)
                          refine q_getr (κ := 11) (k := 7) (φ := 557) (pc' := 107) C Bh13 (cw_k Bh13.2.2 k0) fl_X10_43 rfl rfl rfl (cw_r Bh13.2.2 k0 rfl rfl (by decide) (by decide)) dX10_treeMark_104 rfl (fun b28 eb28 kb28 => ?_)
                          replace hf := ms_lE eb28 hf
                          refine lv_iconst (v := 2) hx hb dX10_treeMark_107 (by decide) (hp_n (n := 108) rfl ?_)
                          refine lv_iload hx hb dX10_treeMark_108 (lv_at hl 4 rfl) (hp_n (n := 110) rfl ?_)
                          refine lv_imul hx hb dX10_treeMark_110 (hp_n (n := 111) rfl ?_)
                          refine lv_iconst (v := 1) hx hb dX10_treeMark_111 (by decide) (hp_n (n := 112) rfl ?_)
                          refine lv_iadd hx hb dX10_treeMark_112 (hp_n (n := 113) rfl ?_)
                          obtain ⟨g29, hf⟩ := ms_gE hf
                          refine q_ial (κ := 33) (n := 48) (pc' := 114) C Bh13 (cw_k Bh13.2.2 kb28) (by decide) rfl (vi_of g29.1 g29.2) dX10_treeMark_113 rfl ?_
                          obtain ⟨rh30, qh30, hf⟩ := ms_bE hf
                          refine d_pi (pc' := 117) Bh13 (hp_runS (As := [.int x25, .int (hp_E αh13 33 b26 (((2 : Int32) * v7_h13)).toNatClampNeg), .int (hp_E αh13 33 b28 ((((2 : Int32) * v7_h13) + (1 : Int32))).toNatClampNeg)]) (rest := [.int v7_h13, .ref b24]) C Bh13 (n_X11_markOfTwo n Γ l αh13 Bh13.2.2.1 x25 (hp_E αh13 33 b26 (((2 : Int32) * v7_h13)).toNatClampNeg) (hp_E αh13 33 b28 ((((2 : Int32) * v7_h13) + (1 : Int32))).toNatClampNeg) rh30 qh30) lb_X11_markOfTwo ls_X11_markOfTwo lk_X10_92 rfl (by decide) rfl hl.1 rfl (Nat.le_of_ble_eq_true rfl) dX10_treeMark_114 ⟨Nat.le_refl _, Nat.le_refl _⟩) rfl (fun Hh30 Lh30 Bh30 => ?_)
                          obtain ⟨g31, hf⟩ := ms_gE hf
                          refine q_ias (κ := 33) (n := 48) (pc' := 118) C Bh30 (cw_k Bh30.2.2 kb24) (by decide) rfl (vi_of g31.1 g31.2) rfl (cw_sE Bh30.2.2 (by decide)) dX10_treeMark_117 rfl (fun αh32 Hh32 Lh32 eh32 Bh32 => ?_)
                          replace hf := ms_lE eh32 hf
                          obtain ⟨x33, ex33⟩ : ∃ y : Int32, y = v7_h13 + 1 := ⟨_, rfl⟩
                          replace hf := ms_lE ex33 hf
                          refine lv_iinc (v := x33) (lv' := [(7, .int x33), (0, .ref a0), (4, .int v4_h13), (5, .int v5_h13), (6, .int v6_h13)]) hx hb dX10_treeMark_118 hl (k := 4) rfl (by rw [ex33]; rfl) (by decide) rfl (fun ls hl => hp_n (n := 121) rfl ?_)
                          refine lv_goto (tgt := 77) hx hb dX10_treeMark_121 (by decide) ?_
                          exact ih77 αh32 Hh32 Lh32 Bh32 v4_h13 v5_h13 v6_h13 x33 ls (lv_sub hl [1, 2, 3, 4, 0] rfl) hf
                    refine lv_istore (lv' := [(7, .int (0 : Int32)), (6, .int x12), (0, .ref a0), (4, .int v4_h6), (5, .int v5_h6)]) hx hb dX10_treeMark_75 hl (by decide) rfl (fun ls hl => hp_n (n := 77) rfl ?_)
                    exact J77 n αh6 Hh6 Lh6 Bh6 v4_h6 v5_h6 x12 (0 : Int32) ls (lv_sub hl [2, 3, 4, 1, 0] rfl) hf
            refine lv_istore (lv' := [(5, .int (0 : Int32)), (0, .ref a0), (1, .ref v1_h4), (2, .int v2_h4), (4, .int v4_h4)]) hx hb dX10_treeMark_53 hl (by decide) rfl (fun ls hl => hp_n (n := 55) rfl ?_)
            exact J55 n αh4 Hh4 Lh4 Bh4 v4_h4 (0 : Int32) ls (lv_sub hl [1, 4, 0] rfl) hf
          ·
            replace hf := ms_iF c5 hf
            refine lv_aload_n hx hb dX10_treeMark_31 rfl (lv_at hl 0 rfl) (hp_n (n := 32) rfl ?_)
            refine q_getr (κ := 11) (k := 7) (φ := 557) (pc' := 35) C Bh4 (cw_k Bh4.2.2 k0) fl_X10_43 rfl rfl rfl (cw_r Bh4.2.2 k0 rfl rfl (by decide) (by decide)) dX10_treeMark_32 rfl (fun b34 eb34 kb34 => ?_)
            replace hf := ms_lE eb34 hf
            refine lv_iload hx hb dX10_treeMark_35 (lv_at hl 4 rfl) (hp_n (n := 37) rfl ?_)
            refine lv_aload_n hx hb dX10_treeMark_37 rfl (lv_at hl 1 rfl) (hp_n (n := 38) rfl ?_)
            refine lv_iload_n hx hb dX10_treeMark_38 rfl (lv_at hl 2 rfl) (hp_n (n := 39) rfl ?_)
            refine lv_iload hx hb dX10_treeMark_39 (lv_at hl 4 rfl) (hp_n (n := 41) rfl ?_)
            refine lv_iadd hx hb dX10_treeMark_41 (hp_n (n := 42) rfl ?_)
            obtain ⟨rh35, qh35, hf⟩ := ms_bE hf
            refine d_pi (pc' := 45) Bh4 (hp_runV (As := [.int (v2_h4 + v5_h4)]) (rest := [.int v5_h4, .ref b34]) C Bh4 (n_X2_markAt n Γ l αh4 Bh4.2.2.1 v1_h4 (cw_k Bh4.2.2 kv1_h4) (v2_h4 + v5_h4) rh35 qh35) lb_X2_markAt lv_X2_markAt lk_X10_88 (cw_k Bh4.2.2 kv1_h4) rfl (by decide) rfl hl.1 rfl (Nat.le_of_ble_eq_true rfl) dX10_treeMark_42 ⟨Nat.le_refl _, Nat.le_refl _⟩) rfl (fun Hh35 Lh35 Bh35 => ?_)
            obtain ⟨g36, hf⟩ := ms_gE hf
            refine q_ias (κ := 33) (n := 48) (pc' := 46) C Bh35 (cw_k Bh35.2.2 kb34) (by decide) rfl (vi_of g36.1 g36.2) rfl (cw_sE Bh35.2.2 (by decide)) dX10_treeMark_45 rfl (fun αh37 Hh37 Lh37 eh37 Bh37 => ?_)
            replace hf := ms_lE eh37 hf
            obtain ⟨x38, ex38⟩ : ∃ y : Int32, y = v5_h4 + 1 := ⟨_, rfl⟩
            replace hf := ms_lE ex38 hf
            refine lv_iinc (v := x38) (lv' := [(5, .int x38), (0, .ref a0), (1, .ref v1_h4), (2, .int v2_h4), (4, .int v4_h4)]) hx hb dX10_treeMark_46 hl (k := 4) rfl (by rw [ex38]; rfl) (by decide) rfl (fun ls hl => hp_n (n := 49) rfl ?_)
            refine lv_goto (tgt := 24) hx hb dX10_treeMark_49 (by decide) ?_
            exact ih24 αh37 Hh37 Lh37 Bh37 v1_h4 kv1_h4 v2_h4 v4_h4 x38 ls (lv_sub hl [1, 2, 3, 4, 0] rfl) hf
      refine lv_istore (lv' := [(5, .int (0 : Int32)), (4, .int rh3), (0, .ref a0), (1, .ref a1), (2, .int a2), (3, .int a3)]) hx hb dX10_treeMark_22 hl (by decide) rfl (fun ls hl => hp_n (n := 24) rfl ?_)
      exact J24 n α Hh3 Lh3 Bh3 a1 ka1 a2 rh3 (0 : Int32) ls (lv_sub hl [2, 3, 4, 1, 0] rfl) hf
    ·
      replace hf := ms_iF c1 hf
      refine lv_iconst (v := 0) hx hb dX10_treeMark_8 (by decide) (hp_n (n := 9) rfl ?_)
      cases hf
      exact q_iret C B hr hlk ⟨rfl, rfl, B.2.2⟩ dX10_treeMark_9
def f_X10_headOf (n : Nat) (α : hp_T) (a0 : Nat) (o1 : Option Nat) (a2 : Int32) : Option (Int32 × hp_T) :=
  hq_m o1 (
    hq_c (f_X10_treeMark n α a0 none (0 : Int32) a2) fun rh1 αh1 =>
    some (rh1, αh1)) fun a1 =>
  hq_c (f_X10_treeMark n α a0 (some a1) (0 : Int32) a2) fun rh2 αh2 =>
  some (rh2, αh2)
set_option maxRecDepth 100000 in
set_option maxHeartbeats 4000000 in
theorem n_X10_headOf (n : Nat) (Γ : hp_G) (l : Launch) (α : hp_T) (g : GC α) (a0 : Nat) (k0 : hp_K α a0 = 11) (o1 : Option Nat) (k1 : ∀ b, o1 = some b → hp_K α b = 3) (a2 : Int32) (res : (Int32 × hp_T)) (hf : f_X10_headOf n α a0 o1 a2 = some res) : Met l yX10_headOf (hp_ws yX10_headOf cX10_headOf 3 (some .int)) (hp_rm 2 0 0) (hp_Pc Γ α [.ref a0, va_rf o1, .int a2]) (hp_Qi Γ (fun r β => r = res.1 ∧ β = res.2 ∧ cw w_X10_headOf α β)) 0 0 (hp_A Γ) := by
  unfold f_X10_headOf at hf
  refine hp_start (by decide) ?_
  intro p e s m below meth c C hr hlk B0 hnm
  have C : hp_C Γ p m c cX10_headOf 3 s ([.ref a0, va_rf o1, .int a2] : List Value).toArray RX10 := C
  have hx := C.1.1
  have hb := C.1.2.1
  have hown := C.1.2.2.2.1
  have hts := C.1.2.2.2.2
  have B : hp_B Γ (cw w_X10_headOf) s α α s.heap [] := ⟨B0.1, B0.2.1, cw_rf g⟩
  rcases o1 with _ | a1
  ·
    replace hf := hq_N hf
    have hl := lv_entry ([.ref a0, .null, .int a2]) (n := 3) (Nat.le_of_ble_eq_true rfl)
    show W p l e (hp_rm 2 0 0) s m ([.ref a0, .null, .int a2] : List Value).toArray below meth c s.heap [] 0 0 (MQ below (hp_Qi Γ (fun r β => r = res.1 ∧ β = res.2 ∧ cw w_X10_headOf α β)) ([.ref a0, .null, .int a2] : List Value).toArray s 0 0 (hp_A Γ)) (entryFrame m ([.ref a0, .null, .int a2] : List Value).toArray 3)
    rw [lg_entry_eq]
    generalize (lg_sl ([.ref a0, .null, .int a2]) ++ List.replicate (3 - (lg_sl ([.ref a0, .null, .int a2])).length) Slot.unset).toArray = ls at hl ⊢
    have hl : lv_has ls 3 [(0, .ref a0), (1, .null), (2, .int a2)] := hl
    refine lv_aload_n hx hb dX10_headOf_0 rfl (lv_at hl 0 rfl) (hp_n (n := 1) rfl ?_)
    refine lv_aload_nN hx hb dX10_headOf_1 rfl (lv_at hl 1 rfl) (hp_n (n := 2) rfl ?_)
    refine lv_iconst (v := 0) hx hb dX10_headOf_2 (by decide) (hp_n (n := 3) rfl ?_)
    refine lv_iload_n hx hb dX10_headOf_3 rfl (lv_at hl 2 rfl) (hp_n (n := 4) rfl ?_)
    obtain ⟨rh1, αh1, qh1, hf⟩ := hq_cE hf
    refine d_ci (pc' := 7) B (hp_runV (As := [va_rf none, .int (0 : Int32), .int a2]) (rest := []) C B (n_X10_treeMark n Γ l α B.2.2.1 a0 (cw_k B.2.2 k0) none (fun b h => by cases h) (0 : Int32) a2 (rh1, αh1) qh1) lb_X10_treeMark lv_X10_treeMark lk_X10_100 (cw_k B.2.2 k0) rfl (by decide) rfl hl.1 rfl (Nat.le_of_ble_eq_true rfl) dX10_headOf_4 ⟨Nat.le_refl _, Nat.le_refl _⟩) (by decide) rfl (fun Hh1 Lh1 Bh1 => ?_)
    cases hf
    exact q_iret C Bh1 hr hlk ⟨rfl, rfl, Bh1.2.2⟩ dX10_headOf_7
  ·
    replace hf := hq_S hf
    have ka1 := k1 a1 rfl
    have hl := lv_entry ([.ref a0, .ref a1, .int a2]) (n := 3) (Nat.le_of_ble_eq_true rfl)
    show W p l e (hp_rm 2 0 0) s m ([.ref a0, .ref a1, .int a2] : List Value).toArray below meth c s.heap [] 0 0 (MQ below (hp_Qi Γ (fun r β => r = res.1 ∧ β = res.2 ∧ cw w_X10_headOf α β)) ([.ref a0, .ref a1, .int a2] : List Value).toArray s 0 0 (hp_A Γ)) (entryFrame m ([.ref a0, .ref a1, .int a2] : List Value).toArray 3)
    rw [lg_entry_eq]
    generalize (lg_sl ([.ref a0, .ref a1, .int a2]) ++ List.replicate (3 - (lg_sl ([.ref a0, .ref a1, .int a2])).length) Slot.unset).toArray = ls at hl ⊢
    have hl : lv_has ls 3 [(0, .ref a0), (1, .ref a1), (2, .int a2)] := hl
    refine lv_aload_n hx hb dX10_headOf_0 rfl (lv_at hl 0 rfl) (hp_n (n := 1) rfl ?_)
    refine lv_aload_n hx hb dX10_headOf_1 rfl (lv_at hl 1 rfl) (hp_n (n := 2) rfl ?_)
    refine lv_iconst (v := 0) hx hb dX10_headOf_2 (by decide) (hp_n (n := 3) rfl ?_)
    refine lv_iload_n hx hb dX10_headOf_3 rfl (lv_at hl 2 rfl) (hp_n (n := 4) rfl ?_)
    obtain ⟨rh2, αh2, qh2, hf⟩ := hq_cE hf
    refine d_ci (pc' := 7) B (hp_runV (As := [va_rf (some a1), .int (0 : Int32), .int a2]) (rest := []) C B (n_X10_treeMark n Γ l α B.2.2.1 a0 (cw_k B.2.2 k0) (some a1) (fun b h => by cases h; exact (cw_k B.2.2 ka1)) (0 : Int32) a2 (rh2, αh2) qh2) lb_X10_treeMark lv_X10_treeMark lk_X10_100 (cw_k B.2.2 k0) rfl (by decide) rfl hl.1 rfl (Nat.le_of_ble_eq_true rfl) dX10_headOf_4 ⟨Nat.le_refl _, Nat.le_refl _⟩) (by decide) rfl (fun Hh2 Lh2 Bh2 => ?_)
    cases hf
    exact q_iret C Bh2 hr hlk ⟨rfl, rfl, Bh2.2.2⟩ dX10_headOf_7
def f_X10_peaksOfn_J44 (n : Nat) (a0 : Nat) (rec12 : hp_T → Int32 → Nat → Int32 → Int32 → Option hp_T) (αh4 : hp_T) (v2_h4 : Int32) (v3_h4 : Nat) (v4_h4 : Int32) (v5_h4 : Int32) : Option hp_T :=
  ms_l ((v5_h4 / (2 : Int32))) fun x5 =>
  rec12 αh4 v2_h4 v3_h4 v4_h4 x5
def f_X10_peaksOfn_L12 (n : Nat) (a0 : Nat) : Nat → hp_T → Int32 → Nat → Int32 → Int32 → Option hp_T
  | 0, _, _, _, _, _ => none
  | k12 + 1, αh2, v2_h2, v3_h2, v4_h2, v5_h2 =>
    if v5_h2 ≤ 0 then
      some αh2
    else
      if (v2_h2 &&& v5_h2) = 0 then
        f_X10_peaksOfn_J44 n a0 (f_X10_peaksOfn_L12 n a0 k12) αh2 v2_h2 v3_h2 v4_h2 v5_h2
      else
        hq_c (f_X10_treeMark n αh2 a0 none v4_h2 v5_h2) fun rh7 αh7 =>
        ms_b (f_X5_put n αh7 v3_h2 rh7) fun αh8 =>
        ms_l ((v4_h2 + v5_h2)) fun x9 =>
        f_X10_peaksOfn_J44 n a0 (f_X10_peaksOfn_L12 n a0 k12) αh8 v2_h2 v3_h2 x9 v5_h2
def f_X10_peaksOfs_J44 (n : Nat) (a0 : Nat) (rec12 : hp_T → Nat → Int32 → Nat → Int32 → Int32 → Option hp_T) (αh13 : hp_T) (v1_h13 : Nat) (v2_h13 : Int32) (v3_h13 : Nat) (v4_h13 : Int32) (v5_h13 : Int32) : Option hp_T :=
  ms_l ((v5_h13 / (2 : Int32))) fun x14 =>
  rec12 αh13 v1_h13 v2_h13 v3_h13 v4_h13 x14
def f_X10_peaksOfs_L12 (n : Nat) (a0 : Nat) : Nat → hp_T → Nat → Int32 → Nat → Int32 → Int32 → Option hp_T
  | 0, _, _, _, _, _, _ => none
  | k12 + 1, αh11, v1_h11, v2_h11, v3_h11, v4_h11, v5_h11 =>
    if v5_h11 ≤ 0 then
      some αh11
    else
      if (v2_h11 &&& v5_h11) = 0 then
        f_X10_peaksOfs_J44 n a0 (f_X10_peaksOfs_L12 n a0 k12) αh11 v1_h11 v2_h11 v3_h11 v4_h11 v5_h11
      else
        hq_c (f_X10_treeMark n αh11 a0 (some v1_h11) v4_h11 v5_h11) fun rh16 αh16 =>
        ms_b (f_X5_put n αh16 v3_h11 rh16) fun αh17 =>
        ms_l ((v4_h11 + v5_h11)) fun x18 =>
        f_X10_peaksOfs_J44 n a0 (f_X10_peaksOfs_L12 n a0 k12) αh17 v1_h11 v2_h11 v3_h11 x18 v5_h11
def f_X10_peaksOf (n : Nat) (α : hp_T) (a0 : Nat) (o1 : Option Nat) (a2 : Int32) (a3 : Nat) : Option hp_T :=
  hq_m o1 (
    ms_b (f_X5_shorten n α a3 (0 : Int32)) fun αh1 =>
    f_X10_peaksOfn_L12 n a0 n αh1 a2 a3 (0 : Int32) (32 : Int32)) fun a1 =>
  ms_b (f_X5_shorten n α a3 (0 : Int32)) fun αh10 =>
  f_X10_peaksOfs_L12 n a0 n αh10 a1 a2 a3 (0 : Int32) (32 : Int32)
set_option maxRecDepth 100000 in
set_option maxHeartbeats 4000000 in
theorem n_X10_peaksOf (n : Nat) (Γ : hp_G) (l : Launch) (α : hp_T) (g : GC α) (a0 : Nat) (k0 : hp_K α a0 = 11) (o1 : Option Nat) (k1 : ∀ b, o1 = some b → hp_K α b = 3) (a2 : Int32) (a3 : Nat) (k3 : hp_K α a3 = 6) (res : hp_T) (hf : f_X10_peaksOf n α a0 o1 a2 a3 = some res) : Met l yX10_peaksOf (hp_ws yX10_peaksOf cX10_peaksOf 6 none) (hp_rm 2 0 0) (hp_Pc Γ α [.ref a0, va_rf o1, .int a2, .ref a3]) (hp_Qv Γ (fun β => β = res ∧ cw w_X10_peaksOf α β)) 0 0 (hp_A Γ) := by
  unfold f_X10_peaksOf at hf
  refine hp_start (by decide) ?_
  intro p e s m below meth c C hr hlk B0 hnm
  have C : hp_C Γ p m c cX10_peaksOf 6 s ([.ref a0, va_rf o1, .int a2, .ref a3] : List Value).toArray RX10 := C
  have hx := C.1.1
  have hb := C.1.2.1
  have hown := C.1.2.2.2.1
  have hts := C.1.2.2.2.2
  have B : hp_B Γ (cw w_X10_peaksOf) s α α s.heap [] := ⟨B0.1, B0.2.1, cw_rf g⟩
  rcases o1 with _ | a1
  ·
    replace hf := hq_N hf
    have hl := lv_entry ([.ref a0, .null, .int a2, .ref a3]) (n := 6) (Nat.le_of_ble_eq_true rfl)
    show W p l e (hp_rm 2 0 0) s m ([.ref a0, .null, .int a2, .ref a3] : List Value).toArray below meth c s.heap [] 0 0 (MQ below (hp_Qv Γ (fun β => β = res ∧ cw w_X10_peaksOf α β)) ([.ref a0, .null, .int a2, .ref a3] : List Value).toArray s 0 0 (hp_A Γ)) (entryFrame m ([.ref a0, .null, .int a2, .ref a3] : List Value).toArray 6)
    rw [lg_entry_eq]
    generalize (lg_sl ([.ref a0, .null, .int a2, .ref a3]) ++ List.replicate (6 - (lg_sl ([.ref a0, .null, .int a2, .ref a3])).length) Slot.unset).toArray = ls at hl ⊢
    have hl : lv_has ls 6 [(0, .ref a0), (1, .null), (2, .int a2), (3, .ref a3)] := hl
    refine lv_aload_n hx hb dX10_peaksOf_0 rfl (lv_at hl 3 rfl) (hp_n (n := 1) rfl ?_)
    refine lv_iconst (v := 0) hx hb dX10_peaksOf_1 (by decide) (hp_n (n := 2) rfl ?_)
    obtain ⟨αh1, qh1, hf⟩ := ms_bE hf
    refine d_cv (pc' := 5) B (hp_runV (As := [.int (0 : Int32)]) (rest := []) C B (n_X5_shorten n Γ l α B.2.2.1 a3 (cw_k B.2.2 k3) (0 : Int32) αh1 qh1) lb_X5_shorten lv_X5_shorten lk_X10_96 (cw_k B.2.2 k3) rfl (by decide) rfl hl.1 rfl (Nat.le_of_ble_eq_true rfl) dX10_peaksOf_2 ⟨Nat.le_refl _, Nat.le_refl _⟩) (by decide) rfl (fun Hh1 Lh1 Bh1 => ?_)
    refine lv_iconst (v := 0) hx hb dX10_peaksOf_5 (by decide) (hp_n (n := 6) rfl ?_)
    refine lv_istore (lv' := [(4, .int (0 : Int32)), (0, .ref a0), (1, .null), (2, .int a2), (3, .ref a3)]) hx hb dX10_peaksOf_6 hl (by decide) rfl (fun ls hl => hp_n (n := 8) rfl ?_)
    refine lv_bipush (v := 32) hx hb dX10_peaksOf_8 (by decide) (hp_n (n := 10) rfl ?_)
    have J12 : ∀ (k12 : Nat) (αh2 : hp_T) (Hh2 : Heap) (Lh2 : List Loc) (Bh2 : hp_B Γ (cw w_X10_peaksOf) s α αh2 Hh2 Lh2) (v2_h2 : Int32) (v3_h2 : Nat) (kv3_h2 : hp_K α v3_h2 = 6) (v4_h2 : Int32) (v5_h2 : Int32) (ls : Array Slot) (hl : lv_has ls 6 [(0, .ref a0), (1, .null), (2, .int v2_h2), (3, .ref v3_h2), (4, .int v4_h2), (5, .int v5_h2)]) (hf : f_X10_peaksOfn_L12 n a0 k12 αh2 v2_h2 v3_h2 v4_h2 v5_h2 = some res), W p l e (hp_rm 2 0 0) s m ([.ref a0, .null, .int a2, .ref a3] : List Value).toArray below meth c Hh2 Lh2 0 0 (MQ below (hp_Qv Γ (fun β => β = res ∧ cw w_X10_peaksOf α β)) ([.ref a0, .null, .int a2, .ref a3] : List Value).toArray s 0 0 (hp_A Γ)) (F0 m 12 ls []) := by
      intro k12
      induction k12 with
      | zero => intro αh2 Hh2 Lh2 Bh2 v2_h2 v3_h2 kv3_h2 v4_h2 v5_h2 ls hl hf; rw [f_X10_peaksOfn_L12.eq_1] at hf; cases hf
      | succ k12 ih12 =>
        intro αh2 Hh2 Lh2 Bh2 v2_h2 v3_h2 kv3_h2 v4_h2 v5_h2 ls hl hf
        rw [f_X10_peaksOfn_L12.eq_2] at hf
        refine lv_iload hx hb dX10_peaksOf_12 (lv_at hl 5 rfl) (hp_n (n := 14) rfl ?_)
        refine lv_if_le (tgt := 53) hx hb dX10_peaksOf_14 (by decide) (fun c3 => ?_) (fun c3 => hp_n (n := 17) rfl ?_)
        ·
          replace hf := ms_iT c3 hf
          cases hf
          exact q_vret C Bh2 hr hlk ⟨rfl, Bh2.2.2⟩ dX10_peaksOf_53
        ·
          replace hf := ms_iF c3 hf
          refine lv_iload_n hx hb dX10_peaksOf_17 rfl (lv_at hl 2 rfl) (hp_n (n := 18) rfl ?_)
          refine lv_iload hx hb dX10_peaksOf_18 (lv_at hl 5 rfl) (hp_n (n := 20) rfl ?_)
          refine lv_iand hx hb dX10_peaksOf_20 (hp_n (n := 21) rfl ?_)
          have J44 : ∀ (αh4 : hp_T) (Hh4 : Heap) (Lh4 : List Loc) (Bh4 : hp_B Γ (cw w_X10_peaksOf) s α αh4 Hh4 Lh4) (v2_h4 : Int32) (v3_h4 : Nat) (kv3_h4 : hp_K α v3_h4 = 6) (v4_h4 : Int32) (v5_h4 : Int32) (ls : Array Slot) (hl : lv_has ls 6 [(0, .ref a0), (1, .null), (2, .int v2_h4), (3, .ref v3_h4), (4, .int v4_h4), (5, .int v5_h4)]) (hf : f_X10_peaksOfn_J44 n a0 (f_X10_peaksOfn_L12 n a0 k12) αh4 v2_h4 v3_h4 v4_h4 v5_h4 = some res), W p l e (hp_rm 2 0 0) s m ([.ref a0, .null, .int a2, .ref a3] : List Value).toArray below meth c Hh4 Lh4 0 0 (MQ below (hp_Qv Γ (fun β => β = res ∧ cw w_X10_peaksOf α β)) ([.ref a0, .null, .int a2, .ref a3] : List Value).toArray s 0 0 (hp_A Γ)) (F0 m 44 ls []) := by
            intro αh4 Hh4 Lh4 Bh4 v2_h4 v3_h4 kv3_h4 v4_h4 v5_h4 ls hl hf
            unfold f_X10_peaksOfn_J44 at hf
            refine lv_iload hx hb dX10_peaksOf_44 (lv_at hl 5 rfl) (hp_n (n := 46) rfl ?_)
            refine lv_iconst (v := 2) hx hb dX10_peaksOf_46 (by decide) (hp_n (n := 47) rfl ?_)
            refine lv_idiv hx hb dX10_peaksOf_47 (by decide) (hp_n (n := 48) rfl ?_)
            refine lv_topi (fun x5 ex5 => ?_)
            replace hf := ms_lE ex5 hf
            refine lv_istore (lv' := [(5, .int x5), (0, .ref a0), (1, .null), (2, .int v2_h4), (3, .ref v3_h4), (4, .int v4_h4)]) hx hb dX10_peaksOf_48 hl (by decide) rfl (fun ls hl => hp_n (n := 50) rfl ?_)
            refine lv_goto (tgt := 12) hx hb dX10_peaksOf_50 (by decide) ?_
            exact ih12 αh4 Hh4 Lh4 Bh4 v2_h4 v3_h4 kv3_h4 v4_h4 x5 ls (lv_sub hl [1, 2, 3, 4, 5, 0] rfl) hf
          refine lv_if_eq (tgt := 44) hx hb dX10_peaksOf_21 (by decide) (fun c6 => ?_) (fun c6 => hp_n (n := 24) rfl ?_)
          ·
            replace hf := ms_iT c6 hf
            exact J44 αh2 Hh2 Lh2 Bh2 v2_h2 v3_h2 kv3_h2 v4_h2 v5_h2 ls (lv_sub hl [0, 1, 2, 3, 4, 5] rfl) hf
          ·
            replace hf := ms_iF c6 hf
            refine lv_aload_n hx hb dX10_peaksOf_24 rfl (lv_at hl 3 rfl) (hp_n (n := 25) rfl ?_)
            refine lv_aload_n hx hb dX10_peaksOf_25 rfl (lv_at hl 0 rfl) (hp_n (n := 26) rfl ?_)
            refine lv_aload_nN hx hb dX10_peaksOf_26 rfl (lv_at hl 1 rfl) (hp_n (n := 27) rfl ?_)
            refine lv_iload hx hb dX10_peaksOf_27 (lv_at hl 4 rfl) (hp_n (n := 29) rfl ?_)
            refine lv_iload hx hb dX10_peaksOf_29 (lv_at hl 5 rfl) (hp_n (n := 31) rfl ?_)
            obtain ⟨rh7, αh7, qh7, hf⟩ := hq_cE hf
            refine d_ci (pc' := 34) Bh2 (hp_runV (As := [va_rf none, .int v4_h2, .int v5_h2]) (rest := [.ref v3_h2]) C Bh2 (n_X10_treeMark n Γ l αh2 Bh2.2.2.1 a0 (cw_k Bh2.2.2 k0) none (fun b h => by cases h) v4_h2 v5_h2 (rh7, αh7) qh7) lb_X10_treeMark lv_X10_treeMark lk_X10_100 (cw_k Bh2.2.2 k0) rfl (by decide) rfl hl.1 rfl (Nat.le_of_ble_eq_true rfl) dX10_peaksOf_31 ⟨Nat.le_refl _, Nat.le_refl _⟩) (by decide) rfl (fun Hh7 Lh7 Bh7 => ?_)
            obtain ⟨αh8, qh8, hf⟩ := ms_bE hf
            refine d_cv (pc' := 37) Bh7 (hp_runV (As := [.int rh7]) (rest := []) C Bh7 (n_X5_put n Γ l αh7 Bh7.2.2.1 v3_h2 (cw_k Bh7.2.2 kv3_h2) rh7 αh8 qh8) lb_X5_put lv_X5_put lk_X10_104 (cw_k Bh7.2.2 kv3_h2) rfl (by decide) rfl hl.1 rfl (Nat.le_of_ble_eq_true rfl) dX10_peaksOf_34 ⟨Nat.le_refl _, Nat.le_refl _⟩) (by decide) rfl (fun Hh8 Lh8 Bh8 => ?_)
            refine lv_iload hx hb dX10_peaksOf_37 (lv_at hl 4 rfl) (hp_n (n := 39) rfl ?_)
            refine lv_iload hx hb dX10_peaksOf_39 (lv_at hl 5 rfl) (hp_n (n := 41) rfl ?_)
            refine lv_iadd hx hb dX10_peaksOf_41 (hp_n (n := 42) rfl ?_)
            refine lv_topi (fun x9 ex9 => ?_)
            replace hf := ms_lE ex9 hf
            refine lv_istore (lv' := [(4, .int x9), (0, .ref a0), (1, .null), (2, .int v2_h2), (3, .ref v3_h2), (5, .int v5_h2)]) hx hb dX10_peaksOf_42 hl (by decide) rfl (fun ls hl => hp_n (n := 44) rfl ?_)
            exact J44 αh8 Hh8 Lh8 Bh8 v2_h2 v3_h2 kv3_h2 x9 v5_h2 ls (lv_sub hl [1, 2, 3, 4, 0, 5] rfl) hf
    refine lv_istore (lv' := [(5, .int (32 : Int32)), (4, .int (0 : Int32)), (0, .ref a0), (1, .null), (2, .int a2), (3, .ref a3)]) hx hb dX10_peaksOf_10 hl (by decide) rfl (fun ls hl => hp_n (n := 12) rfl ?_)
    exact J12 n αh1 Hh1 Lh1 Bh1 a2 a3 k3 (0 : Int32) (32 : Int32) ls (lv_sub hl [2, 3, 4, 5, 1, 0] rfl) hf
  ·
    replace hf := hq_S hf
    have ka1 := k1 a1 rfl
    have hl := lv_entry ([.ref a0, .ref a1, .int a2, .ref a3]) (n := 6) (Nat.le_of_ble_eq_true rfl)
    show W p l e (hp_rm 2 0 0) s m ([.ref a0, .ref a1, .int a2, .ref a3] : List Value).toArray below meth c s.heap [] 0 0 (MQ below (hp_Qv Γ (fun β => β = res ∧ cw w_X10_peaksOf α β)) ([.ref a0, .ref a1, .int a2, .ref a3] : List Value).toArray s 0 0 (hp_A Γ)) (entryFrame m ([.ref a0, .ref a1, .int a2, .ref a3] : List Value).toArray 6)
    rw [lg_entry_eq]
    generalize (lg_sl ([.ref a0, .ref a1, .int a2, .ref a3]) ++ List.replicate (6 - (lg_sl ([.ref a0, .ref a1, .int a2, .ref a3])).length) Slot.unset).toArray = ls at hl ⊢
    have hl : lv_has ls 6 [(0, .ref a0), (1, .ref a1), (2, .int a2), (3, .ref a3)] := hl
    refine lv_aload_n hx hb dX10_peaksOf_0 rfl (lv_at hl 3 rfl) (hp_n (n := 1) rfl ?_)
    refine lv_iconst (v := 0) hx hb dX10_peaksOf_1 (by decide) (hp_n (n := 2) rfl ?_)
    obtain ⟨αh10, qh10, hf⟩ := ms_bE hf
    refine d_cv (pc' := 5) B (hp_runV (As := [.int (0 : Int32)]) (rest := []) C B (n_X5_shorten n Γ l α B.2.2.1 a3 (cw_k B.2.2 k3) (0 : Int32) αh10 qh10) lb_X5_shorten lv_X5_shorten lk_X10_96 (cw_k B.2.2 k3) rfl (by decide) rfl hl.1 rfl (Nat.le_of_ble_eq_true rfl) dX10_peaksOf_2 ⟨Nat.le_refl _, Nat.le_refl _⟩) (by decide) rfl (fun Hh10 Lh10 Bh10 => ?_)
    refine lv_iconst (v := 0) hx hb dX10_peaksOf_5 (by decide) (hp_n (n := 6) rfl ?_)
    refine lv_istore (lv' := [(4, .int (0 : Int32)), (0, .ref a0), (1, .ref a1), (2, .int a2), (3, .ref a3)]) hx hb dX10_peaksOf_6 hl (by decide) rfl (fun ls hl => hp_n (n := 8) rfl ?_)
    refine lv_bipush (v := 32) hx hb dX10_peaksOf_8 (by decide) (hp_n (n := 10) rfl ?_)
    have J12 : ∀ (k12 : Nat) (αh11 : hp_T) (Hh11 : Heap) (Lh11 : List Loc) (Bh11 : hp_B Γ (cw w_X10_peaksOf) s α αh11 Hh11 Lh11) (v1_h11 : Nat) (kv1_h11 : hp_K α v1_h11 = 3) (v2_h11 : Int32) (v3_h11 : Nat) (kv3_h11 : hp_K α v3_h11 = 6) (v4_h11 : Int32) (v5_h11 : Int32) (ls : Array Slot) (hl : lv_has ls 6 [(0, .ref a0), (1, .ref v1_h11), (2, .int v2_h11), (3, .ref v3_h11), (4, .int v4_h11), (5, .int v5_h11)]) (hf : f_X10_peaksOfs_L12 n a0 k12 αh11 v1_h11 v2_h11 v3_h11 v4_h11 v5_h11 = some res), W p l e (hp_rm 2 0 0) s m ([.ref a0, .ref a1, .int a2, .ref a3] : List Value).toArray below meth c Hh11 Lh11 0 0 (MQ below (hp_Qv Γ (fun β => β = res ∧ cw w_X10_peaksOf α β)) ([.ref a0, .ref a1, .int a2, .ref a3] : List Value).toArray s 0 0 (hp_A Γ)) (F0 m 12 ls []) := by
      intro k12
      induction k12 with
      | zero => intro αh11 Hh11 Lh11 Bh11 v1_h11 kv1_h11 v2_h11 v3_h11 kv3_h11 v4_h11 v5_h11 ls hl hf; rw [f_X10_peaksOfs_L12.eq_1] at hf; cases hf
      | succ k12 ih12 =>
        intro αh11 Hh11 Lh11 Bh11 v1_h11 kv1_h11 v2_h11 v3_h11 kv3_h11 v4_h11 v5_h11 ls hl hf
        rw [f_X10_peaksOfs_L12.eq_2] at hf
        refine lv_iload hx hb dX10_peaksOf_12 (lv_at hl 5 rfl) (hp_n (n := 14) rfl ?_)
        refine lv_if_le (tgt := 53) hx hb dX10_peaksOf_14 (by decide) (fun c12 => ?_) (fun c12 => hp_n (n := 17) rfl ?_)
        ·
          replace hf := ms_iT c12 hf
          cases hf
          exact q_vret C Bh11 hr hlk ⟨rfl, Bh11.2.2⟩ dX10_peaksOf_53
        ·
          replace hf := ms_iF c12 hf
          refine lv_iload_n hx hb dX10_peaksOf_17 rfl (lv_at hl 2 rfl) (hp_n (n := 18) rfl ?_)
          refine lv_iload hx hb dX10_peaksOf_18 (lv_at hl 5 rfl) (hp_n (n := 20) rfl ?_)
          refine lv_iand hx hb dX10_peaksOf_20 (hp_n (n := 21) rfl ?_)
          have J44 : ∀ (αh13 : hp_T) (Hh13 : Heap) (Lh13 : List Loc) (Bh13 : hp_B Γ (cw w_X10_peaksOf) s α αh13 Hh13 Lh13) (v1_h13 : Nat) (kv1_h13 : hp_K α v1_h13 = 3) (v2_h13 : Int32) (v3_h13 : Nat) (kv3_h13 : hp_K α v3_h13 = 6) (v4_h13 : Int32) (v5_h13 : Int32) (ls : Array Slot) (hl : lv_has ls 6 [(0, .ref a0), (1, .ref v1_h13), (2, .int v2_h13), (3, .ref v3_h13), (4, .int v4_h13), (5, .int v5_h13)]) (hf : f_X10_peaksOfs_J44 n a0 (f_X10_peaksOfs_L12 n a0 k12) αh13 v1_h13 v2_h13 v3_h13 v4_h13 v5_h13 = some res), W p l e (hp_rm 2 0 0) s m ([.ref a0, .ref a1, .int a2, .ref a3] : List Value).toArray below meth c Hh13 Lh13 0 0 (MQ below (hp_Qv Γ (fun β => β = res ∧ cw w_X10_peaksOf α β)) ([.ref a0, .ref a1, .int a2, .ref a3] : List Value).toArray s 0 0 (hp_A Γ)) (F0 m 44 ls []) := by
            intro αh13 Hh13 Lh13 Bh13 v1_h13 kv1_h13 v2_h13 v3_h13 kv3_h13 v4_h13 v5_h13 ls hl hf
            unfold f_X10_peaksOfs_J44 at hf
            refine lv_iload hx hb dX10_peaksOf_44 (lv_at hl 5 rfl) (hp_n (n := 46) rfl ?_)
            refine lv_iconst (v := 2) hx hb dX10_peaksOf_46 (by decide) (hp_n (n := 47) rfl ?_)
            refine lv_idiv hx hb dX10_peaksOf_47 (by decide) (hp_n (n := 48) rfl ?_)
            refine lv_topi (fun x14 ex14 => ?_)
            replace hf := ms_lE ex14 hf
            refine lv_istore (lv' := [(5, .int x14), (0, .ref a0), (1, .ref v1_h13), (2, .int v2_h13), (3, .ref v3_h13), (4, .int v4_h13)]) hx hb dX10_peaksOf_48 hl (by decide) rfl (fun ls hl => hp_n (n := 50) rfl ?_)
            refine lv_goto (tgt := 12) hx hb dX10_peaksOf_50 (by decide) ?_
            exact ih12 αh13 Hh13 Lh13 Bh13 v1_h13 kv1_h13 v2_h13 v3_h13 kv3_h13 v4_h13 x14 ls (lv_sub hl [1, 2, 3, 4, 5, 0] rfl) hf
          refine lv_if_eq (tgt := 44) hx hb dX10_peaksOf_21 (by decide) (fun c15 => ?_) (fun c15 => hp_n (n := 24) rfl ?_)
          ·
            replace hf := ms_iT c15 hf
            exact J44 αh11 Hh11 Lh11 Bh11 v1_h11 kv1_h11 v2_h11 v3_h11 kv3_h11 v4_h11 v5_h11 ls (lv_sub hl [0, 1, 2, 3, 4, 5] rfl) hf
          ·
            replace hf := ms_iF c15 hf
            refine lv_aload_n hx hb dX10_peaksOf_24 rfl (lv_at hl 3 rfl) (hp_n (n := 25) rfl ?_)
            refine lv_aload_n hx hb dX10_peaksOf_25 rfl (lv_at hl 0 rfl) (hp_n (n := 26) rfl ?_)
            refine lv_aload_n hx hb dX10_peaksOf_26 rfl (lv_at hl 1 rfl) (hp_n (n := 27) rfl ?_)
            refine lv_iload hx hb dX10_peaksOf_27 (lv_at hl 4 rfl) (hp_n (n := 29) rfl ?_)
            refine lv_iload hx hb dX10_peaksOf_29 (lv_at hl 5 rfl) (hp_n (n := 31) rfl ?_)
            obtain ⟨rh16, αh16, qh16, hf⟩ := hq_cE hf
            refine d_ci (pc' := 34) Bh11 (hp_runV (As := [va_rf (some v1_h11), .int v4_h11, .int v5_h11]) (rest := [.ref v3_h11]) C Bh11 (n_X10_treeMark n Γ l αh11 Bh11.2.2.1 a0 (cw_k Bh11.2.2 k0) (some v1_h11) (fun b h => by cases h; exact (cw_k Bh11.2.2 kv1_h11)) v4_h11 v5_h11 (rh16, αh16) qh16) lb_X10_treeMark lv_X10_treeMark lk_X10_100 (cw_k Bh11.2.2 k0) rfl (by decide) rfl hl.1 rfl (Nat.le_of_ble_eq_true rfl) dX10_peaksOf_31 ⟨Nat.le_refl _, Nat.le_refl _⟩) (by decide) rfl (fun Hh16 Lh16 Bh16 => ?_)
            obtain ⟨αh17, qh17, hf⟩ := ms_bE hf
            refine d_cv (pc' := 37) Bh16 (hp_runV (As := [.int rh16]) (rest := []) C Bh16 (n_X5_put n Γ l αh16 Bh16.2.2.1 v3_h11 (cw_k Bh16.2.2 kv3_h11) rh16 αh17 qh17) lb_X5_put lv_X5_put lk_X10_104 (cw_k Bh16.2.2 kv3_h11) rfl (by decide) rfl hl.1 rfl (Nat.le_of_ble_eq_true rfl) dX10_peaksOf_34 ⟨Nat.le_refl _, Nat.le_refl _⟩) (by decide) rfl (fun Hh17 Lh17 Bh17 => ?_)
            refine lv_iload hx hb dX10_peaksOf_37 (lv_at hl 4 rfl) (hp_n (n := 39) rfl ?_)
            refine lv_iload hx hb dX10_peaksOf_39 (lv_at hl 5 rfl) (hp_n (n := 41) rfl ?_)
            refine lv_iadd hx hb dX10_peaksOf_41 (hp_n (n := 42) rfl ?_)
            refine lv_topi (fun x18 ex18 => ?_)
            replace hf := ms_lE ex18 hf
            refine lv_istore (lv' := [(4, .int x18), (0, .ref a0), (1, .ref v1_h11), (2, .int v2_h11), (3, .ref v3_h11), (5, .int v5_h11)]) hx hb dX10_peaksOf_42 hl (by decide) rfl (fun ls hl => hp_n (n := 44) rfl ?_)
            exact J44 αh17 Hh17 Lh17 Bh17 v1_h11 kv1_h11 v2_h11 v3_h11 kv3_h11 x18 v5_h11 ls (lv_sub hl [1, 2, 3, 4, 0, 5] rfl) hf
    refine lv_istore (lv' := [(5, .int (32 : Int32)), (4, .int (0 : Int32)), (0, .ref a0), (1, .ref a1), (2, .int a2), (3, .ref a3)]) hx hb dX10_peaksOf_10 hl (by decide) rfl (fun ls hl => hp_n (n := 12) rfl ?_)
    exact J12 n αh10 Hh10 Lh10 Bh10 a1 ka1 a2 a3 k3 (0 : Int32) (32 : Int32) ls (lv_sub hl [2, 3, 4, 5, 1, 0] rfl) hf
def f_X2_putWord (n : Nat) (α : hp_T) (a0 : Nat) (a1 : Nat) (a2 : Int32) : Option hp_T :=
  ms_l (hp_I α 152 a0) fun x1 =>
  if x1 < 0 then
    some α
  else
    ms_l (hp_I α 152 a0) fun x3 =>
    ms_l (hp_R α 150 a0) fun b4 =>
    if (48 : Int32) ≤ x3 then
      some α
    else
      ms_l (hp_I α 152 a0) fun x6 =>
      ms_l (hp_R α 151 a0) fun b7 =>
      if (48 : Int32) ≤ x6 then
        some α
      else
        ms_l (hp_R α 150 a0) fun b9 =>
        ms_l (hp_I α 152 a0) fun x10 =>
        ms_g x10 48 <|
        hq_m (hp_Q α 28 b9 (x10).toNatClampNeg) (
          some α) fun b12 =>
        ms_l (hp_R α 150 a0) fun b13 =>
        ms_l (hp_I α 152 a0) fun x14 =>
        ms_g x14 48 <|
        hq_m (hp_Q α 28 b13 (x14).toNatClampNeg) (
          none) fun b16 =>
        ms_b (f_X9_copy n α b16 a1) fun αh18 =>
        ms_l (hp_R αh18 151 a0) fun b19 =>
        ms_l (hp_I αh18 152 a0) fun x20 =>
        ms_b (f_X9_markBy n αh18 a1 a2) fun rh21 =>
        ms_g x20 48 <|
        ms_l (hp_sE αh18 29 b19 (x20).toNatClampNeg rh21) fun αh23 =>
        ms_l (hp_I αh23 152 a0) fun x24 =>
        ms_l (hp_sI αh23 152 a0 (x24 + (1 : Int32))) fun αh25 =>
        some αh25
set_option maxRecDepth 100000 in
set_option maxHeartbeats 4000000 in
theorem n_X2_putWord (n : Nat) (Γ : hp_G) (l : Launch) (α : hp_T) (g : GC α) (a0 : Nat) (k0 : hp_K α a0 = 3) (a1 : Nat) (k1 : hp_K α a1 = 10) (a2 : Int32) (res : hp_T) (hf : f_X2_putWord n α a0 a1 a2 = some res) : Met l yX2_putWord (hp_ws yX2_putWord cX2_putWord 3 none) (hp_rm 2 0 0) (hp_Pc Γ α [.ref a0, .ref a1, .int a2]) (hp_Qv Γ (fun β => β = res ∧ cw w_X2_putWord α β)) 0 0 (hp_A Γ) := by
  unfold f_X2_putWord at hf
  refine hp_start (by decide) ?_
  intro p e s m below meth c C hr hlk B0 hnm
  have C : hp_C Γ p m c cX2_putWord 3 s ([.ref a0, .ref a1, .int a2] : List Value).toArray RX2 := C
  have hx := C.1.1
  have hb := C.1.2.1
  have hown := C.1.2.2.2.1
  have hts := C.1.2.2.2.2
  have B : hp_B Γ (cw w_X2_putWord) s α α s.heap [] := ⟨B0.1, B0.2.1, cw_rf g⟩
  have hl := lv_entry ([.ref a0, .ref a1, .int a2]) (n := 3) (Nat.le_of_ble_eq_true rfl)
  show W p l e (hp_rm 2 0 0) s m ([.ref a0, .ref a1, .int a2] : List Value).toArray below meth c s.heap [] 0 0 (MQ below (hp_Qv Γ (fun β => β = res ∧ cw w_X2_putWord α β)) ([.ref a0, .ref a1, .int a2] : List Value).toArray s 0 0 (hp_A Γ)) (entryFrame m ([.ref a0, .ref a1, .int a2] : List Value).toArray 3)
  rw [lg_entry_eq]
  generalize (lg_sl ([.ref a0, .ref a1, .int a2]) ++ List.replicate (3 - (lg_sl ([.ref a0, .ref a1, .int a2])).length) Slot.unset).toArray = ls at hl ⊢
  have hl : lv_has ls 3 [(0, .ref a0), (1, .ref a1), (2, .int a2)] := hl
  refine lv_aload_n hx hb dX2_putWord_0 rfl (lv_at hl 0 rfl) (hp_n (n := 1) rfl ?_)
  refine q_geti (κ := 3) (k := 2) (φ := 152) (pc' := 4) C B (cw_k B.2.2 k0) fl_X2_21 rfl rfl rfl dX2_putWord_1 rfl (fun x1 ex1 => ?_)
  replace hf := ms_lE ex1 hf
  refine lv_if_lt (tgt := 43) hx hb dX2_putWord_4 (by decide) (fun c2 => ?_) (fun c2 => hp_n (n := 7) rfl ?_)
  ·
    replace hf := ms_iT c2 hf
    cases hf
    exact q_vret C B hr hlk ⟨rfl, B.2.2⟩ dX2_putWord_43
  ·
    replace hf := ms_iF c2 hf
    refine lv_aload_n hx hb dX2_putWord_7 rfl (lv_at hl 0 rfl) (hp_n (n := 8) rfl ?_)
    refine q_geti (κ := 3) (k := 2) (φ := 152) (pc' := 11) C B (cw_k B.2.2 k0) fl_X2_21 rfl rfl rfl dX2_putWord_8 rfl (fun x3 ex3 => ?_)
    replace hf := ms_lE ex3 hf
    refine lv_aload_n hx hb dX2_putWord_11 rfl (lv_at hl 0 rfl) (hp_n (n := 12) rfl ?_)
    refine q_getr (κ := 3) (k := 0) (φ := 150) (pc' := 15) C B (cw_k B.2.2 k0) fl_X2_11 rfl rfl rfl (cw_r B.2.2 k0 rfl rfl (by decide) (by decide)) dX2_putWord_12 rfl (fun b4 eb4 kb4 => ?_)
    replace hf := ms_lE eb4 hf
    refine q_alen (κ := 28) (t := 7) (n := 48) (x := 48) (ty := .object "ProvenRecord$Word") (pc' := 16) C B (cw_k B.2.2 kb4) (by decide) rfl rfl rfl dX2_putWord_15 rfl ?_
    refine lv_icmp_ge (tgt := 43) hx hb dX2_putWord_16 (by decide) (fun c5 => ?_) (fun c5 => hp_n (n := 19) rfl ?_)
    ·
      replace hf := ms_iT c5 hf
      cases hf
      exact q_vret C B hr hlk ⟨rfl, B.2.2⟩ dX2_putWord_43
    ·
      replace hf := ms_iF c5 hf
      refine lv_aload_n hx hb dX2_putWord_19 rfl (lv_at hl 0 rfl) (hp_n (n := 20) rfl ?_)
      refine q_geti (κ := 3) (k := 2) (φ := 152) (pc' := 23) C B (cw_k B.2.2 k0) fl_X2_21 rfl rfl rfl dX2_putWord_20 rfl (fun x6 ex6 => ?_)
      replace hf := ms_lE ex6 hf
      refine lv_aload_n hx hb dX2_putWord_23 rfl (lv_at hl 0 rfl) (hp_n (n := 24) rfl ?_)
      refine q_getr (κ := 3) (k := 1) (φ := 151) (pc' := 27) C B (cw_k B.2.2 k0) fl_X2_17 rfl rfl rfl (cw_r B.2.2 k0 rfl rfl (by decide) (by decide)) dX2_putWord_24 rfl (fun b7 eb7 kb7 => ?_)
      replace hf := ms_lE eb7 hf
      refine q_alen (κ := 29) (t := 0) (n := 48) (x := 48) (ty := .int) (pc' := 28) C B (cw_k B.2.2 kb7) (by decide) rfl rfl rfl dX2_putWord_27 rfl ?_
      refine lv_icmp_ge (tgt := 43) hx hb dX2_putWord_28 (by decide) (fun c8 => ?_) (fun c8 => hp_n (n := 31) rfl ?_)
      ·
        replace hf := ms_iT c8 hf
        cases hf
        exact q_vret C B hr hlk ⟨rfl, B.2.2⟩ dX2_putWord_43
      ·
        replace hf := ms_iF c8 hf
        refine lv_aload_n hx hb dX2_putWord_31 rfl (lv_at hl 0 rfl) (hp_n (n := 32) rfl ?_)
        refine q_getr (κ := 3) (k := 0) (φ := 150) (pc' := 35) C B (cw_k B.2.2 k0) fl_X2_11 rfl rfl rfl (cw_r B.2.2 k0 rfl rfl (by decide) (by decide)) dX2_putWord_32 rfl (fun b9 eb9 kb9 => ?_)
        replace hf := ms_lE eb9 hf
        refine lv_aload_n hx hb dX2_putWord_35 rfl (lv_at hl 0 rfl) (hp_n (n := 36) rfl ?_)
        refine q_geti (κ := 3) (k := 2) (φ := 152) (pc' := 39) C B (cw_k B.2.2 k0) fl_X2_21 rfl rfl rfl dX2_putWord_36 rfl (fun x10 ex10 => ?_)
        replace hf := ms_lE ex10 hf
        obtain ⟨g11, hf⟩ := ms_gE hf
        refine q_aal (κ := 28) (t := 7) (n := 48) (C0 := "ProvenRecord$Word") (pc' := 40) C B (cw_k B.2.2 kb9) (by decide) rfl rfl (by decide) (vi_of g11.1 g11.2) dX2_putWord_39 rfl ?_
        rcases hq_E hf with ⟨hqb12, hf⟩ | ⟨b12, hqb12, hf⟩
        ·
          rw [hqb12]
          refine lv_ifnonnullN hx hb dX2_putWord_40 (hp_n (n := 43) rfl ?_)
          cases hf
          exact q_vret C B hr hlk ⟨rfl, B.2.2⟩ dX2_putWord_43
        ·
          rw [hqb12]
          have kb12 := cw_q B.2.2 kb9 rfl (by decide) hqb12
          refine lv_ifnonnull (tgt := 44) hx hb dX2_putWord_40 (by decide) ?_
          refine lv_aload_n hx hb dX2_putWord_44 rfl (lv_at hl 0 rfl) (hp_n (n := 45) rfl ?_)
          refine q_getr (κ := 3) (k := 0) (φ := 150) (pc' := 48) C B (cw_k B.2.2 k0) fl_X2_11 rfl rfl rfl (cw_r B.2.2 k0 rfl rfl (by decide) (by decide)) dX2_putWord_45 rfl (fun b13 eb13 kb13 => ?_)
          replace hf := ms_lE eb13 hf
          refine lv_aload_n hx hb dX2_putWord_48 rfl (lv_at hl 0 rfl) (hp_n (n := 49) rfl ?_)
          refine q_geti (κ := 3) (k := 2) (φ := 152) (pc' := 52) C B (cw_k B.2.2 k0) fl_X2_21 rfl rfl rfl dX2_putWord_49 rfl (fun x14 ex14 => ?_)
          replace hf := ms_lE ex14 hf
          obtain ⟨g15, hf⟩ := ms_gE hf
          refine q_aal (κ := 28) (t := 7) (n := 48) (C0 := "ProvenRecord$Word") (pc' := 53) C B (cw_k B.2.2 kb13) (by decide) rfl rfl (by decide) (vi_of g15.1 g15.2) dX2_putWord_52 rfl ?_
          rcases hq_E hf with ⟨hqb16, hf⟩ | ⟨b16, hqb16, hf⟩
          ·
            rw [hqb16]
            refine lv_aload_n hx hb dX2_putWord_53 rfl (lv_at hl 1 rfl) (hp_n (n := 54) rfl ?_)
            cases hf
          ·
            rw [hqb16]
            have kb16 := cw_q B.2.2 kb13 rfl (by decide) hqb16
            refine lv_aload_n hx hb dX2_putWord_53 rfl (lv_at hl 1 rfl) (hp_n (n := 54) rfl ?_)
            obtain ⟨αh18, qh18, hf⟩ := ms_bE hf
            refine d_cv (pc' := 57) B (hp_runV (As := [.ref a1]) (rest := []) C B (n_X9_copy n Γ l α B.2.2.1 b16 (cw_k B.2.2 kb16) a1 (cw_k B.2.2 k1) αh18 qh18) lb_X9_copy lv_X9_copy lk_X2_26 (cw_k B.2.2 kb16) rfl (by decide) rfl hl.1 rfl (Nat.le_of_ble_eq_true rfl) dX2_putWord_54 ⟨Nat.le_refl _, Nat.le_refl _⟩) (by decide) rfl (fun Hh18 Lh18 Bh18 => ?_)
            refine lv_aload_n hx hb dX2_putWord_57 rfl (lv_at hl 0 rfl) (hp_n (n := 58) rfl ?_)
            refine q_getr (κ := 3) (k := 1) (φ := 151) (pc' := 61) C Bh18 (cw_k Bh18.2.2 k0) fl_X2_17 rfl rfl rfl (cw_r Bh18.2.2 k0 rfl rfl (by decide) (by decide)) dX2_putWord_58 rfl (fun b19 eb19 kb19 => ?_)
            replace hf := ms_lE eb19 hf
            refine lv_aload_n hx hb dX2_putWord_61 rfl (lv_at hl 0 rfl) (hp_n (n := 62) rfl ?_)
            refine q_geti (κ := 3) (k := 2) (φ := 152) (pc' := 65) C Bh18 (cw_k Bh18.2.2 k0) fl_X2_21 rfl rfl rfl dX2_putWord_62 rfl (fun x20 ex20 => ?_)
            replace hf := ms_lE ex20 hf
            refine lv_aload_n hx hb dX2_putWord_65 rfl (lv_at hl 1 rfl) (hp_n (n := 66) rfl ?_)
            refine lv_iload_n hx hb dX2_putWord_66 rfl (lv_at hl 2 rfl) (hp_n (n := 67) rfl ?_)
            obtain ⟨rh21, qh21, hf⟩ := ms_bE hf
            refine d_pi (pc' := 70) Bh18 (hp_runV (As := [.int a2]) (rest := [.int x20, .ref b19]) C Bh18 (n_X9_markBy n Γ l αh18 Bh18.2.2.1 a1 (cw_k Bh18.2.2 k1) a2 rh21 qh21) lb_X9_markBy lv_X9_markBy lk_X2_30 (cw_k Bh18.2.2 k1) rfl (by decide) rfl hl.1 rfl (Nat.le_of_ble_eq_true rfl) dX2_putWord_67 ⟨Nat.le_refl _, Nat.le_refl _⟩) rfl (fun Hh21 Lh21 Bh21 => ?_)
            obtain ⟨g22, hf⟩ := ms_gE hf
            refine q_ias (κ := 29) (n := 48) (pc' := 71) C Bh21 (cw_k Bh21.2.2 kb19) (by decide) rfl (vi_of g22.1 g22.2) rfl (cw_sE Bh21.2.2 (by decide)) dX2_putWord_70 rfl (fun αh23 Hh23 Lh23 eh23 Bh23 => ?_)
            replace hf := ms_lE eh23 hf
            refine lv_aload_n hx hb dX2_putWord_71 rfl (lv_at hl 0 rfl) (hp_n (n := 72) rfl ?_)
            refine lv_dup hx hb dX2_putWord_72 rfl (hp_n (n := 73) rfl ?_)
            refine q_geti (κ := 3) (k := 2) (φ := 152) (pc' := 76) C Bh23 (cw_k Bh23.2.2 k0) fl_X2_21 rfl rfl rfl dX2_putWord_73 rfl (fun x24 ex24 => ?_)
            replace hf := ms_lE ex24 hf
            refine lv_iconst (v := 1) hx hb dX2_putWord_76 (by decide) (hp_n (n := 77) rfl ?_)
            refine lv_iadd hx hb dX2_putWord_77 (hp_n (n := 78) rfl ?_)
            refine q_puti (κ := 3) (k := 2) (φ := 152) (pc' := 81) C Bh23 (cw_k Bh23.2.2 k0) fl_X2_21 rfl rfl rfl rfl rfl rfl (cw_sI Bh23.2.2 (by decide) (fun h => absurd h (by decide))) dX2_putWord_78 rfl (fun αh25 Hh25 Lh25 eh25 Bh25 => ?_)
            replace hf := ms_lE eh25 hf
            cases hf
            exact q_vret C Bh25 hr hlk ⟨rfl, Bh25.2.2⟩ dX2_putWord_81
def f_X10_addWord (n : Nat) (α : hp_T) (a0 : Nat) (a1 : Nat) (a2 : Nat) : Option hp_T :=
  ms_l (hp_I α 550 a0) fun x1 =>
  ms_b (f_X2_putWord n α a1 a2 x1) fun αh2 =>
  ms_l (hp_I αh2 556 a0) fun x3 =>
  ms_l (hp_sI αh2 556 a0 (x3 + (1 : Int32))) fun αh4 =>
  some αh4
set_option maxRecDepth 100000 in
set_option maxHeartbeats 4000000 in
theorem n_X10_addWord (n : Nat) (Γ : hp_G) (l : Launch) (α : hp_T) (g : GC α) (a0 : Nat) (k0 : hp_K α a0 = 11) (a1 : Nat) (k1 : hp_K α a1 = 3) (a2 : Nat) (k2 : hp_K α a2 = 10) (res : hp_T) (hf : f_X10_addWord n α a0 a1 a2 = some res) : Met l yX10_addWord (hp_ws yX10_addWord cX10_addWord 3 none) (hp_rm 3 0 0) (hp_Pc Γ α [.ref a0, .ref a1, .ref a2]) (hp_Qv Γ (fun β => β = res ∧ cw w_X10_addWord α β)) 0 0 (hp_A Γ) := by
  unfold f_X10_addWord at hf
  refine hp_start (by decide) ?_
  intro p e s m below meth c C hr hlk B0 hnm
  have C : hp_C Γ p m c cX10_addWord 3 s ([.ref a0, .ref a1, .ref a2] : List Value).toArray RX10 := C
  have hx := C.1.1
  have hb := C.1.2.1
  have hown := C.1.2.2.2.1
  have hts := C.1.2.2.2.2
  have B : hp_B Γ (cw w_X10_addWord) s α α s.heap [] := ⟨B0.1, B0.2.1, cw_rf g⟩
  have hl := lv_entry ([.ref a0, .ref a1, .ref a2]) (n := 3) (Nat.le_of_ble_eq_true rfl)
  show W p l e (hp_rm 3 0 0) s m ([.ref a0, .ref a1, .ref a2] : List Value).toArray below meth c s.heap [] 0 0 (MQ below (hp_Qv Γ (fun β => β = res ∧ cw w_X10_addWord α β)) ([.ref a0, .ref a1, .ref a2] : List Value).toArray s 0 0 (hp_A Γ)) (entryFrame m ([.ref a0, .ref a1, .ref a2] : List Value).toArray 3)
  rw [lg_entry_eq]
  generalize (lg_sl ([.ref a0, .ref a1, .ref a2]) ++ List.replicate (3 - (lg_sl ([.ref a0, .ref a1, .ref a2])).length) Slot.unset).toArray = ls at hl ⊢
  have hl : lv_has ls 3 [(0, .ref a0), (1, .ref a1), (2, .ref a2)] := hl
  refine lv_aload_n hx hb dX10_addWord_0 rfl (lv_at hl 1 rfl) (hp_n (n := 1) rfl ?_)
  refine lv_aload_n hx hb dX10_addWord_1 rfl (lv_at hl 2 rfl) (hp_n (n := 2) rfl ?_)
  refine lv_aload_n hx hb dX10_addWord_2 rfl (lv_at hl 0 rfl) (hp_n (n := 3) rfl ?_)
  refine q_geti (κ := 11) (k := 0) (φ := 550) (pc' := 6) C B (cw_k B.2.2 k0) fl_X10_10 rfl rfl rfl dX10_addWord_3 rfl (fun x1 ex1 => ?_)
  replace hf := ms_lE ex1 hf
  obtain ⟨αh2, qh2, hf⟩ := ms_bE hf
  refine d_cv (pc' := 9) B (hp_runV (As := [.ref a2, .int x1]) (rest := []) C B (n_X2_putWord n Γ l α B.2.2.1 a1 (cw_k B.2.2 k1) a2 (cw_k B.2.2 k2) x1 αh2 qh2) lb_X2_putWord lv_X2_putWord lk_X10_120 (cw_k B.2.2 k1) rfl (by decide) rfl hl.1 rfl (Nat.le_of_ble_eq_true rfl) dX10_addWord_6 ⟨Nat.le_refl _, Nat.le_refl _⟩) (by decide) rfl (fun Hh2 Lh2 Bh2 => ?_)
  refine lv_aload_n hx hb dX10_addWord_9 rfl (lv_at hl 0 rfl) (hp_n (n := 10) rfl ?_)
  refine lv_dup hx hb dX10_addWord_10 rfl (hp_n (n := 11) rfl ?_)
  refine q_geti (κ := 11) (k := 6) (φ := 556) (pc' := 14) C Bh2 (cw_k Bh2.2.2 k0) fl_X10_40 rfl rfl rfl dX10_addWord_11 rfl (fun x3 ex3 => ?_)
  replace hf := ms_lE ex3 hf
  refine lv_iconst (v := 1) hx hb dX10_addWord_14 (by decide) (hp_n (n := 15) rfl ?_)
  refine lv_iadd hx hb dX10_addWord_15 (hp_n (n := 16) rfl ?_)
  refine q_puti (κ := 11) (k := 6) (φ := 556) (pc' := 19) C Bh2 (cw_k Bh2.2.2 k0) fl_X10_40 rfl rfl rfl rfl rfl rfl (cw_sI Bh2.2.2 (by decide) (fun h => absurd h (by decide))) dX10_addWord_16 rfl (fun αh4 Hh4 Lh4 eh4 Bh4 => ?_)
  replace hf := ms_lE eh4 hf
  cases hf
  exact q_vret C Bh4 hr hlk ⟨rfl, Bh4.2.2⟩ dX10_addWord_19
def f_X10_logAt (n : Nat) (α : hp_T) (a0 : Nat) (a1 : Int32) : Option (Option Nat) :=
  if a1 < 0 then
    some none
  else
    ms_l (hp_I α 552 a0) fun x2 =>
    if x2 ≤ a1 then
      some none
    else
      ms_l (hp_R α 551 a0) fun b4 =>
      if (4 : Int32) ≤ a1 then
        some none
      else
        ms_l (hp_R α 551 a0) fun b6 =>
        ms_g a1 4 <|
        hq_m (hp_Q α 30 b6 (a1).toNatClampNeg) (
          some none) fun b8 =>
        some (some b8)
set_option maxRecDepth 100000 in
set_option maxHeartbeats 4000000 in
theorem n_X10_logAt (n : Nat) (Γ : hp_G) (l : Launch) (α : hp_T) (g : GC α) (a0 : Nat) (k0 : hp_K α a0 = 11) (a1 : Int32) (res : Option Nat) (hf : f_X10_logAt n α a0 a1 = some res) : Met l yX10_logAt (hp_ws yX10_logAt cX10_logAt 2 (some (.object "ProvenRecord$Log"))) (hp_rm 0 0 0) (hp_Pc Γ α [.ref a0, .int a1]) (hp_Qq Γ (fun r β => (β = α ∧ r = res) ∧ ∀ b, r = some b → hp_K α b = 3)) 0 0 (hp_A Γ) := by
  unfold f_X10_logAt at hf
  refine hp_start (by decide) ?_
  intro p e s m below meth c C hr hlk B0 hnm
  have C : hp_C Γ p m c cX10_logAt 2 s ([.ref a0, .int a1] : List Value).toArray RX10 := C
  have hx := C.1.1
  have hb := C.1.2.1
  have hown := C.1.2.2.2.1
  have hts := C.1.2.2.2.2
  have B : hp_B Γ (cw w_X10_logAt) s α α s.heap [] := ⟨B0.1, B0.2.1, cw_rf g⟩
  have hl := lv_entry ([.ref a0, .int a1]) (n := 2) (Nat.le_of_ble_eq_true rfl)
  show W p l e (hp_rm 0 0 0) s m ([.ref a0, .int a1] : List Value).toArray below meth c s.heap [] 0 0 (MQ below (hp_Qq Γ (fun r β => (β = α ∧ r = res) ∧ ∀ b, r = some b → hp_K α b = 3)) ([.ref a0, .int a1] : List Value).toArray s 0 0 (hp_A Γ)) (entryFrame m ([.ref a0, .int a1] : List Value).toArray 2)
  rw [lg_entry_eq]
  generalize (lg_sl ([.ref a0, .int a1]) ++ List.replicate (2 - (lg_sl ([.ref a0, .int a1])).length) Slot.unset).toArray = ls at hl ⊢
  have hl : lv_has ls 2 [(0, .ref a0), (1, .int a1)] := hl
  refine lv_iload_n hx hb dX10_logAt_0 rfl (lv_at hl 1 rfl) (hp_n (n := 1) rfl ?_)
  refine lv_if_lt (tgt := 30) hx hb dX10_logAt_1 (by decide) (fun c1 => ?_) (fun c1 => hp_n (n := 4) rfl ?_)
  ·
    replace hf := ms_iT c1 hf
    refine lv_null hx hb dX10_logAt_30 (hp_n (n := 31) rfl ?_)
    cases hf
    exact q_aret (x := none) C B hr hlk ⟨⟨rfl, rfl⟩, fun b h => by cases h⟩ dX10_logAt_31
  ·
    replace hf := ms_iF c1 hf
    refine lv_iload_n hx hb dX10_logAt_4 rfl (lv_at hl 1 rfl) (hp_n (n := 5) rfl ?_)
    refine lv_aload_n hx hb dX10_logAt_5 rfl (lv_at hl 0 rfl) (hp_n (n := 6) rfl ?_)
    refine q_geti (κ := 11) (k := 2) (φ := 552) (pc' := 9) C B (cw_k B.2.2 k0) fl_X10_22 rfl rfl rfl dX10_logAt_6 rfl (fun x2 ex2 => ?_)
    replace hf := ms_lE ex2 hf
    refine lv_icmp_ge (tgt := 30) hx hb dX10_logAt_9 (by decide) (fun c3 => ?_) (fun c3 => hp_n (n := 12) rfl ?_)
    ·
      replace hf := ms_iT c3 hf
      refine lv_null hx hb dX10_logAt_30 (hp_n (n := 31) rfl ?_)
      cases hf
      exact q_aret (x := none) C B hr hlk ⟨⟨rfl, rfl⟩, fun b h => by cases h⟩ dX10_logAt_31
    ·
      replace hf := ms_iF c3 hf
      refine lv_iload_n hx hb dX10_logAt_12 rfl (lv_at hl 1 rfl) (hp_n (n := 13) rfl ?_)
      refine lv_aload_n hx hb dX10_logAt_13 rfl (lv_at hl 0 rfl) (hp_n (n := 14) rfl ?_)
      refine q_getr (κ := 11) (k := 1) (φ := 551) (pc' := 17) C B (cw_k B.2.2 k0) fl_X10_18 rfl rfl rfl (cw_r B.2.2 k0 rfl rfl (by decide) (by decide)) dX10_logAt_14 rfl (fun b4 eb4 kb4 => ?_)
      replace hf := ms_lE eb4 hf
      refine q_alen (κ := 30) (t := 4) (n := 4) (x := 4) (ty := .object "ProvenRecord$Log") (pc' := 18) C B (cw_k B.2.2 kb4) (by decide) rfl rfl rfl dX10_logAt_17 rfl ?_
      refine lv_icmp_ge (tgt := 30) hx hb dX10_logAt_18 (by decide) (fun c5 => ?_) (fun c5 => hp_n (n := 21) rfl ?_)
      ·
        replace hf := ms_iT c5 hf
        refine lv_null hx hb dX10_logAt_30 (hp_n (n := 31) rfl ?_)
        cases hf
        exact q_aret (x := none) C B hr hlk ⟨⟨rfl, rfl⟩, fun b h => by cases h⟩ dX10_logAt_31
      ·
        replace hf := ms_iF c5 hf
        refine lv_aload_n hx hb dX10_logAt_21 rfl (lv_at hl 0 rfl) (hp_n (n := 22) rfl ?_)
        refine q_getr (κ := 11) (k := 1) (φ := 551) (pc' := 25) C B (cw_k B.2.2 k0) fl_X10_18 rfl rfl rfl (cw_r B.2.2 k0 rfl rfl (by decide) (by decide)) dX10_logAt_22 rfl (fun b6 eb6 kb6 => ?_)
        replace hf := ms_lE eb6 hf
        refine lv_iload_n hx hb dX10_logAt_25 rfl (lv_at hl 1 rfl) (hp_n (n := 26) rfl ?_)
        obtain ⟨g7, hf⟩ := ms_gE hf
        refine q_aal (κ := 30) (t := 4) (n := 4) (C0 := "ProvenRecord$Log") (pc' := 27) C B (cw_k B.2.2 kb6) (by decide) rfl rfl (by decide) (vi_of g7.1 g7.2) dX10_logAt_26 rfl ?_
        rcases hq_E hf with ⟨hqb8, hf⟩ | ⟨b8, hqb8, hf⟩
        ·
          rw [hqb8]
          refine lv_goto (tgt := 31) hx hb dX10_logAt_27 (by decide) ?_
          cases hf
          exact q_aret (x := none) C B hr hlk ⟨⟨rfl, rfl⟩, fun b h => by cases h⟩ dX10_logAt_31
        ·
          rw [hqb8]
          have kb8 := cw_q B.2.2 kb6 rfl (by decide) hqb8
          refine lv_goto (tgt := 31) hx hb dX10_logAt_27 (by decide) ?_
          cases hf
          exact q_aret (x := (some b8)) C B hr hlk ⟨⟨rfl, rfl⟩, fun b h => by cases h; exact kb8⟩ dX10_logAt_31
def f_X11_add (n : Nat) (α : hp_T) (a0 : Nat) (a1 : Int32) : Option (Int32 × hp_T) :=
  ms_l (hp_R α 601 a0) fun b1 =>
  ms_b (f_X10_logAt n α b1 a1) fun rh2 =>
  hq_m rh2 (
    hq_c (f_X11_refuse n α a0 (2 : Int32)) fun rh3 αh3 =>
    some (rh3, αh3)) fun bh2 =>
  ms_l (hp_I α 152 bh2) fun x4 =>
  if x4 < (48 : Int32) then
    ms_l (hp_R α 601 a0) fun b6 =>
    ms_l (hp_R α 606 a0) fun b7 =>
    ms_b (f_X10_addWord n α b6 bh2 b7) fun αh8 =>
    ms_l (hp_I αh8 152 bh2) fun x9 =>
    hq_c (f_X11_answer n αh8 a0 (x9 - (1 : Int32))) fun rh10 αh10 =>
    some (rh10, αh10)
  else
    hq_c (f_X11_refuse n α a0 (3 : Int32)) fun rh11 αh11 =>
    some (rh11, αh11)
set_option maxRecDepth 100000 in
set_option maxHeartbeats 4000000 in
theorem n_X11_add (n : Nat) (Γ : hp_G) (l : Launch) (α : hp_T) (g : GC α) (a0 : Nat) (k0 : hp_K α a0 = 12) (a1 : Int32) (res : (Int32 × hp_T)) (hf : f_X11_add n α a0 a1 = some res) : Met l yX11_add (hp_ws yX11_add cX11_add 3 (some .int)) (hp_rm 4 0 0) (hp_Pc Γ α [.ref a0, .int a1]) (hp_Qi Γ (fun r β => r = res.1 ∧ β = res.2 ∧ cw w_X11_add α β)) 0 0 (hp_A Γ) := by
  unfold f_X11_add at hf
  refine hp_start (by decide) ?_
  intro p e s m below meth c C hr hlk B0 hnm
  have C : hp_C Γ p m c cX11_add 3 s ([.ref a0, .int a1] : List Value).toArray RX11 := C
  have hx := C.1.1
  have hb := C.1.2.1
  have hown := C.1.2.2.2.1
  have hts := C.1.2.2.2.2
  have B : hp_B Γ (cw w_X11_add) s α α s.heap [] := ⟨B0.1, B0.2.1, cw_rf g⟩
  have hl := lv_entry ([.ref a0, .int a1]) (n := 3) (Nat.le_of_ble_eq_true rfl)
  show W p l e (hp_rm 4 0 0) s m ([.ref a0, .int a1] : List Value).toArray below meth c s.heap [] 0 0 (MQ below (hp_Qi Γ (fun r β => r = res.1 ∧ β = res.2 ∧ cw w_X11_add α β)) ([.ref a0, .int a1] : List Value).toArray s 0 0 (hp_A Γ)) (entryFrame m ([.ref a0, .int a1] : List Value).toArray 3)
  rw [lg_entry_eq]
  generalize (lg_sl ([.ref a0, .int a1]) ++ List.replicate (3 - (lg_sl ([.ref a0, .int a1])).length) Slot.unset).toArray = ls at hl ⊢
  have hl : lv_has ls 3 [(0, .ref a0), (1, .int a1)] := hl
  refine lv_aload_n hx hb dX11_add_0 rfl (lv_at hl 0 rfl) (hp_n (n := 1) rfl ?_)
  refine q_getr (κ := 12) (k := 1) (φ := 601) (pc' := 4) C B (cw_k B.2.2 k0) fl_X11_16 rfl rfl rfl (cw_r B.2.2 k0 rfl rfl (by decide) (by decide)) dX11_add_1 rfl (fun b1 eb1 kb1 => ?_)
  replace hf := ms_lE eb1 hf
  refine lv_iload_n hx hb dX11_add_4 rfl (lv_at hl 1 rfl) (hp_n (n := 5) rfl ?_)
  obtain ⟨rh2, qh2, hf⟩ := ms_bE hf
  refine d_pq (pc' := 8) B (hp_runV (As := [.int a1]) (rest := []) C B (n_X10_logAt n Γ l α B.2.2.1 b1 (cw_k B.2.2 kb1) a1 rh2 qh2) lb_X10_logAt lv_X10_logAt lk_X11_163 (cw_k B.2.2 kb1) rfl (by decide) rfl hl.1 rfl (Nat.le_of_ble_eq_true rfl) dX11_add_5 ⟨Nat.le_refl _, Nat.le_refl _⟩) rfl (fun Hh2 Lh2 Bh2 kh2 => ?_)
  rcases rh2 with _ | bh2
  ·
    replace hf := hq_N hf
    refine lv_astore_nN (lv' := [(2, .null), (0, .ref a0), (1, .int a1)]) hx hb dX11_add_8 rfl hl (by decide) rfl (fun ls hl => hp_n (n := 9) rfl ?_)
    refine lv_aload_nN hx hb dX11_add_9 rfl (lv_at hl 0 rfl) (hp_n (n := 10) rfl ?_)
    refine lv_ifnonnullN hx hb dX11_add_10 (hp_n (n := 13) rfl ?_)
    refine lv_aload_n hx hb dX11_add_13 rfl (lv_at hl 1 rfl) (hp_n (n := 14) rfl ?_)
    refine lv_iconst (v := 2) hx hb dX11_add_14 (by decide) (hp_n (n := 15) rfl ?_)
    obtain ⟨rh3, αh3, qh3, hf⟩ := hq_cE hf
    refine d_ci (pc' := 18) Bh2 (hp_runV (As := [.int (2 : Int32)]) (rest := []) C Bh2 (n_X11_refuse n Γ l α Bh2.2.2.1 a0 (cw_k Bh2.2.2 k0) (2 : Int32) (rh3, αh3) qh3) lb_X11_refuse lv_X11_refuse lk_X11_98 (cw_k Bh2.2.2 k0) rfl (by decide) rfl hl.1 rfl (Nat.le_of_ble_eq_true rfl) dX11_add_15 ⟨Nat.le_refl _, Nat.le_refl _⟩) (by decide) rfl (fun Hh3 Lh3 Bh3 => ?_)
    cases hf
    exact q_iret C Bh3 hr hlk ⟨rfl, rfl, Bh3.2.2⟩ dX11_add_18
  ·
    replace hf := hq_S hf
    have kbh2 := kh2 bh2 rfl
    refine lv_astore_n (lv' := [(2, .ref bh2), (0, .ref a0), (1, .int a1)]) hx hb dX11_add_8 rfl hl (by decide) rfl (fun ls hl => hp_n (n := 9) rfl ?_)
    refine lv_aload_n hx hb dX11_add_9 rfl (lv_at hl 0 rfl) (hp_n (n := 10) rfl ?_)
    refine lv_ifnonnull (tgt := 19) hx hb dX11_add_10 (by decide) ?_
    refine lv_aload_n hx hb dX11_add_19 rfl (lv_at hl 0 rfl) (hp_n (n := 20) rfl ?_)
    refine q_geti (κ := 3) (k := 2) (φ := 152) (pc' := 23) C Bh2 (cw_k Bh2.2.2 kbh2) fl_X11_167 rfl rfl rfl dX11_add_20 rfl (fun x4 ex4 => ?_)
    replace hf := ms_lE ex4 hf
    refine lv_bipush (v := 48) hx hb dX11_add_23 (by decide) (hp_n (n := 25) rfl ?_)
    refine lv_icmp_lt (tgt := 34) hx hb dX11_add_25 (by decide) (fun c5 => ?_) (fun c5 => hp_n (n := 28) rfl ?_)
    ·
      replace hf := ms_iT c5 hf
      refine lv_aload_n hx hb dX11_add_34 rfl (lv_at hl 1 rfl) (hp_n (n := 35) rfl ?_)
      refine q_getr (κ := 12) (k := 1) (φ := 601) (pc' := 38) C Bh2 (cw_k Bh2.2.2 k0) fl_X11_16 rfl rfl rfl (cw_r Bh2.2.2 k0 rfl rfl (by decide) (by decide)) dX11_add_35 rfl (fun b6 eb6 kb6 => ?_)
      replace hf := ms_lE eb6 hf
      refine lv_aload_n hx hb dX11_add_38 rfl (lv_at hl 0 rfl) (hp_n (n := 39) rfl ?_)
      refine lv_aload_n hx hb dX11_add_39 rfl (lv_at hl 1 rfl) (hp_n (n := 40) rfl ?_)
      refine q_getr (κ := 12) (k := 6) (φ := 606) (pc' := 43) C Bh2 (cw_k Bh2.2.2 k0) fl_X11_40 rfl rfl rfl (cw_r Bh2.2.2 k0 rfl rfl (by decide) (by decide)) dX11_add_40 rfl (fun b7 eb7 kb7 => ?_)
      replace hf := ms_lE eb7 hf
      obtain ⟨αh8, qh8, hf⟩ := ms_bE hf
      refine d_cv (pc' := 46) Bh2 (hp_runV (As := [.ref bh2, .ref b7]) (rest := []) C Bh2 (n_X10_addWord n Γ l α Bh2.2.2.1 b6 (cw_k Bh2.2.2 kb6) bh2 (cw_k Bh2.2.2 kbh2) b7 (cw_k Bh2.2.2 kb7) αh8 qh8) lb_X10_addWord lv_X10_addWord lk_X11_237 (cw_k Bh2.2.2 kb6) rfl (by decide) rfl hl.1 rfl (Nat.le_of_ble_eq_true rfl) dX11_add_43 ⟨Nat.le_refl _, Nat.le_refl _⟩) (by decide) rfl (fun Hh8 Lh8 Bh8 => ?_)
      refine lv_aload_n hx hb dX11_add_46 rfl (lv_at hl 1 rfl) (hp_n (n := 47) rfl ?_)
      refine lv_aload_n hx hb dX11_add_47 rfl (lv_at hl 0 rfl) (hp_n (n := 48) rfl ?_)
      refine q_geti (κ := 3) (k := 2) (φ := 152) (pc' := 51) C Bh8 (cw_k Bh8.2.2 kbh2) fl_X11_167 rfl rfl rfl dX11_add_48 rfl (fun x9 ex9 => ?_)
      replace hf := ms_lE ex9 hf
      refine lv_iconst (v := 1) hx hb dX11_add_51 (by decide) (hp_n (n := 52) rfl ?_)
      refine lv_isub hx hb dX11_add_52 (hp_n (n := 53) rfl ?_)
      obtain ⟨rh10, αh10, qh10, hf⟩ := hq_cE hf
      refine d_ci (pc' := 56) Bh8 (hp_runV (As := [.int (x9 - (1 : Int32))]) (rest := []) C Bh8 (n_X11_answer n Γ l αh8 Bh8.2.2.1 a0 (cw_k Bh8.2.2 k0) (x9 - (1 : Int32)) (rh10, αh10) qh10) lb_X11_answer lv_X11_answer lk_X11_115 (cw_k Bh8.2.2 k0) rfl (by decide) rfl hl.1 rfl (Nat.le_of_ble_eq_true rfl) dX11_add_53 ⟨Nat.le_refl _, Nat.le_refl _⟩) (by decide) rfl (fun Hh10 Lh10 Bh10 => ?_)
      cases hf
      exact q_iret C Bh10 hr hlk ⟨rfl, rfl, Bh10.2.2⟩ dX11_add_56
    ·
      replace hf := ms_iF c5 hf
      refine lv_aload_n hx hb dX11_add_28 rfl (lv_at hl 1 rfl) (hp_n (n := 29) rfl ?_)
      refine lv_iconst (v := 3) hx hb dX11_add_29 (by decide) (hp_n (n := 30) rfl ?_)
      obtain ⟨rh11, αh11, qh11, hf⟩ := hq_cE hf
      refine d_ci (pc' := 33) Bh2 (hp_runV (As := [.int (3 : Int32)]) (rest := []) C Bh2 (n_X11_refuse n Γ l α Bh2.2.2.1 a0 (cw_k Bh2.2.2 k0) (3 : Int32) (rh11, αh11) qh11) lb_X11_refuse lv_X11_refuse lk_X11_98 (cw_k Bh2.2.2 k0) rfl (by decide) rfl hl.1 rfl (Nat.le_of_ble_eq_true rfl) dX11_add_30 ⟨Nat.le_refl _, Nat.le_refl _⟩) (by decide) rfl (fun Hh11 Lh11 Bh11 => ?_)
      cases hf
      exact q_iret C Bh11 hr hlk ⟨rfl, rfl, Bh11.2.2⟩ dX11_add_33
def f_X10_forkLog_J80 (n : Nat) (a0 : Nat) (rec51 : hp_T → Nat → Int32 → Nat → Int32 → Option (Int32 × hp_T)) (αh24 : hp_T) (v1_h24 : Nat) (v2_h24 : Int32) (v3_h24 : Nat) (v4_h24 : Int32) : Option (Int32 × hp_T) :=
  ms_l (v4_h24 + 1) fun x25 =>
  rec51 αh24 v1_h24 v2_h24 v3_h24 x25
def f_X10_forkLog_L51 (n : Nat) (a0 : Nat) : Nat → hp_T → Nat → Int32 → Nat → Int32 → Option (Int32 × hp_T)
  | 0, _, _, _, _, _ => none
  | k51 + 1, αh16, v1_h16, v2_h16, v3_h16, v4_h16 =>
    if v2_h16 ≤ v4_h16 then
      ms_l (hp_I αh16 552 a0) fun x18 =>
      ms_l (hp_sI αh16 552 a0 (x18 + (1 : Int32))) fun αh19 =>
      ms_l (hp_I αh19 556 a0) fun x20 =>
      ms_l (hp_sI αh19 556 a0 (x20 + (1 : Int32))) fun αh21 =>
      ms_l (hp_I αh21 552 a0) fun x22 =>
      some ((x22 - (1 : Int32)), αh21)
    else
      ms_b (f_X2_wordAt n αh16 v1_h16 v4_h16) fun rh23 =>
      hq_m rh23 (
        f_X10_forkLog_J80 n a0 (f_X10_forkLog_L51 n a0 k51) αh16 v1_h16 v2_h16 v3_h16 v4_h16) fun bh23 =>
      ms_l (hp_I αh16 550 a0) fun x28 =>
      ms_b (f_X2_putWord n αh16 v3_h16 bh23 x28) fun αh29 =>
      f_X10_forkLog_J80 n a0 (f_X10_forkLog_L51 n a0 k51) αh29 v1_h16 v2_h16 v3_h16 v4_h16
def f_X10_forkLog (n : Nat) (α : hp_T) (a0 : Nat) (a1 : Nat) (a2 : Int32) : Option (Int32 × hp_T) :=
  ms_l (hp_I α 552 a0) fun x1 =>
  if x1 < 0 then
    some ((-1 : Int32), α)
  else
    ms_l (hp_I α 552 a0) fun x3 =>
    ms_l (hp_R α 551 a0) fun b4 =>
    if (4 : Int32) ≤ x3 then
      some ((-1 : Int32), α)
    else
      ms_l (hp_R α 551 a0) fun b6 =>
      ms_l (hp_I α 552 a0) fun x7 =>
      ms_g x7 4 <|
      hq_m (hp_Q α 30 b6 (x7).toNatClampNeg) (
        some ((-1 : Int32), α)) fun b9 =>
      ms_l (hp_R α 551 a0) fun b10 =>
      ms_l (hp_I α 552 a0) fun x11 =>
      ms_g x11 4 <|
      hq_m (hp_Q α 30 b10 (x11).toNatClampNeg) (
        none) fun b13 =>
      ms_l (hp_sI α 152 b13 (0 : Int32)) fun αh15 =>
      f_X10_forkLog_L51 n a0 n αh15 a1 a2 b13 (0 : Int32)
set_option maxRecDepth 100000 in
set_option maxHeartbeats 4000000 in
theorem n_X10_forkLog (n : Nat) (Γ : hp_G) (l : Launch) (α : hp_T) (g : GC α) (a0 : Nat) (k0 : hp_K α a0 = 11) (a1 : Nat) (k1 : hp_K α a1 = 3) (a2 : Int32) (res : (Int32 × hp_T)) (hf : f_X10_forkLog n α a0 a1 a2 = some res) : Met l yX10_forkLog (hp_ws yX10_forkLog cX10_forkLog 6 (some .int)) (hp_rm 3 0 0) (hp_Pc Γ α [.ref a0, .ref a1, .int a2]) (hp_Qi Γ (fun r β => r = res.1 ∧ β = res.2 ∧ cw w_X10_forkLog α β)) 0 0 (hp_A Γ) := by
  unfold f_X10_forkLog at hf
  refine hp_start (by decide) ?_
  intro p e s m below meth c C hr hlk B0 hnm
  have C : hp_C Γ p m c cX10_forkLog 6 s ([.ref a0, .ref a1, .int a2] : List Value).toArray RX10 := C
  have hx := C.1.1
  have hb := C.1.2.1
  have hown := C.1.2.2.2.1
  have hts := C.1.2.2.2.2
  have B : hp_B Γ (cw w_X10_forkLog) s α α s.heap [] := ⟨B0.1, B0.2.1, cw_rf g⟩
  have hl := lv_entry ([.ref a0, .ref a1, .int a2]) (n := 6) (Nat.le_of_ble_eq_true rfl)
  show W p l e (hp_rm 3 0 0) s m ([.ref a0, .ref a1, .int a2] : List Value).toArray below meth c s.heap [] 0 0 (MQ below (hp_Qi Γ (fun r β => r = res.1 ∧ β = res.2 ∧ cw w_X10_forkLog α β)) ([.ref a0, .ref a1, .int a2] : List Value).toArray s 0 0 (hp_A Γ)) (entryFrame m ([.ref a0, .ref a1, .int a2] : List Value).toArray 6)
  rw [lg_entry_eq]
  generalize (lg_sl ([.ref a0, .ref a1, .int a2]) ++ List.replicate (6 - (lg_sl ([.ref a0, .ref a1, .int a2])).length) Slot.unset).toArray = ls at hl ⊢
  have hl : lv_has ls 6 [(0, .ref a0), (1, .ref a1), (2, .int a2)] := hl
  refine lv_aload_n hx hb dX10_forkLog_0 rfl (lv_at hl 0 rfl) (hp_n (n := 1) rfl ?_)
  refine q_geti (κ := 11) (k := 2) (φ := 552) (pc' := 4) C B (cw_k B.2.2 k0) fl_X10_22 rfl rfl rfl dX10_forkLog_1 rfl (fun x1 ex1 => ?_)
  replace hf := ms_lE ex1 hf
  refine lv_if_lt (tgt := 31) hx hb dX10_forkLog_4 (by decide) (fun c2 => ?_) (fun c2 => hp_n (n := 7) rfl ?_)
  ·
    replace hf := ms_iT c2 hf
    refine lv_iconst (v := (-1)) hx hb dX10_forkLog_31 (by decide) (hp_n (n := 32) rfl ?_)
    cases hf
    exact q_iret C B hr hlk ⟨rfl, rfl, B.2.2⟩ dX10_forkLog_32
  ·
    replace hf := ms_iF c2 hf
    refine lv_aload_n hx hb dX10_forkLog_7 rfl (lv_at hl 0 rfl) (hp_n (n := 8) rfl ?_)
    refine q_geti (κ := 11) (k := 2) (φ := 552) (pc' := 11) C B (cw_k B.2.2 k0) fl_X10_22 rfl rfl rfl dX10_forkLog_8 rfl (fun x3 ex3 => ?_)
    replace hf := ms_lE ex3 hf
    refine lv_aload_n hx hb dX10_forkLog_11 rfl (lv_at hl 0 rfl) (hp_n (n := 12) rfl ?_)
    refine q_getr (κ := 11) (k := 1) (φ := 551) (pc' := 15) C B (cw_k B.2.2 k0) fl_X10_18 rfl rfl rfl (cw_r B.2.2 k0 rfl rfl (by decide) (by decide)) dX10_forkLog_12 rfl (fun b4 eb4 kb4 => ?_)
    replace hf := ms_lE eb4 hf
    refine q_alen (κ := 30) (t := 4) (n := 4) (x := 4) (ty := .object "ProvenRecord$Log") (pc' := 16) C B (cw_k B.2.2 kb4) (by decide) rfl rfl rfl dX10_forkLog_15 rfl ?_
    refine lv_icmp_ge (tgt := 31) hx hb dX10_forkLog_16 (by decide) (fun c5 => ?_) (fun c5 => hp_n (n := 19) rfl ?_)
    ·
      replace hf := ms_iT c5 hf
      refine lv_iconst (v := (-1)) hx hb dX10_forkLog_31 (by decide) (hp_n (n := 32) rfl ?_)
      cases hf
      exact q_iret C B hr hlk ⟨rfl, rfl, B.2.2⟩ dX10_forkLog_32
    ·
      replace hf := ms_iF c5 hf
      refine lv_aload_n hx hb dX10_forkLog_19 rfl (lv_at hl 0 rfl) (hp_n (n := 20) rfl ?_)
      refine q_getr (κ := 11) (k := 1) (φ := 551) (pc' := 23) C B (cw_k B.2.2 k0) fl_X10_18 rfl rfl rfl (cw_r B.2.2 k0 rfl rfl (by decide) (by decide)) dX10_forkLog_20 rfl (fun b6 eb6 kb6 => ?_)
      replace hf := ms_lE eb6 hf
      refine lv_aload_n hx hb dX10_forkLog_23 rfl (lv_at hl 0 rfl) (hp_n (n := 24) rfl ?_)
      refine q_geti (κ := 11) (k := 2) (φ := 552) (pc' := 27) C B (cw_k B.2.2 k0) fl_X10_22 rfl rfl rfl dX10_forkLog_24 rfl (fun x7 ex7 => ?_)
      replace hf := ms_lE ex7 hf
      obtain ⟨g8, hf⟩ := ms_gE hf
      refine q_aal (κ := 30) (t := 4) (n := 4) (C0 := "ProvenRecord$Log") (pc' := 28) C B (cw_k B.2.2 kb6) (by decide) rfl rfl (by decide) (vi_of g8.1 g8.2) dX10_forkLog_27 rfl ?_
      rcases hq_E hf with ⟨hqb9, hf⟩ | ⟨b9, hqb9, hf⟩
      ·
        rw [hqb9]
        refine lv_ifnonnullN hx hb dX10_forkLog_28 (hp_n (n := 31) rfl ?_)
        refine lv_iconst (v := (-1)) hx hb dX10_forkLog_31 (by decide) (hp_n (n := 32) rfl ?_)
        cases hf
        exact q_iret C B hr hlk ⟨rfl, rfl, B.2.2⟩ dX10_forkLog_32
      ·
        rw [hqb9]
        have kb9 := cw_q B.2.2 kb6 rfl (by decide) hqb9
        refine lv_ifnonnull (tgt := 33) hx hb dX10_forkLog_28 (by decide) ?_
        refine lv_aload_n hx hb dX10_forkLog_33 rfl (lv_at hl 0 rfl) (hp_n (n := 34) rfl ?_)
        refine q_getr (κ := 11) (k := 1) (φ := 551) (pc' := 37) C B (cw_k B.2.2 k0) fl_X10_18 rfl rfl rfl (cw_r B.2.2 k0 rfl rfl (by decide) (by decide)) dX10_forkLog_34 rfl (fun b10 eb10 kb10 => ?_)
        replace hf := ms_lE eb10 hf
        refine lv_aload_n hx hb dX10_forkLog_37 rfl (lv_at hl 0 rfl) (hp_n (n := 38) rfl ?_)
        refine q_geti (κ := 11) (k := 2) (φ := 552) (pc' := 41) C B (cw_k B.2.2 k0) fl_X10_22 rfl rfl rfl dX10_forkLog_38 rfl (fun x11 ex11 => ?_)
        replace hf := ms_lE ex11 hf
        obtain ⟨g12, hf⟩ := ms_gE hf
        refine q_aal (κ := 30) (t := 4) (n := 4) (C0 := "ProvenRecord$Log") (pc' := 42) C B (cw_k B.2.2 kb10) (by decide) rfl rfl (by decide) (vi_of g12.1 g12.2) dX10_forkLog_41 rfl ?_
        rcases hq_E hf with ⟨hqb13, hf⟩ | ⟨b13, hqb13, hf⟩
        ·
          rw [hqb13]
          refine lv_astore_nN (lv' := [(3, .null), (0, .ref a0), (1, .ref a1), (2, .int a2)]) hx hb dX10_forkLog_42 rfl hl (by decide) rfl (fun ls hl => hp_n (n := 43) rfl ?_)
          refine lv_aload_nN hx hb dX10_forkLog_43 rfl (lv_at hl 0 rfl) (hp_n (n := 44) rfl ?_)
          refine lv_iconst (v := 0) hx hb dX10_forkLog_44 (by decide) (hp_n (n := 45) rfl ?_)
          cases hf
        ·
          rw [hqb13]
          have kb13 := cw_q B.2.2 kb10 rfl (by decide) hqb13
          refine lv_astore_n (lv' := [(3, .ref b13), (0, .ref a0), (1, .ref a1), (2, .int a2)]) hx hb dX10_forkLog_42 rfl hl (by decide) rfl (fun ls hl => hp_n (n := 43) rfl ?_)
          refine lv_aload_n hx hb dX10_forkLog_43 rfl (lv_at hl 0 rfl) (hp_n (n := 44) rfl ?_)
          refine lv_iconst (v := 0) hx hb dX10_forkLog_44 (by decide) (hp_n (n := 45) rfl ?_)
          refine q_puti (κ := 3) (k := 2) (φ := 152) (pc' := 48) C B (cw_k B.2.2 kb13) fl_X10_68 rfl rfl rfl rfl rfl rfl (cw_sI B.2.2 (by decide) (fun h => absurd h (by decide))) dX10_forkLog_45 rfl (fun αh15 Hh15 Lh15 eh15 Bh15 => ?_)
          replace hf := ms_lE eh15 hf
          refine lv_iconst (v := 0) hx hb dX10_forkLog_48 (by decide) (hp_n (n := 49) rfl ?_)
          have J51 : ∀ (k51 : Nat) (αh16 : hp_T) (Hh16 : Heap) (Lh16 : List Loc) (Bh16 : hp_B Γ (cw w_X10_forkLog) s α αh16 Hh16 Lh16) (v1_h16 : Nat) (kv1_h16 : hp_K α v1_h16 = 3) (v2_h16 : Int32) (v3_h16 : Nat) (kv3_h16 : hp_K α v3_h16 = 3) (v4_h16 : Int32) (ls : Array Slot) (hl : lv_has ls 6 [(0, .ref a0), (1, .ref v1_h16), (2, .int v2_h16), (3, .ref v3_h16), (4, .int v4_h16)]) (hf : f_X10_forkLog_L51 n a0 k51 αh16 v1_h16 v2_h16 v3_h16 v4_h16 = some res), W p l e (hp_rm 3 0 0) s m ([.ref a0, .ref a1, .int a2] : List Value).toArray below meth c Hh16 Lh16 0 0 (MQ below (hp_Qi Γ (fun r β => r = res.1 ∧ β = res.2 ∧ cw w_X10_forkLog α β)) ([.ref a0, .ref a1, .int a2] : List Value).toArray s 0 0 (hp_A Γ)) (F0 m 51 ls []) := by
            intro k51
            induction k51 with
            | zero => intro αh16 Hh16 Lh16 Bh16 v1_h16 kv1_h16 v2_h16 v3_h16 kv3_h16 v4_h16 ls hl hf; rw [f_X10_forkLog_L51.eq_1] at hf; cases hf
            | succ k51 ih51 =>
              intro αh16 Hh16 Lh16 Bh16 v1_h16 kv1_h16 v2_h16 v3_h16 kv3_h16 v4_h16 ls hl hf
              rw [f_X10_forkLog_L51.eq_2] at hf
              refine lv_iload hx hb dX10_forkLog_51 (lv_at hl 4 rfl) (hp_n (n := 53) rfl ?_)
              refine lv_iload_n hx hb dX10_forkLog_53 rfl (lv_at hl 2 rfl) (hp_n (n := 54) rfl ?_)
              refine lv_icmp_ge (tgt := 86) hx hb dX10_forkLog_54 (by decide) (fun c17 => ?_) (fun c17 => hp_n (n := 57) rfl ?_)
              ·
                replace hf := ms_iT c17 hf
                refine lv_aload_n hx hb dX10_forkLog_86 rfl (lv_at hl 0 rfl) (hp_n (n := 87) rfl ?_)
                refine lv_dup hx hb dX10_forkLog_87 rfl (hp_n (n := 88) rfl ?_)
                refine q_geti (κ := 11) (k := 2) (φ := 552) (pc' := 91) C Bh16 (cw_k Bh16.2.2 k0) fl_X10_22 rfl rfl rfl dX10_forkLog_88 rfl (fun x18 ex18 => ?_)
                replace hf := ms_lE ex18 hf
                refine lv_iconst (v := 1) hx hb dX10_forkLog_91 (by decide) (hp_n (n := 92) rfl ?_)
                refine lv_iadd hx hb dX10_forkLog_92 (hp_n (n := 93) rfl ?_)
                refine q_puti (κ := 11) (k := 2) (φ := 552) (pc' := 96) C Bh16 (cw_k Bh16.2.2 k0) fl_X10_22 rfl rfl rfl rfl rfl rfl (cw_sI Bh16.2.2 (by decide) (fun h => absurd h (by decide))) dX10_forkLog_93 rfl (fun αh19 Hh19 Lh19 eh19 Bh19 => ?_)
                replace hf := ms_lE eh19 hf
                refine lv_aload_n hx hb dX10_forkLog_96 rfl (lv_at hl 0 rfl) (hp_n (n := 97) rfl ?_)
                refine lv_dup hx hb dX10_forkLog_97 rfl (hp_n (n := 98) rfl ?_)
                refine q_geti (κ := 11) (k := 6) (φ := 556) (pc' := 101) C Bh19 (cw_k Bh19.2.2 k0) fl_X10_40 rfl rfl rfl dX10_forkLog_98 rfl (fun x20 ex20 => ?_)
                replace hf := ms_lE ex20 hf
                refine lv_iconst (v := 1) hx hb dX10_forkLog_101 (by decide) (hp_n (n := 102) rfl ?_)
                refine lv_iadd hx hb dX10_forkLog_102 (hp_n (n := 103) rfl ?_)
                refine q_puti (κ := 11) (k := 6) (φ := 556) (pc' := 106) C Bh19 (cw_k Bh19.2.2 k0) fl_X10_40 rfl rfl rfl rfl rfl rfl (cw_sI Bh19.2.2 (by decide) (fun h => absurd h (by decide))) dX10_forkLog_103 rfl (fun αh21 Hh21 Lh21 eh21 Bh21 => ?_)
                replace hf := ms_lE eh21 hf
                refine lv_aload_n hx hb dX10_forkLog_106 rfl (lv_at hl 0 rfl) (hp_n (n := 107) rfl ?_)
                refine q_geti (κ := 11) (k := 2) (φ := 552) (pc' := 110) C Bh21 (cw_k Bh21.2.2 k0) fl_X10_22 rfl rfl rfl dX10_forkLog_107 rfl (fun x22 ex22 => ?_)
                replace hf := ms_lE ex22 hf
                refine lv_iconst (v := 1) hx hb dX10_forkLog_110 (by decide) (hp_n (n := 111) rfl ?_)
                refine lv_isub hx hb dX10_forkLog_111 (hp_n (n := 112) rfl ?_)
                cases hf
                exact q_iret C Bh21 hr hlk ⟨rfl, rfl, Bh21.2.2⟩ dX10_forkLog_112
              ·
                replace hf := ms_iF c17 hf
                refine lv_aload_n hx hb dX10_forkLog_57 rfl (lv_at hl 1 rfl) (hp_n (n := 58) rfl ?_)
                refine lv_iload hx hb dX10_forkLog_58 (lv_at hl 4 rfl) (hp_n (n := 60) rfl ?_)
                obtain ⟨rh23, qh23, hf⟩ := ms_bE hf
                refine d_pq (pc' := 63) Bh16 (hp_runV (As := [.int v4_h16]) (rest := []) C Bh16 (n_X2_wordAt n Γ l αh16 Bh16.2.2.1 v1_h16 (cw_k Bh16.2.2 kv1_h16) v4_h16 rh23 qh23) lb_X2_wordAt lv_X2_wordAt lk_X10_124 (cw_k Bh16.2.2 kv1_h16) rfl (by decide) rfl hl.1 rfl (Nat.le_of_ble_eq_true rfl) dX10_forkLog_60 ⟨Nat.le_refl _, Nat.le_refl _⟩) rfl (fun Hh23 Lh23 Bh23 kh23 => ?_)
                rcases rh23 with _ | bh23
                ·
                  replace hf := hq_N hf
                  refine lv_astoreN (lv' := [(5, .null), (0, .ref a0), (1, .ref v1_h16), (2, .int v2_h16), (3, .ref v3_h16), (4, .int v4_h16)]) hx hb dX10_forkLog_63 hl (by decide) rfl (fun ls hl => hp_n (n := 65) rfl ?_)
                  refine lv_aloadN hx hb dX10_forkLog_65 (lv_at hl 0 rfl) (hp_n (n := 67) rfl ?_)
                  have J80 : ∀ (αh24 : hp_T) (Hh24 : Heap) (Lh24 : List Loc) (Bh24 : hp_B Γ (cw w_X10_forkLog) s α αh24 Hh24 Lh24) (v1_h24 : Nat) (kv1_h24 : hp_K α v1_h24 = 3) (v2_h24 : Int32) (v3_h24 : Nat) (kv3_h24 : hp_K α v3_h24 = 3) (v4_h24 : Int32) (ls : Array Slot) (hl : lv_has ls 6 [(0, .ref a0), (1, .ref v1_h24), (2, .int v2_h24), (3, .ref v3_h24), (4, .int v4_h24)]) (hf : f_X10_forkLog_J80 n a0 (f_X10_forkLog_L51 n a0 k51) αh24 v1_h24 v2_h24 v3_h24 v4_h24 = some res), W p l e (hp_rm 3 0 0) s m ([.ref a0, .ref a1, .int a2] : List Value).toArray below meth c Hh24 Lh24 0 0 (MQ below (hp_Qi Γ (fun r β => r = res.1 ∧ β = res.2 ∧ cw w_X10_forkLog α β)) ([.ref a0, .ref a1, .int a2] : List Value).toArray s 0 0 (hp_A Γ)) (F0 m 80 ls []) := by
                    intro αh24 Hh24 Lh24 Bh24 v1_h24 kv1_h24 v2_h24 v3_h24 kv3_h24 v4_h24 ls hl hf
                    unfold f_X10_forkLog_J80 at hf
                    obtain ⟨x25, ex25⟩ : ∃ y : Int32, y = v4_h24 + 1 := ⟨_, rfl⟩
                    replace hf := ms_lE ex25 hf
                    refine lv_iinc (v := x25) (lv' := [(4, .int x25), (0, .ref a0), (1, .ref v1_h24), (2, .int v2_h24), (3, .ref v3_h24)]) hx hb dX10_forkLog_80 hl (k := 4) rfl (by rw [ex25]; rfl) (by decide) rfl (fun ls hl => hp_n (n := 83) rfl ?_)
                    refine lv_goto (tgt := 51) hx hb dX10_forkLog_83 (by decide) ?_
                    exact ih51 αh24 Hh24 Lh24 Bh24 v1_h24 kv1_h24 v2_h24 v3_h24 kv3_h24 x25 ls (lv_sub hl [1, 2, 3, 4, 0] rfl) hf
                  refine lv_ifnullN (tgt := 80) hx hb dX10_forkLog_67 (by decide) ?_
                  exact J80 αh16 Hh23 Lh23 Bh23 v1_h16 kv1_h16 v2_h16 v3_h16 kv3_h16 v4_h16 ls (lv_sub hl [1, 2, 3, 4, 5] rfl) hf
                ·
                  replace hf := hq_S hf
                  have kbh23 := kh23 bh23 rfl
                  refine lv_astore (lv' := [(5, .ref bh23), (0, .ref a0), (1, .ref v1_h16), (2, .int v2_h16), (3, .ref v3_h16), (4, .int v4_h16)]) hx hb dX10_forkLog_63 hl (by decide) rfl (fun ls hl => hp_n (n := 65) rfl ?_)
                  refine lv_aload hx hb dX10_forkLog_65 (lv_at hl 0 rfl) (hp_n (n := 67) rfl ?_)
                  have J80 : ∀ (αh26 : hp_T) (Hh26 : Heap) (Lh26 : List Loc) (Bh26 : hp_B Γ (cw w_X10_forkLog) s α αh26 Hh26 Lh26) (v1_h26 : Nat) (kv1_h26 : hp_K α v1_h26 = 3) (v2_h26 : Int32) (v3_h26 : Nat) (kv3_h26 : hp_K α v3_h26 = 3) (v4_h26 : Int32) (ls : Array Slot) (hl : lv_has ls 6 [(0, .ref a0), (1, .ref v1_h26), (2, .int v2_h26), (3, .ref v3_h26), (4, .int v4_h26)]) (hf : f_X10_forkLog_J80 n a0 (f_X10_forkLog_L51 n a0 k51) αh26 v1_h26 v2_h26 v3_h26 v4_h26 = some res), W p l e (hp_rm 3 0 0) s m ([.ref a0, .ref a1, .int a2] : List Value).toArray below meth c Hh26 Lh26 0 0 (MQ below (hp_Qi Γ (fun r β => r = res.1 ∧ β = res.2 ∧ cw w_X10_forkLog α β)) ([.ref a0, .ref a1, .int a2] : List Value).toArray s 0 0 (hp_A Γ)) (F0 m 80 ls []) := by
                    intro αh26 Hh26 Lh26 Bh26 v1_h26 kv1_h26 v2_h26 v3_h26 kv3_h26 v4_h26 ls hl hf
                    unfold f_X10_forkLog_J80 at hf
                    obtain ⟨x27, ex27⟩ : ∃ y : Int32, y = v4_h26 + 1 := ⟨_, rfl⟩
                    replace hf := ms_lE ex27 hf
                    refine lv_iinc (v := x27) (lv' := [(4, .int x27), (0, .ref a0), (1, .ref v1_h26), (2, .int v2_h26), (3, .ref v3_h26)]) hx hb dX10_forkLog_80 hl (k := 4) rfl (by rw [ex27]; rfl) (by decide) rfl (fun ls hl => hp_n (n := 83) rfl ?_)
                    refine lv_goto (tgt := 51) hx hb dX10_forkLog_83 (by decide) ?_
                    exact ih51 αh26 Hh26 Lh26 Bh26 v1_h26 kv1_h26 v2_h26 v3_h26 kv3_h26 x27 ls (lv_sub hl [1, 2, 3, 4, 0] rfl) hf
                  refine lv_ifnull hx hb dX10_forkLog_67 (hp_n (n := 70) rfl ?_)
                  refine lv_aload_n hx hb dX10_forkLog_70 rfl (lv_at hl 4 rfl) (hp_n (n := 71) rfl ?_)
                  refine lv_aload hx hb dX10_forkLog_71 (lv_at hl 0 rfl) (hp_n (n := 73) rfl ?_)
                  refine lv_aload_n hx hb dX10_forkLog_73 rfl (lv_at hl 1 rfl) (hp_n (n := 74) rfl ?_)
                  refine q_geti (κ := 11) (k := 0) (φ := 550) (pc' := 77) C Bh23 (cw_k Bh23.2.2 k0) fl_X10_10 rfl rfl rfl dX10_forkLog_74 rfl (fun x28 ex28 => ?_)
                  replace hf := ms_lE ex28 hf
                  obtain ⟨αh29, qh29, hf⟩ := ms_bE hf
                  refine d_cv (pc' := 80) Bh23 (hp_runV (As := [.ref bh23, .int x28]) (rest := []) C Bh23 (n_X2_putWord n Γ l αh16 Bh23.2.2.1 v3_h16 (cw_k Bh23.2.2 kv3_h16) bh23 (cw_k Bh23.2.2 kbh23) x28 αh29 qh29) lb_X2_putWord lv_X2_putWord lk_X10_120 (cw_k Bh23.2.2 kv3_h16) rfl (by decide) rfl hl.1 rfl (Nat.le_of_ble_eq_true rfl) dX10_forkLog_77 ⟨Nat.le_refl _, Nat.le_refl _⟩) (by decide) rfl (fun Hh29 Lh29 Bh29 => ?_)
                  exact J80 αh29 Hh29 Lh29 Bh29 v1_h16 kv1_h16 v2_h16 v3_h16 kv3_h16 v4_h16 ls (lv_sub hl [1, 2, 3, 4, 5] rfl) hf
          refine lv_istore (lv' := [(4, .int (0 : Int32)), (3, .ref b13), (0, .ref a0), (1, .ref a1), (2, .int a2)]) hx hb dX10_forkLog_49 hl (by decide) rfl (fun ls hl => hp_n (n := 51) rfl ?_)
          exact J51 n αh15 Hh15 Lh15 Bh15 a1 k1 a2 b13 kb13 (0 : Int32) ls (lv_sub hl [2, 3, 4, 1, 0] rfl) hf
def f_X10_freezeHead (n : Nat) (α : hp_T) (a0 : Nat) (a1 : Int32) : Option (Int32 × hp_T) :=
  ms_b (f_X10_logAt n α a0 a1) fun rh1 =>
  hq_m rh1 (
    some ((-1 : Int32), α)) fun bh1 =>
  ms_l (hp_I α 554 a0) fun x2 =>
  if x2 < 0 then
    some ((-1 : Int32), α)
  else
    ms_l (hp_I α 554 a0) fun x4 =>
    ms_l (hp_R α 553 a0) fun b5 =>
    if (16 : Int32) ≤ x4 then
      some ((-1 : Int32), α)
    else
      ms_l (hp_R α 553 a0) fun b7 =>
      ms_l (hp_I α 554 a0) fun x8 =>
      ms_g x8 16 <|
      hq_m (hp_Q α 31 b7 (x8).toNatClampNeg) (
        some ((-1 : Int32), α)) fun b10 =>
      ms_l (hp_R α 553 a0) fun b11 =>
      ms_l (hp_I α 554 a0) fun x12 =>
      ms_g x12 16 <|
      hq_m (hp_Q α 31 b11 (x12).toNatClampNeg) (
        none) fun b14 =>
      ms_l (hp_sI α 100 b14 a1) fun αh16 =>
      ms_l (hp_I αh16 152 bh1) fun x17 =>
      ms_l (hp_sI αh16 101 b14 x17) fun αh18 =>
      ms_l (hp_I αh18 152 bh1) fun x19 =>
      hq_c (f_X10_headOf n αh18 a0 (some bh1) x19) fun rh20 αh20 =>
      ms_l (hp_sI αh20 102 b14 rh20) fun αh21 =>
      ms_l (hp_I αh21 556 a0) fun x22 =>
      ms_l (hp_sI αh21 103 b14 x22) fun αh23 =>
      ms_l (hp_I αh23 152 bh1) fun x24 =>
      ms_l (hp_R αh23 104 b14) fun b25 =>
      ms_b (f_X10_peaksOf n αh23 a0 (some bh1) x24 b25) fun αh26 =>
      ms_l (hp_I αh26 554 a0) fun x27 =>
      ms_l (hp_sI αh26 554 a0 (x27 + (1 : Int32))) fun αh28 =>
      ms_l (hp_I αh28 556 a0) fun x29 =>
      ms_l (hp_sI αh28 556 a0 (x29 + (1 : Int32))) fun αh30 =>
      ms_l (hp_I αh30 554 a0) fun x31 =>
      some ((x31 - (1 : Int32)), αh30)
set_option maxRecDepth 100000 in
set_option maxHeartbeats 4000000 in
theorem n_X10_freezeHead (n : Nat) (Γ : hp_G) (l : Launch) (α : hp_T) (g : GC α) (a0 : Nat) (k0 : hp_K α a0 = 11) (a1 : Int32) (res : (Int32 × hp_T)) (hf : f_X10_freezeHead n α a0 a1 = some res) : Met l yX10_freezeHead (hp_ws yX10_freezeHead cX10_freezeHead 4 (some .int)) (hp_rm 3 0 0) (hp_Pc Γ α [.ref a0, .int a1]) (hp_Qi Γ (fun r β => r = res.1 ∧ β = res.2 ∧ cw w_X10_freezeHead α β)) 0 0 (hp_A Γ) := by
  unfold f_X10_freezeHead at hf
  refine hp_start (by decide) ?_
  intro p e s m below meth c C hr hlk B0 hnm
  have C : hp_C Γ p m c cX10_freezeHead 4 s ([.ref a0, .int a1] : List Value).toArray RX10 := C
  have hx := C.1.1
  have hb := C.1.2.1
  have hown := C.1.2.2.2.1
  have hts := C.1.2.2.2.2
  have B : hp_B Γ (cw w_X10_freezeHead) s α α s.heap [] := ⟨B0.1, B0.2.1, cw_rf g⟩
  have hl := lv_entry ([.ref a0, .int a1]) (n := 4) (Nat.le_of_ble_eq_true rfl)
  show W p l e (hp_rm 3 0 0) s m ([.ref a0, .int a1] : List Value).toArray below meth c s.heap [] 0 0 (MQ below (hp_Qi Γ (fun r β => r = res.1 ∧ β = res.2 ∧ cw w_X10_freezeHead α β)) ([.ref a0, .int a1] : List Value).toArray s 0 0 (hp_A Γ)) (entryFrame m ([.ref a0, .int a1] : List Value).toArray 4)
  rw [lg_entry_eq]
  generalize (lg_sl ([.ref a0, .int a1]) ++ List.replicate (4 - (lg_sl ([.ref a0, .int a1])).length) Slot.unset).toArray = ls at hl ⊢
  have hl : lv_has ls 4 [(0, .ref a0), (1, .int a1)] := hl
  refine lv_aload_n hx hb dX10_freezeHead_0 rfl (lv_at hl 0 rfl) (hp_n (n := 1) rfl ?_)
  refine lv_iload_n hx hb dX10_freezeHead_1 rfl (lv_at hl 1 rfl) (hp_n (n := 2) rfl ?_)
  obtain ⟨rh1, qh1, hf⟩ := ms_bE hf
  refine d_pq (pc' := 5) B (hp_runV (As := [.int a1]) (rest := []) C B (n_X10_logAt n Γ l α B.2.2.1 a0 (cw_k B.2.2 k0) a1 rh1 qh1) lb_X10_logAt lv_X10_logAt lk_X10_64 (cw_k B.2.2 k0) rfl (by decide) rfl hl.1 rfl (Nat.le_of_ble_eq_true rfl) dX10_freezeHead_2 ⟨Nat.le_refl _, Nat.le_refl _⟩) rfl (fun Hh1 Lh1 Bh1 kh1 => ?_)
  rcases rh1 with _ | bh1
  ·
    replace hf := hq_N hf
    refine lv_astore_nN (lv' := [(2, .null), (0, .ref a0), (1, .int a1)]) hx hb dX10_freezeHead_5 rfl hl (by decide) rfl (fun ls hl => hp_n (n := 6) rfl ?_)
    refine lv_aload_nN hx hb dX10_freezeHead_6 rfl (lv_at hl 0 rfl) (hp_n (n := 7) rfl ?_)
    refine lv_ifnullN (tgt := 41) hx hb dX10_freezeHead_7 (by decide) ?_
    refine lv_iconst (v := (-1)) hx hb dX10_freezeHead_41 (by decide) (hp_n (n := 42) rfl ?_)
    cases hf
    exact q_iret C Bh1 hr hlk ⟨rfl, rfl, Bh1.2.2⟩ dX10_freezeHead_42
  ·
    replace hf := hq_S hf
    have kbh1 := kh1 bh1 rfl
    refine lv_astore_n (lv' := [(2, .ref bh1), (0, .ref a0), (1, .int a1)]) hx hb dX10_freezeHead_5 rfl hl (by decide) rfl (fun ls hl => hp_n (n := 6) rfl ?_)
    refine lv_aload_n hx hb dX10_freezeHead_6 rfl (lv_at hl 0 rfl) (hp_n (n := 7) rfl ?_)
    refine lv_ifnull hx hb dX10_freezeHead_7 (hp_n (n := 10) rfl ?_)
    refine lv_aload_n hx hb dX10_freezeHead_10 rfl (lv_at hl 1 rfl) (hp_n (n := 11) rfl ?_)
    refine q_geti (κ := 11) (k := 4) (φ := 554) (pc' := 14) C Bh1 (cw_k Bh1.2.2 k0) fl_X10_31 rfl rfl rfl dX10_freezeHead_11 rfl (fun x2 ex2 => ?_)
    replace hf := ms_lE ex2 hf
    refine lv_if_lt (tgt := 41) hx hb dX10_freezeHead_14 (by decide) (fun c3 => ?_) (fun c3 => hp_n (n := 17) rfl ?_)
    ·
      replace hf := ms_iT c3 hf
      refine lv_iconst (v := (-1)) hx hb dX10_freezeHead_41 (by decide) (hp_n (n := 42) rfl ?_)
      cases hf
      exact q_iret C Bh1 hr hlk ⟨rfl, rfl, Bh1.2.2⟩ dX10_freezeHead_42
    ·
      replace hf := ms_iF c3 hf
      refine lv_aload_n hx hb dX10_freezeHead_17 rfl (lv_at hl 1 rfl) (hp_n (n := 18) rfl ?_)
      refine q_geti (κ := 11) (k := 4) (φ := 554) (pc' := 21) C Bh1 (cw_k Bh1.2.2 k0) fl_X10_31 rfl rfl rfl dX10_freezeHead_18 rfl (fun x4 ex4 => ?_)
      replace hf := ms_lE ex4 hf
      refine lv_aload_n hx hb dX10_freezeHead_21 rfl (lv_at hl 1 rfl) (hp_n (n := 22) rfl ?_)
      refine q_getr (κ := 11) (k := 3) (φ := 553) (pc' := 25) C Bh1 (cw_k Bh1.2.2 k0) fl_X10_27 rfl rfl rfl (cw_r Bh1.2.2 k0 rfl rfl (by decide) (by decide)) dX10_freezeHead_22 rfl (fun b5 eb5 kb5 => ?_)
      replace hf := ms_lE eb5 hf
      refine q_alen (κ := 31) (t := 5) (n := 16) (x := 16) (ty := .object "ProvenRecord$Frozen") (pc' := 26) C Bh1 (cw_k Bh1.2.2 kb5) (by decide) rfl rfl rfl dX10_freezeHead_25 rfl ?_
      refine lv_icmp_ge (tgt := 41) hx hb dX10_freezeHead_26 (by decide) (fun c6 => ?_) (fun c6 => hp_n (n := 29) rfl ?_)
      ·
        replace hf := ms_iT c6 hf
        refine lv_iconst (v := (-1)) hx hb dX10_freezeHead_41 (by decide) (hp_n (n := 42) rfl ?_)
        cases hf
        exact q_iret C Bh1 hr hlk ⟨rfl, rfl, Bh1.2.2⟩ dX10_freezeHead_42
      ·
        replace hf := ms_iF c6 hf
        refine lv_aload_n hx hb dX10_freezeHead_29 rfl (lv_at hl 1 rfl) (hp_n (n := 30) rfl ?_)
        refine q_getr (κ := 11) (k := 3) (φ := 553) (pc' := 33) C Bh1 (cw_k Bh1.2.2 k0) fl_X10_27 rfl rfl rfl (cw_r Bh1.2.2 k0 rfl rfl (by decide) (by decide)) dX10_freezeHead_30 rfl (fun b7 eb7 kb7 => ?_)
        replace hf := ms_lE eb7 hf
        refine lv_aload_n hx hb dX10_freezeHead_33 rfl (lv_at hl 1 rfl) (hp_n (n := 34) rfl ?_)
        refine q_geti (κ := 11) (k := 4) (φ := 554) (pc' := 37) C Bh1 (cw_k Bh1.2.2 k0) fl_X10_31 rfl rfl rfl dX10_freezeHead_34 rfl (fun x8 ex8 => ?_)
        replace hf := ms_lE ex8 hf
        obtain ⟨g9, hf⟩ := ms_gE hf
        refine q_aal (κ := 31) (t := 5) (n := 16) (C0 := "ProvenRecord$Frozen") (pc' := 38) C Bh1 (cw_k Bh1.2.2 kb7) (by decide) rfl rfl (by decide) (vi_of g9.1 g9.2) dX10_freezeHead_37 rfl ?_
        rcases hq_E hf with ⟨hqb10, hf⟩ | ⟨b10, hqb10, hf⟩
        ·
          rw [hqb10]
          refine lv_ifnonnullN hx hb dX10_freezeHead_38 (hp_n (n := 41) rfl ?_)
          refine lv_iconst (v := (-1)) hx hb dX10_freezeHead_41 (by decide) (hp_n (n := 42) rfl ?_)
          cases hf
          exact q_iret C Bh1 hr hlk ⟨rfl, rfl, Bh1.2.2⟩ dX10_freezeHead_42
        ·
          rw [hqb10]
          have kb10 := cw_q Bh1.2.2 kb7 rfl (by decide) hqb10
          refine lv_ifnonnull (tgt := 43) hx hb dX10_freezeHead_38 (by decide) ?_
          refine lv_aload_n hx hb dX10_freezeHead_43 rfl (lv_at hl 1 rfl) (hp_n (n := 44) rfl ?_)
          refine q_getr (κ := 11) (k := 3) (φ := 553) (pc' := 47) C Bh1 (cw_k Bh1.2.2 k0) fl_X10_27 rfl rfl rfl (cw_r Bh1.2.2 k0 rfl rfl (by decide) (by decide)) dX10_freezeHead_44 rfl (fun b11 eb11 kb11 => ?_)
          replace hf := ms_lE eb11 hf
          refine lv_aload_n hx hb dX10_freezeHead_47 rfl (lv_at hl 1 rfl) (hp_n (n := 48) rfl ?_)
          refine q_geti (κ := 11) (k := 4) (φ := 554) (pc' := 51) C Bh1 (cw_k Bh1.2.2 k0) fl_X10_31 rfl rfl rfl dX10_freezeHead_48 rfl (fun x12 ex12 => ?_)
          replace hf := ms_lE ex12 hf
          obtain ⟨g13, hf⟩ := ms_gE hf
          refine q_aal (κ := 31) (t := 5) (n := 16) (C0 := "ProvenRecord$Frozen") (pc' := 52) C Bh1 (cw_k Bh1.2.2 kb11) (by decide) rfl rfl (by decide) (vi_of g13.1 g13.2) dX10_freezeHead_51 rfl ?_
          rcases hq_E hf with ⟨hqb14, hf⟩ | ⟨b14, hqb14, hf⟩
          ·
            rw [hqb14]
            refine lv_astore_nN (lv' := [(3, .null), (2, .ref bh1), (0, .ref a0), (1, .int a1)]) hx hb dX10_freezeHead_52 rfl hl (by decide) rfl (fun ls hl => hp_n (n := 53) rfl ?_)
            refine lv_aload_nN hx hb dX10_freezeHead_53 rfl (lv_at hl 0 rfl) (hp_n (n := 54) rfl ?_)
            refine lv_iload_n hx hb dX10_freezeHead_54 rfl (lv_at hl 3 rfl) (hp_n (n := 55) rfl ?_)
            cases hf
          ·
            rw [hqb14]
            have kb14 := cw_q Bh1.2.2 kb11 rfl (by decide) hqb14
            refine lv_astore_n (lv' := [(3, .ref b14), (2, .ref bh1), (0, .ref a0), (1, .int a1)]) hx hb dX10_freezeHead_52 rfl hl (by decide) rfl (fun ls hl => hp_n (n := 53) rfl ?_)
            refine lv_aload_n hx hb dX10_freezeHead_53 rfl (lv_at hl 0 rfl) (hp_n (n := 54) rfl ?_)
            refine lv_iload_n hx hb dX10_freezeHead_54 rfl (lv_at hl 3 rfl) (hp_n (n := 55) rfl ?_)
            refine q_puti (κ := 2) (k := 0) (φ := 100) (pc' := 58) C Bh1 (cw_k Bh1.2.2 kb14) fl_X10_128 rfl rfl rfl rfl rfl rfl (cw_sI Bh1.2.2 (by decide) (fun h => absurd h (by decide))) dX10_freezeHead_55 rfl (fun αh16 Hh16 Lh16 eh16 Bh16 => ?_)
            replace hf := ms_lE eh16 hf
            refine lv_aload_n hx hb dX10_freezeHead_58 rfl (lv_at hl 0 rfl) (hp_n (n := 59) rfl ?_)
            refine lv_aload_n hx hb dX10_freezeHead_59 rfl (lv_at hl 1 rfl) (hp_n (n := 60) rfl ?_)
            refine q_geti (κ := 3) (k := 2) (φ := 152) (pc' := 63) C Bh16 (cw_k Bh16.2.2 kbh1) fl_X10_68 rfl rfl rfl dX10_freezeHead_60 rfl (fun x17 ex17 => ?_)
            replace hf := ms_lE ex17 hf
            refine q_puti (κ := 2) (k := 1) (φ := 101) (pc' := 66) C Bh16 (cw_k Bh16.2.2 kb14) fl_X10_131 rfl rfl rfl rfl rfl rfl (cw_sI Bh16.2.2 (by decide) (fun h => absurd h (by decide))) dX10_freezeHead_63 rfl (fun αh18 Hh18 Lh18 eh18 Bh18 => ?_)
            replace hf := ms_lE eh18 hf
            refine lv_aload_n hx hb dX10_freezeHead_66 rfl (lv_at hl 0 rfl) (hp_n (n := 67) rfl ?_)
            refine lv_aload_n hx hb dX10_freezeHead_67 rfl (lv_at hl 2 rfl) (hp_n (n := 68) rfl ?_)
            refine lv_aload_n hx hb dX10_freezeHead_68 rfl (lv_at hl 1 rfl) (hp_n (n := 69) rfl ?_)
            refine lv_aload_n hx hb dX10_freezeHead_69 rfl (lv_at hl 1 rfl) (hp_n (n := 70) rfl ?_)
            refine q_geti (κ := 3) (k := 2) (φ := 152) (pc' := 73) C Bh18 (cw_k Bh18.2.2 kbh1) fl_X10_68 rfl rfl rfl dX10_freezeHead_70 rfl (fun x19 ex19 => ?_)
            replace hf := ms_lE ex19 hf
            obtain ⟨rh20, αh20, qh20, hf⟩ := hq_cE hf
            refine d_ci (pc' := 76) Bh18 (hp_runV (As := [va_rf (some bh1), .int x19]) (rest := [.ref b14]) C Bh18 (n_X10_headOf n Γ l αh18 Bh18.2.2.1 a0 (cw_k Bh18.2.2 k0) (some bh1) (fun b h => by cases h; exact (cw_k Bh18.2.2 kbh1)) x19 (rh20, αh20) qh20) lb_X10_headOf lv_X10_headOf lk_X10_107 (cw_k Bh18.2.2 k0) rfl (by decide) rfl hl.1 rfl (Nat.le_of_ble_eq_true rfl) dX10_freezeHead_73 ⟨Nat.le_refl _, Nat.le_refl _⟩) (by decide) rfl (fun Hh20 Lh20 Bh20 => ?_)
            refine q_puti (κ := 2) (k := 2) (φ := 102) (pc' := 79) C Bh20 (cw_k Bh20.2.2 kb14) fl_X10_134 rfl rfl rfl rfl rfl rfl (cw_sI Bh20.2.2 (by decide) (fun h => absurd h (by decide))) dX10_freezeHead_76 rfl (fun αh21 Hh21 Lh21 eh21 Bh21 => ?_)
            replace hf := ms_lE eh21 hf
            refine lv_aload_n hx hb dX10_freezeHead_79 rfl (lv_at hl 0 rfl) (hp_n (n := 80) rfl ?_)
            refine lv_aload_n hx hb dX10_freezeHead_80 rfl (lv_at hl 2 rfl) (hp_n (n := 81) rfl ?_)
            refine q_geti (κ := 11) (k := 6) (φ := 556) (pc' := 84) C Bh21 (cw_k Bh21.2.2 k0) fl_X10_40 rfl rfl rfl dX10_freezeHead_81 rfl (fun x22 ex22 => ?_)
            replace hf := ms_lE ex22 hf
            refine q_puti (κ := 2) (k := 3) (φ := 103) (pc' := 87) C Bh21 (cw_k Bh21.2.2 kb14) fl_X10_137 rfl rfl rfl rfl rfl rfl (cw_sI Bh21.2.2 (by decide) (fun h => absurd h (by decide))) dX10_freezeHead_84 rfl (fun αh23 Hh23 Lh23 eh23 Bh23 => ?_)
            replace hf := ms_lE eh23 hf
            refine lv_aload_n hx hb dX10_freezeHead_87 rfl (lv_at hl 2 rfl) (hp_n (n := 88) rfl ?_)
            refine lv_aload_n hx hb dX10_freezeHead_88 rfl (lv_at hl 1 rfl) (hp_n (n := 89) rfl ?_)
            refine lv_aload_n hx hb dX10_freezeHead_89 rfl (lv_at hl 1 rfl) (hp_n (n := 90) rfl ?_)
            refine q_geti (κ := 3) (k := 2) (φ := 152) (pc' := 93) C Bh23 (cw_k Bh23.2.2 kbh1) fl_X10_68 rfl rfl rfl dX10_freezeHead_90 rfl (fun x24 ex24 => ?_)
            replace hf := ms_lE ex24 hf
            refine lv_aload_n hx hb dX10_freezeHead_93 rfl (lv_at hl 0 rfl) (hp_n (n := 94) rfl ?_)
            refine q_getr (κ := 2) (k := 4) (φ := 104) (pc' := 97) C Bh23 (cw_k Bh23.2.2 kb14) fl_X10_140 rfl rfl rfl (cw_r Bh23.2.2 kb14 rfl rfl (by decide) (by decide)) dX10_freezeHead_94 rfl (fun b25 eb25 kb25 => ?_)
            replace hf := ms_lE eb25 hf
            obtain ⟨αh26, qh26, hf⟩ := ms_bE hf
            refine d_cv (pc' := 100) Bh23 (hp_runV (As := [va_rf (some bh1), .int x24, .ref b25]) (rest := []) C Bh23 (n_X10_peaksOf n Γ l αh23 Bh23.2.2.1 a0 (cw_k Bh23.2.2 k0) (some bh1) (fun b h => by cases h; exact (cw_k Bh23.2.2 kbh1)) x24 b25 (cw_k Bh23.2.2 kb25) αh26 qh26) lb_X10_peaksOf lv_X10_peaksOf lk_X10_143 (cw_k Bh23.2.2 k0) rfl (by decide) rfl hl.1 rfl (Nat.le_of_ble_eq_true rfl) dX10_freezeHead_97 ⟨Nat.le_refl _, Nat.le_refl _⟩) (by decide) rfl (fun Hh26 Lh26 Bh26 => ?_)
            refine lv_aload_n hx hb dX10_freezeHead_100 rfl (lv_at hl 2 rfl) (hp_n (n := 101) rfl ?_)
            refine lv_dup hx hb dX10_freezeHead_101 rfl (hp_n (n := 102) rfl ?_)
            refine q_geti (κ := 11) (k := 4) (φ := 554) (pc' := 105) C Bh26 (cw_k Bh26.2.2 k0) fl_X10_31 rfl rfl rfl dX10_freezeHead_102 rfl (fun x27 ex27 => ?_)
            replace hf := ms_lE ex27 hf
            refine lv_iconst (v := 1) hx hb dX10_freezeHead_105 (by decide) (hp_n (n := 106) rfl ?_)
            refine lv_iadd hx hb dX10_freezeHead_106 (hp_n (n := 107) rfl ?_)
            refine q_puti (κ := 11) (k := 4) (φ := 554) (pc' := 110) C Bh26 (cw_k Bh26.2.2 k0) fl_X10_31 rfl rfl rfl rfl rfl rfl (cw_sI Bh26.2.2 (by decide) (fun h => absurd h (by decide))) dX10_freezeHead_107 rfl (fun αh28 Hh28 Lh28 eh28 Bh28 => ?_)
            replace hf := ms_lE eh28 hf
            refine lv_aload_n hx hb dX10_freezeHead_110 rfl (lv_at hl 2 rfl) (hp_n (n := 111) rfl ?_)
            refine lv_dup hx hb dX10_freezeHead_111 rfl (hp_n (n := 112) rfl ?_)
            refine q_geti (κ := 11) (k := 6) (φ := 556) (pc' := 115) C Bh28 (cw_k Bh28.2.2 k0) fl_X10_40 rfl rfl rfl dX10_freezeHead_112 rfl (fun x29 ex29 => ?_)
            replace hf := ms_lE ex29 hf
            refine lv_iconst (v := 1) hx hb dX10_freezeHead_115 (by decide) (hp_n (n := 116) rfl ?_)
            refine lv_iadd hx hb dX10_freezeHead_116 (hp_n (n := 117) rfl ?_)
            refine q_puti (κ := 11) (k := 6) (φ := 556) (pc' := 120) C Bh28 (cw_k Bh28.2.2 k0) fl_X10_40 rfl rfl rfl rfl rfl rfl (cw_sI Bh28.2.2 (by decide) (fun h => absurd h (by decide))) dX10_freezeHead_117 rfl (fun αh30 Hh30 Lh30 eh30 Bh30 => ?_)
            replace hf := ms_lE eh30 hf
            refine lv_aload_n hx hb dX10_freezeHead_120 rfl (lv_at hl 2 rfl) (hp_n (n := 121) rfl ?_)
            refine q_geti (κ := 11) (k := 4) (φ := 554) (pc' := 124) C Bh30 (cw_k Bh30.2.2 k0) fl_X10_31 rfl rfl rfl dX10_freezeHead_121 rfl (fun x31 ex31 => ?_)
            replace hf := ms_lE ex31 hf
            refine lv_iconst (v := 1) hx hb dX10_freezeHead_124 (by decide) (hp_n (n := 125) rfl ?_)
            refine lv_isub hx hb dX10_freezeHead_125 (hp_n (n := 126) rfl ?_)
            cases hf
            exact q_iret C Bh30 hr hlk ⟨rfl, rfl, Bh30.2.2⟩ dX10_freezeHead_126
