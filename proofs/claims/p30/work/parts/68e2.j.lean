section JN8_0
def f_X5_at (n : Nat) (α : hp_T) (a0 : Nat) (a1 : Int32) : Option Int32 :=
  if a1 < 0 then
    some (0 : Int32)
  else
    ms_l (hp_I α 301 a0) fun x2 =>
    if x2 ≤ a1 then
      some (0 : Int32)
    else
      ms_l (hp_R α 300 a0) fun b4 =>
      if (64 : Int32) ≤ a1 then
        some (0 : Int32)
      else
        ms_l (hp_R α 300 a0) fun b6 =>
        ms_g a1 64 <|
        some (hp_E α 20 b6 (a1).toNatClampNeg)
set_option maxRecDepth 100000 in
set_option maxHeartbeats 4000000 in
theorem n_X5_at (n : Nat) (Γ : hp_G) (l : Launch) (α : hp_T) (g : GC α) (a0 : Nat) (k0 : hp_K α a0 = 6) (a1 : Int32) (res : Int32) (hf : f_X5_at n α a0 a1 = some res) : Met l yX5_at (hp_ws yX5_at cX5_at 2 (some .int)) (hp_rm 0 0 0) (hp_Pc Γ α [.ref a0, .int a1]) (hp_Qi Γ (fun r β => β = α ∧ r = res)) 0 0 (hp_A Γ) := by
  unfold f_X5_at at hf
  refine hp_start (by decide) ?_
  intro p e s m below meth c C hr hlk B0 hnm
  have C : hp_C Γ p m c cX5_at 2 s ([.ref a0, .int a1] : List Value).toArray RX5 := C
  have hx := C.1.1
  have hb := C.1.2.1
  have hown := C.1.2.2.2.1
  have hts := C.1.2.2.2.2
  have B : hp_B Γ (cw w_X5_at) s α α s.heap [] := ⟨B0.1, B0.2.1, cw_rf g⟩
  have hl := lv_entry ([.ref a0, .int a1]) (n := 2) (Nat.le_of_ble_eq_true rfl)
  show W p l e (hp_rm 0 0 0) s m ([.ref a0, .int a1] : List Value).toArray below meth c s.heap [] 0 0 (MQ below (hp_Qi Γ (fun r β => β = α ∧ r = res)) ([.ref a0, .int a1] : List Value).toArray s 0 0 (hp_A Γ)) (entryFrame m ([.ref a0, .int a1] : List Value).toArray 2)
  rw [lg_entry_eq]
  generalize (lg_sl ([.ref a0, .int a1]) ++ List.replicate (2 - (lg_sl ([.ref a0, .int a1])).length) Slot.unset).toArray = ls at hl ⊢
  have hl : lv_has ls 2 [(0, .ref a0), (1, .int a1)] := hl
  refine lv_iload_n hx hb dX5_at_0 rfl (lv_at hl 1 rfl) (hp_n (n := 1) rfl ?_)
  refine lv_if_lt (tgt := 30) hx hb dX5_at_1 (by decide) (fun c1 => ?_) (fun c1 => hp_n (n := 4) rfl ?_)
  ·
    replace hf := ms_iT c1 hf
    refine lv_iconst (v := 0) hx hb dX5_at_30 (by decide) (hp_n (n := 31) rfl ?_)
    cases hf
    exact q_iret C B hr hlk ⟨rfl, rfl⟩ dX5_at_31
  ·
    replace hf := ms_iF c1 hf
    refine lv_iload_n hx hb dX5_at_4 rfl (lv_at hl 1 rfl) (hp_n (n := 5) rfl ?_)
    refine lv_aload_n hx hb dX5_at_5 rfl (lv_at hl 0 rfl) (hp_n (n := 6) rfl ?_)
    refine q_geti (κ := 6) (k := 1) (φ := 301) (pc' := 9) C B (cw_k B.2.2 k0) fl_X5_15 rfl rfl rfl dX5_at_6 rfl (fun x2 ex2 => ?_)
    replace hf := ms_lE ex2 hf
    refine lv_icmp_ge (tgt := 30) hx hb dX5_at_9 (by decide) (fun c3 => ?_) (fun c3 => hp_n (n := 12) rfl ?_)
    ·
      replace hf := ms_iT c3 hf
      refine lv_iconst (v := 0) hx hb dX5_at_30 (by decide) (hp_n (n := 31) rfl ?_)
      cases hf
      exact q_iret C B hr hlk ⟨rfl, rfl⟩ dX5_at_31
    ·
      replace hf := ms_iF c3 hf
      refine lv_iload_n hx hb dX5_at_12 rfl (lv_at hl 1 rfl) (hp_n (n := 13) rfl ?_)
      refine lv_aload_n hx hb dX5_at_13 rfl (lv_at hl 0 rfl) (hp_n (n := 14) rfl ?_)
      refine q_getr (κ := 6) (k := 0) (φ := 300) (pc' := 17) C B (cw_k B.2.2 k0) fl_X5_9 rfl rfl rfl (cw_r B.2.2 k0 rfl rfl (by decide) (by decide)) dX5_at_14 rfl (fun b4 eb4 kb4 => ?_)
      replace hf := ms_lE eb4 hf
      refine q_alen (κ := 20) (t := 0) (n := 64) (x := 64) (ty := .int) (pc' := 18) C B (cw_k B.2.2 kb4) (by decide) rfl rfl rfl dX5_at_17 rfl ?_
      refine lv_icmp_ge (tgt := 30) hx hb dX5_at_18 (by decide) (fun c5 => ?_) (fun c5 => hp_n (n := 21) rfl ?_)
      ·
        replace hf := ms_iT c5 hf
        refine lv_iconst (v := 0) hx hb dX5_at_30 (by decide) (hp_n (n := 31) rfl ?_)
        cases hf
        exact q_iret C B hr hlk ⟨rfl, rfl⟩ dX5_at_31
      ·
        replace hf := ms_iF c5 hf
        refine lv_aload_n hx hb dX5_at_21 rfl (lv_at hl 0 rfl) (hp_n (n := 22) rfl ?_)
        refine q_getr (κ := 6) (k := 0) (φ := 300) (pc' := 25) C B (cw_k B.2.2 k0) fl_X5_9 rfl rfl rfl (cw_r B.2.2 k0 rfl rfl (by decide) (by decide)) dX5_at_22 rfl (fun b6 eb6 kb6 => ?_)
        replace hf := ms_lE eb6 hf
        refine lv_iload_n hx hb dX5_at_25 rfl (lv_at hl 1 rfl) (hp_n (n := 26) rfl ?_)
        obtain ⟨g7, hf⟩ := ms_gE hf
        refine q_ial (κ := 20) (n := 64) (pc' := 27) C B (cw_k B.2.2 kb6) (by decide) rfl (vi_of g7.1 g7.2) dX5_at_26 rfl ?_
        refine lv_goto (tgt := 31) hx hb dX5_at_27 (by decide) ?_
        cases hf
        exact q_iret C B hr hlk ⟨rfl, rfl⟩ dX5_at_31
def f_X5_put (n : Nat) (α : hp_T) (a0 : Nat) (a1 : Int32) : Option hp_T :=
  ms_l (hp_I α 301 a0) fun x1 =>
  if x1 < 0 then
    some α
  else
    ms_l (hp_I α 301 a0) fun x3 =>
    ms_l (hp_R α 300 a0) fun b4 =>
    if (64 : Int32) ≤ x3 then
      some α
    else
      ms_l (hp_R α 300 a0) fun b6 =>
      ms_l (hp_I α 301 a0) fun x7 =>
      ms_g x7 64 <|
      ms_l (hp_sE α 20 b6 (x7).toNatClampNeg a1) fun αh9 =>
      ms_l (hp_I αh9 301 a0) fun x10 =>
      ms_l (hp_sI αh9 301 a0 (x10 + (1 : Int32))) fun αh11 =>
      some αh11
set_option maxRecDepth 100000 in
set_option maxHeartbeats 4000000 in
theorem n_X5_put (n : Nat) (Γ : hp_G) (l : Launch) (α : hp_T) (g : GC α) (a0 : Nat) (k0 : hp_K α a0 = 6) (a1 : Int32) (res : hp_T) (hf : f_X5_put n α a0 a1 = some res) : Met l yX5_put (hp_ws yX5_put cX5_put 2 none) (hp_rm 0 0 0) (hp_Pc Γ α [.ref a0, .int a1]) (hp_Qv Γ (fun β => β = res ∧ cw w_X5_put α β)) 0 0 (hp_A Γ) := by
  unfold f_X5_put at hf
  refine hp_start (by decide) ?_
  intro p e s m below meth c C hr hlk B0 hnm
  have C : hp_C Γ p m c cX5_put 2 s ([.ref a0, .int a1] : List Value).toArray RX5 := C
  have hx := C.1.1
  have hb := C.1.2.1
  have hown := C.1.2.2.2.1
  have hts := C.1.2.2.2.2
  have B : hp_B Γ (cw w_X5_put) s α α s.heap [] := ⟨B0.1, B0.2.1, cw_rf g⟩
  have hl := lv_entry ([.ref a0, .int a1]) (n := 2) (Nat.le_of_ble_eq_true rfl)
  show W p l e (hp_rm 0 0 0) s m ([.ref a0, .int a1] : List Value).toArray below meth c s.heap [] 0 0 (MQ below (hp_Qv Γ (fun β => β = res ∧ cw w_X5_put α β)) ([.ref a0, .int a1] : List Value).toArray s 0 0 (hp_A Γ)) (entryFrame m ([.ref a0, .int a1] : List Value).toArray 2)
  rw [lg_entry_eq]
  generalize (lg_sl ([.ref a0, .int a1]) ++ List.replicate (2 - (lg_sl ([.ref a0, .int a1])).length) Slot.unset).toArray = ls at hl ⊢
  have hl : lv_has ls 2 [(0, .ref a0), (1, .int a1)] := hl
  refine lv_aload_n hx hb dX5_put_0 rfl (lv_at hl 0 rfl) (hp_n (n := 1) rfl ?_)
  refine q_geti (κ := 6) (k := 1) (φ := 301) (pc' := 4) C B (cw_k B.2.2 k0) fl_X5_15 rfl rfl rfl dX5_put_1 rfl (fun x1 ex1 => ?_)
  replace hf := ms_lE ex1 hf
  refine lv_if_lt (tgt := 39) hx hb dX5_put_4 (by decide) (fun c2 => ?_) (fun c2 => hp_n (n := 7) rfl ?_)
  ·
    replace hf := ms_iT c2 hf
    cases hf
    exact q_vret C B hr hlk ⟨rfl, B.2.2⟩ dX5_put_39
  ·
    replace hf := ms_iF c2 hf
    refine lv_aload_n hx hb dX5_put_7 rfl (lv_at hl 0 rfl) (hp_n (n := 8) rfl ?_)
    refine q_geti (κ := 6) (k := 1) (φ := 301) (pc' := 11) C B (cw_k B.2.2 k0) fl_X5_15 rfl rfl rfl dX5_put_8 rfl (fun x3 ex3 => ?_)
    replace hf := ms_lE ex3 hf
    refine lv_aload_n hx hb dX5_put_11 rfl (lv_at hl 0 rfl) (hp_n (n := 12) rfl ?_)
    refine q_getr (κ := 6) (k := 0) (φ := 300) (pc' := 15) C B (cw_k B.2.2 k0) fl_X5_9 rfl rfl rfl (cw_r B.2.2 k0 rfl rfl (by decide) (by decide)) dX5_put_12 rfl (fun b4 eb4 kb4 => ?_)
    replace hf := ms_lE eb4 hf
    refine q_alen (κ := 20) (t := 0) (n := 64) (x := 64) (ty := .int) (pc' := 16) C B (cw_k B.2.2 kb4) (by decide) rfl rfl rfl dX5_put_15 rfl ?_
    refine lv_icmp_ge (tgt := 39) hx hb dX5_put_16 (by decide) (fun c5 => ?_) (fun c5 => hp_n (n := 19) rfl ?_)
    ·
      replace hf := ms_iT c5 hf
      cases hf
      exact q_vret C B hr hlk ⟨rfl, B.2.2⟩ dX5_put_39
    ·
      replace hf := ms_iF c5 hf
      refine lv_aload_n hx hb dX5_put_19 rfl (lv_at hl 0 rfl) (hp_n (n := 20) rfl ?_)
      refine q_getr (κ := 6) (k := 0) (φ := 300) (pc' := 23) C B (cw_k B.2.2 k0) fl_X5_9 rfl rfl rfl (cw_r B.2.2 k0 rfl rfl (by decide) (by decide)) dX5_put_20 rfl (fun b6 eb6 kb6 => ?_)
      replace hf := ms_lE eb6 hf
      refine lv_aload_n hx hb dX5_put_23 rfl (lv_at hl 0 rfl) (hp_n (n := 24) rfl ?_)
      refine q_geti (κ := 6) (k := 1) (φ := 301) (pc' := 27) C B (cw_k B.2.2 k0) fl_X5_15 rfl rfl rfl dX5_put_24 rfl (fun x7 ex7 => ?_)
      replace hf := ms_lE ex7 hf
      refine lv_iload_n hx hb dX5_put_27 rfl (lv_at hl 1 rfl) (hp_n (n := 28) rfl ?_)
      obtain ⟨g8, hf⟩ := ms_gE hf
      refine q_ias (κ := 20) (n := 64) (pc' := 29) C B (cw_k B.2.2 kb6) (by decide) rfl (vi_of g8.1 g8.2) rfl (cw_sE B.2.2 (by decide)) dX5_put_28 rfl (fun αh9 Hh9 Lh9 eh9 Bh9 => ?_)
      replace hf := ms_lE eh9 hf
      refine lv_aload_n hx hb dX5_put_29 rfl (lv_at hl 0 rfl) (hp_n (n := 30) rfl ?_)
      refine lv_dup hx hb dX5_put_30 rfl (hp_n (n := 31) rfl ?_)
      refine q_geti (κ := 6) (k := 1) (φ := 301) (pc' := 34) C Bh9 (cw_k Bh9.2.2 k0) fl_X5_15 rfl rfl rfl dX5_put_31 rfl (fun x10 ex10 => ?_)
      replace hf := ms_lE ex10 hf
      refine lv_iconst (v := 1) hx hb dX5_put_34 (by decide) (hp_n (n := 35) rfl ?_)
      refine lv_iadd hx hb dX5_put_35 (hp_n (n := 36) rfl ?_)
      refine q_puti (κ := 6) (k := 1) (φ := 301) (pc' := 39) C Bh9 (cw_k Bh9.2.2 k0) fl_X5_15 rfl rfl rfl rfl rfl rfl (cw_sI Bh9.2.2 (by decide) (fun _ => by have q0 : x10 = x7 := (by rw [ex10, eh9, ex7]; rfl); rw [q0, ii_add (by rw [show (1 : Int32).toInt = 1 from rfl]; omega) (by rw [show (1 : Int32).toInt = 1 from rfl]; omega), show (1 : Int32).toInt = 1 from rfl]; have q1 := g8; omega)) dX5_put_36 rfl (fun αh11 Hh11 Lh11 eh11 Bh11 => ?_)
      replace hf := ms_lE eh11 hf
      cases hf
      exact q_vret C Bh11 hr hlk ⟨rfl, Bh11.2.2⟩ dX5_put_39
def f_X5_shorten (n : Nat) (α : hp_T) (a0 : Nat) (a1 : Int32) : Option hp_T :=
  if a1 < 0 then
    some α
  else
    ms_l (hp_I α 301 a0) fun x2 =>
    if x2 ≤ a1 then
      some α
    else
      ms_l (hp_sI α 301 a0 a1) fun αh4 =>
      some αh4
set_option maxRecDepth 100000 in
set_option maxHeartbeats 4000000 in
theorem n_X5_shorten (n : Nat) (Γ : hp_G) (l : Launch) (α : hp_T) (g : GC α) (a0 : Nat) (k0 : hp_K α a0 = 6) (a1 : Int32) (res : hp_T) (hf : f_X5_shorten n α a0 a1 = some res) : Met l yX5_shorten (hp_ws yX5_shorten cX5_shorten 2 none) (hp_rm 0 0 0) (hp_Pc Γ α [.ref a0, .int a1]) (hp_Qv Γ (fun β => β = res ∧ cw w_X5_shorten α β)) 0 0 (hp_A Γ) := by
  unfold f_X5_shorten at hf
  refine hp_start (by decide) ?_
  intro p e s m below meth c C hr hlk B0 hnm
  have C : hp_C Γ p m c cX5_shorten 2 s ([.ref a0, .int a1] : List Value).toArray RX5 := C
  have hx := C.1.1
  have hb := C.1.2.1
  have hown := C.1.2.2.2.1
  have hts := C.1.2.2.2.2
  have B : hp_B Γ (cw w_X5_shorten) s α α s.heap [] := ⟨B0.1, B0.2.1, cw_rf g⟩
  have hl := lv_entry ([.ref a0, .int a1]) (n := 2) (Nat.le_of_ble_eq_true rfl)
  show W p l e (hp_rm 0 0 0) s m ([.ref a0, .int a1] : List Value).toArray below meth c s.heap [] 0 0 (MQ below (hp_Qv Γ (fun β => β = res ∧ cw w_X5_shorten α β)) ([.ref a0, .int a1] : List Value).toArray s 0 0 (hp_A Γ)) (entryFrame m ([.ref a0, .int a1] : List Value).toArray 2)
  rw [lg_entry_eq]
  generalize (lg_sl ([.ref a0, .int a1]) ++ List.replicate (2 - (lg_sl ([.ref a0, .int a1])).length) Slot.unset).toArray = ls at hl ⊢
  have hl : lv_has ls 2 [(0, .ref a0), (1, .int a1)] := hl
  refine lv_iload_n hx hb dX5_shorten_0 rfl (lv_at hl 1 rfl) (hp_n (n := 1) rfl ?_)
  refine lv_if_lt (tgt := 17) hx hb dX5_shorten_1 (by decide) (fun c1 => ?_) (fun c1 => hp_n (n := 4) rfl ?_)
  ·
    replace hf := ms_iT c1 hf
    cases hf
    exact q_vret C B hr hlk ⟨rfl, B.2.2⟩ dX5_shorten_17
  ·
    replace hf := ms_iF c1 hf
    refine lv_iload_n hx hb dX5_shorten_4 rfl (lv_at hl 1 rfl) (hp_n (n := 5) rfl ?_)
    refine lv_aload_n hx hb dX5_shorten_5 rfl (lv_at hl 0 rfl) (hp_n (n := 6) rfl ?_)
    refine q_geti (κ := 6) (k := 1) (φ := 301) (pc' := 9) C B (cw_k B.2.2 k0) fl_X5_15 rfl rfl rfl dX5_shorten_6 rfl (fun x2 ex2 => ?_)
    replace hf := ms_lE ex2 hf
    refine lv_icmp_ge (tgt := 17) hx hb dX5_shorten_9 (by decide) (fun c3 => ?_) (fun c3 => hp_n (n := 12) rfl ?_)
    ·
      replace hf := ms_iT c3 hf
      cases hf
      exact q_vret C B hr hlk ⟨rfl, B.2.2⟩ dX5_shorten_17
    ·
      replace hf := ms_iF c3 hf
      refine lv_aload_n hx hb dX5_shorten_12 rfl (lv_at hl 0 rfl) (hp_n (n := 13) rfl ?_)
      refine lv_iload_n hx hb dX5_shorten_13 rfl (lv_at hl 1 rfl) (hp_n (n := 14) rfl ?_)
      refine q_puti (κ := 6) (k := 1) (φ := 301) (pc' := 17) C B (cw_k B.2.2 k0) fl_X5_15 rfl rfl rfl rfl rfl rfl (cw_sI B.2.2 (by decide) (fun _ => by have q0 := g.1 301 a0 rfl; rw [← ex2] at q0; have q1 := il_nlt c1; have q2 := il_nle c3; rw [show (0 : Int32).toInt = 0 from rfl] at q1; omega)) dX5_shorten_14 rfl (fun αh4 Hh4 Lh4 eh4 Bh4 => ?_)
      replace hf := ms_lE eh4 hf
      cases hf
      exact q_vret C Bh4 hr hlk ⟨rfl, Bh4.2.2⟩ dX5_shorten_17
def f_X9_letterAt (n : Nat) (α : hp_T) (a0 : Nat) (a1 : Int32) : Option Int32 :=
  if a1 < 0 then
    some (0 : Int32)
  else
    ms_l (hp_I α 501 a0) fun x2 =>
    if x2 ≤ a1 then
      some (0 : Int32)
    else
      ms_l (hp_R α 500 a0) fun b4 =>
      if (8 : Int32) ≤ a1 then
        some (0 : Int32)
      else
        ms_l (hp_R α 500 a0) fun b6 =>
        ms_g a1 8 <|
        some (hp_E α 27 b6 (a1).toNatClampNeg)
set_option maxRecDepth 100000 in
set_option maxHeartbeats 4000000 in
theorem n_X9_letterAt (n : Nat) (Γ : hp_G) (l : Launch) (α : hp_T) (g : GC α) (a0 : Nat) (k0 : hp_K α a0 = 10) (a1 : Int32) (res : Int32) (hf : f_X9_letterAt n α a0 a1 = some res) : Met l yX9_letterAt (hp_ws yX9_letterAt cX9_letterAt 2 (some .int)) (hp_rm 0 0 0) (hp_Pc Γ α [.ref a0, .int a1]) (hp_Qi Γ (fun r β => β = α ∧ r = res)) 0 0 (hp_A Γ) := by
  unfold f_X9_letterAt at hf
  refine hp_start (by decide) ?_
  intro p e s m below meth c C hr hlk B0 hnm
  have C : hp_C Γ p m c cX9_letterAt 2 s ([.ref a0, .int a1] : List Value).toArray RX9 := C
  have hx := C.1.1
  have hb := C.1.2.1
  have hown := C.1.2.2.2.1
  have hts := C.1.2.2.2.2
  have B : hp_B Γ (cw w_X9_letterAt) s α α s.heap [] := ⟨B0.1, B0.2.1, cw_rf g⟩
  have hl := lv_entry ([.ref a0, .int a1]) (n := 2) (Nat.le_of_ble_eq_true rfl)
  show W p l e (hp_rm 0 0 0) s m ([.ref a0, .int a1] : List Value).toArray below meth c s.heap [] 0 0 (MQ below (hp_Qi Γ (fun r β => β = α ∧ r = res)) ([.ref a0, .int a1] : List Value).toArray s 0 0 (hp_A Γ)) (entryFrame m ([.ref a0, .int a1] : List Value).toArray 2)
  rw [lg_entry_eq]
  generalize (lg_sl ([.ref a0, .int a1]) ++ List.replicate (2 - (lg_sl ([.ref a0, .int a1])).length) Slot.unset).toArray = ls at hl ⊢
  have hl : lv_has ls 2 [(0, .ref a0), (1, .int a1)] := hl
  refine lv_iload_n hx hb dX9_letterAt_0 rfl (lv_at hl 1 rfl) (hp_n (n := 1) rfl ?_)
  refine lv_if_lt (tgt := 30) hx hb dX9_letterAt_1 (by decide) (fun c1 => ?_) (fun c1 => hp_n (n := 4) rfl ?_)
  ·
    replace hf := ms_iT c1 hf
    refine lv_iconst (v := 0) hx hb dX9_letterAt_30 (by decide) (hp_n (n := 31) rfl ?_)
    cases hf
    exact q_iret C B hr hlk ⟨rfl, rfl⟩ dX9_letterAt_31
  ·
    replace hf := ms_iF c1 hf
    refine lv_iload_n hx hb dX9_letterAt_4 rfl (lv_at hl 1 rfl) (hp_n (n := 5) rfl ?_)
    refine lv_aload_n hx hb dX9_letterAt_5 rfl (lv_at hl 0 rfl) (hp_n (n := 6) rfl ?_)
    refine q_geti (κ := 10) (k := 1) (φ := 501) (pc' := 9) C B (cw_k B.2.2 k0) fl_X9_15 rfl rfl rfl dX9_letterAt_6 rfl (fun x2 ex2 => ?_)
    replace hf := ms_lE ex2 hf
    refine lv_icmp_ge (tgt := 30) hx hb dX9_letterAt_9 (by decide) (fun c3 => ?_) (fun c3 => hp_n (n := 12) rfl ?_)
    ·
      replace hf := ms_iT c3 hf
      refine lv_iconst (v := 0) hx hb dX9_letterAt_30 (by decide) (hp_n (n := 31) rfl ?_)
      cases hf
      exact q_iret C B hr hlk ⟨rfl, rfl⟩ dX9_letterAt_31
    ·
      replace hf := ms_iF c3 hf
      refine lv_iload_n hx hb dX9_letterAt_12 rfl (lv_at hl 1 rfl) (hp_n (n := 13) rfl ?_)
      refine lv_aload_n hx hb dX9_letterAt_13 rfl (lv_at hl 0 rfl) (hp_n (n := 14) rfl ?_)
      refine q_getr (κ := 10) (k := 0) (φ := 500) (pc' := 17) C B (cw_k B.2.2 k0) fl_X9_9 rfl rfl rfl (cw_r B.2.2 k0 rfl rfl (by decide) (by decide)) dX9_letterAt_14 rfl (fun b4 eb4 kb4 => ?_)
      replace hf := ms_lE eb4 hf
      refine q_alen (κ := 27) (t := 1) (n := 8) (x := 8) (ty := .byte) (pc' := 18) C B (cw_k B.2.2 kb4) (by decide) rfl rfl rfl dX9_letterAt_17 rfl ?_
      refine lv_icmp_ge (tgt := 30) hx hb dX9_letterAt_18 (by decide) (fun c5 => ?_) (fun c5 => hp_n (n := 21) rfl ?_)
      ·
        replace hf := ms_iT c5 hf
        refine lv_iconst (v := 0) hx hb dX9_letterAt_30 (by decide) (hp_n (n := 31) rfl ?_)
        cases hf
        exact q_iret C B hr hlk ⟨rfl, rfl⟩ dX9_letterAt_31
      ·
        replace hf := ms_iF c5 hf
        refine lv_aload_n hx hb dX9_letterAt_21 rfl (lv_at hl 0 rfl) (hp_n (n := 22) rfl ?_)
        refine q_getr (κ := 10) (k := 0) (φ := 500) (pc' := 25) C B (cw_k B.2.2 k0) fl_X9_9 rfl rfl rfl (cw_r B.2.2 k0 rfl rfl (by decide) (by decide)) dX9_letterAt_22 rfl (fun b6 eb6 kb6 => ?_)
        replace hf := ms_lE eb6 hf
        refine lv_iload_n hx hb dX9_letterAt_25 rfl (lv_at hl 1 rfl) (hp_n (n := 26) rfl ?_)
        obtain ⟨g7, hf⟩ := ms_gE hf
        refine q_bal (κ := 27) (n := 8) (pc' := 27) C B (cw_k B.2.2 kb6) (by decide) rfl (vi_of g7.1 g7.2) dX9_letterAt_26 rfl ?_
        refine lv_goto (tgt := 31) hx hb dX9_letterAt_27 (by decide) ?_
        cases hf
        exact q_iret C B hr hlk ⟨rfl, rfl⟩ dX9_letterAt_31
def f_X9_change (n : Nat) (α : hp_T) (a0 : Nat) (a1 : Int32) (a2 : Int32) : Option hp_T :=
  if a1 < 0 then
    some α
  else
    ms_l (hp_I α 501 a0) fun x2 =>
    if x2 ≤ a1 then
      some α
    else
      ms_l (hp_R α 500 a0) fun b4 =>
      if (8 : Int32) ≤ a1 then
        some α
      else
        ms_l (hp_R α 500 a0) fun b6 =>
        ms_g a1 8 <|
        ms_l (hp_sE α 27 b6 (a1).toNatClampNeg ((a2).toInt8.toInt32).toInt8.toInt32) fun αh8 =>
        some αh8
set_option maxRecDepth 100000 in
set_option maxHeartbeats 4000000 in
theorem n_X9_change (n : Nat) (Γ : hp_G) (l : Launch) (α : hp_T) (g : GC α) (a0 : Nat) (k0 : hp_K α a0 = 10) (a1 : Int32) (a2 : Int32) (res : hp_T) (hf : f_X9_change n α a0 a1 a2 = some res) : Met l yX9_change (hp_ws yX9_change cX9_change 3 none) (hp_rm 0 0 0) (hp_Pc Γ α [.ref a0, .int a1, .int a2]) (hp_Qv Γ (fun β => β = res ∧ cw w_X9_change α β)) 0 0 (hp_A Γ) := by
  unfold f_X9_change at hf
  refine hp_start (by decide) ?_
  intro p e s m below meth c C hr hlk B0 hnm
  have C : hp_C Γ p m c cX9_change 3 s ([.ref a0, .int a1, .int a2] : List Value).toArray RX9 := C
  have hx := C.1.1
  have hb := C.1.2.1
  have hown := C.1.2.2.2.1
  have hts := C.1.2.2.2.2
  have B : hp_B Γ (cw w_X9_change) s α α s.heap [] := ⟨B0.1, B0.2.1, cw_rf g⟩
  have hl := lv_entry ([.ref a0, .int a1, .int a2]) (n := 3) (Nat.le_of_ble_eq_true rfl)
  show W p l e (hp_rm 0 0 0) s m ([.ref a0, .int a1, .int a2] : List Value).toArray below meth c s.heap [] 0 0 (MQ below (hp_Qv Γ (fun β => β = res ∧ cw w_X9_change α β)) ([.ref a0, .int a1, .int a2] : List Value).toArray s 0 0 (hp_A Γ)) (entryFrame m ([.ref a0, .int a1, .int a2] : List Value).toArray 3)
  rw [lg_entry_eq]
  generalize (lg_sl ([.ref a0, .int a1, .int a2]) ++ List.replicate (3 - (lg_sl ([.ref a0, .int a1, .int a2])).length) Slot.unset).toArray = ls at hl ⊢
  have hl : lv_has ls 3 [(0, .ref a0), (1, .int a1), (2, .int a2)] := hl
  refine lv_iload_n hx hb dX9_change_0 rfl (lv_at hl 1 rfl) (hp_n (n := 1) rfl ?_)
  refine lv_if_lt (tgt := 29) hx hb dX9_change_1 (by decide) (fun c1 => ?_) (fun c1 => hp_n (n := 4) rfl ?_)
  ·
    replace hf := ms_iT c1 hf
    cases hf
    exact q_vret C B hr hlk ⟨rfl, B.2.2⟩ dX9_change_29
  ·
    replace hf := ms_iF c1 hf
    refine lv_iload_n hx hb dX9_change_4 rfl (lv_at hl 1 rfl) (hp_n (n := 5) rfl ?_)
    refine lv_aload_n hx hb dX9_change_5 rfl (lv_at hl 0 rfl) (hp_n (n := 6) rfl ?_)
    refine q_geti (κ := 10) (k := 1) (φ := 501) (pc' := 9) C B (cw_k B.2.2 k0) fl_X9_15 rfl rfl rfl dX9_change_6 rfl (fun x2 ex2 => ?_)
    replace hf := ms_lE ex2 hf
    refine lv_icmp_ge (tgt := 29) hx hb dX9_change_9 (by decide) (fun c3 => ?_) (fun c3 => hp_n (n := 12) rfl ?_)
    ·
      replace hf := ms_iT c3 hf
      cases hf
      exact q_vret C B hr hlk ⟨rfl, B.2.2⟩ dX9_change_29
    ·
      replace hf := ms_iF c3 hf
      refine lv_iload_n hx hb dX9_change_12 rfl (lv_at hl 1 rfl) (hp_n (n := 13) rfl ?_)
      refine lv_aload_n hx hb dX9_change_13 rfl (lv_at hl 0 rfl) (hp_n (n := 14) rfl ?_)
      refine q_getr (κ := 10) (k := 0) (φ := 500) (pc' := 17) C B (cw_k B.2.2 k0) fl_X9_9 rfl rfl rfl (cw_r B.2.2 k0 rfl rfl (by decide) (by decide)) dX9_change_14 rfl (fun b4 eb4 kb4 => ?_)
      replace hf := ms_lE eb4 hf
      refine q_alen (κ := 27) (t := 1) (n := 8) (x := 8) (ty := .byte) (pc' := 18) C B (cw_k B.2.2 kb4) (by decide) rfl rfl rfl dX9_change_17 rfl ?_
      refine lv_icmp_ge (tgt := 29) hx hb dX9_change_18 (by decide) (fun c5 => ?_) (fun c5 => hp_n (n := 21) rfl ?_)
      ·
        replace hf := ms_iT c5 hf
        cases hf
        exact q_vret C B hr hlk ⟨rfl, B.2.2⟩ dX9_change_29
      ·
        replace hf := ms_iF c5 hf
        refine lv_aload_n hx hb dX9_change_21 rfl (lv_at hl 0 rfl) (hp_n (n := 22) rfl ?_)
        refine q_getr (κ := 10) (k := 0) (φ := 500) (pc' := 25) C B (cw_k B.2.2 k0) fl_X9_9 rfl rfl rfl (cw_r B.2.2 k0 rfl rfl (by decide) (by decide)) dX9_change_22 rfl (fun b6 eb6 kb6 => ?_)
        replace hf := ms_lE eb6 hf
        refine lv_iload_n hx hb dX9_change_25 rfl (lv_at hl 1 rfl) (hp_n (n := 26) rfl ?_)
        refine lv_iload_n hx hb dX9_change_26 rfl (lv_at hl 2 rfl) (hp_n (n := 27) rfl ?_)
        refine lv_i2b hx hb dX9_change_27 rfl (hp_n (n := 28) rfl ?_)
        obtain ⟨g7, hf⟩ := ms_gE hf
        refine q_bas (κ := 27) (n := 8) (pc' := 29) (y := ((a2).toInt8.toInt32).toInt8.toInt32) C B (cw_k B.2.2 kb6) (by decide) rfl (vi_of g7.1 g7.2) rfl rfl (cw_sE B.2.2 (by decide)) dX9_change_28 rfl (fun αh8 Hh8 Lh8 eh8 Bh8 => ?_)
        replace hf := ms_lE eh8 hf
        cases hf
        exact q_vret C Bh8 hr hlk ⟨rfl, Bh8.2.2⟩ dX9_change_29
def f_X9_copy_L6 (n : Nat) (a0 : Nat) : Nat → hp_T → Nat → Int32 → Option hp_T
  | 0, _, _, _ => none
  | k6 + 1, αh2, v1_h2, v2_h2 =>
    ms_l (hp_I αh2 501 v1_h2) fun x3 =>
    if x3 ≤ v2_h2 then
      some αh2
    else
      ms_b (f_X9_letterAt n αh2 v1_h2 v2_h2) fun rh5 =>
      ms_b (f_X9_put n αh2 a0 rh5) fun αh6 =>
      ms_l (v2_h2 + 1) fun x7 =>
      (f_X9_copy_L6 n a0 k6) αh6 v1_h2 x7
def f_X9_copy (n : Nat) (α : hp_T) (a0 : Nat) (a1 : Nat) : Option hp_T :=
  ms_b (f_X9_clear n α a0) fun αh1 =>
  f_X9_copy_L6 n a0 n αh1 a1 (0 : Int32)
set_option maxRecDepth 100000 in
set_option maxHeartbeats 4000000 in
theorem n_X9_copy (n : Nat) (Γ : hp_G) (l : Launch) (α : hp_T) (g : GC α) (a0 : Nat) (k0 : hp_K α a0 = 10) (a1 : Nat) (k1 : hp_K α a1 = 10) (res : hp_T) (hf : f_X9_copy n α a0 a1 = some res) : Met l yX9_copy (hp_ws yX9_copy cX9_copy 3 none) (hp_rm 1 0 0) (hp_Pc Γ α [.ref a0, .ref a1]) (hp_Qv Γ (fun β => β = res ∧ cw w_X9_copy α β)) 0 0 (hp_A Γ) := by
  unfold f_X9_copy at hf
  refine hp_start (by decide) ?_
  intro p e s m below meth c C hr hlk B0 hnm
  have C : hp_C Γ p m c cX9_copy 3 s ([.ref a0, .ref a1] : List Value).toArray RX9 := C
  have hx := C.1.1
  have hb := C.1.2.1
  have hown := C.1.2.2.2.1
  have hts := C.1.2.2.2.2
  have B : hp_B Γ (cw w_X9_copy) s α α s.heap [] := ⟨B0.1, B0.2.1, cw_rf g⟩
  have hl := lv_entry ([.ref a0, .ref a1]) (n := 3) (Nat.le_of_ble_eq_true rfl)
  show W p l e (hp_rm 1 0 0) s m ([.ref a0, .ref a1] : List Value).toArray below meth c s.heap [] 0 0 (MQ below (hp_Qv Γ (fun β => β = res ∧ cw w_X9_copy α β)) ([.ref a0, .ref a1] : List Value).toArray s 0 0 (hp_A Γ)) (entryFrame m ([.ref a0, .ref a1] : List Value).toArray 3)
  rw [lg_entry_eq]
  generalize (lg_sl ([.ref a0, .ref a1]) ++ List.replicate (3 - (lg_sl ([.ref a0, .ref a1])).length) Slot.unset).toArray = ls at hl ⊢
  have hl : lv_has ls 3 [(0, .ref a0), (1, .ref a1)] := hl
  refine lv_aload_n hx hb dX9_copy_0 rfl (lv_at hl 0 rfl) (hp_n (n := 1) rfl ?_)
  obtain ⟨αh1, qh1, hf⟩ := ms_bE hf
  refine d_cv (pc' := 4) B (hp_runV (As := []) (rest := []) C B (n_X9_clear n Γ l α B.2.2.1 a0 (cw_k B.2.2 k0) αh1 qh1) lb_X9_clear lv_X9_clear lk_X9_19 (cw_k B.2.2 k0) rfl (by decide) rfl hl.1 rfl (Nat.le_of_ble_eq_true rfl) dX9_copy_1 ⟨Nat.le_refl _, Nat.le_refl _⟩) (by decide) rfl (fun Hh1 Lh1 Bh1 => ?_)
  refine lv_iconst (v := 0) hx hb dX9_copy_4 (by decide) (hp_n (n := 5) rfl ?_)
  have J6 : ∀ (k6 : Nat) (αh2 : hp_T) (Hh2 : Heap) (Lh2 : List Loc) (Bh2 : hp_B Γ (cw w_X9_copy) s α αh2 Hh2 Lh2) (v1_h2 : Nat) (kv1_h2 : hp_K α v1_h2 = 10) (v2_h2 : Int32) (ls : Array Slot) (hl : lv_has ls 3 [(0, .ref a0), (1, .ref v1_h2), (2, .int v2_h2)]) (hf : f_X9_copy_L6 n a0 k6 αh2 v1_h2 v2_h2 = some res), W p l e (hp_rm 1 0 0) s m ([.ref a0, .ref a1] : List Value).toArray below meth c Hh2 Lh2 0 0 (MQ below (hp_Qv Γ (fun β => β = res ∧ cw w_X9_copy α β)) ([.ref a0, .ref a1] : List Value).toArray s 0 0 (hp_A Γ)) (F0 m 6 ls []) := by
    intro k6
    induction k6 with
    | zero => intro αh2 Hh2 Lh2 Bh2 v1_h2 kv1_h2 v2_h2 ls hl hf; rw [f_X9_copy_L6.eq_1] at hf; cases hf
    | succ k6 ih6 =>
      intro αh2 Hh2 Lh2 Bh2 v1_h2 kv1_h2 v2_h2 ls hl hf
      rw [f_X9_copy_L6.eq_2] at hf
      refine lv_iload_n hx hb dX9_copy_6 rfl (lv_at hl 2 rfl) (hp_n (n := 7) rfl ?_)
      refine lv_aload_n hx hb dX9_copy_7 rfl (lv_at hl 1 rfl) (hp_n (n := 8) rfl ?_)
      refine q_geti (κ := 10) (k := 1) (φ := 501) (pc' := 11) C Bh2 (cw_k Bh2.2.2 kv1_h2) fl_X9_15 rfl rfl rfl dX9_copy_8 rfl (fun x3 ex3 => ?_)
      replace hf := ms_lE ex3 hf
      refine lv_icmp_ge (tgt := 29) hx hb dX9_copy_11 (by decide) (fun c4 => ?_) (fun c4 => hp_n (n := 14) rfl ?_)
      ·
        replace hf := ms_iT c4 hf
        cases hf
        exact q_vret C Bh2 hr hlk ⟨rfl, Bh2.2.2⟩ dX9_copy_29
      ·
        replace hf := ms_iF c4 hf
        refine lv_aload_n hx hb dX9_copy_14 rfl (lv_at hl 0 rfl) (hp_n (n := 15) rfl ?_)
        refine lv_aload_n hx hb dX9_copy_15 rfl (lv_at hl 1 rfl) (hp_n (n := 16) rfl ?_)
        refine lv_iload_n hx hb dX9_copy_16 rfl (lv_at hl 2 rfl) (hp_n (n := 17) rfl ?_)
        obtain ⟨rh5, qh5, hf⟩ := ms_bE hf
        refine d_pi (pc' := 20) Bh2 (hp_runV (As := [.int v2_h2]) (rest := [.ref a0]) C Bh2 (n_X9_letterAt n Γ l αh2 Bh2.2.2.1 v1_h2 (cw_k Bh2.2.2 kv1_h2) v2_h2 rh5 qh5) lb_X9_letterAt lv_X9_letterAt lk_X9_22 (cw_k Bh2.2.2 kv1_h2) rfl (by decide) rfl hl.1 rfl (Nat.le_of_ble_eq_true rfl) dX9_copy_17 ⟨Nat.le_refl _, Nat.le_refl _⟩) rfl (fun Hh5 Lh5 Bh5 => ?_)
        obtain ⟨αh6, qh6, hf⟩ := ms_bE hf
        refine d_cv (pc' := 23) Bh5 (hp_runV (As := [.int rh5]) (rest := []) C Bh5 (n_X9_put n Γ l αh2 Bh5.2.2.1 a0 (cw_k Bh5.2.2 k0) rh5 αh6 qh6) lb_X9_put lv_X9_put lk_X9_26 (cw_k Bh5.2.2 k0) rfl (by decide) rfl hl.1 rfl (Nat.le_of_ble_eq_true rfl) dX9_copy_20 ⟨Nat.le_refl _, Nat.le_refl _⟩) (by decide) rfl (fun Hh6 Lh6 Bh6 => ?_)
        obtain ⟨x7, ex7⟩ : ∃ y : Int32, y = v2_h2 + 1 := ⟨_, rfl⟩
        replace hf := ms_lE ex7 hf
        refine lv_iinc (v := x7) (lv' := [(2, .int x7), (0, .ref a0), (1, .ref v1_h2)]) hx hb dX9_copy_23 hl (k := 2) rfl (by rw [ex7]; rfl) (by decide) rfl (fun ls hl => hp_n (n := 26) rfl ?_)
        refine lv_goto (tgt := 6) hx hb dX9_copy_26 (by decide) ?_
        exact ih6 αh6 Hh6 Lh6 Bh6 v1_h2 kv1_h2 x7 ls (lv_sub hl [1, 2, 0] rfl) hf
  refine lv_istore_n (lv' := [(2, .int (0 : Int32)), (0, .ref a0), (1, .ref a1)]) hx hb dX9_copy_5 rfl hl (by decide) rfl (fun ls hl => hp_n (n := 6) rfl ?_)
  exact J6 n αh1 Hh1 Lh1 Bh1 a1 k1 (0 : Int32) ls (lv_sub hl [1, 2, 0] rfl) hf
def f_X7_trust (n : Nat) (α : hp_T) (a0 : Nat) (a1 : Int32) (a2 : Int32) : Option hp_T :=
  ms_l (hp_sI α 400 a0 a1) fun αh1 =>
  ms_l (hp_sI αh1 401 a0 a2) fun αh2 =>
  some αh2
set_option maxRecDepth 100000 in
set_option maxHeartbeats 4000000 in
theorem n_X7_trust (n : Nat) (Γ : hp_G) (l : Launch) (α : hp_T) (g : GC α) (a0 : Nat) (k0 : hp_K α a0 = 8) (a1 : Int32) (a2 : Int32) (res : hp_T) (hf : f_X7_trust n α a0 a1 a2 = some res) : Met l yX7_trust (hp_ws yX7_trust cX7_trust 3 none) (hp_rm 0 0 0) (hp_Pc Γ α [.ref a0, .int a1, .int a2]) (hp_Qv Γ (fun β => β = res ∧ cw w_X7_trust α β)) 0 0 (hp_A Γ) := by
  unfold f_X7_trust at hf
  refine hp_start (by decide) ?_
  intro p e s m below meth c C hr hlk B0 hnm
  have C : hp_C Γ p m c cX7_trust 3 s ([.ref a0, .int a1, .int a2] : List Value).toArray RX7 := C
  have hx := C.1.1
  have hb := C.1.2.1
  have hown := C.1.2.2.2.1
  have hts := C.1.2.2.2.2
  have B : hp_B Γ (cw w_X7_trust) s α α s.heap [] := ⟨B0.1, B0.2.1, cw_rf g⟩
  have hl := lv_entry ([.ref a0, .int a1, .int a2]) (n := 3) (Nat.le_of_ble_eq_true rfl)
  show W p l e (hp_rm 0 0 0) s m ([.ref a0, .int a1, .int a2] : List Value).toArray below meth c s.heap [] 0 0 (MQ below (hp_Qv Γ (fun β => β = res ∧ cw w_X7_trust α β)) ([.ref a0, .int a1, .int a2] : List Value).toArray s 0 0 (hp_A Γ)) (entryFrame m ([.ref a0, .int a1, .int a2] : List Value).toArray 3)
  rw [lg_entry_eq]
  generalize (lg_sl ([.ref a0, .int a1, .int a2]) ++ List.replicate (3 - (lg_sl ([.ref a0, .int a1, .int a2])).length) Slot.unset).toArray = ls at hl ⊢
  have hl : lv_has ls 3 [(0, .ref a0), (1, .int a1), (2, .int a2)] := hl
  refine lv_aload_n hx hb dX7_trust_0 rfl (lv_at hl 0 rfl) (hp_n (n := 1) rfl ?_)
  refine lv_iload_n hx hb dX7_trust_1 rfl (lv_at hl 1 rfl) (hp_n (n := 2) rfl ?_)
  refine q_puti (κ := 8) (k := 0) (φ := 400) (pc' := 5) C B (cw_k B.2.2 k0) fl_X7_9 rfl rfl rfl rfl rfl rfl (cw_sI B.2.2 (by decide) (fun h => absurd h (by decide))) dX7_trust_2 rfl (fun αh1 Hh1 Lh1 eh1 Bh1 => ?_)
  replace hf := ms_lE eh1 hf
  refine lv_aload_n hx hb dX7_trust_5 rfl (lv_at hl 0 rfl) (hp_n (n := 6) rfl ?_)
  refine lv_iload_n hx hb dX7_trust_6 rfl (lv_at hl 2 rfl) (hp_n (n := 7) rfl ?_)
  refine q_puti (κ := 8) (k := 1) (φ := 401) (pc' := 10) C Bh1 (cw_k Bh1.2.2 k0) fl_X7_15 rfl rfl rfl rfl rfl rfl (cw_sI Bh1.2.2 (by decide) (fun h => absurd h (by decide))) dX7_trust_7 rfl (fun αh2 Hh2 Lh2 eh2 Bh2 => ?_)
  replace hf := ms_lE eh2 hf
  cases hf
  exact q_vret C Bh2 hr hlk ⟨rfl, Bh2.2.2⟩ dX7_trust_10
def f_X7_renew (n : Nat) (α : hp_T) (a0 : Nat) : Option hp_T :=
  ms_b (f_X7_trust n α a0 (0 : Int32) (0 : Int32)) fun αh1 =>
  ms_l (hp_sI αh1 402 a0 (0 : Int32)) fun αh2 =>
  ms_l (hp_sI αh2 403 a0 (0 : Int32)) fun αh3 =>
  some αh3
set_option maxRecDepth 100000 in
set_option maxHeartbeats 4000000 in
theorem n_X7_renew (n : Nat) (Γ : hp_G) (l : Launch) (α : hp_T) (g : GC α) (a0 : Nat) (k0 : hp_K α a0 = 8) (res : hp_T) (hf : f_X7_renew n α a0 = some res) : Met l yX7_renew (hp_ws yX7_renew cX7_renew 1 none) (hp_rm 1 0 0) (hp_Pc Γ α [.ref a0]) (hp_Qv Γ (fun β => β = res ∧ cw w_X7_renew α β)) 0 0 (hp_A Γ) := by
  unfold f_X7_renew at hf
  refine hp_start (by decide) ?_
  intro p e s m below meth c C hr hlk B0 hnm
  have C : hp_C Γ p m c cX7_renew 1 s ([.ref a0] : List Value).toArray RX7 := C
  have hx := C.1.1
  have hb := C.1.2.1
  have hown := C.1.2.2.2.1
  have hts := C.1.2.2.2.2
  have B : hp_B Γ (cw w_X7_renew) s α α s.heap [] := ⟨B0.1, B0.2.1, cw_rf g⟩
  have hl := lv_entry ([.ref a0]) (n := 1) (Nat.le_of_ble_eq_true rfl)
  show W p l e (hp_rm 1 0 0) s m ([.ref a0] : List Value).toArray below meth c s.heap [] 0 0 (MQ below (hp_Qv Γ (fun β => β = res ∧ cw w_X7_renew α β)) ([.ref a0] : List Value).toArray s 0 0 (hp_A Γ)) (entryFrame m ([.ref a0] : List Value).toArray 1)
  rw [lg_entry_eq]
  generalize (lg_sl ([.ref a0]) ++ List.replicate (1 - (lg_sl ([.ref a0])).length) Slot.unset).toArray = ls at hl ⊢
  have hl : lv_has ls 1 [(0, .ref a0)] := hl
  refine lv_aload_n hx hb dX7_renew_0 rfl (lv_at hl 0 rfl) (hp_n (n := 1) rfl ?_)
  refine lv_iconst (v := 0) hx hb dX7_renew_1 (by decide) (hp_n (n := 2) rfl ?_)
  refine lv_iconst (v := 0) hx hb dX7_renew_2 (by decide) (hp_n (n := 3) rfl ?_)
  obtain ⟨αh1, qh1, hf⟩ := ms_bE hf
  refine d_cv (pc' := 6) B (hp_runV (As := [.int (0 : Int32), .int (0 : Int32)]) (rest := []) C B (n_X7_trust n Γ l α B.2.2.1 a0 (cw_k B.2.2 k0) (0 : Int32) (0 : Int32) αh1 qh1) lb_X7_trust lv_X7_trust lk_X7_25 (cw_k B.2.2 k0) rfl (by decide) rfl hl.1 rfl (Nat.le_of_ble_eq_true rfl) dX7_renew_3 ⟨Nat.le_refl _, Nat.le_refl _⟩) (by decide) rfl (fun Hh1 Lh1 Bh1 => ?_)
  refine lv_aload_n hx hb dX7_renew_6 rfl (lv_at hl 0 rfl) (hp_n (n := 7) rfl ?_)
  refine lv_iconst (v := 0) hx hb dX7_renew_7 (by decide) (hp_n (n := 8) rfl ?_)
  refine q_puti (κ := 8) (k := 2) (φ := 402) (pc' := 11) C Bh1 (cw_k Bh1.2.2 k0) fl_X7_18 rfl rfl rfl rfl rfl rfl (cw_sI Bh1.2.2 (by decide) (fun h => absurd h (by decide))) dX7_renew_8 rfl (fun αh2 Hh2 Lh2 eh2 Bh2 => ?_)
  replace hf := ms_lE eh2 hf
  refine lv_aload_n hx hb dX7_renew_11 rfl (lv_at hl 0 rfl) (hp_n (n := 12) rfl ?_)
  refine lv_iconst (v := 0) hx hb dX7_renew_12 (by decide) (hp_n (n := 13) rfl ?_)
  refine q_puti (κ := 8) (k := 3) (φ := 403) (pc' := 16) C Bh2 (cw_k Bh2.2.2 k0) fl_X7_21 rfl rfl rfl rfl rfl rfl (cw_sI Bh2.2.2 (by decide) (fun h => absurd h (by decide))) dX7_renew_13 rfl (fun αh3 Hh3 Lh3 eh3 Bh3 => ?_)
  replace hf := ms_lE eh3 hf
  cases hf
  exact q_vret C Bh3 hr hlk ⟨rfl, Bh3.2.2⟩ dX7_renew_16
def f_X7_hearWhy_J17 (n : Nat) (a0 : Nat) (αh2 : hp_T) (w0_h2 : Nat) : Option hp_T :=
  ms_l (hp_sI αh2 403 w0_h2 (1 : Int32)) fun αh3 =>
  some αh3
def f_X7_hearWhy_J21 (n : Nat) (a0 : Nat) (αh5 : hp_T) (w0_h5 : Nat) : Option hp_T :=
  ms_l (hp_sI αh5 403 w0_h5 (0 : Int32)) fun αh6 =>
  some αh6
def f_X7_hearWhy (n : Nat) (α : hp_T) (a0 : Nat) (a1 : Int32) : Option hp_T :=
  ms_l (hp_I α 403 a0) fun x1 =>
  if x1 = 0 then
    if a1 = 0 then
      f_X7_hearWhy_J21 n a0 α a0
    else
      if a1 = (5 : Int32) then
        f_X7_hearWhy_J21 n a0 α a0
      else
        f_X7_hearWhy_J17 n a0 α a0
  else
    f_X7_hearWhy_J17 n a0 α a0
set_option maxRecDepth 100000 in
set_option maxHeartbeats 4000000 in
theorem n_X7_hearWhy (n : Nat) (Γ : hp_G) (l : Launch) (α : hp_T) (g : GC α) (a0 : Nat) (k0 : hp_K α a0 = 8) (a1 : Int32) (res : hp_T) (hf : f_X7_hearWhy n α a0 a1 = some res) : Met l yX7_hearWhy (hp_ws yX7_hearWhy cX7_hearWhy 2 none) (hp_rm 0 0 0) (hp_Pc Γ α [.ref a0, .int a1]) (hp_Qv Γ (fun β => β = res ∧ cw w_X7_hearWhy α β)) 0 0 (hp_A Γ) := by
  unfold f_X7_hearWhy at hf
  refine hp_start (by decide) ?_
  intro p e s m below meth c C hr hlk B0 hnm
  have C : hp_C Γ p m c cX7_hearWhy 2 s ([.ref a0, .int a1] : List Value).toArray RX7 := C
  have hx := C.1.1
  have hb := C.1.2.1
  have hown := C.1.2.2.2.1
  have hts := C.1.2.2.2.2
  have B : hp_B Γ (cw w_X7_hearWhy) s α α s.heap [] := ⟨B0.1, B0.2.1, cw_rf g⟩
  have hl := lv_entry ([.ref a0, .int a1]) (n := 2) (Nat.le_of_ble_eq_true rfl)
  show W p l e (hp_rm 0 0 0) s m ([.ref a0, .int a1] : List Value).toArray below meth c s.heap [] 0 0 (MQ below (hp_Qv Γ (fun β => β = res ∧ cw w_X7_hearWhy α β)) ([.ref a0, .int a1] : List Value).toArray s 0 0 (hp_A Γ)) (entryFrame m ([.ref a0, .int a1] : List Value).toArray 2)
  rw [lg_entry_eq]
  generalize (lg_sl ([.ref a0, .int a1]) ++ List.replicate (2 - (lg_sl ([.ref a0, .int a1])).length) Slot.unset).toArray = ls at hl ⊢
  have hl : lv_has ls 2 [(0, .ref a0), (1, .int a1)] := hl
  refine lv_aload_n hx hb dX7_hearWhy_0 rfl (lv_at hl 0 rfl) (hp_n (n := 1) rfl ?_)
  refine lv_aload_n hx hb dX7_hearWhy_1 rfl (lv_at hl 0 rfl) (hp_n (n := 2) rfl ?_)
  refine q_geti (κ := 8) (k := 3) (φ := 403) (pc' := 5) C B (cw_k B.2.2 k0) fl_X7_21 rfl rfl rfl dX7_hearWhy_2 rfl (fun x1 ex1 => ?_)
  replace hf := ms_lE ex1 hf
  have J17 : ∀ (αh2 : hp_T) (Hh2 : Heap) (Lh2 : List Loc) (Bh2 : hp_B Γ (cw w_X7_hearWhy) s α αh2 Hh2 Lh2) (w0_h2 : Nat) (kw0_h2 : hp_K α w0_h2 = 8) (ls : Array Slot) (hl : lv_has ls 2 []) (hf : f_X7_hearWhy_J17 n a0 αh2 w0_h2 = some res), W p l e (hp_rm 0 0 0) s m ([.ref a0, .int a1] : List Value).toArray below meth c Hh2 Lh2 0 0 (MQ below (hp_Qv Γ (fun β => β = res ∧ cw w_X7_hearWhy α β)) ([.ref a0, .int a1] : List Value).toArray s 0 0 (hp_A Γ)) (F0 m 17 ls [.ref w0_h2]) := by
    intro αh2 Hh2 Lh2 Bh2 w0_h2 kw0_h2 ls hl hf
    unfold f_X7_hearWhy_J17 at hf
    refine lv_iconst (v := 1) hx hb dX7_hearWhy_17 (by decide) (hp_n (n := 18) rfl ?_)
    refine lv_goto (tgt := 22) hx hb dX7_hearWhy_18 (by decide) ?_
    refine q_puti (κ := 8) (k := 3) (φ := 403) (pc' := 25) C Bh2 (cw_k Bh2.2.2 kw0_h2) fl_X7_21 rfl rfl rfl rfl rfl rfl (cw_sI Bh2.2.2 (by decide) (fun h => absurd h (by decide))) dX7_hearWhy_22 rfl (fun αh3 Hh3 Lh3 eh3 Bh3 => ?_)
    replace hf := ms_lE eh3 hf
    cases hf
    exact q_vret C Bh3 hr hlk ⟨rfl, Bh3.2.2⟩ dX7_hearWhy_25
  refine lv_if_ne (tgt := 17) hx hb dX7_hearWhy_5 (by decide) (fun c4 => ?_) (fun c4 => hp_n (n := 8) rfl ?_)
  ·
    replace hf := ms_iF c4 hf
    exact J17 α s.heap [] B a0 k0 ls (lv_sub hl [] rfl) hf
  ·
    replace hf := ms_iT c4 hf
    refine lv_iload_n hx hb dX7_hearWhy_8 rfl (lv_at hl 1 rfl) (hp_n (n := 9) rfl ?_)
    have J21 : ∀ (αh5 : hp_T) (Hh5 : Heap) (Lh5 : List Loc) (Bh5 : hp_B Γ (cw w_X7_hearWhy) s α αh5 Hh5 Lh5) (w0_h5 : Nat) (kw0_h5 : hp_K α w0_h5 = 8) (ls : Array Slot) (hl : lv_has ls 2 []) (hf : f_X7_hearWhy_J21 n a0 αh5 w0_h5 = some res), W p l e (hp_rm 0 0 0) s m ([.ref a0, .int a1] : List Value).toArray below meth c Hh5 Lh5 0 0 (MQ below (hp_Qv Γ (fun β => β = res ∧ cw w_X7_hearWhy α β)) ([.ref a0, .int a1] : List Value).toArray s 0 0 (hp_A Γ)) (F0 m 21 ls [.ref w0_h5]) := by
      intro αh5 Hh5 Lh5 Bh5 w0_h5 kw0_h5 ls hl hf
      unfold f_X7_hearWhy_J21 at hf
      refine lv_iconst (v := 0) hx hb dX7_hearWhy_21 (by decide) (hp_n (n := 22) rfl ?_)
      refine q_puti (κ := 8) (k := 3) (φ := 403) (pc' := 25) C Bh5 (cw_k Bh5.2.2 kw0_h5) fl_X7_21 rfl rfl rfl rfl rfl rfl (cw_sI Bh5.2.2 (by decide) (fun h => absurd h (by decide))) dX7_hearWhy_22 rfl (fun αh6 Hh6 Lh6 eh6 Bh6 => ?_)
      replace hf := ms_lE eh6 hf
      cases hf
      exact q_vret C Bh6 hr hlk ⟨rfl, Bh6.2.2⟩ dX7_hearWhy_25
    refine lv_if_eq (tgt := 21) hx hb dX7_hearWhy_9 (by decide) (fun c7 => ?_) (fun c7 => hp_n (n := 12) rfl ?_)
    ·
      replace hf := ms_iT c7 hf
      exact J21 α s.heap [] B a0 k0 ls (lv_sub hl [] rfl) hf
    ·
      replace hf := ms_iF c7 hf
      refine lv_iload_n hx hb dX7_hearWhy_12 rfl (lv_at hl 1 rfl) (hp_n (n := 13) rfl ?_)
      refine lv_iconst (v := 5) hx hb dX7_hearWhy_13 (by decide) (hp_n (n := 14) rfl ?_)
      refine lv_icmp_eq (tgt := 21) hx hb dX7_hearWhy_14 (by decide) (fun c8 => ?_) (fun c8 => hp_n (n := 17) rfl ?_)
      ·
        replace hf := ms_iT c8 hf
        exact J21 α s.heap [] B a0 k0 ls (lv_sub hl [] rfl) hf
      ·
        replace hf := ms_iF c8 hf
        exact J17 α s.heap [] B a0 k0 ls (lv_sub hl [] rfl) hf
def f_X11_mixed (n : Nat) (a0 : Int32) (a1 : Int32) (a2 : Int32) : Option Int32 :=
  if 0 < a0 then
    ms_nl (a0).toInt64 <|
    some (((((((a1).toInt64 * (a1).toInt64) + ((3 : Int64) * (a1).toInt64)) + (a2).toInt64) + (7 : Int64)) - (((((a1).toInt64 * (a1).toInt64) + ((3 : Int64) * (a1).toInt64)) + (a2).toInt64) + (7 : Int64)) / (a0).toInt64 * (a0).toInt64)).toInt32
  else
    some (0 : Int32)
set_option maxRecDepth 100000 in
set_option maxHeartbeats 4000000 in
theorem n_X11_mixed (n : Nat) (Γ : hp_G) (l : Launch) (α : hp_T) (g : GC α) (a0 : Int32) (a1 : Int32) (a2 : Int32) (res : Int32) (hf : f_X11_mixed n a0 a1 a2 = some res) : Met l yX11_mixed (hp_ws yX11_mixed cX11_mixed 3 (some .int)) (hp_rm 0 0 0) (hp_Pc Γ α [.int a0, .int a1, .int a2]) (hp_Qi Γ (fun r β => β = α ∧ r = res)) 0 0 (hp_A Γ) := by
  unfold f_X11_mixed at hf
  refine hp_start (by decide) ?_
  intro p e s m below meth c C hr hlk B0 hnm
  have C : hp_C Γ p m c cX11_mixed 3 s ([.int a0, .int a1, .int a2] : List Value).toArray RX11 := C
  have hx := C.1.1
  have hb := C.1.2.1
  have hown := C.1.2.2.2.1
  have hts := C.1.2.2.2.2
  have B : hp_B Γ (cw w_X11_mixed) s α α s.heap [] := ⟨B0.1, B0.2.1, cw_rf g⟩
  have hl := lv_entry ([.int a0, .int a1, .int a2]) (n := 3) (Nat.le_of_ble_eq_true rfl)
  show W p l e (hp_rm 0 0 0) s m ([.int a0, .int a1, .int a2] : List Value).toArray below meth c s.heap [] 0 0 (MQ below (hp_Qi Γ (fun r β => β = α ∧ r = res)) ([.int a0, .int a1, .int a2] : List Value).toArray s 0 0 (hp_A Γ)) (entryFrame m ([.int a0, .int a1, .int a2] : List Value).toArray 3)
  rw [lg_entry_eq]
  generalize (lg_sl ([.int a0, .int a1, .int a2]) ++ List.replicate (3 - (lg_sl ([.int a0, .int a1, .int a2])).length) Slot.unset).toArray = ls at hl ⊢
  have hl : lv_has ls 3 [(0, .int a0), (1, .int a1), (2, .int a2)] := hl
  refine lv_iload_n hx hb dX11_mixed_0 rfl (lv_at hl 0 rfl) (hp_n (n := 1) rfl ?_)
  refine lv_if_gt (tgt := 6) hx hb dX11_mixed_1 (by decide) (fun c1 => ?_) (fun c1 => hp_n (n := 4) rfl ?_)
  ·
    replace hf := ms_iT c1 hf
    refine lv_iload_n hx hb dX11_mixed_6 rfl (lv_at hl 1 rfl) (hp_n (n := 7) rfl ?_)
    refine lv_i2l hx hb dX11_mixed_7 rfl (hp_n (n := 8) rfl ?_)
    refine lv_iload_n hx hb dX11_mixed_8 rfl (lv_at hl 1 rfl) (hp_n (n := 9) rfl ?_)
    refine lv_i2l hx hb dX11_mixed_9 rfl (hp_n (n := 10) rfl ?_)
    refine lv_lmul hx hb dX11_mixed_10 (hp_n (n := 11) rfl ?_)
    refine lv_ldc2 hx hb hown (hts _ kc_X11_502) dX11_mixed_11 (hp_n (n := 14) rfl ?_)
    refine lv_iload_n hx hb dX11_mixed_14 rfl (lv_at hl 1 rfl) (hp_n (n := 15) rfl ?_)
    refine lv_i2l hx hb dX11_mixed_15 rfl (hp_n (n := 16) rfl ?_)
    refine lv_lmul hx hb dX11_mixed_16 (hp_n (n := 17) rfl ?_)
    refine lv_ladd hx hb dX11_mixed_17 (hp_n (n := 18) rfl ?_)
    refine lv_iload_n hx hb dX11_mixed_18 rfl (lv_at hl 2 rfl) (hp_n (n := 19) rfl ?_)
    refine lv_i2l hx hb dX11_mixed_19 rfl (hp_n (n := 20) rfl ?_)
    refine lv_ladd hx hb dX11_mixed_20 (hp_n (n := 21) rfl ?_)
    refine lv_ldc2 hx hb hown (hts _ kc_X11_504) dX11_mixed_21 (hp_n (n := 24) rfl ?_)
    refine lv_ladd hx hb dX11_mixed_24 (hp_n (n := 25) rfl ?_)
    refine lv_iload_n hx hb dX11_mixed_25 rfl (lv_at hl 0 rfl) (hp_n (n := 26) rfl ?_)
    refine lv_i2l hx hb dX11_mixed_26 rfl (hp_n (n := 27) rfl ?_)
    obtain ⟨g2, hf⟩ := ms_nlE hf
    refine lv_lrem hx hb dX11_mixed_27 g2 (hp_n (n := 28) rfl ?_)
    refine lv_l2i hx hb dX11_mixed_28 rfl (hp_n (n := 29) rfl ?_)
    cases hf
    exact q_iret C B hr hlk ⟨rfl, rfl⟩ dX11_mixed_29
  ·
    replace hf := ms_iF c1 hf
    refine lv_iconst (v := 0) hx hb dX11_mixed_4 (by decide) (hp_n (n := 5) rfl ?_)
    cases hf
    exact q_iret C B hr hlk ⟨rfl, rfl⟩ dX11_mixed_5
def f_X11_markOfTwo (n : Nat) (a0 : Int32) (a1 : Int32) (a2 : Int32) : Option Int32 :=
  if 0 < a0 then
    ms_nl (a0).toInt64 <|
    ms_l ((((a1).toInt64 + (17 : Int64)) - ((a1).toInt64 + (17 : Int64)) / (a0).toInt64 * (a0).toInt64)) fun x3 =>
    ms_nl (a0).toInt64 <|
    some ((((((x3 * x3) + ((3 : Int64) * x3)) + (a2).toInt64) + (7 : Int64)) - ((((x3 * x3) + ((3 : Int64) * x3)) + (a2).toInt64) + (7 : Int64)) / (a0).toInt64 * (a0).toInt64)).toInt32
  else
    some (0 : Int32)
set_option maxRecDepth 100000 in
set_option maxHeartbeats 4000000 in
theorem n_X11_markOfTwo (n : Nat) (Γ : hp_G) (l : Launch) (α : hp_T) (g : GC α) (a0 : Int32) (a1 : Int32) (a2 : Int32) (res : Int32) (hf : f_X11_markOfTwo n a0 a1 a2 = some res) : Met l yX11_markOfTwo (hp_ws yX11_markOfTwo cX11_markOfTwo 5 (some .int)) (hp_rm 0 0 0) (hp_Pc Γ α [.int a0, .int a1, .int a2]) (hp_Qi Γ (fun r β => β = α ∧ r = res)) 0 0 (hp_A Γ) := by
  unfold f_X11_markOfTwo at hf
  refine hp_start (by decide) ?_
  intro p e s m below meth c C hr hlk B0 hnm
  have C : hp_C Γ p m c cX11_markOfTwo 5 s ([.int a0, .int a1, .int a2] : List Value).toArray RX11 := C
  have hx := C.1.1
  have hb := C.1.2.1
  have hown := C.1.2.2.2.1
  have hts := C.1.2.2.2.2
  have B : hp_B Γ (cw w_X11_markOfTwo) s α α s.heap [] := ⟨B0.1, B0.2.1, cw_rf g⟩
  have hl := lv_entry ([.int a0, .int a1, .int a2]) (n := 5) (Nat.le_of_ble_eq_true rfl)
  show W p l e (hp_rm 0 0 0) s m ([.int a0, .int a1, .int a2] : List Value).toArray below meth c s.heap [] 0 0 (MQ below (hp_Qi Γ (fun r β => β = α ∧ r = res)) ([.int a0, .int a1, .int a2] : List Value).toArray s 0 0 (hp_A Γ)) (entryFrame m ([.int a0, .int a1, .int a2] : List Value).toArray 5)
  rw [lg_entry_eq]
  generalize (lg_sl ([.int a0, .int a1, .int a2]) ++ List.replicate (5 - (lg_sl ([.int a0, .int a1, .int a2])).length) Slot.unset).toArray = ls at hl ⊢
  have hl : lv_has ls 5 [(0, .int a0), (1, .int a1), (2, .int a2)] := hl
  refine lv_iload_n hx hb dX11_markOfTwo_0 rfl (lv_at hl 0 rfl) (hp_n (n := 1) rfl ?_)
  refine lv_if_gt (tgt := 6) hx hb dX11_markOfTwo_1 (by decide) (fun c1 => ?_) (fun c1 => hp_n (n := 4) rfl ?_)
  ·
    replace hf := ms_iT c1 hf
    refine lv_iload_n hx hb dX11_markOfTwo_6 rfl (lv_at hl 1 rfl) (hp_n (n := 7) rfl ?_)
    refine lv_i2l hx hb dX11_markOfTwo_7 rfl (hp_n (n := 8) rfl ?_)
    refine lv_ldc2 hx hb hown (hts _ kc_X11_506) dX11_markOfTwo_8 (hp_n (n := 11) rfl ?_)
    refine lv_ladd hx hb dX11_markOfTwo_11 (hp_n (n := 12) rfl ?_)
    refine lv_iload_n hx hb dX11_markOfTwo_12 rfl (lv_at hl 0 rfl) (hp_n (n := 13) rfl ?_)
    refine lv_i2l hx hb dX11_markOfTwo_13 rfl (hp_n (n := 14) rfl ?_)
    obtain ⟨g2, hf⟩ := ms_nlE hf
    refine lv_lrem hx hb dX11_markOfTwo_14 g2 (hp_n (n := 15) rfl ?_)
    refine lv_topl (fun x3 ex3 => ?_)
    replace hf := ms_lE ex3 hf
    refine lv_lstore_n (lv' := [(3, .long x3), (0, .int a0), (1, .int a1), (2, .int a2)]) hx hb dX11_markOfTwo_15 rfl hl (by decide) rfl (fun ls hl => hp_n (n := 16) rfl ?_)
    refine lv_lload_n hx hb dX11_markOfTwo_16 rfl (lv_at hl 0 rfl) (hp_n (n := 17) rfl ?_)
    refine lv_lload_n hx hb dX11_markOfTwo_17 rfl (lv_at hl 0 rfl) (hp_n (n := 18) rfl ?_)
    refine lv_lmul hx hb dX11_markOfTwo_18 (hp_n (n := 19) rfl ?_)
    refine lv_ldc2 hx hb hown (hts _ kc_X11_502) dX11_markOfTwo_19 (hp_n (n := 22) rfl ?_)
    refine lv_lload_n hx hb dX11_markOfTwo_22 rfl (lv_at hl 0 rfl) (hp_n (n := 23) rfl ?_)
    refine lv_lmul hx hb dX11_markOfTwo_23 (hp_n (n := 24) rfl ?_)
    refine lv_ladd hx hb dX11_markOfTwo_24 (hp_n (n := 25) rfl ?_)
    refine lv_iload_n hx hb dX11_markOfTwo_25 rfl (lv_at hl 3 rfl) (hp_n (n := 26) rfl ?_)
    refine lv_i2l hx hb dX11_markOfTwo_26 rfl (hp_n (n := 27) rfl ?_)
    refine lv_ladd hx hb dX11_markOfTwo_27 (hp_n (n := 28) rfl ?_)
    refine lv_ldc2 hx hb hown (hts _ kc_X11_504) dX11_markOfTwo_28 (hp_n (n := 31) rfl ?_)
    refine lv_ladd hx hb dX11_markOfTwo_31 (hp_n (n := 32) rfl ?_)
    refine lv_iload_n hx hb dX11_markOfTwo_32 rfl (lv_at hl 1 rfl) (hp_n (n := 33) rfl ?_)
    refine lv_i2l hx hb dX11_markOfTwo_33 rfl (hp_n (n := 34) rfl ?_)
    obtain ⟨g4, hf⟩ := ms_nlE hf
    refine lv_lrem hx hb dX11_markOfTwo_34 g4 (hp_n (n := 35) rfl ?_)
    refine lv_l2i hx hb dX11_markOfTwo_35 rfl (hp_n (n := 36) rfl ?_)
    cases hf
    exact q_iret C B hr hlk ⟨rfl, rfl⟩ dX11_markOfTwo_36
  ·
    replace hf := ms_iF c1 hf
    refine lv_iconst (v := 0) hx hb dX11_markOfTwo_4 (by decide) (hp_n (n := 5) rfl ?_)
    cases hf
    exact q_iret C B hr hlk ⟨rfl, rfl⟩ dX11_markOfTwo_5
def f_X9_markBy_L4 (n : Nat) (α : hp_T) (a0 : Nat) : Nat → Int32 → Int32 → Int32 → Option Int32
  | 0, _, _, _ => none
  | k4 + 1, v1_h1, v2_h1, v3_h1 =>
    ms_l (hp_I α 501 a0) fun x2 =>
    if x2 ≤ v3_h1 then
      some v2_h1
    else
      ms_b (f_X9_letterAt n α a0 v3_h1) fun rh4 =>
      ms_b (f_X11_mixed n v1_h1 v2_h1 rh4) fun rh5 =>
      ms_l (v3_h1 + 1) fun x6 =>
      (f_X9_markBy_L4 n α a0 k4) v1_h1 rh5 x6
def f_X9_markBy (n : Nat) (α : hp_T) (a0 : Nat) (a1 : Int32) : Option Int32 :=
  f_X9_markBy_L4 n α a0 n a1 (1 : Int32) (0 : Int32)
set_option maxRecDepth 100000 in
set_option maxHeartbeats 4000000 in
theorem n_X9_markBy (n : Nat) (Γ : hp_G) (l : Launch) (α : hp_T) (g : GC α) (a0 : Nat) (k0 : hp_K α a0 = 10) (a1 : Int32) (res : Int32) (hf : f_X9_markBy n α a0 a1 = some res) : Met l yX9_markBy (hp_ws yX9_markBy cX9_markBy 4 (some .int)) (hp_rm 1 0 0) (hp_Pc Γ α [.ref a0, .int a1]) (hp_Qi Γ (fun r β => β = α ∧ r = res)) 0 0 (hp_A Γ) := by
  unfold f_X9_markBy at hf
  refine hp_start (by decide) ?_
  intro p e s m below meth c C hr hlk B0 hnm
  have C : hp_C Γ p m c cX9_markBy 4 s ([.ref a0, .int a1] : List Value).toArray RX9 := C
  have hx := C.1.1
  have hb := C.1.2.1
  have hown := C.1.2.2.2.1
  have hts := C.1.2.2.2.2
  have B : hp_B Γ (cw w_X9_markBy) s α α s.heap [] := ⟨B0.1, B0.2.1, cw_rf g⟩
  have hl := lv_entry ([.ref a0, .int a1]) (n := 4) (Nat.le_of_ble_eq_true rfl)
  show W p l e (hp_rm 1 0 0) s m ([.ref a0, .int a1] : List Value).toArray below meth c s.heap [] 0 0 (MQ below (hp_Qi Γ (fun r β => β = α ∧ r = res)) ([.ref a0, .int a1] : List Value).toArray s 0 0 (hp_A Γ)) (entryFrame m ([.ref a0, .int a1] : List Value).toArray 4)
  rw [lg_entry_eq]
  generalize (lg_sl ([.ref a0, .int a1]) ++ List.replicate (4 - (lg_sl ([.ref a0, .int a1])).length) Slot.unset).toArray = ls at hl ⊢
  have hl : lv_has ls 4 [(0, .ref a0), (1, .int a1)] := hl
  refine lv_iconst (v := 1) hx hb dX9_markBy_0 (by decide) (hp_n (n := 1) rfl ?_)
  refine lv_istore_n (lv' := [(2, .int (1 : Int32)), (0, .ref a0), (1, .int a1)]) hx hb dX9_markBy_1 rfl hl (by decide) rfl (fun ls hl => hp_n (n := 2) rfl ?_)
  refine lv_iconst (v := 0) hx hb dX9_markBy_2 (by decide) (hp_n (n := 3) rfl ?_)
  have J4 : ∀ (k4 : Nat) (Hh1 : Heap) (Lh1 : List Loc) (Bh1 : hp_B Γ (cw w_X9_markBy) s α α Hh1 Lh1) (v1_h1 : Int32) (v2_h1 : Int32) (v3_h1 : Int32) (ls : Array Slot) (hl : lv_has ls 4 [(0, .ref a0), (1, .int v1_h1), (2, .int v2_h1), (3, .int v3_h1)]) (hf : f_X9_markBy_L4 n α a0 k4 v1_h1 v2_h1 v3_h1 = some res), W p l e (hp_rm 1 0 0) s m ([.ref a0, .int a1] : List Value).toArray below meth c Hh1 Lh1 0 0 (MQ below (hp_Qi Γ (fun r β => β = α ∧ r = res)) ([.ref a0, .int a1] : List Value).toArray s 0 0 (hp_A Γ)) (F0 m 4 ls []) := by
    intro k4
    induction k4 with
    | zero => intro Hh1 Lh1 Bh1 v1_h1 v2_h1 v3_h1 ls hl hf; rw [f_X9_markBy_L4.eq_1] at hf; cases hf
    | succ k4 ih4 =>
      intro Hh1 Lh1 Bh1 v1_h1 v2_h1 v3_h1 ls hl hf
      rw [f_X9_markBy_L4.eq_2] at hf
      refine lv_iload_n hx hb dX9_markBy_4 rfl (lv_at hl 3 rfl) (hp_n (n := 5) rfl ?_)
      refine lv_aload_n hx hb dX9_markBy_5 rfl (lv_at hl 0 rfl) (hp_n (n := 6) rfl ?_)
      refine q_geti (κ := 10) (k := 1) (φ := 501) (pc' := 9) C Bh1 (cw_k Bh1.2.2 k0) fl_X9_15 rfl rfl rfl dX9_markBy_6 rfl (fun x2 ex2 => ?_)
      replace hf := ms_lE ex2 hf
      refine lv_icmp_ge (tgt := 29) hx hb dX9_markBy_9 (by decide) (fun c3 => ?_) (fun c3 => hp_n (n := 12) rfl ?_)
      ·
        replace hf := ms_iT c3 hf
        refine lv_iload_n hx hb dX9_markBy_29 rfl (lv_at hl 2 rfl) (hp_n (n := 30) rfl ?_)
        cases hf
        exact q_iret C Bh1 hr hlk ⟨rfl, rfl⟩ dX9_markBy_30
      ·
        replace hf := ms_iF c3 hf
        refine lv_iload_n hx hb dX9_markBy_12 rfl (lv_at hl 1 rfl) (hp_n (n := 13) rfl ?_)
        refine lv_iload_n hx hb dX9_markBy_13 rfl (lv_at hl 2 rfl) (hp_n (n := 14) rfl ?_)
        refine lv_aload_n hx hb dX9_markBy_14 rfl (lv_at hl 0 rfl) (hp_n (n := 15) rfl ?_)
        refine lv_iload_n hx hb dX9_markBy_15 rfl (lv_at hl 3 rfl) (hp_n (n := 16) rfl ?_)
        obtain ⟨rh4, qh4, hf⟩ := ms_bE hf
        refine d_pi (pc' := 19) Bh1 (hp_runV (As := [.int v3_h1]) (rest := [.int v2_h1, .int v1_h1]) C Bh1 (n_X9_letterAt n Γ l α Bh1.2.2.1 a0 (cw_k Bh1.2.2 k0) v3_h1 rh4 qh4) lb_X9_letterAt lv_X9_letterAt lk_X9_22 (cw_k Bh1.2.2 k0) rfl (by decide) rfl hl.1 rfl (Nat.le_of_ble_eq_true rfl) dX9_markBy_16 ⟨Nat.le_refl _, Nat.le_refl _⟩) rfl (fun Hh4 Lh4 Bh4 => ?_)
        obtain ⟨rh5, qh5, hf⟩ := ms_bE hf
        refine d_pi (pc' := 22) Bh4 (hp_runS (As := [.int v1_h1, .int v2_h1, .int rh4]) (rest := []) C Bh4 (n_X11_mixed n Γ l α Bh4.2.2.1 v1_h1 v2_h1 rh4 rh5 qh5) lb_X11_mixed ls_X11_mixed lk_X9_30 rfl (by decide) rfl hl.1 rfl (Nat.le_of_ble_eq_true rfl) dX9_markBy_19 ⟨Nat.le_refl _, Nat.le_refl _⟩) rfl (fun Hh5 Lh5 Bh5 => ?_)
        refine lv_istore_n (lv' := [(2, .int rh5), (0, .ref a0), (1, .int v1_h1), (3, .int v3_h1)]) hx hb dX9_markBy_22 rfl hl (by decide) rfl (fun ls hl => hp_n (n := 23) rfl ?_)
        obtain ⟨x6, ex6⟩ : ∃ y : Int32, y = v3_h1 + 1 := ⟨_, rfl⟩
        replace hf := ms_lE ex6 hf
        refine lv_iinc (v := x6) (lv' := [(3, .int x6), (2, .int rh5), (0, .ref a0), (1, .int v1_h1)]) hx hb dX9_markBy_23 hl (k := 3) rfl (by rw [ex6]; rfl) (by decide) rfl (fun ls hl => hp_n (n := 26) rfl ?_)
        refine lv_goto (tgt := 4) hx hb dX9_markBy_26 (by decide) ?_
        exact ih4 Hh5 Lh5 Bh5 v1_h1 rh5 x6 ls (lv_sub hl [2, 3, 1, 0] rfl) hf
  refine lv_istore_n (lv' := [(3, .int (0 : Int32)), (2, .int (1 : Int32)), (0, .ref a0), (1, .int a1)]) hx hb dX9_markBy_3 rfl hl (by decide) rfl (fun ls hl => hp_n (n := 4) rfl ?_)
  exact J4 n s.heap [] B a1 (1 : Int32) (0 : Int32) ls (lv_sub hl [2, 3, 1, 0] rfl) hf
def f_J9_min_7cf53 (n : Nat) (a0 : Int32) (a1 : Int32) : Option Int32 :=
  if a1 < a0 then
    some a1
  else
    some a0
set_option maxRecDepth 100000 in
set_option maxHeartbeats 4000000 in
theorem n_J9_min_7cf53 (n : Nat) (Γ : hp_G) (l : Launch) (α : hp_T) (g : GC α) (a0 : Int32) (a1 : Int32) (res : Int32) (hf : f_J9_min_7cf53 n a0 a1 = some res) : Met l yJ9_min_7cf53 (hp_ws yJ9_min_7cf53 cJ9_min_7cf53 2 (some .int)) (hp_rm 0 0 0) (hp_Pc Γ α [.int a0, .int a1]) (hp_Qi Γ (fun r β => β = α ∧ r = res)) 0 0 (hp_A Γ) := by
  unfold f_J9_min_7cf53 at hf
  refine hp_startF pf_J9_min_7cf53 ?_
  intro p e s m below meth c C hr hlk B0 hnm
  have C : hp_C Γ p m c cJ9_min_7cf53 2 s ([.int a0, .int a1] : List Value).toArray RJ9 := C
  have hx := C.1.1
  have hb := C.1.2.1
  have hown := C.1.2.2.2.1
  have hts := C.1.2.2.2.2
  have B : hp_B Γ (cw w_J9_min_7cf53) s α α s.heap [] := ⟨B0.1, B0.2.1, cw_rf g⟩
  have hl := lv_entry ([.int a0, .int a1]) (n := 2) (Nat.le_of_ble_eq_true rfl)
  show W p l e (hp_rm 0 0 0) s m ([.int a0, .int a1] : List Value).toArray below meth c s.heap [] 0 0 (MQ below (hp_Qi Γ (fun r β => β = α ∧ r = res)) ([.int a0, .int a1] : List Value).toArray s 0 0 (hp_A Γ)) (entryFrame m ([.int a0, .int a1] : List Value).toArray 2)
  rw [lg_entry_eq]
  generalize (lg_sl ([.int a0, .int a1]) ++ List.replicate (2 - (lg_sl ([.int a0, .int a1])).length) Slot.unset).toArray = ls at hl ⊢
  have hl : lv_has ls 2 [(0, .int a0), (1, .int a1)] := hl
  refine lv_iload_n hx hb dJ9_min_7cf53_0 rfl (lv_at hl 0 rfl) (hp_n (n := 1) rfl ?_)
  refine lv_iload_n hx hb dJ9_min_7cf53_1 rfl (lv_at hl 1 rfl) (hp_n (n := 2) rfl ?_)
  refine lv_icmp_gt (tgt := 9) hx hb dJ9_min_7cf53_2 (by decide) (fun c1 => ?_) (fun c1 => hp_n (n := 5) rfl ?_)
  ·
    replace hf := ms_iT c1 hf
    refine lv_iload_n hx hb dJ9_min_7cf53_9 rfl (lv_at hl 1 rfl) (hp_n (n := 10) rfl ?_)
    cases hf
    exact q_iret C B hr hlk ⟨rfl, rfl⟩ dJ9_min_7cf53_10
  ·
    replace hf := ms_iF c1 hf
    refine lv_iload_n hx hb dJ9_min_7cf53_5 rfl (lv_at hl 0 rfl) (hp_n (n := 6) rfl ?_)
    refine lv_goto (tgt := 10) hx hb dJ9_min_7cf53_6 (by decide) ?_
    cases hf
    exact q_iret C B hr hlk ⟨rfl, rfl⟩ dJ9_min_7cf53_10
def f_J9_max_7cf53 (n : Nat) (a0 : Int32) (a1 : Int32) : Option Int32 :=
  if a0 < a1 then
    some a1
  else
    some a0
set_option maxRecDepth 100000 in
set_option maxHeartbeats 4000000 in
theorem n_J9_max_7cf53 (n : Nat) (Γ : hp_G) (l : Launch) (α : hp_T) (g : GC α) (a0 : Int32) (a1 : Int32) (res : Int32) (hf : f_J9_max_7cf53 n a0 a1 = some res) : Met l yJ9_max_7cf53 (hp_ws yJ9_max_7cf53 cJ9_max_7cf53 2 (some .int)) (hp_rm 0 0 0) (hp_Pc Γ α [.int a0, .int a1]) (hp_Qi Γ (fun r β => β = α ∧ r = res)) 0 0 (hp_A Γ) := by
  unfold f_J9_max_7cf53 at hf
  refine hp_startF pf_J9_max_7cf53 ?_
  intro p e s m below meth c C hr hlk B0 hnm
  have C : hp_C Γ p m c cJ9_max_7cf53 2 s ([.int a0, .int a1] : List Value).toArray RJ9 := C
  have hx := C.1.1
  have hb := C.1.2.1
  have hown := C.1.2.2.2.1
  have hts := C.1.2.2.2.2
  have B : hp_B Γ (cw w_J9_max_7cf53) s α α s.heap [] := ⟨B0.1, B0.2.1, cw_rf g⟩
  have hl := lv_entry ([.int a0, .int a1]) (n := 2) (Nat.le_of_ble_eq_true rfl)
  show W p l e (hp_rm 0 0 0) s m ([.int a0, .int a1] : List Value).toArray below meth c s.heap [] 0 0 (MQ below (hp_Qi Γ (fun r β => β = α ∧ r = res)) ([.int a0, .int a1] : List Value).toArray s 0 0 (hp_A Γ)) (entryFrame m ([.int a0, .int a1] : List Value).toArray 2)
  rw [lg_entry_eq]
  generalize (lg_sl ([.int a0, .int a1]) ++ List.replicate (2 - (lg_sl ([.int a0, .int a1])).length) Slot.unset).toArray = ls at hl ⊢
  have hl : lv_has ls 2 [(0, .int a0), (1, .int a1)] := hl
  refine lv_iload_n hx hb dJ9_max_7cf53_0 rfl (lv_at hl 0 rfl) (hp_n (n := 1) rfl ?_)
  refine lv_iload_n hx hb dJ9_max_7cf53_1 rfl (lv_at hl 1 rfl) (hp_n (n := 2) rfl ?_)
  refine lv_icmp_lt (tgt := 9) hx hb dJ9_max_7cf53_2 (by decide) (fun c1 => ?_) (fun c1 => hp_n (n := 5) rfl ?_)
  ·
    replace hf := ms_iT c1 hf
    refine lv_iload_n hx hb dJ9_max_7cf53_9 rfl (lv_at hl 1 rfl) (hp_n (n := 10) rfl ?_)
    cases hf
    exact q_iret C B hr hlk ⟨rfl, rfl⟩ dJ9_max_7cf53_10
  ·
    replace hf := ms_iF c1 hf
    refine lv_iload_n hx hb dJ9_max_7cf53_5 rfl (lv_at hl 0 rfl) (hp_n (n := 6) rfl ?_)
    refine lv_goto (tgt := 10) hx hb dJ9_max_7cf53_6 (by decide) ?_
    cases hf
    exact q_iret C B hr hlk ⟨rfl, rfl⟩ dJ9_max_7cf53_10
def f_X6_byteAt (n : Nat) (α : hp_T) (a0 : Nat) (a1 : Int32) : Option Int32 :=
  if a1 < 0 then
    some (0 : Int32)
  else
    ms_l (hp_I α 351 a0) fun x2 =>
    if x2 ≤ a1 then
      some (0 : Int32)
    else
      ms_l (hp_R α 350 a0) fun b4 =>
      if hp_K α b4 = 24 then
        if (900 : Int32) ≤ a1 then
          some (0 : Int32)
        else
          ms_l (hp_R α 350 a0) fun b6 =>
          if hp_K α b6 = 24 then
            ms_g a1 900 <|
            some (hp_E α 24 b6 (a1).toNatClampNeg)
          else
            none
      else
        if (0 : Int32) ≤ a1 then
          some (0 : Int32)
        else
          ms_l (hp_R α 350 a0) fun b10 =>
          if hp_K α b10 = 24 then
            ms_g a1 900 <|
            some (hp_E α 24 b10 (a1).toNatClampNeg)
          else
            none
set_option maxRecDepth 100000 in
set_option maxHeartbeats 4000000 in
theorem n_X6_byteAt (n : Nat) (Γ : hp_G) (l : Launch) (α : hp_T) (g : GC α) (a0 : Nat) (k0 : hp_K α a0 = 7) (a1 : Int32) (res : Int32) (hf : f_X6_byteAt n α a0 a1 = some res) : Met l yX6_byteAt (hp_ws yX6_byteAt cX6_byteAt 2 (some .int)) (hp_rm 0 0 0) (hp_Pc Γ α [.ref a0, .int a1]) (hp_Qi Γ (fun r β => β = α ∧ r = res)) 0 0 (hp_A Γ) := by
  unfold f_X6_byteAt at hf
  refine hp_start (by decide) ?_
  intro p e s m below meth c C hr hlk B0 hnm
  have C : hp_C Γ p m c cX6_byteAt 2 s ([.ref a0, .int a1] : List Value).toArray RX6 := C
  have hx := C.1.1
  have hb := C.1.2.1
  have hown := C.1.2.2.2.1
  have hts := C.1.2.2.2.2
  have B : hp_B Γ (cw w_X6_byteAt) s α α s.heap [] := ⟨B0.1, B0.2.1, cw_rf g⟩
  have hl := lv_entry ([.ref a0, .int a1]) (n := 2) (Nat.le_of_ble_eq_true rfl)
  show W p l e (hp_rm 0 0 0) s m ([.ref a0, .int a1] : List Value).toArray below meth c s.heap [] 0 0 (MQ below (hp_Qi Γ (fun r β => β = α ∧ r = res)) ([.ref a0, .int a1] : List Value).toArray s 0 0 (hp_A Γ)) (entryFrame m ([.ref a0, .int a1] : List Value).toArray 2)
  rw [lg_entry_eq]
  generalize (lg_sl ([.ref a0, .int a1]) ++ List.replicate (2 - (lg_sl ([.ref a0, .int a1])).length) Slot.unset).toArray = ls at hl ⊢
  have hl : lv_has ls 2 [(0, .ref a0), (1, .int a1)] := hl
  refine lv_iload_n hx hb dX6_byteAt_0 rfl (lv_at hl 1 rfl) (hp_n (n := 1) rfl ?_)
  refine lv_if_lt (tgt := 30) hx hb dX6_byteAt_1 (by decide) (fun c1 => ?_) (fun c1 => hp_n (n := 4) rfl ?_)
  ·
    replace hf := ms_iT c1 hf
    refine lv_iconst (v := 0) hx hb dX6_byteAt_30 (by decide) (hp_n (n := 31) rfl ?_)
    cases hf
    exact q_iret C B hr hlk ⟨rfl, rfl⟩ dX6_byteAt_31
  ·
    replace hf := ms_iF c1 hf
    refine lv_iload_n hx hb dX6_byteAt_4 rfl (lv_at hl 1 rfl) (hp_n (n := 5) rfl ?_)
    refine lv_aload_n hx hb dX6_byteAt_5 rfl (lv_at hl 0 rfl) (hp_n (n := 6) rfl ?_)
    refine q_geti (κ := 7) (k := 1) (φ := 351) (pc' := 9) C B (cw_k B.2.2 k0) fl_X6_15 rfl rfl rfl dX6_byteAt_6 rfl (fun x2 ex2 => ?_)
    replace hf := ms_lE ex2 hf
    refine lv_icmp_ge (tgt := 30) hx hb dX6_byteAt_9 (by decide) (fun c3 => ?_) (fun c3 => hp_n (n := 12) rfl ?_)
    ·
      replace hf := ms_iT c3 hf
      refine lv_iconst (v := 0) hx hb dX6_byteAt_30 (by decide) (hp_n (n := 31) rfl ?_)
      cases hf
      exact q_iret C B hr hlk ⟨rfl, rfl⟩ dX6_byteAt_31
    ·
      replace hf := ms_iF c3 hf
      refine lv_iload_n hx hb dX6_byteAt_12 rfl (lv_at hl 1 rfl) (hp_n (n := 13) rfl ?_)
      refine lv_aload_n hx hb dX6_byteAt_13 rfl (lv_at hl 0 rfl) (hp_n (n := 14) rfl ?_)
      refine q_getu (κ := 7) (k := 0) (φ := 350) (pc' := 17) C B (cw_k B.2.2 k0) fl_X6_9 rfl rfl rfl (cw_u B.2.2 k0) dX6_byteAt_14 rfl (fun b4 eb4 kb4 => ?_)
      replace hf := ms_lE eb4 hf
      rcases kb4 with kb4 | kb4
      ·
        replace hf := ms_iT (cw_k B.2.2 kb4) hf
        refine q_alen (κ := 24) (t := 1) (n := 900) (x := 900) (ty := .byte) (pc' := 18) C B (cw_k B.2.2 kb4) (by decide) rfl rfl rfl dX6_byteAt_17 rfl ?_
        refine lv_icmp_ge (tgt := 30) hx hb dX6_byteAt_18 (by decide) (fun c5 => ?_) (fun c5 => hp_n (n := 21) rfl ?_)
        ·
          replace hf := ms_iT c5 hf
          refine lv_iconst (v := 0) hx hb dX6_byteAt_30 (by decide) (hp_n (n := 31) rfl ?_)
          cases hf
          exact q_iret C B hr hlk ⟨rfl, rfl⟩ dX6_byteAt_31
        ·
          replace hf := ms_iF c5 hf
          refine lv_aload_n hx hb dX6_byteAt_21 rfl (lv_at hl 0 rfl) (hp_n (n := 22) rfl ?_)
          refine q_getu (κ := 7) (k := 0) (φ := 350) (pc' := 25) C B (cw_k B.2.2 k0) fl_X6_9 rfl rfl rfl (cw_u B.2.2 k0) dX6_byteAt_22 rfl (fun b6 eb6 kb6 => ?_)
          replace hf := ms_lE eb6 hf
          rcases kb6 with kb6 | kb6
          ·
            replace hf := ms_iT (cw_k B.2.2 kb6) hf
            refine lv_iload_n hx hb dX6_byteAt_25 rfl (lv_at hl 1 rfl) (hp_n (n := 26) rfl ?_)
            obtain ⟨g7, hf⟩ := ms_gE hf
            refine q_bal (κ := 24) (n := 900) (pc' := 27) C B (cw_k B.2.2 kb6) (by decide) rfl (vi_of g7.1 g7.2) dX6_byteAt_26 rfl ?_
            refine lv_goto (tgt := 31) hx hb dX6_byteAt_27 (by decide) ?_
            cases hf
            exact q_iret C B hr hlk ⟨rfl, rfl⟩ dX6_byteAt_31
          ·
            replace hf := ms_iF (by rw [cw_k B.2.2 kb6]; decide) hf
            refine lv_iload_n hx hb dX6_byteAt_25 rfl (lv_at hl 1 rfl) (hp_n (n := 26) rfl ?_)
            cases hf
      ·
        replace hf := ms_iF (by rw [cw_k B.2.2 kb4]; decide) hf
        refine q_alen (κ := 36) (t := 1) (n := 0) (x := 0) (ty := .byte) (pc' := 18) C B (cw_k B.2.2 kb4) (by decide) rfl rfl rfl dX6_byteAt_17 rfl ?_
        refine lv_icmp_ge (tgt := 30) hx hb dX6_byteAt_18 (by decide) (fun c9 => ?_) (fun c9 => hp_n (n := 21) rfl ?_)
        ·
          replace hf := ms_iT c9 hf
          refine lv_iconst (v := 0) hx hb dX6_byteAt_30 (by decide) (hp_n (n := 31) rfl ?_)
          cases hf
          exact q_iret C B hr hlk ⟨rfl, rfl⟩ dX6_byteAt_31
        ·
          replace hf := ms_iF c9 hf
          refine lv_aload_n hx hb dX6_byteAt_21 rfl (lv_at hl 0 rfl) (hp_n (n := 22) rfl ?_)
          refine q_getu (κ := 7) (k := 0) (φ := 350) (pc' := 25) C B (cw_k B.2.2 k0) fl_X6_9 rfl rfl rfl (cw_u B.2.2 k0) dX6_byteAt_22 rfl (fun b10 eb10 kb10 => ?_)
          replace hf := ms_lE eb10 hf
          rcases kb10 with kb10 | kb10
          ·
            replace hf := ms_iT (cw_k B.2.2 kb10) hf
            refine lv_iload_n hx hb dX6_byteAt_25 rfl (lv_at hl 1 rfl) (hp_n (n := 26) rfl ?_)
            obtain ⟨g11, hf⟩ := ms_gE hf
            refine q_bal (κ := 24) (n := 900) (pc' := 27) C B (cw_k B.2.2 kb10) (by decide) rfl (vi_of g11.1 g11.2) dX6_byteAt_26 rfl ?_
            refine lv_goto (tgt := 31) hx hb dX6_byteAt_27 (by decide) ?_
            cases hf
            exact q_iret C B hr hlk ⟨rfl, rfl⟩ dX6_byteAt_31
          ·
            replace hf := ms_iF (by rw [cw_k B.2.2 kb10]; decide) hf
            refine lv_iload_n hx hb dX6_byteAt_25 rfl (lv_at hl 1 rfl) (hp_n (n := 26) rfl ?_)
            cases hf
def f_X6_isBlank_J12 (n : Nat) : Option Int32 :=
  some (1 : Int32)
def f_X6_isBlank (n : Nat) (a0 : Int32) : Option Int32 :=
  if a0 = (10 : Int32) then
    f_X6_isBlank_J12 n 
  else
    if a0 = (32 : Int32) then
      f_X6_isBlank_J12 n 
    else
      some (0 : Int32)
set_option maxRecDepth 100000 in
set_option maxHeartbeats 4000000 in
theorem n_X6_isBlank (n : Nat) (Γ : hp_G) (l : Launch) (α : hp_T) (g : GC α) (a0 : Int32) (res : Int32) (hf : f_X6_isBlank n a0 = some res) : Met l yX6_isBlank (hp_ws yX6_isBlank cX6_isBlank 1 (some .boolean)) (hp_rm 0 0 0) (hp_Pc Γ α [.int a0]) (hp_Qi Γ (fun r β => β = α ∧ r = res)) 0 0 (hp_A Γ) := by
  unfold f_X6_isBlank at hf
  refine hp_start (by decide) ?_
  intro p e s m below meth c C hr hlk B0 hnm
  have C : hp_C Γ p m c cX6_isBlank 1 s ([.int a0] : List Value).toArray RX6 := C
  have hx := C.1.1
  have hb := C.1.2.1
  have hown := C.1.2.2.2.1
  have hts := C.1.2.2.2.2
  have B : hp_B Γ (cw w_X6_isBlank) s α α s.heap [] := ⟨B0.1, B0.2.1, cw_rf g⟩
  have hl := lv_entry ([.int a0]) (n := 1) (Nat.le_of_ble_eq_true rfl)
  show W p l e (hp_rm 0 0 0) s m ([.int a0] : List Value).toArray below meth c s.heap [] 0 0 (MQ below (hp_Qi Γ (fun r β => β = α ∧ r = res)) ([.int a0] : List Value).toArray s 0 0 (hp_A Γ)) (entryFrame m ([.int a0] : List Value).toArray 1)
  rw [lg_entry_eq]
  generalize (lg_sl ([.int a0]) ++ List.replicate (1 - (lg_sl ([.int a0])).length) Slot.unset).toArray = ls at hl ⊢
  have hl : lv_has ls 1 [(0, .int a0)] := hl
  refine lv_iload_n hx hb dX6_isBlank_0 rfl (lv_at hl 0 rfl) (hp_n (n := 1) rfl ?_)
  refine lv_bipush (v := 10) hx hb dX6_isBlank_1 (by decide) (hp_n (n := 3) rfl ?_)
  have J12 : ∀ (Hh1 : Heap) (Lh1 : List Loc) (Bh1 : hp_B Γ (cw w_X6_isBlank) s α α Hh1 Lh1) (ls : Array Slot) (hl : lv_has ls 1 []) (hf : f_X6_isBlank_J12 n  = some res), W p l e (hp_rm 0 0 0) s m ([.int a0] : List Value).toArray below meth c Hh1 Lh1 0 0 (MQ below (hp_Qi Γ (fun r β => β = α ∧ r = res)) ([.int a0] : List Value).toArray s 0 0 (hp_A Γ)) (F0 m 12 ls []) := by
    intro Hh1 Lh1 Bh1 ls hl hf
    unfold f_X6_isBlank_J12 at hf
    refine lv_iconst (v := 1) hx hb dX6_isBlank_12 (by decide) (hp_n (n := 13) rfl ?_)
    refine lv_goto (tgt := 17) hx hb dX6_isBlank_13 (by decide) ?_
    cases hf
    exact q_zret C Bh1 hr hlk (by decide) ⟨rfl, rfl⟩ dX6_isBlank_17
  refine lv_icmp_eq (tgt := 12) hx hb dX6_isBlank_3 (by decide) (fun c2 => ?_) (fun c2 => hp_n (n := 6) rfl ?_)
  ·
    replace hf := ms_iT c2 hf
    exact J12 s.heap [] B ls (lv_sub hl [] rfl) hf
  ·
    replace hf := ms_iF c2 hf
    refine lv_iload_n hx hb dX6_isBlank_6 rfl (lv_at hl 0 rfl) (hp_n (n := 7) rfl ?_)
    refine lv_bipush (v := 32) hx hb dX6_isBlank_7 (by decide) (hp_n (n := 9) rfl ?_)
    refine lv_icmp_ne (tgt := 16) hx hb dX6_isBlank_9 (by decide) (fun c3 => ?_) (fun c3 => hp_n (n := 12) rfl ?_)
    ·
      replace hf := ms_iF c3 hf
      refine lv_iconst (v := 0) hx hb dX6_isBlank_16 (by decide) (hp_n (n := 17) rfl ?_)
      cases hf
      exact q_zret C B hr hlk (by decide) ⟨rfl, rfl⟩ dX6_isBlank_17
    ·
      replace hf := ms_iT c3 hf
      exact J12 s.heap [] B ls (lv_sub hl [] rfl) hf
def f_X6_kindOf_J28 (n : Nat) (v0_h2 : Int32) : Option Int32 :=
  if v0_h2 = (59 : Int32) then
    some (3 : Int32)
  else
    some (4 : Int32)
def f_X6_kindOf_J14 (n : Nat) (v0_h1 : Int32) : Option Int32 :=
  if v0_h1 < (48 : Int32) then
    f_X6_kindOf_J28 n v0_h1
  else
    if (57 : Int32) < v0_h1 then
      f_X6_kindOf_J28 n v0_h1
    else
      some (2 : Int32)
def f_X6_kindOf (n : Nat) (a0 : Int32) : Option Int32 :=
  if a0 < (97 : Int32) then
    f_X6_kindOf_J14 n a0
  else
    if (122 : Int32) < a0 then
      f_X6_kindOf_J14 n a0
    else
      some (1 : Int32)
set_option maxRecDepth 100000 in
set_option maxHeartbeats 4000000 in
theorem n_X6_kindOf (n : Nat) (Γ : hp_G) (l : Launch) (α : hp_T) (g : GC α) (a0 : Int32) (res : Int32) (hf : f_X6_kindOf n a0 = some res) : Met l yX6_kindOf (hp_ws yX6_kindOf cX6_kindOf 1 (some .int)) (hp_rm 0 0 0) (hp_Pc Γ α [.int a0]) (hp_Qi Γ (fun r β => β = α ∧ r = res)) 0 0 (hp_A Γ) := by
  unfold f_X6_kindOf at hf
  refine hp_start (by decide) ?_
  intro p e s m below meth c C hr hlk B0 hnm
  have C : hp_C Γ p m c cX6_kindOf 1 s ([.int a0] : List Value).toArray RX6 := C
  have hx := C.1.1
  have hb := C.1.2.1
  have hown := C.1.2.2.2.1
  have hts := C.1.2.2.2.2
  have B : hp_B Γ (cw w_X6_kindOf) s α α s.heap [] := ⟨B0.1, B0.2.1, cw_rf g⟩
  have hl := lv_entry ([.int a0]) (n := 1) (Nat.le_of_ble_eq_true rfl)
  show W p l e (hp_rm 0 0 0) s m ([.int a0] : List Value).toArray below meth c s.heap [] 0 0 (MQ below (hp_Qi Γ (fun r β => β = α ∧ r = res)) ([.int a0] : List Value).toArray s 0 0 (hp_A Γ)) (entryFrame m ([.int a0] : List Value).toArray 1)
  rw [lg_entry_eq]
  generalize (lg_sl ([.int a0]) ++ List.replicate (1 - (lg_sl ([.int a0])).length) Slot.unset).toArray = ls at hl ⊢
  have hl : lv_has ls 1 [(0, .int a0)] := hl
  refine lv_iload_n hx hb dX6_kindOf_0 rfl (lv_at hl 0 rfl) (hp_n (n := 1) rfl ?_)
  refine lv_bipush (v := 97) hx hb dX6_kindOf_1 (by decide) (hp_n (n := 3) rfl ?_)
  have J14 : ∀ (Hh1 : Heap) (Lh1 : List Loc) (Bh1 : hp_B Γ (cw w_X6_kindOf) s α α Hh1 Lh1) (v0_h1 : Int32) (ls : Array Slot) (hl : lv_has ls 1 [(0, .int v0_h1)]) (hf : f_X6_kindOf_J14 n v0_h1 = some res), W p l e (hp_rm 0 0 0) s m ([.int a0] : List Value).toArray below meth c Hh1 Lh1 0 0 (MQ below (hp_Qi Γ (fun r β => β = α ∧ r = res)) ([.int a0] : List Value).toArray s 0 0 (hp_A Γ)) (F0 m 14 ls []) := by
    intro Hh1 Lh1 Bh1 v0_h1 ls hl hf
    unfold f_X6_kindOf_J14 at hf
    refine lv_iload_n hx hb dX6_kindOf_14 rfl (lv_at hl 0 rfl) (hp_n (n := 15) rfl ?_)
    refine lv_bipush (v := 48) hx hb dX6_kindOf_15 (by decide) (hp_n (n := 17) rfl ?_)
    have J28 : ∀ (Hh2 : Heap) (Lh2 : List Loc) (Bh2 : hp_B Γ (cw w_X6_kindOf) s α α Hh2 Lh2) (v0_h2 : Int32) (ls : Array Slot) (hl : lv_has ls 1 [(0, .int v0_h2)]) (hf : f_X6_kindOf_J28 n v0_h2 = some res), W p l e (hp_rm 0 0 0) s m ([.int a0] : List Value).toArray below meth c Hh2 Lh2 0 0 (MQ below (hp_Qi Γ (fun r β => β = α ∧ r = res)) ([.int a0] : List Value).toArray s 0 0 (hp_A Γ)) (F0 m 28 ls []) := by
      intro Hh2 Lh2 Bh2 v0_h2 ls hl hf
      unfold f_X6_kindOf_J28 at hf
      refine lv_iload_n hx hb dX6_kindOf_28 rfl (lv_at hl 0 rfl) (hp_n (n := 29) rfl ?_)
      refine lv_bipush (v := 59) hx hb dX6_kindOf_29 (by decide) (hp_n (n := 31) rfl ?_)
      refine lv_icmp_ne (tgt := 38) hx hb dX6_kindOf_31 (by decide) (fun c3 => ?_) (fun c3 => hp_n (n := 34) rfl ?_)
      ·
        replace hf := ms_iF c3 hf
        refine lv_iconst (v := 4) hx hb dX6_kindOf_38 (by decide) (hp_n (n := 39) rfl ?_)
        cases hf
        exact q_iret C Bh2 hr hlk ⟨rfl, rfl⟩ dX6_kindOf_39
      ·
        replace hf := ms_iT c3 hf
        refine lv_iconst (v := 3) hx hb dX6_kindOf_34 (by decide) (hp_n (n := 35) rfl ?_)
        refine lv_goto (tgt := 39) hx hb dX6_kindOf_35 (by decide) ?_
        cases hf
        exact q_iret C Bh2 hr hlk ⟨rfl, rfl⟩ dX6_kindOf_39
    refine lv_icmp_lt (tgt := 28) hx hb dX6_kindOf_17 (by decide) (fun c4 => ?_) (fun c4 => hp_n (n := 20) rfl ?_)
    ·
      replace hf := ms_iT c4 hf
      exact J28 Hh1 Lh1 Bh1 v0_h1 ls (lv_sub hl [0] rfl) hf
    ·
      replace hf := ms_iF c4 hf
      refine lv_iload_n hx hb dX6_kindOf_20 rfl (lv_at hl 0 rfl) (hp_n (n := 21) rfl ?_)
      refine lv_bipush (v := 57) hx hb dX6_kindOf_21 (by decide) (hp_n (n := 23) rfl ?_)
      refine lv_icmp_gt (tgt := 28) hx hb dX6_kindOf_23 (by decide) (fun c5 => ?_) (fun c5 => hp_n (n := 26) rfl ?_)
      ·
        replace hf := ms_iT c5 hf
        exact J28 Hh1 Lh1 Bh1 v0_h1 ls (lv_sub hl [0] rfl) hf
      ·
        replace hf := ms_iF c5 hf
        refine lv_iconst (v := 2) hx hb dX6_kindOf_26 (by decide) (hp_n (n := 27) rfl ?_)
        cases hf
        exact q_iret C Bh1 hr hlk ⟨rfl, rfl⟩ dX6_kindOf_27
  refine lv_icmp_lt (tgt := 14) hx hb dX6_kindOf_3 (by decide) (fun c6 => ?_) (fun c6 => hp_n (n := 6) rfl ?_)
  ·
    replace hf := ms_iT c6 hf
    exact J14 s.heap [] B a0 ls (lv_sub hl [0] rfl) hf
  ·
    replace hf := ms_iF c6 hf
    refine lv_iload_n hx hb dX6_kindOf_6 rfl (lv_at hl 0 rfl) (hp_n (n := 7) rfl ?_)
    refine lv_bipush (v := 122) hx hb dX6_kindOf_7 (by decide) (hp_n (n := 9) rfl ?_)
    refine lv_icmp_gt (tgt := 14) hx hb dX6_kindOf_9 (by decide) (fun c7 => ?_) (fun c7 => hp_n (n := 12) rfl ?_)
    ·
      replace hf := ms_iT c7 hf
      exact J14 s.heap [] B a0 ls (lv_sub hl [0] rfl) hf
    ·
      replace hf := ms_iF c7 hf
      refine lv_iconst (v := 1) hx hb dX6_kindOf_12 (by decide) (hp_n (n := 13) rfl ?_)
      cases hf
      exact q_iret C B hr hlk ⟨rfl, rfl⟩ dX6_kindOf_13
def f_X6_begin (n : Nat) (α : hp_T) (a0 : Nat) (a1 : Nat) (a2 : Int32) : Option hp_T :=
  ms_l (hp_sR α 350 a0 a1) fun αh1 =>
  ms_b (f_J9_min_7cf53 n a2 (900 : Int32)) fun rh2 =>
  ms_b (f_J9_max_7cf53 n (0 : Int32) rh2) fun rh3 =>
  ms_l (hp_sI αh1 351 a0 rh3) fun αh4 =>
  ms_l (hp_sI αh4 352 a0 (0 : Int32)) fun αh5 =>
  some αh5
set_option maxRecDepth 100000 in
set_option maxHeartbeats 4000000 in
theorem n_X6_begin (n : Nat) (Γ : hp_G) (l : Launch) (α : hp_T) (g : GC α) (a0 : Nat) (k0 : hp_K α a0 = 7) (a1 : Nat) (k1 : hp_K α a1 = 24) (a2 : Int32) (res : hp_T) (hf : f_X6_begin n α a0 a1 a2 = some res) : Met l yX6_begin (hp_ws yX6_begin cX6_begin 3 none) (hp_rm 1 0 0) (hp_Pc Γ α [.ref a0, .ref a1, .int a2]) (hp_Qv Γ (fun β => β = res ∧ cw w_X6_begin α β)) 0 0 (hp_A Γ) := by
  unfold f_X6_begin at hf
  refine hp_start (by decide) ?_
  intro p e s m below meth c C hr hlk B0 hnm
  have C : hp_C Γ p m c cX6_begin 3 s ([.ref a0, .ref a1, .int a2] : List Value).toArray RX6 := C
  have hx := C.1.1
  have hb := C.1.2.1
  have hown := C.1.2.2.2.1
  have hts := C.1.2.2.2.2
  have B : hp_B Γ (cw w_X6_begin) s α α s.heap [] := ⟨B0.1, B0.2.1, cw_rf g⟩
  have hl := lv_entry ([.ref a0, .ref a1, .int a2]) (n := 3) (Nat.le_of_ble_eq_true rfl)
  show W p l e (hp_rm 1 0 0) s m ([.ref a0, .ref a1, .int a2] : List Value).toArray below meth c s.heap [] 0 0 (MQ below (hp_Qv Γ (fun β => β = res ∧ cw w_X6_begin α β)) ([.ref a0, .ref a1, .int a2] : List Value).toArray s 0 0 (hp_A Γ)) (entryFrame m ([.ref a0, .ref a1, .int a2] : List Value).toArray 3)
  rw [lg_entry_eq]
  generalize (lg_sl ([.ref a0, .ref a1, .int a2]) ++ List.replicate (3 - (lg_sl ([.ref a0, .ref a1, .int a2])).length) Slot.unset).toArray = ls at hl ⊢
  have hl : lv_has ls 3 [(0, .ref a0), (1, .ref a1), (2, .int a2)] := hl
  refine lv_aload_n hx hb dX6_begin_0 rfl (lv_at hl 0 rfl) (hp_n (n := 1) rfl ?_)
  refine lv_aload_n hx hb dX6_begin_1 rfl (lv_at hl 1 rfl) (hp_n (n := 2) rfl ?_)
  refine q_putr (κ := 7) (k := 0) (φ := 350) (pc' := 5) C B (cw_k B.2.2 k0) fl_X6_9 rfl rfl rfl rfl rfl rfl (cw_sR B.2.2 (by decide) (Or.inl k1)) dX6_begin_2 rfl (fun αh1 Hh1 Lh1 eh1 Bh1 => ?_)
  replace hf := ms_lE eh1 hf
  refine lv_aload_n hx hb dX6_begin_5 rfl (lv_at hl 0 rfl) (hp_n (n := 6) rfl ?_)
  refine lv_iconst (v := 0) hx hb dX6_begin_6 (by decide) (hp_n (n := 7) rfl ?_)
  refine lv_iload_n hx hb dX6_begin_7 rfl (lv_at hl 2 rfl) (hp_n (n := 8) rfl ?_)
  refine lv_aload_n hx hb dX6_begin_8 rfl (lv_at hl 1 rfl) (hp_n (n := 9) rfl ?_)
  refine q_alen (κ := 24) (t := 1) (n := 900) (x := 900) (ty := .byte) (pc' := 10) C Bh1 (cw_k Bh1.2.2 k1) (by decide) rfl rfl rfl dX6_begin_9 rfl ?_
  obtain ⟨rh2, qh2, hf⟩ := ms_bE hf
  refine d_pi (pc' := 13) Bh1 (hp_runS (As := [.int a2, .int (900 : Int32)]) (rest := [.int (0 : Int32), .ref a0]) C Bh1 (n_J9_min_7cf53 n Γ l αh1 Bh1.2.2.1 a2 (900 : Int32) rh2 qh2) lb_J9_min_7cf53 ls_J9_min_7cf53 lk_X6_34 rfl (by decide) rfl hl.1 rfl (Nat.le_of_ble_eq_true rfl) dX6_begin_10 ⟨Nat.le_refl _, Nat.le_refl _⟩) rfl (fun Hh2 Lh2 Bh2 => ?_)
  obtain ⟨rh3, qh3, hf⟩ := ms_bE hf
  refine d_pi (pc' := 16) Bh2 (hp_runS (As := [.int (0 : Int32), .int rh2]) (rest := [.ref a0]) C Bh2 (n_J9_max_7cf53 n Γ l αh1 Bh2.2.2.1 (0 : Int32) rh2 rh3 qh3) lb_J9_max_7cf53 ls_J9_max_7cf53 lk_X6_40 rfl (by decide) rfl hl.1 rfl (Nat.le_of_ble_eq_true rfl) dX6_begin_13 ⟨Nat.le_refl _, Nat.le_refl _⟩) rfl (fun Hh3 Lh3 Bh3 => ?_)
  refine q_puti (κ := 7) (k := 1) (φ := 351) (pc' := 19) C Bh3 (cw_k Bh3.2.2 k0) fl_X6_15 rfl rfl rfl rfl rfl rfl (cw_sI Bh3.2.2 (by decide) (fun h => absurd h (by decide))) dX6_begin_16 rfl (fun αh4 Hh4 Lh4 eh4 Bh4 => ?_)
  replace hf := ms_lE eh4 hf
  refine lv_aload_n hx hb dX6_begin_19 rfl (lv_at hl 0 rfl) (hp_n (n := 20) rfl ?_)
  refine lv_iconst (v := 0) hx hb dX6_begin_20 (by decide) (hp_n (n := 21) rfl ?_)
  refine q_puti (κ := 7) (k := 2) (φ := 352) (pc' := 24) C Bh4 (cw_k Bh4.2.2 k0) fl_X6_19 rfl rfl rfl rfl rfl rfl (cw_sI Bh4.2.2 (by decide) (fun h => absurd h (by decide))) dX6_begin_21 rfl (fun αh5 Hh5 Lh5 eh5 Bh5 => ?_)
  replace hf := ms_lE eh5 hf
  cases hf
  exact q_vret C Bh5 hr hlk ⟨rfl, Bh5.2.2⟩ dX6_begin_24
def f_X6_advance_J250 (n : Nat) (a0 : Nat) (αh23 : hp_T) (w0_h23 : Nat) : Option hp_T :=
  ms_l (hp_I αh23 353 a0) fun x24 =>
  ms_l (hp_sI αh23 353 w0_h23 x24) fun αh25 =>
  some αh25
def f_X6_advance_J229 (n : Nat) (a0 : Nat) (αh21 : hp_T) : Option hp_T :=
  ms_l (hp_I αh21 353 a0) fun x22 =>
  if x22 = (2 : Int32) then
    ms_l (hp_I αh21 355 a0) fun x27 =>
    if x27 ≤ (5 : Int32) then
      f_X6_advance_J250 n a0 αh21 a0
    else
      ms_l (hp_sI αh21 353 a0 (4 : Int32)) fun αh29 =>
      some αh29
  else
    f_X6_advance_J250 n a0 αh21 a0
def f_X6_advance_L177 (n : Nat) (a0 : Nat) : Nat → hp_T → Int32 → Option hp_T
  | 0, _, _ => none
  | k177 + 1, αh19, v1_h19 =>
    ms_l (hp_I αh19 355 a0) fun x20 =>
    if x20 ≤ v1_h19 then
      f_X6_advance_J229 n a0 αh19
    else
      if (5 : Int32) ≤ v1_h19 then
        f_X6_advance_J229 n a0 αh19
      else
        ms_l (hp_I αh19 353 a0) fun x32 =>
        if x32 = (2 : Int32) then
          ms_l (hp_I αh19 356 a0) fun x34 =>
          ms_l (hp_I αh19 354 a0) fun x35 =>
          ms_b (f_X6_byteAt n αh19 a0 (x35 + v1_h19)) fun rh36 =>
          ms_l (hp_sI αh19 356 a0 ((((10 : Int32) * x34) + rh36) - (48 : Int32))) fun αh37 =>
          ms_l (v1_h19 + 1) fun x38 =>
          (f_X6_advance_L177 n a0 k177) αh37 x38
        else
          f_X6_advance_J229 n a0 αh19
def f_X6_advance_J157 (n : Nat) (a0 : Nat) (αh14 : hp_T) : Option hp_T :=
  ms_l (hp_I αh14 352 a0) fun x15 =>
  ms_l (hp_I αh14 354 a0) fun x16 =>
  ms_l (hp_sI αh14 355 a0 (x15 - x16)) fun αh17 =>
  ms_l (hp_sI αh17 356 a0 (0 : Int32)) fun αh18 =>
  f_X6_advance_L177 n a0 n αh18 (0 : Int32)
def f_X6_advance_J123 (n : Nat) (a0 : Nat) (rec100 : hp_T → Int32 → Option hp_T) (αh41 : hp_T) (v1_h41 : Int32) : Option hp_T :=
  ms_l (hp_I αh41 352 a0) fun x42 =>
  ms_b (f_X6_byteAt n αh41 a0 x42) fun rh43 =>
  ms_b (f_X6_kindOf n rh43) fun rh44 =>
  ms_l (hp_I αh41 353 a0) fun x45 =>
  if rh44 = x45 then
    ms_l (hp_I αh41 352 a0) fun x47 =>
    ms_l (hp_sI αh41 352 a0 (x47 + (1 : Int32))) fun αh48 =>
    ms_l (v1_h41 + 1) fun x49 =>
    rec100 αh48 x49
  else
    f_X6_advance_J157 n a0 αh41
def f_X6_advance_L100 (n : Nat) (a0 : Nat) : Nat → hp_T → Int32 → Option hp_T
  | 0, _, _ => none
  | k100 + 1, αh13, v1_h13 =>
    if (900 : Int32) ≤ v1_h13 then
      f_X6_advance_J157 n a0 αh13
    else
      ms_l (hp_I αh13 353 a0) fun x40 =>
      if x40 = (1 : Int32) then
        f_X6_advance_J123 n a0 (f_X6_advance_L100 n a0 k100) αh13 v1_h13
      else
        ms_l (hp_I αh13 353 a0) fun x51 =>
        if x51 = (2 : Int32) then
          f_X6_advance_J123 n a0 (f_X6_advance_L100 n a0 k100) αh13 v1_h13
        else
          f_X6_advance_J157 n a0 αh13
def f_X6_advance_J94 (n : Nat) (a0 : Nat) (αh11 : hp_T) (w0_h11 : Int32) (w1_h11 : Int32) (w2_h11 : Nat) : Option hp_T :=
  ms_l (hp_sI αh11 352 w2_h11 (w1_h11 + w0_h11)) fun αh12 =>
  f_X6_advance_L100 n a0 n αh12 (0 : Int32)
def f_X6_advance_J74 (n : Nat) (a0 : Nat) (αh7 : hp_T) (w0_h7 : Int32) (w1_h7 : Nat) : Option hp_T :=
  ms_l (hp_sI αh7 353 w1_h7 w0_h7) fun αh8 =>
  ms_l (hp_I αh8 352 a0) fun x9 =>
  ms_l (hp_I αh8 353 a0) fun x10 =>
  if x10 = 0 then
    f_X6_advance_J94 n a0 αh8 (0 : Int32) x9 a0
  else
    f_X6_advance_J94 n a0 αh8 (1 : Int32) x9 a0
def f_X6_advance_J39 (n : Nat) (a0 : Nat) (αh2 : hp_T) : Option hp_T :=
  ms_l (hp_I αh2 352 a0) fun x3 =>
  ms_l (hp_sI αh2 354 a0 x3) fun αh4 =>
  ms_l (hp_I αh4 352 a0) fun x5 =>
  ms_l (hp_I αh4 351 a0) fun x6 =>
  if x6 ≤ x5 then
    f_X6_advance_J74 n a0 αh4 (0 : Int32) a0
  else
    ms_l (hp_I αh4 352 a0) fun x55 =>
    ms_b (f_X6_byteAt n αh4 a0 x55) fun rh56 =>
    ms_b (f_X6_kindOf n rh56) fun rh57 =>
    f_X6_advance_J74 n a0 αh4 rh57 a0
def f_X6_advance_L2 (n : Nat) (a0 : Nat) : Nat → hp_T → Int32 → Option hp_T
  | 0, _, _ => none
  | k2 + 1, αh1, v1_h1 =>
    if (900 : Int32) ≤ v1_h1 then
      f_X6_advance_J39 n a0 αh1
    else
      ms_l (hp_I αh1 352 a0) fun x59 =>
      ms_b (f_X6_byteAt n αh1 a0 x59) fun rh60 =>
      ms_b (f_X6_isBlank n rh60) fun rh61 =>
      if rh61 = 0 then
        f_X6_advance_J39 n a0 αh1
      else
        ms_l (hp_I αh1 352 a0) fun x63 =>
        ms_l (hp_sI αh1 352 a0 (x63 + (1 : Int32))) fun αh64 =>
        ms_l (v1_h1 + 1) fun x65 =>
        (f_X6_advance_L2 n a0 k2) αh64 x65
def f_X6_advance (n : Nat) (α : hp_T) (a0 : Nat) : Option hp_T :=
  f_X6_advance_L2 n a0 n α (0 : Int32)
set_option maxRecDepth 100000 in
set_option maxHeartbeats 4000000 in
theorem n_X6_advance (n : Nat) (Γ : hp_G) (l : Launch) (α : hp_T) (g : GC α) (a0 : Nat) (k0 : hp_K α a0 = 7) (res : hp_T) (hf : f_X6_advance n α a0 = some res) : Met l yX6_advance (hp_ws yX6_advance cX6_advance 2 none) (hp_rm 1 0 0) (hp_Pc Γ α [.ref a0]) (hp_Qv Γ (fun β => β = res ∧ cw w_X6_advance α β)) 0 0 (hp_A Γ) := by
  unfold f_X6_advance at hf
  refine hp_start (by decide) ?_
  intro p e s m below meth c C hr hlk B0 hnm
  have C : hp_C Γ p m c cX6_advance 2 s ([.ref a0] : List Value).toArray RX6 := C
  have hx := C.1.1
  have hb := C.1.2.1
  have hown := C.1.2.2.2.1
  have hts := C.1.2.2.2.2
  have B : hp_B Γ (cw w_X6_advance) s α α s.heap [] := ⟨B0.1, B0.2.1, cw_rf g⟩
  have hl := lv_entry ([.ref a0]) (n := 2) (Nat.le_of_ble_eq_true rfl)
  show W p l e (hp_rm 1 0 0) s m ([.ref a0] : List Value).toArray below meth c s.heap [] 0 0 (MQ below (hp_Qv Γ (fun β => β = res ∧ cw w_X6_advance α β)) ([.ref a0] : List Value).toArray s 0 0 (hp_A Γ)) (entryFrame m ([.ref a0] : List Value).toArray 2)
  rw [lg_entry_eq]
  generalize (lg_sl ([.ref a0]) ++ List.replicate (2 - (lg_sl ([.ref a0])).length) Slot.unset).toArray = ls at hl ⊢
  have hl : lv_has ls 2 [(0, .ref a0)] := hl
  refine lv_iconst (v := 0) hx hb dX6_advance_0 (by decide) (hp_n (n := 1) rfl ?_)
  have J2 : ∀ (k2 : Nat) (αh1 : hp_T) (Hh1 : Heap) (Lh1 : List Loc) (Bh1 : hp_B Γ (cw w_X6_advance) s α αh1 Hh1 Lh1) (v1_h1 : Int32) (ls : Array Slot) (hl : lv_has ls 2 [(0, .ref a0), (1, .int v1_h1)]) (hf : f_X6_advance_L2 n a0 k2 αh1 v1_h1 = some res), W p l e (hp_rm 1 0 0) s m ([.ref a0] : List Value).toArray below meth c Hh1 Lh1 0 0 (MQ below (hp_Qv Γ (fun β => β = res ∧ cw w_X6_advance α β)) ([.ref a0] : List Value).toArray s 0 0 (hp_A Γ)) (F0 m 2 ls []) := by
    intro k2
    induction k2 with
    | zero => intro αh1 Hh1 Lh1 Bh1 v1_h1 ls hl hf; rw [f_X6_advance_L2.eq_1] at hf; cases hf
    | succ k2 ih2 =>
      intro αh1 Hh1 Lh1 Bh1 v1_h1 ls hl hf
      rw [f_X6_advance_L2.eq_2] at hf
      refine lv_iload_n hx hb dX6_advance_2 rfl (lv_at hl 1 rfl) (hp_n (n := 3) rfl ?_)
      refine lv_sipush (v := 900) hx hb dX6_advance_3 (by decide) (hp_n (n := 6) rfl ?_)
      have J39 : ∀ (αh2 : hp_T) (Hh2 : Heap) (Lh2 : List Loc) (Bh2 : hp_B Γ (cw w_X6_advance) s α αh2 Hh2 Lh2) (ls : Array Slot) (hl : lv_has ls 2 [(0, .ref a0)]) (hf : f_X6_advance_J39 n a0 αh2 = some res), W p l e (hp_rm 1 0 0) s m ([.ref a0] : List Value).toArray below meth c Hh2 Lh2 0 0 (MQ below (hp_Qv Γ (fun β => β = res ∧ cw w_X6_advance α β)) ([.ref a0] : List Value).toArray s 0 0 (hp_A Γ)) (F0 m 39 ls []) := by
        intro αh2 Hh2 Lh2 Bh2 ls hl hf
        unfold f_X6_advance_J39 at hf
        refine lv_aload_n hx hb dX6_advance_39 rfl (lv_at hl 0 rfl) (hp_n (n := 40) rfl ?_)
        refine lv_aload_n hx hb dX6_advance_40 rfl (lv_at hl 0 rfl) (hp_n (n := 41) rfl ?_)
        refine q_geti (κ := 7) (k := 2) (φ := 352) (pc' := 44) C Bh2 (cw_k Bh2.2.2 k0) fl_X6_19 rfl rfl rfl dX6_advance_41 rfl (fun x3 ex3 => ?_)
        replace hf := ms_lE ex3 hf
        refine q_puti (κ := 7) (k := 4) (φ := 354) (pc' := 47) C Bh2 (cw_k Bh2.2.2 k0) fl_X6_25 rfl rfl rfl rfl rfl rfl (cw_sI Bh2.2.2 (by decide) (fun h => absurd h (by decide))) dX6_advance_44 rfl (fun αh4 Hh4 Lh4 eh4 Bh4 => ?_)
        replace hf := ms_lE eh4 hf
        refine lv_aload_n hx hb dX6_advance_47 rfl (lv_at hl 0 rfl) (hp_n (n := 48) rfl ?_)
        refine lv_aload_n hx hb dX6_advance_48 rfl (lv_at hl 0 rfl) (hp_n (n := 49) rfl ?_)
        refine q_geti (κ := 7) (k := 2) (φ := 352) (pc' := 52) C Bh4 (cw_k Bh4.2.2 k0) fl_X6_19 rfl rfl rfl dX6_advance_49 rfl (fun x5 ex5 => ?_)
        replace hf := ms_lE ex5 hf
        refine lv_aload_n hx hb dX6_advance_52 rfl (lv_at hl 0 rfl) (hp_n (n := 53) rfl ?_)
        refine q_geti (κ := 7) (k := 1) (φ := 351) (pc' := 56) C Bh4 (cw_k Bh4.2.2 k0) fl_X6_15 rfl rfl rfl dX6_advance_53 rfl (fun x6 ex6 => ?_)
        replace hf := ms_lE ex6 hf
        have J74 : ∀ (αh7 : hp_T) (Hh7 : Heap) (Lh7 : List Loc) (Bh7 : hp_B Γ (cw w_X6_advance) s α αh7 Hh7 Lh7) (w0_h7 : Int32) (w1_h7 : Nat) (kw1_h7 : hp_K α w1_h7 = 7) (ls : Array Slot) (hl : lv_has ls 2 [(0, .ref a0)]) (hf : f_X6_advance_J74 n a0 αh7 w0_h7 w1_h7 = some res), W p l e (hp_rm 1 0 0) s m ([.ref a0] : List Value).toArray below meth c Hh7 Lh7 0 0 (MQ below (hp_Qv Γ (fun β => β = res ∧ cw w_X6_advance α β)) ([.ref a0] : List Value).toArray s 0 0 (hp_A Γ)) (F0 m 74 ls [.int w0_h7, .ref w1_h7]) := by
          intro αh7 Hh7 Lh7 Bh7 w0_h7 w1_h7 kw1_h7 ls hl hf
          unfold f_X6_advance_J74 at hf
          refine q_puti (κ := 7) (k := 3) (φ := 353) (pc' := 77) C Bh7 (cw_k Bh7.2.2 kw1_h7) fl_X6_22 rfl rfl rfl rfl rfl rfl (cw_sI Bh7.2.2 (by decide) (fun h => absurd h (by decide))) dX6_advance_74 rfl (fun αh8 Hh8 Lh8 eh8 Bh8 => ?_)
          replace hf := ms_lE eh8 hf
          refine lv_aload_n hx hb dX6_advance_77 rfl (lv_at hl 0 rfl) (hp_n (n := 78) rfl ?_)
          refine lv_dup hx hb dX6_advance_78 rfl (hp_n (n := 79) rfl ?_)
          refine q_geti (κ := 7) (k := 2) (φ := 352) (pc' := 82) C Bh8 (cw_k Bh8.2.2 k0) fl_X6_19 rfl rfl rfl dX6_advance_79 rfl (fun x9 ex9 => ?_)
          replace hf := ms_lE ex9 hf
          refine lv_aload_n hx hb dX6_advance_82 rfl (lv_at hl 0 rfl) (hp_n (n := 83) rfl ?_)
          refine q_geti (κ := 7) (k := 3) (φ := 353) (pc' := 86) C Bh8 (cw_k Bh8.2.2 k0) fl_X6_22 rfl rfl rfl dX6_advance_83 rfl (fun x10 ex10 => ?_)
          replace hf := ms_lE ex10 hf
          have J94 : ∀ (αh11 : hp_T) (Hh11 : Heap) (Lh11 : List Loc) (Bh11 : hp_B Γ (cw w_X6_advance) s α αh11 Hh11 Lh11) (w0_h11 : Int32) (w1_h11 : Int32) (w2_h11 : Nat) (kw2_h11 : hp_K α w2_h11 = 7) (ls : Array Slot) (hl : lv_has ls 2 [(0, .ref a0)]) (hf : f_X6_advance_J94 n a0 αh11 w0_h11 w1_h11 w2_h11 = some res), W p l e (hp_rm 1 0 0) s m ([.ref a0] : List Value).toArray below meth c Hh11 Lh11 0 0 (MQ below (hp_Qv Γ (fun β => β = res ∧ cw w_X6_advance α β)) ([.ref a0] : List Value).toArray s 0 0 (hp_A Γ)) (F0 m 94 ls [.int w0_h11, .int w1_h11, .ref w2_h11]) := by
            intro αh11 Hh11 Lh11 Bh11 w0_h11 w1_h11 w2_h11 kw2_h11 ls hl hf
            unfold f_X6_advance_J94 at hf
            refine lv_iadd hx hb dX6_advance_94 (hp_n (n := 95) rfl ?_)
            refine q_puti (κ := 7) (k := 2) (φ := 352) (pc' := 98) C Bh11 (cw_k Bh11.2.2 kw2_h11) fl_X6_19 rfl rfl rfl rfl rfl rfl (cw_sI Bh11.2.2 (by decide) (fun h => absurd h (by decide))) dX6_advance_95 rfl (fun αh12 Hh12 Lh12 eh12 Bh12 => ?_)
            replace hf := ms_lE eh12 hf
            refine lv_iconst (v := 0) hx hb dX6_advance_98 (by decide) (hp_n (n := 99) rfl ?_)
            have J100 : ∀ (k100 : Nat) (αh13 : hp_T) (Hh13 : Heap) (Lh13 : List Loc) (Bh13 : hp_B Γ (cw w_X6_advance) s α αh13 Hh13 Lh13) (v1_h13 : Int32) (ls : Array Slot) (hl : lv_has ls 2 [(0, .ref a0), (1, .int v1_h13)]) (hf : f_X6_advance_L100 n a0 k100 αh13 v1_h13 = some res), W p l e (hp_rm 1 0 0) s m ([.ref a0] : List Value).toArray below meth c Hh13 Lh13 0 0 (MQ below (hp_Qv Γ (fun β => β = res ∧ cw w_X6_advance α β)) ([.ref a0] : List Value).toArray s 0 0 (hp_A Γ)) (F0 m 100 ls []) := by
              intro k100
              induction k100 with
              | zero => intro αh13 Hh13 Lh13 Bh13 v1_h13 ls hl hf; rw [f_X6_advance_L100.eq_1] at hf; cases hf
              | succ k100 ih100 =>
                intro αh13 Hh13 Lh13 Bh13 v1_h13 ls hl hf
                rw [f_X6_advance_L100.eq_2] at hf
                refine lv_iload_n hx hb dX6_advance_100 rfl (lv_at hl 1 rfl) (hp_n (n := 101) rfl ?_)
                refine lv_sipush (v := 900) hx hb dX6_advance_101 (by decide) (hp_n (n := 104) rfl ?_)
                have J157 : ∀ (αh14 : hp_T) (Hh14 : Heap) (Lh14 : List Loc) (Bh14 : hp_B Γ (cw w_X6_advance) s α αh14 Hh14 Lh14) (ls : Array Slot) (hl : lv_has ls 2 [(0, .ref a0)]) (hf : f_X6_advance_J157 n a0 αh14 = some res), W p l e (hp_rm 1 0 0) s m ([.ref a0] : List Value).toArray below meth c Hh14 Lh14 0 0 (MQ below (hp_Qv Γ (fun β => β = res ∧ cw w_X6_advance α β)) ([.ref a0] : List Value).toArray s 0 0 (hp_A Γ)) (F0 m 157 ls []) := by
                  intro αh14 Hh14 Lh14 Bh14 ls hl hf
                  unfold f_X6_advance_J157 at hf
                  refine lv_aload_n hx hb dX6_advance_157 rfl (lv_at hl 0 rfl) (hp_n (n := 158) rfl ?_)
                  refine lv_aload_n hx hb dX6_advance_158 rfl (lv_at hl 0 rfl) (hp_n (n := 159) rfl ?_)
                  refine q_geti (κ := 7) (k := 2) (φ := 352) (pc' := 162) C Bh14 (cw_k Bh14.2.2 k0) fl_X6_19 rfl rfl rfl dX6_advance_159 rfl (fun x15 ex15 => ?_)
                  replace hf := ms_lE ex15 hf
                  refine lv_aload_n hx hb dX6_advance_162 rfl (lv_at hl 0 rfl) (hp_n (n := 163) rfl ?_)
                  refine q_geti (κ := 7) (k := 4) (φ := 354) (pc' := 166) C Bh14 (cw_k Bh14.2.2 k0) fl_X6_25 rfl rfl rfl dX6_advance_163 rfl (fun x16 ex16 => ?_)
                  replace hf := ms_lE ex16 hf
                  refine lv_isub hx hb dX6_advance_166 (hp_n (n := 167) rfl ?_)
                  refine q_puti (κ := 7) (k := 5) (φ := 355) (pc' := 170) C Bh14 (cw_k Bh14.2.2 k0) fl_X6_28 rfl rfl rfl rfl rfl rfl (cw_sI Bh14.2.2 (by decide) (fun h => absurd h (by decide))) dX6_advance_167 rfl (fun αh17 Hh17 Lh17 eh17 Bh17 => ?_)
                  replace hf := ms_lE eh17 hf
                  refine lv_aload_n hx hb dX6_advance_170 rfl (lv_at hl 0 rfl) (hp_n (n := 171) rfl ?_)
                  refine lv_iconst (v := 0) hx hb dX6_advance_171 (by decide) (hp_n (n := 172) rfl ?_)
                  refine q_puti (κ := 7) (k := 6) (φ := 356) (pc' := 175) C Bh17 (cw_k Bh17.2.2 k0) fl_X6_31 rfl rfl rfl rfl rfl rfl (cw_sI Bh17.2.2 (by decide) (fun h => absurd h (by decide))) dX6_advance_172 rfl (fun αh18 Hh18 Lh18 eh18 Bh18 => ?_)
                  replace hf := ms_lE eh18 hf
                  refine lv_iconst (v := 0) hx hb dX6_advance_175 (by decide) (hp_n (n := 176) rfl ?_)
                  have J177 : ∀ (k177 : Nat) (αh19 : hp_T) (Hh19 : Heap) (Lh19 : List Loc) (Bh19 : hp_B Γ (cw w_X6_advance) s α αh19 Hh19 Lh19) (v1_h19 : Int32) (ls : Array Slot) (hl : lv_has ls 2 [(0, .ref a0), (1, .int v1_h19)]) (hf : f_X6_advance_L177 n a0 k177 αh19 v1_h19 = some res), W p l e (hp_rm 1 0 0) s m ([.ref a0] : List Value).toArray below meth c Hh19 Lh19 0 0 (MQ below (hp_Qv Γ (fun β => β = res ∧ cw w_X6_advance α β)) ([.ref a0] : List Value).toArray s 0 0 (hp_A Γ)) (F0 m 177 ls []) := by
                    intro k177
                    induction k177 with
                    | zero => intro αh19 Hh19 Lh19 Bh19 v1_h19 ls hl hf; rw [f_X6_advance_L177.eq_1] at hf; cases hf
                    | succ k177 ih177 =>
                      intro αh19 Hh19 Lh19 Bh19 v1_h19 ls hl hf
                      rw [f_X6_advance_L177.eq_2] at hf
                      refine lv_iload_n hx hb dX6_advance_177 rfl (lv_at hl 1 rfl) (hp_n (n := 178) rfl ?_)
                      refine lv_aload_n hx hb dX6_advance_178 rfl (lv_at hl 0 rfl) (hp_n (n := 179) rfl ?_)
                      refine q_geti (κ := 7) (k := 5) (φ := 355) (pc' := 182) C Bh19 (cw_k Bh19.2.2 k0) fl_X6_28 rfl rfl rfl dX6_advance_179 rfl (fun x20 ex20 => ?_)
                      replace hf := ms_lE ex20 hf
                      have J229 : ∀ (αh21 : hp_T) (Hh21 : Heap) (Lh21 : List Loc) (Bh21 : hp_B Γ (cw w_X6_advance) s α αh21 Hh21 Lh21) (ls : Array Slot) (hl : lv_has ls 2 [(0, .ref a0)]) (hf : f_X6_advance_J229 n a0 αh21 = some res), W p l e (hp_rm 1 0 0) s m ([.ref a0] : List Value).toArray below meth c Hh21 Lh21 0 0 (MQ below (hp_Qv Γ (fun β => β = res ∧ cw w_X6_advance α β)) ([.ref a0] : List Value).toArray s 0 0 (hp_A Γ)) (F0 m 229 ls []) := by
                        intro αh21 Hh21 Lh21 Bh21 ls hl hf
                        unfold f_X6_advance_J229 at hf
                        refine lv_aload_n hx hb dX6_advance_229 rfl (lv_at hl 0 rfl) (hp_n (n := 230) rfl ?_)
                        refine lv_aload_n hx hb dX6_advance_230 rfl (lv_at hl 0 rfl) (hp_n (n := 231) rfl ?_)
                        refine q_geti (κ := 7) (k := 3) (φ := 353) (pc' := 234) C Bh21 (cw_k Bh21.2.2 k0) fl_X6_22 rfl rfl rfl dX6_advance_231 rfl (fun x22 ex22 => ?_)
                        replace hf := ms_lE ex22 hf
                        refine lv_iconst (v := 2) hx hb dX6_advance_234 (by decide) (hp_n (n := 235) rfl ?_)
                        have J250 : ∀ (αh23 : hp_T) (Hh23 : Heap) (Lh23 : List Loc) (Bh23 : hp_B Γ (cw w_X6_advance) s α αh23 Hh23 Lh23) (w0_h23 : Nat) (kw0_h23 : hp_K α w0_h23 = 7) (ls : Array Slot) (hl : lv_has ls 2 [(0, .ref a0)]) (hf : f_X6_advance_J250 n a0 αh23 w0_h23 = some res), W p l e (hp_rm 1 0 0) s m ([.ref a0] : List Value).toArray below meth c Hh23 Lh23 0 0 (MQ below (hp_Qv Γ (fun β => β = res ∧ cw w_X6_advance α β)) ([.ref a0] : List Value).toArray s 0 0 (hp_A Γ)) (F0 m 250 ls [.ref w0_h23]) := by
                          intro αh23 Hh23 Lh23 Bh23 w0_h23 kw0_h23 ls hl hf
                          unfold f_X6_advance_J250 at hf
                          refine lv_aload_n hx hb dX6_advance_250 rfl (lv_at hl 0 rfl) (hp_n (n := 251) rfl ?_)
                          refine q_geti (κ := 7) (k := 3) (φ := 353) (pc' := 254) C Bh23 (cw_k Bh23.2.2 k0) fl_X6_22 rfl rfl rfl dX6_advance_251 rfl (fun x24 ex24 => ?_)
                          replace hf := ms_lE ex24 hf
                          refine q_puti (κ := 7) (k := 3) (φ := 353) (pc' := 257) C Bh23 (cw_k Bh23.2.2 kw0_h23) fl_X6_22 rfl rfl rfl rfl rfl rfl (cw_sI Bh23.2.2 (by decide) (fun h => absurd h (by decide))) dX6_advance_254 rfl (fun αh25 Hh25 Lh25 eh25 Bh25 => ?_)
                          replace hf := ms_lE eh25 hf
                          cases hf
                          exact q_vret C Bh25 hr hlk ⟨rfl, Bh25.2.2⟩ dX6_advance_257
                        refine lv_icmp_ne (tgt := 250) hx hb dX6_advance_235 (by decide) (fun c26 => ?_) (fun c26 => hp_n (n := 238) rfl ?_)
                        ·
                          replace hf := ms_iF c26 hf
                          exact J250 αh21 Hh21 Lh21 Bh21 a0 k0 ls (lv_sub hl [0] rfl) hf
                        ·
                          replace hf := ms_iT c26 hf
                          refine lv_aload_n hx hb dX6_advance_238 rfl (lv_at hl 0 rfl) (hp_n (n := 239) rfl ?_)
                          refine q_geti (κ := 7) (k := 5) (φ := 355) (pc' := 242) C Bh21 (cw_k Bh21.2.2 k0) fl_X6_28 rfl rfl rfl dX6_advance_239 rfl (fun x27 ex27 => ?_)
                          replace hf := ms_lE ex27 hf
                          refine lv_iconst (v := 5) hx hb dX6_advance_242 (by decide) (hp_n (n := 243) rfl ?_)
                          refine lv_icmp_le (tgt := 250) hx hb dX6_advance_243 (by decide) (fun c28 => ?_) (fun c28 => hp_n (n := 246) rfl ?_)
                          ·
                            replace hf := ms_iT c28 hf
                            exact J250 αh21 Hh21 Lh21 Bh21 a0 k0 ls (lv_sub hl [0] rfl) hf
                          ·
                            replace hf := ms_iF c28 hf
                            refine lv_iconst (v := 4) hx hb dX6_advance_246 (by decide) (hp_n (n := 247) rfl ?_)
                            refine lv_goto (tgt := 254) hx hb dX6_advance_247 (by decide) ?_
                            refine q_puti (κ := 7) (k := 3) (φ := 353) (pc' := 257) C Bh21 (cw_k Bh21.2.2 k0) fl_X6_22 rfl rfl rfl rfl rfl rfl (cw_sI Bh21.2.2 (by decide) (fun h => absurd h (by decide))) dX6_advance_254 rfl (fun αh29 Hh29 Lh29 eh29 Bh29 => ?_)
                            replace hf := ms_lE eh29 hf
                            cases hf
                            exact q_vret C Bh29 hr hlk ⟨rfl, Bh29.2.2⟩ dX6_advance_257
                      refine lv_icmp_ge (tgt := 229) hx hb dX6_advance_182 (by decide) (fun c30 => ?_) (fun c30 => hp_n (n := 185) rfl ?_)
                      ·
                        replace hf := ms_iT c30 hf
                        exact J229 αh19 Hh19 Lh19 Bh19 ls (lv_sub hl [0] rfl) hf
                      ·
                        replace hf := ms_iF c30 hf
                        refine lv_iload_n hx hb dX6_advance_185 rfl (lv_at hl 1 rfl) (hp_n (n := 186) rfl ?_)
                        refine lv_iconst (v := 5) hx hb dX6_advance_186 (by decide) (hp_n (n := 187) rfl ?_)
                        refine lv_icmp_ge (tgt := 229) hx hb dX6_advance_187 (by decide) (fun c31 => ?_) (fun c31 => hp_n (n := 190) rfl ?_)
                        ·
                          replace hf := ms_iT c31 hf
                          exact J229 αh19 Hh19 Lh19 Bh19 ls (lv_sub hl [0] rfl) hf
                        ·
                          replace hf := ms_iF c31 hf
                          refine lv_aload_n hx hb dX6_advance_190 rfl (lv_at hl 0 rfl) (hp_n (n := 191) rfl ?_)
                          refine q_geti (κ := 7) (k := 3) (φ := 353) (pc' := 194) C Bh19 (cw_k Bh19.2.2 k0) fl_X6_22 rfl rfl rfl dX6_advance_191 rfl (fun x32 ex32 => ?_)
                          replace hf := ms_lE ex32 hf
                          refine lv_iconst (v := 2) hx hb dX6_advance_194 (by decide) (hp_n (n := 195) rfl ?_)
                          refine lv_icmp_ne (tgt := 229) hx hb dX6_advance_195 (by decide) (fun c33 => ?_) (fun c33 => hp_n (n := 198) rfl ?_)
                          ·
                            replace hf := ms_iF c33 hf
                            exact J229 αh19 Hh19 Lh19 Bh19 ls (lv_sub hl [0] rfl) hf
                          ·
                            replace hf := ms_iT c33 hf
                            refine lv_aload_n hx hb dX6_advance_198 rfl (lv_at hl 0 rfl) (hp_n (n := 199) rfl ?_)
                            refine lv_bipush (v := 10) hx hb dX6_advance_199 (by decide) (hp_n (n := 201) rfl ?_)
                            refine lv_aload_n hx hb dX6_advance_201 rfl (lv_at hl 0 rfl) (hp_n (n := 202) rfl ?_)
                            refine q_geti (κ := 7) (k := 6) (φ := 356) (pc' := 205) C Bh19 (cw_k Bh19.2.2 k0) fl_X6_31 rfl rfl rfl dX6_advance_202 rfl (fun x34 ex34 => ?_)
                            replace hf := ms_lE ex34 hf
                            refine lv_imul hx hb dX6_advance_205 (hp_n (n := 206) rfl ?_)
                            refine lv_aload_n hx hb dX6_advance_206 rfl (lv_at hl 0 rfl) (hp_n (n := 207) rfl ?_)
                            refine lv_aload_n hx hb dX6_advance_207 rfl (lv_at hl 0 rfl) (hp_n (n := 208) rfl ?_)
                            refine q_geti (κ := 7) (k := 4) (φ := 354) (pc' := 211) C Bh19 (cw_k Bh19.2.2 k0) fl_X6_25 rfl rfl rfl dX6_advance_208 rfl (fun x35 ex35 => ?_)
                            replace hf := ms_lE ex35 hf
                            refine lv_iload_n hx hb dX6_advance_211 rfl (lv_at hl 1 rfl) (hp_n (n := 212) rfl ?_)
                            refine lv_iadd hx hb dX6_advance_212 (hp_n (n := 213) rfl ?_)
                            obtain ⟨rh36, qh36, hf⟩ := ms_bE hf
                            refine d_pi (pc' := 216) Bh19 (hp_runV (As := [.int (x35 + v1_h19)]) (rest := [.int ((10 : Int32) * x34), .ref a0]) C Bh19 (n_X6_byteAt n Γ l αh19 Bh19.2.2.1 a0 (cw_k Bh19.2.2 k0) (x35 + v1_h19) rh36 qh36) lb_X6_byteAt lv_X6_byteAt lk_X6_43 (cw_k Bh19.2.2 k0) rfl (by decide) rfl hl.1 rfl (Nat.le_of_ble_eq_true rfl) dX6_advance_213 ⟨Nat.le_refl _, Nat.le_refl _⟩) rfl (fun Hh36 Lh36 Bh36 => ?_)
                            refine lv_iadd hx hb dX6_advance_216 (hp_n (n := 217) rfl ?_)
                            refine lv_bipush (v := 48) hx hb dX6_advance_217 (by decide) (hp_n (n := 219) rfl ?_)
                            refine lv_isub hx hb dX6_advance_219 (hp_n (n := 220) rfl ?_)
                            refine q_puti (κ := 7) (k := 6) (φ := 356) (pc' := 223) C Bh36 (cw_k Bh36.2.2 k0) fl_X6_31 rfl rfl rfl rfl rfl rfl (cw_sI Bh36.2.2 (by decide) (fun h => absurd h (by decide))) dX6_advance_220 rfl (fun αh37 Hh37 Lh37 eh37 Bh37 => ?_)
                            replace hf := ms_lE eh37 hf
                            obtain ⟨x38, ex38⟩ : ∃ y : Int32, y = v1_h19 + 1 := ⟨_, rfl⟩
                            replace hf := ms_lE ex38 hf
                            refine lv_iinc (v := x38) (lv' := [(1, .int x38), (0, .ref a0)]) hx hb dX6_advance_223 hl (k := 1) rfl (by rw [ex38]; rfl) (by decide) rfl (fun ls hl => hp_n (n := 226) rfl ?_)
                            refine lv_goto (tgt := 177) hx hb dX6_advance_226 (by decide) ?_
                            exact ih177 αh37 Hh37 Lh37 Bh37 x38 ls (lv_sub hl [1, 0] rfl) hf
                  refine lv_istore_n (lv' := [(1, .int (0 : Int32)), (0, .ref a0)]) hx hb dX6_advance_176 rfl hl (by decide) rfl (fun ls hl => hp_n (n := 177) rfl ?_)
                  exact J177 n αh18 Hh18 Lh18 Bh18 (0 : Int32) ls (lv_sub hl [1, 0] rfl) hf
                refine lv_icmp_ge (tgt := 157) hx hb dX6_advance_104 (by decide) (fun c39 => ?_) (fun c39 => hp_n (n := 107) rfl ?_)
                ·
                  replace hf := ms_iT c39 hf
                  exact J157 αh13 Hh13 Lh13 Bh13 ls (lv_sub hl [0] rfl) hf
                ·
                  replace hf := ms_iF c39 hf
                  refine lv_aload_n hx hb dX6_advance_107 rfl (lv_at hl 0 rfl) (hp_n (n := 108) rfl ?_)
                  refine q_geti (κ := 7) (k := 3) (φ := 353) (pc' := 111) C Bh13 (cw_k Bh13.2.2 k0) fl_X6_22 rfl rfl rfl dX6_advance_108 rfl (fun x40 ex40 => ?_)
                  replace hf := ms_lE ex40 hf
                  refine lv_iconst (v := 1) hx hb dX6_advance_111 (by decide) (hp_n (n := 112) rfl ?_)
                  have J123 : ∀ (αh41 : hp_T) (Hh41 : Heap) (Lh41 : List Loc) (Bh41 : hp_B Γ (cw w_X6_advance) s α αh41 Hh41 Lh41) (v1_h41 : Int32) (ls : Array Slot) (hl : lv_has ls 2 [(0, .ref a0), (1, .int v1_h41)]) (hf : f_X6_advance_J123 n a0 (f_X6_advance_L100 n a0 k100) αh41 v1_h41 = some res), W p l e (hp_rm 1 0 0) s m ([.ref a0] : List Value).toArray below meth c Hh41 Lh41 0 0 (MQ below (hp_Qv Γ (fun β => β = res ∧ cw w_X6_advance α β)) ([.ref a0] : List Value).toArray s 0 0 (hp_A Γ)) (F0 m 123 ls []) := by
                    intro αh41 Hh41 Lh41 Bh41 v1_h41 ls hl hf
                    unfold f_X6_advance_J123 at hf
                    refine lv_aload_n hx hb dX6_advance_123 rfl (lv_at hl 0 rfl) (hp_n (n := 124) rfl ?_)
                    refine lv_aload_n hx hb dX6_advance_124 rfl (lv_at hl 0 rfl) (hp_n (n := 125) rfl ?_)
                    refine q_geti (κ := 7) (k := 2) (φ := 352) (pc' := 128) C Bh41 (cw_k Bh41.2.2 k0) fl_X6_19 rfl rfl rfl dX6_advance_125 rfl (fun x42 ex42 => ?_)
                    replace hf := ms_lE ex42 hf
                    obtain ⟨rh43, qh43, hf⟩ := ms_bE hf
                    refine d_pi (pc' := 131) Bh41 (hp_runV (As := [.int x42]) (rest := []) C Bh41 (n_X6_byteAt n Γ l αh41 Bh41.2.2.1 a0 (cw_k Bh41.2.2 k0) x42 rh43 qh43) lb_X6_byteAt lv_X6_byteAt lk_X6_43 (cw_k Bh41.2.2 k0) rfl (by decide) rfl hl.1 rfl (Nat.le_of_ble_eq_true rfl) dX6_advance_128 ⟨Nat.le_refl _, Nat.le_refl _⟩) rfl (fun Hh43 Lh43 Bh43 => ?_)
                    obtain ⟨rh44, qh44, hf⟩ := ms_bE hf
                    refine d_pi (pc' := 134) Bh43 (hp_runS (As := [.int rh43]) (rest := []) C Bh43 (n_X6_kindOf n Γ l αh41 Bh43.2.2.1 rh43 rh44 qh44) lb_X6_kindOf ls_X6_kindOf lk_X6_51 rfl (by decide) rfl hl.1 rfl (Nat.le_of_ble_eq_true rfl) dX6_advance_131 ⟨Nat.le_refl _, Nat.le_refl _⟩) rfl (fun Hh44 Lh44 Bh44 => ?_)
                    refine lv_aload_n hx hb dX6_advance_134 rfl (lv_at hl 0 rfl) (hp_n (n := 135) rfl ?_)
                    refine q_geti (κ := 7) (k := 3) (φ := 353) (pc' := 138) C Bh44 (cw_k Bh44.2.2 k0) fl_X6_22 rfl rfl rfl dX6_advance_135 rfl (fun x45 ex45 => ?_)
                    replace hf := ms_lE ex45 hf
                    refine lv_icmp_ne (tgt := 157) hx hb dX6_advance_138 (by decide) (fun c46 => ?_) (fun c46 => hp_n (n := 141) rfl ?_)
                    ·
                      replace hf := ms_iF c46 hf
                      exact J157 αh41 Hh44 Lh44 Bh44 ls (lv_sub hl [0] rfl) hf
                    ·
                      replace hf := ms_iT c46 hf
                      refine lv_aload_n hx hb dX6_advance_141 rfl (lv_at hl 0 rfl) (hp_n (n := 142) rfl ?_)
                      refine lv_dup hx hb dX6_advance_142 rfl (hp_n (n := 143) rfl ?_)
                      refine q_geti (κ := 7) (k := 2) (φ := 352) (pc' := 146) C Bh44 (cw_k Bh44.2.2 k0) fl_X6_19 rfl rfl rfl dX6_advance_143 rfl (fun x47 ex47 => ?_)
                      replace hf := ms_lE ex47 hf
                      refine lv_iconst (v := 1) hx hb dX6_advance_146 (by decide) (hp_n (n := 147) rfl ?_)
                      refine lv_iadd hx hb dX6_advance_147 (hp_n (n := 148) rfl ?_)
                      refine q_puti (κ := 7) (k := 2) (φ := 352) (pc' := 151) C Bh44 (cw_k Bh44.2.2 k0) fl_X6_19 rfl rfl rfl rfl rfl rfl (cw_sI Bh44.2.2 (by decide) (fun h => absurd h (by decide))) dX6_advance_148 rfl (fun αh48 Hh48 Lh48 eh48 Bh48 => ?_)
                      replace hf := ms_lE eh48 hf
                      obtain ⟨x49, ex49⟩ : ∃ y : Int32, y = v1_h41 + 1 := ⟨_, rfl⟩
                      replace hf := ms_lE ex49 hf
                      refine lv_iinc (v := x49) (lv' := [(1, .int x49), (0, .ref a0)]) hx hb dX6_advance_151 hl (k := 1) rfl (by rw [ex49]; rfl) (by decide) rfl (fun ls hl => hp_n (n := 154) rfl ?_)
                      refine lv_goto (tgt := 100) hx hb dX6_advance_154 (by decide) ?_
                      exact ih100 αh48 Hh48 Lh48 Bh48 x49 ls (lv_sub hl [1, 0] rfl) hf
                  refine lv_icmp_eq (tgt := 123) hx hb dX6_advance_112 (by decide) (fun c50 => ?_) (fun c50 => hp_n (n := 115) rfl ?_)
                  ·
                    replace hf := ms_iT c50 hf
                    exact J123 αh13 Hh13 Lh13 Bh13 v1_h13 ls (lv_sub hl [0, 1] rfl) hf
                  ·
                    replace hf := ms_iF c50 hf
                    refine lv_aload_n hx hb dX6_advance_115 rfl (lv_at hl 0 rfl) (hp_n (n := 116) rfl ?_)
                    refine q_geti (κ := 7) (k := 3) (φ := 353) (pc' := 119) C Bh13 (cw_k Bh13.2.2 k0) fl_X6_22 rfl rfl rfl dX6_advance_116 rfl (fun x51 ex51 => ?_)
                    replace hf := ms_lE ex51 hf
                    refine lv_iconst (v := 2) hx hb dX6_advance_119 (by decide) (hp_n (n := 120) rfl ?_)
                    refine lv_icmp_ne (tgt := 157) hx hb dX6_advance_120 (by decide) (fun c52 => ?_) (fun c52 => hp_n (n := 123) rfl ?_)
                    ·
                      replace hf := ms_iF c52 hf
                      exact J157 αh13 Hh13 Lh13 Bh13 ls (lv_sub hl [0] rfl) hf
                    ·
                      replace hf := ms_iT c52 hf
                      exact J123 αh13 Hh13 Lh13 Bh13 v1_h13 ls (lv_sub hl [0, 1] rfl) hf
            refine lv_istore_n (lv' := [(1, .int (0 : Int32)), (0, .ref a0)]) hx hb dX6_advance_99 rfl hl (by decide) rfl (fun ls hl => hp_n (n := 100) rfl ?_)
            exact J100 n αh12 Hh12 Lh12 Bh12 (0 : Int32) ls (lv_sub hl [1, 0] rfl) hf
          refine lv_if_ne (tgt := 93) hx hb dX6_advance_86 (by decide) (fun c53 => ?_) (fun c53 => hp_n (n := 89) rfl ?_)
          ·
            replace hf := ms_iF c53 hf
            refine lv_iconst (v := 1) hx hb dX6_advance_93 (by decide) (hp_n (n := 94) rfl ?_)
            exact J94 αh8 Hh8 Lh8 Bh8 (1 : Int32) x9 a0 k0 ls (lv_sub hl [0] rfl) hf
          ·
            replace hf := ms_iT c53 hf
            refine lv_iconst (v := 0) hx hb dX6_advance_89 (by decide) (hp_n (n := 90) rfl ?_)
            refine lv_goto (tgt := 94) hx hb dX6_advance_90 (by decide) ?_
            exact J94 αh8 Hh8 Lh8 Bh8 (0 : Int32) x9 a0 k0 ls (lv_sub hl [0] rfl) hf
        refine lv_icmp_ge (tgt := 73) hx hb dX6_advance_56 (by decide) (fun c54 => ?_) (fun c54 => hp_n (n := 59) rfl ?_)
        ·
          replace hf := ms_iT c54 hf
          refine lv_iconst (v := 0) hx hb dX6_advance_73 (by decide) (hp_n (n := 74) rfl ?_)
          exact J74 αh4 Hh4 Lh4 Bh4 (0 : Int32) a0 k0 ls (lv_sub hl [0] rfl) hf
        ·
          replace hf := ms_iF c54 hf
          refine lv_aload_n hx hb dX6_advance_59 rfl (lv_at hl 0 rfl) (hp_n (n := 60) rfl ?_)
          refine lv_aload_n hx hb dX6_advance_60 rfl (lv_at hl 0 rfl) (hp_n (n := 61) rfl ?_)
          refine q_geti (κ := 7) (k := 2) (φ := 352) (pc' := 64) C Bh4 (cw_k Bh4.2.2 k0) fl_X6_19 rfl rfl rfl dX6_advance_61 rfl (fun x55 ex55 => ?_)
          replace hf := ms_lE ex55 hf
          obtain ⟨rh56, qh56, hf⟩ := ms_bE hf
          refine d_pi (pc' := 67) Bh4 (hp_runV (As := [.int x55]) (rest := [.ref a0]) C Bh4 (n_X6_byteAt n Γ l αh4 Bh4.2.2.1 a0 (cw_k Bh4.2.2 k0) x55 rh56 qh56) lb_X6_byteAt lv_X6_byteAt lk_X6_43 (cw_k Bh4.2.2 k0) rfl (by decide) rfl hl.1 rfl (Nat.le_of_ble_eq_true rfl) dX6_advance_64 ⟨Nat.le_refl _, Nat.le_refl _⟩) rfl (fun Hh56 Lh56 Bh56 => ?_)
          obtain ⟨rh57, qh57, hf⟩ := ms_bE hf
          refine d_pi (pc' := 70) Bh56 (hp_runS (As := [.int rh56]) (rest := [.ref a0]) C Bh56 (n_X6_kindOf n Γ l αh4 Bh56.2.2.1 rh56 rh57 qh57) lb_X6_kindOf ls_X6_kindOf lk_X6_51 rfl (by decide) rfl hl.1 rfl (Nat.le_of_ble_eq_true rfl) dX6_advance_67 ⟨Nat.le_refl _, Nat.le_refl _⟩) rfl (fun Hh57 Lh57 Bh57 => ?_)
          refine lv_goto (tgt := 74) hx hb dX6_advance_70 (by decide) ?_
          exact J74 αh4 Hh57 Lh57 Bh57 rh57 a0 k0 ls (lv_sub hl [0] rfl) hf
      refine lv_icmp_ge (tgt := 39) hx hb dX6_advance_6 (by decide) (fun c58 => ?_) (fun c58 => hp_n (n := 9) rfl ?_)
      ·
        replace hf := ms_iT c58 hf
        exact J39 αh1 Hh1 Lh1 Bh1 ls (lv_sub hl [0] rfl) hf
      ·
        replace hf := ms_iF c58 hf
        refine lv_aload_n hx hb dX6_advance_9 rfl (lv_at hl 0 rfl) (hp_n (n := 10) rfl ?_)
        refine lv_aload_n hx hb dX6_advance_10 rfl (lv_at hl 0 rfl) (hp_n (n := 11) rfl ?_)
        refine q_geti (κ := 7) (k := 2) (φ := 352) (pc' := 14) C Bh1 (cw_k Bh1.2.2 k0) fl_X6_19 rfl rfl rfl dX6_advance_11 rfl (fun x59 ex59 => ?_)
        replace hf := ms_lE ex59 hf
        obtain ⟨rh60, qh60, hf⟩ := ms_bE hf
        refine d_pi (pc' := 17) Bh1 (hp_runV (As := [.int x59]) (rest := []) C Bh1 (n_X6_byteAt n Γ l αh1 Bh1.2.2.1 a0 (cw_k Bh1.2.2 k0) x59 rh60 qh60) lb_X6_byteAt lv_X6_byteAt lk_X6_43 (cw_k Bh1.2.2 k0) rfl (by decide) rfl hl.1 rfl (Nat.le_of_ble_eq_true rfl) dX6_advance_14 ⟨Nat.le_refl _, Nat.le_refl _⟩) rfl (fun Hh60 Lh60 Bh60 => ?_)
        obtain ⟨rh61, qh61, hf⟩ := ms_bE hf
        refine d_pi (pc' := 20) Bh60 (hp_runS (As := [.int rh60]) (rest := []) C Bh60 (n_X6_isBlank n Γ l αh1 Bh60.2.2.1 rh60 rh61 qh61) lb_X6_isBlank ls_X6_isBlank lk_X6_47 rfl (by decide) rfl hl.1 rfl (Nat.le_of_ble_eq_true rfl) dX6_advance_17 ⟨Nat.le_refl _, Nat.le_refl _⟩) rfl (fun Hh61 Lh61 Bh61 => ?_)
        refine lv_if_eq (tgt := 39) hx hb dX6_advance_20 (by decide) (fun c62 => ?_) (fun c62 => hp_n (n := 23) rfl ?_)
        ·
          replace hf := ms_iT c62 hf
          exact J39 αh1 Hh61 Lh61 Bh61 ls (lv_sub hl [0] rfl) hf
        ·
          replace hf := ms_iF c62 hf
          refine lv_aload_n hx hb dX6_advance_23 rfl (lv_at hl 0 rfl) (hp_n (n := 24) rfl ?_)
          refine lv_dup hx hb dX6_advance_24 rfl (hp_n (n := 25) rfl ?_)
          refine q_geti (κ := 7) (k := 2) (φ := 352) (pc' := 28) C Bh61 (cw_k Bh61.2.2 k0) fl_X6_19 rfl rfl rfl dX6_advance_25 rfl (fun x63 ex63 => ?_)
          replace hf := ms_lE ex63 hf
          refine lv_iconst (v := 1) hx hb dX6_advance_28 (by decide) (hp_n (n := 29) rfl ?_)
          refine lv_iadd hx hb dX6_advance_29 (hp_n (n := 30) rfl ?_)
          refine q_puti (κ := 7) (k := 2) (φ := 352) (pc' := 33) C Bh61 (cw_k Bh61.2.2 k0) fl_X6_19 rfl rfl rfl rfl rfl rfl (cw_sI Bh61.2.2 (by decide) (fun h => absurd h (by decide))) dX6_advance_30 rfl (fun αh64 Hh64 Lh64 eh64 Bh64 => ?_)
          replace hf := ms_lE eh64 hf
          obtain ⟨x65, ex65⟩ : ∃ y : Int32, y = v1_h1 + 1 := ⟨_, rfl⟩
          replace hf := ms_lE ex65 hf
          refine lv_iinc (v := x65) (lv' := [(1, .int x65), (0, .ref a0)]) hx hb dX6_advance_33 hl (k := 1) rfl (by rw [ex65]; rfl) (by decide) rfl (fun ls hl => hp_n (n := 36) rfl ?_)
          refine lv_goto (tgt := 2) hx hb dX6_advance_36 (by decide) ?_
          exact ih2 αh64 Hh64 Lh64 Bh64 x65 ls (lv_sub hl [1, 0] rfl) hf
  refine lv_istore_n (lv' := [(1, .int (0 : Int32)), (0, .ref a0)]) hx hb dX6_advance_1 rfl hl (by decide) rfl (fun ls hl => hp_n (n := 2) rfl ?_)
  exact J2 n α s.heap [] B (0 : Int32) ls (lv_sub hl [1, 0] rfl) hf
def f_X6_spells_J62 (n : Nat) (α : hp_T) (a0 : Nat) (i1 : Nat) (rec27 : Int32 → Int32 → Option Int32) (v3_h13 : Int32) (w0_h13 : Int32) : Option Int32 :=
  ms_l (v3_h13 + 1) fun x14 =>
  rec27 w0_h13 x14
def f_X6_spells_L27 (n : Nat) (α : hp_T) (a0 : Nat) (i1 : Nat) : Nat → Int32 → Int32 → Option Int32
  | 0, _, _ => none
  | k27 + 1, v2_h3, v3_h3 =>
    if (hp_len i1) ≤ v3_h3 then
      ms_z v2_h3 <|
      some v2_h3
    else
      if v2_h3 = 0 then
        ms_z v2_h3 <|
        some v2_h3
      else
        ms_l (hp_I α 354 a0) fun x9 =>
        ms_b (f_X6_byteAt n α a0 (x9 + v3_h3)) fun rh10 =>
        ms_q v3_h3 (hp_len i1) <|
        if rh10 = (hp_ch i1 (v3_h3).toNatClampNeg) then
          f_X6_spells_J62 n α a0 i1 (f_X6_spells_L27 n α a0 i1 k27) v3_h3 (1 : Int32)
        else
          f_X6_spells_J62 n α a0 i1 (f_X6_spells_L27 n α a0 i1 k27) v3_h3 (0 : Int32)
def f_X6_spells_J24 (n : Nat) (α : hp_T) (a0 : Nat) (i1 : Nat) (w0_h2 : Int32) : Option Int32 :=
  f_X6_spells_L27 n α a0 i1 n w0_h2 (0 : Int32)
def f_X6_spells_J23 (n : Nat) (α : hp_T) (a0 : Nat) (i1 : Nat) : Option Int32 :=
  f_X6_spells_J24 n α a0 i1 (0 : Int32)
def f_X6_spells (n : Nat) (α : hp_T) (a0 : Nat) (i1 : Nat) : Option Int32 :=
  ms_l (hp_I α 353 a0) fun x1 =>
  if x1 = (1 : Int32) then
    ms_l (hp_I α 355 a0) fun x18 =>
    if x18 = (hp_len i1) then
      f_X6_spells_J24 n α a0 i1 (1 : Int32)
    else
      f_X6_spells_J23 n α a0 i1 
  else
    f_X6_spells_J23 n α a0 i1 
set_option maxRecDepth 100000 in
set_option maxHeartbeats 4000000 in
theorem n_X6_spells (n : Nat) (Γ : hp_G) (l : Launch) (α : hp_T) (g : GC α) (a0 : Nat) (k0 : hp_K α a0 = 7) (i1 : Nat) (h1 : i1 < 21) (res : Int32) (hf : f_X6_spells n α a0 i1 = some res) : Met l yX6_spells (hp_ws yX6_spells cX6_spells 4 (some .boolean)) (hp_rm 4 0 0) (hp_Pc Γ α [.ref a0, .ref (Γ.2.2.2.2.1 i1)]) (hp_Qi Γ (fun r β => β = α ∧ r = res)) 0 0 (hp_A Γ) := by
  unfold f_X6_spells at hf
  refine hp_start (by decide) ?_
  intro p e s m below meth c C hr hlk B0 hnm
  have C : hp_C Γ p m c cX6_spells 4 s ([.ref a0, .ref (Γ.2.2.2.2.1 i1)] : List Value).toArray RX6 := C
  have hx := C.1.1
  have hb := C.1.2.1
  have hown := C.1.2.2.2.1
  have hts := C.1.2.2.2.2
  have B : hp_B Γ (cw w_X6_spells) s α α s.heap [] := ⟨B0.1, B0.2.1, cw_rf g⟩
  have hl := lv_entry ([.ref a0, .ref (Γ.2.2.2.2.1 i1)]) (n := 4) (Nat.le_of_ble_eq_true rfl)
  show W p l e (hp_rm 4 0 0) s m ([.ref a0, .ref (Γ.2.2.2.2.1 i1)] : List Value).toArray below meth c s.heap [] 0 0 (MQ below (hp_Qi Γ (fun r β => β = α ∧ r = res)) ([.ref a0, .ref (Γ.2.2.2.2.1 i1)] : List Value).toArray s 0 0 (hp_A Γ)) (entryFrame m ([.ref a0, .ref (Γ.2.2.2.2.1 i1)] : List Value).toArray 4)
  rw [lg_entry_eq]
  generalize (lg_sl ([.ref a0, .ref (Γ.2.2.2.2.1 i1)]) ++ List.replicate (4 - (lg_sl ([.ref a0, .ref (Γ.2.2.2.2.1 i1)])).length) Slot.unset).toArray = ls at hl ⊢
  have hl : lv_has ls 4 [(0, .ref a0), (1, .ref (Γ.2.2.2.2.1 i1))] := hl
  refine lv_aload_n hx hb dX6_spells_0 rfl (lv_at hl 0 rfl) (hp_n (n := 1) rfl ?_)
  refine q_geti (κ := 7) (k := 3) (φ := 353) (pc' := 4) C B (cw_k B.2.2 k0) fl_X6_22 rfl rfl rfl dX6_spells_1 rfl (fun x1 ex1 => ?_)
  replace hf := ms_lE ex1 hf
  refine lv_iconst (v := 1) hx hb dX6_spells_4 (by decide) (hp_n (n := 5) rfl ?_)
  have J24 : ∀ (Hh2 : Heap) (Lh2 : List Loc) (Bh2 : hp_B Γ (cw w_X6_spells) s α α Hh2 Lh2) (w0_h2 : Int32) (ls : Array Slot) (hl : lv_has ls 4 [(0, .ref a0), (1, .ref (Γ.2.2.2.2.1 i1))]) (hf : f_X6_spells_J24 n α a0 i1 w0_h2 = some res), W p l e (hp_rm 4 0 0) s m ([.ref a0, .ref (Γ.2.2.2.2.1 i1)] : List Value).toArray below meth c Hh2 Lh2 0 0 (MQ below (hp_Qi Γ (fun r β => β = α ∧ r = res)) ([.ref a0, .ref (Γ.2.2.2.2.1 i1)] : List Value).toArray s 0 0 (hp_A Γ)) (F0 m 24 ls [.int w0_h2]) := by
    intro Hh2 Lh2 Bh2 w0_h2 ls hl hf
    unfold f_X6_spells_J24 at hf
    refine lv_istore_n (lv' := [(2, .int w0_h2), (0, .ref a0), (1, .ref (Γ.2.2.2.2.1 i1))]) hx hb dX6_spells_24 rfl hl (by decide) rfl (fun ls hl => hp_n (n := 25) rfl ?_)
    refine lv_iconst (v := 0) hx hb dX6_spells_25 (by decide) (hp_n (n := 26) rfl ?_)
    have J27 : ∀ (k27 : Nat) (Hh3 : Heap) (Lh3 : List Loc) (Bh3 : hp_B Γ (cw w_X6_spells) s α α Hh3 Lh3) (v2_h3 : Int32) (v3_h3 : Int32) (ls : Array Slot) (hl : lv_has ls 4 [(0, .ref a0), (1, .ref (Γ.2.2.2.2.1 i1)), (2, .int v2_h3), (3, .int v3_h3)]) (hf : f_X6_spells_L27 n α a0 i1 k27 v2_h3 v3_h3 = some res), W p l e (hp_rm 4 0 0) s m ([.ref a0, .ref (Γ.2.2.2.2.1 i1)] : List Value).toArray below meth c Hh3 Lh3 0 0 (MQ below (hp_Qi Γ (fun r β => β = α ∧ r = res)) ([.ref a0, .ref (Γ.2.2.2.2.1 i1)] : List Value).toArray s 0 0 (hp_A Γ)) (F0 m 27 ls []) := by
      intro k27
      induction k27 with
      | zero => intro Hh3 Lh3 Bh3 v2_h3 v3_h3 ls hl hf; rw [f_X6_spells_L27.eq_1] at hf; cases hf
      | succ k27 ih27 =>
        intro Hh3 Lh3 Bh3 v2_h3 v3_h3 ls hl hf
        rw [f_X6_spells_L27.eq_2] at hf
        refine lv_iload_n hx hb dX6_spells_27 rfl (lv_at hl 3 rfl) (hp_n (n := 28) rfl ?_)
        refine lv_aload_n hx hb dX6_spells_28 rfl (lv_at hl 1 rfl) (hp_n (n := 29) rfl ?_)
        refine d_pi (pc' := 32) Bh3 (hp_runT (i := i1) (As := []) (rest := [.int v3_h3]) C B0.1 Bh3 h1 (t_J0_length_8abf5 Γ l α i1 h1) lb_J0_length_8abf5 li_J0_length_8abf5 sx_J0_length_8abf5 rfl lk_X6_54 rfl (by decide) rfl hl.1 rfl (Nat.le_of_ble_eq_true rfl) dX6_spells_29 ⟨Nat.le_refl _, Nat.le_refl _⟩) rfl (fun Hh4 Lh4 Bh4 => ?_)
        refine lv_icmp_ge (tgt := 69) hx hb dX6_spells_32 (by decide) (fun c5 => ?_) (fun c5 => hp_n (n := 35) rfl ?_)
        ·
          replace hf := ms_iT c5 hf
          refine lv_iload_n hx hb dX6_spells_69 rfl (lv_at hl 2 rfl) (hp_n (n := 70) rfl ?_)
          obtain ⟨g6, hf⟩ := ms_zE hf
          cases hf
          exact q_zret C Bh4 hr hlk (nz_z g6) ⟨rfl, rfl⟩ dX6_spells_70
        ·
          replace hf := ms_iF c5 hf
          refine lv_iload_n hx hb dX6_spells_35 rfl (lv_at hl 2 rfl) (hp_n (n := 36) rfl ?_)
          refine lv_if_eq (tgt := 69) hx hb dX6_spells_36 (by decide) (fun c7 => ?_) (fun c7 => hp_n (n := 39) rfl ?_)
          ·
            replace hf := ms_iT c7 hf
            refine lv_iload_n hx hb dX6_spells_69 rfl (lv_at hl 2 rfl) (hp_n (n := 70) rfl ?_)
            obtain ⟨g8, hf⟩ := ms_zE hf
            cases hf
            exact q_zret C Bh4 hr hlk (nz_z g8) ⟨rfl, rfl⟩ dX6_spells_70
          ·
            replace hf := ms_iF c7 hf
            refine lv_aload_n hx hb dX6_spells_39 rfl (lv_at hl 0 rfl) (hp_n (n := 40) rfl ?_)
            refine lv_aload_n hx hb dX6_spells_40 rfl (lv_at hl 0 rfl) (hp_n (n := 41) rfl ?_)
            refine q_geti (κ := 7) (k := 4) (φ := 354) (pc' := 44) C Bh4 (cw_k Bh4.2.2 k0) fl_X6_25 rfl rfl rfl dX6_spells_41 rfl (fun x9 ex9 => ?_)
            replace hf := ms_lE ex9 hf
            refine lv_iload_n hx hb dX6_spells_44 rfl (lv_at hl 3 rfl) (hp_n (n := 45) rfl ?_)
            refine lv_iadd hx hb dX6_spells_45 (hp_n (n := 46) rfl ?_)
            obtain ⟨rh10, qh10, hf⟩ := ms_bE hf
            refine d_pi (pc' := 49) Bh4 (hp_runV (As := [.int (x9 + v3_h3)]) (rest := []) C Bh4 (n_X6_byteAt n Γ l α Bh4.2.2.1 a0 (cw_k Bh4.2.2 k0) (x9 + v3_h3) rh10 qh10) lb_X6_byteAt lv_X6_byteAt lk_X6_43 (cw_k Bh4.2.2 k0) rfl (by decide) rfl hl.1 rfl (Nat.le_of_ble_eq_true rfl) dX6_spells_46 ⟨Nat.le_refl _, Nat.le_refl _⟩) rfl (fun Hh10 Lh10 Bh10 => ?_)
            refine lv_aload_n hx hb dX6_spells_49 rfl (lv_at hl 1 rfl) (hp_n (n := 50) rfl ?_)
            refine lv_iload_n hx hb dX6_spells_50 rfl (lv_at hl 3 rfl) (hp_n (n := 51) rfl ?_)
            obtain ⟨g12, hf⟩ := ms_qE hf
            refine d_pi (pc' := 54) Bh10 (hp_runT (i := i1) (As := [.int v3_h3]) (rest := [.int rh10]) C B0.1 Bh10 h1 (t_J0_charAt_5068e Γ l α i1 h1 v3_h3 g12.1 g12.2) lb_J0_charAt_5068e li_J0_charAt_5068e sx_J0_charAt_5068e rfl lk_X6_59 rfl (by decide) rfl hl.1 rfl (Nat.le_of_ble_eq_true rfl) dX6_spells_51 ⟨Nat.le_refl _, Nat.le_refl _⟩) rfl (fun Hh11 Lh11 Bh11 => ?_)
            have J62 : ∀ (Hh13 : Heap) (Lh13 : List Loc) (Bh13 : hp_B Γ (cw w_X6_spells) s α α Hh13 Lh13) (v3_h13 : Int32) (w0_h13 : Int32) (ls : Array Slot) (hl : lv_has ls 4 [(0, .ref a0), (1, .ref (Γ.2.2.2.2.1 i1)), (3, .int v3_h13)]) (hf : f_X6_spells_J62 n α a0 i1 (f_X6_spells_L27 n α a0 i1 k27) v3_h13 w0_h13 = some res), W p l e (hp_rm 4 0 0) s m ([.ref a0, .ref (Γ.2.2.2.2.1 i1)] : List Value).toArray below meth c Hh13 Lh13 0 0 (MQ below (hp_Qi Γ (fun r β => β = α ∧ r = res)) ([.ref a0, .ref (Γ.2.2.2.2.1 i1)] : List Value).toArray s 0 0 (hp_A Γ)) (F0 m 62 ls [.int w0_h13]) := by
              intro Hh13 Lh13 Bh13 v3_h13 w0_h13 ls hl hf
              unfold f_X6_spells_J62 at hf
              refine lv_istore_n (lv' := [(2, .int w0_h13), (0, .ref a0), (1, .ref (Γ.2.2.2.2.1 i1)), (3, .int v3_h13)]) hx hb dX6_spells_62 rfl hl (by decide) rfl (fun ls hl => hp_n (n := 63) rfl ?_)
              obtain ⟨x14, ex14⟩ : ∃ y : Int32, y = v3_h13 + 1 := ⟨_, rfl⟩
              replace hf := ms_lE ex14 hf
              refine lv_iinc (v := x14) (lv' := [(3, .int x14), (2, .int w0_h13), (0, .ref a0), (1, .ref (Γ.2.2.2.2.1 i1))]) hx hb dX6_spells_63 hl (k := 3) rfl (by rw [ex14]; rfl) (by decide) rfl (fun ls hl => hp_n (n := 66) rfl ?_)
              refine lv_goto (tgt := 27) hx hb dX6_spells_66 (by decide) ?_
              exact ih27 Hh13 Lh13 Bh13 w0_h13 x14 ls (lv_sub hl [2, 3, 1, 0] rfl) hf
            refine lv_icmp_ne (tgt := 61) hx hb dX6_spells_54 (by decide) (fun c15 => ?_) (fun c15 => hp_n (n := 57) rfl ?_)
            ·
              replace hf := ms_iF c15 hf
              refine lv_iconst (v := 0) hx hb dX6_spells_61 (by decide) (hp_n (n := 62) rfl ?_)
              exact J62 Hh11 Lh11 Bh11 v3_h3 (0 : Int32) ls (lv_sub hl [0, 1, 3] rfl) hf
            ·
              replace hf := ms_iT c15 hf
              refine lv_iconst (v := 1) hx hb dX6_spells_57 (by decide) (hp_n (n := 58) rfl ?_)
              refine lv_goto (tgt := 62) hx hb dX6_spells_58 (by decide) ?_
              exact J62 Hh11 Lh11 Bh11 v3_h3 (1 : Int32) ls (lv_sub hl [0, 1, 3] rfl) hf
    refine lv_istore_n (lv' := [(3, .int (0 : Int32)), (2, .int w0_h2), (0, .ref a0), (1, .ref (Γ.2.2.2.2.1 i1))]) hx hb dX6_spells_26 rfl hl (by decide) rfl (fun ls hl => hp_n (n := 27) rfl ?_)
    exact J27 n Hh2 Lh2 Bh2 w0_h2 (0 : Int32) ls (lv_sub hl [2, 3, 1, 0] rfl) hf
  have J23 : ∀ (Hh16 : Heap) (Lh16 : List Loc) (Bh16 : hp_B Γ (cw w_X6_spells) s α α Hh16 Lh16) (ls : Array Slot) (hl : lv_has ls 4 [(0, .ref a0), (1, .ref (Γ.2.2.2.2.1 i1))]) (hf : f_X6_spells_J23 n α a0 i1  = some res), W p l e (hp_rm 4 0 0) s m ([.ref a0, .ref (Γ.2.2.2.2.1 i1)] : List Value).toArray below meth c Hh16 Lh16 0 0 (MQ below (hp_Qi Γ (fun r β => β = α ∧ r = res)) ([.ref a0, .ref (Γ.2.2.2.2.1 i1)] : List Value).toArray s 0 0 (hp_A Γ)) (F0 m 23 ls []) := by
    intro Hh16 Lh16 Bh16 ls hl hf
    unfold f_X6_spells_J23 at hf
    refine lv_iconst (v := 0) hx hb dX6_spells_23 (by decide) (hp_n (n := 24) rfl ?_)
    exact J24 Hh16 Lh16 Bh16 (0 : Int32) ls (lv_sub hl [0, 1] rfl) hf
  refine lv_icmp_ne (tgt := 23) hx hb dX6_spells_5 (by decide) (fun c17 => ?_) (fun c17 => hp_n (n := 8) rfl ?_)
  ·
    replace hf := ms_iF c17 hf
    exact J23 s.heap [] B ls (lv_sub hl [0, 1] rfl) hf
  ·
    replace hf := ms_iT c17 hf
    refine lv_aload_n hx hb dX6_spells_8 rfl (lv_at hl 0 rfl) (hp_n (n := 9) rfl ?_)
    refine q_geti (κ := 7) (k := 5) (φ := 355) (pc' := 12) C B (cw_k B.2.2 k0) fl_X6_28 rfl rfl rfl dX6_spells_9 rfl (fun x18 ex18 => ?_)
    replace hf := ms_lE ex18 hf
    refine lv_aload_n hx hb dX6_spells_12 rfl (lv_at hl 1 rfl) (hp_n (n := 13) rfl ?_)
    refine d_pi (pc' := 16) B (hp_runT (i := i1) (As := []) (rest := [.int x18]) C B0.1 B h1 (t_J0_length_8abf5 Γ l α i1 h1) lb_J0_length_8abf5 li_J0_length_8abf5 sx_J0_length_8abf5 rfl lk_X6_54 rfl (by decide) rfl hl.1 rfl (Nat.le_of_ble_eq_true rfl) dX6_spells_13 ⟨Nat.le_refl _, Nat.le_refl _⟩) rfl (fun Hh19 Lh19 Bh19 => ?_)
    refine lv_icmp_ne (tgt := 23) hx hb dX6_spells_16 (by decide) (fun c20 => ?_) (fun c20 => hp_n (n := 19) rfl ?_)
    ·
      replace hf := ms_iF c20 hf
      exact J23 Hh19 Lh19 Bh19 ls (lv_sub hl [0, 1] rfl) hf
    ·
      replace hf := ms_iT c20 hf
      refine lv_iconst (v := 1) hx hb dX6_spells_19 (by decide) (hp_n (n := 20) rfl ?_)
      refine lv_goto (tgt := 24) hx hb dX6_spells_20 (by decide) ?_
      exact J24 Hh19 Lh19 Bh19 (1 : Int32) ls (lv_sub hl [0, 1] rfl) hf
def f_X6_copyWord_L6 (n : Nat) (a0 : Nat) : Nat → hp_T → Nat → Int32 → Option hp_T
  | 0, _, _, _ => none
  | k6 + 1, αh2, v1_h2, v2_h2 =>
    ms_l (hp_I αh2 355 a0) fun x3 =>
    if x3 ≤ v2_h2 then
      some αh2
    else
      if (8 : Int32) ≤ v2_h2 then
        some αh2
      else
        ms_l (hp_I αh2 354 a0) fun x6 =>
        ms_b (f_X6_byteAt n αh2 a0 (x6 + v2_h2)) fun rh7 =>
        ms_b (f_X9_put n αh2 v1_h2 ((rh7 - (97 : Int32)) + (1 : Int32))) fun αh8 =>
        ms_l (v2_h2 + 1) fun x9 =>
        (f_X6_copyWord_L6 n a0 k6) αh8 v1_h2 x9
def f_X6_copyWord (n : Nat) (α : hp_T) (a0 : Nat) (a1 : Nat) : Option hp_T :=
  ms_b (f_X9_clear n α a1) fun αh1 =>
  f_X6_copyWord_L6 n a0 n αh1 a1 (0 : Int32)
set_option maxRecDepth 100000 in
set_option maxHeartbeats 4000000 in
theorem n_X6_copyWord (n : Nat) (Γ : hp_G) (l : Launch) (α : hp_T) (g : GC α) (a0 : Nat) (k0 : hp_K α a0 = 7) (a1 : Nat) (k1 : hp_K α a1 = 10) (res : hp_T) (hf : f_X6_copyWord n α a0 a1 = some res) : Met l yX6_copyWord (hp_ws yX6_copyWord cX6_copyWord 3 none) (hp_rm 1 0 0) (hp_Pc Γ α [.ref a0, .ref a1]) (hp_Qv Γ (fun β => β = res ∧ cw w_X6_copyWord α β)) 0 0 (hp_A Γ) := by
  unfold f_X6_copyWord at hf
  refine hp_start (by decide) ?_
  intro p e s m below meth c C hr hlk B0 hnm
  have C : hp_C Γ p m c cX6_copyWord 3 s ([.ref a0, .ref a1] : List Value).toArray RX6 := C
  have hx := C.1.1
  have hb := C.1.2.1
  have hown := C.1.2.2.2.1
  have hts := C.1.2.2.2.2
  have B : hp_B Γ (cw w_X6_copyWord) s α α s.heap [] := ⟨B0.1, B0.2.1, cw_rf g⟩
  have hl := lv_entry ([.ref a0, .ref a1]) (n := 3) (Nat.le_of_ble_eq_true rfl)
  show W p l e (hp_rm 1 0 0) s m ([.ref a0, .ref a1] : List Value).toArray below meth c s.heap [] 0 0 (MQ below (hp_Qv Γ (fun β => β = res ∧ cw w_X6_copyWord α β)) ([.ref a0, .ref a1] : List Value).toArray s 0 0 (hp_A Γ)) (entryFrame m ([.ref a0, .ref a1] : List Value).toArray 3)
  rw [lg_entry_eq]
  generalize (lg_sl ([.ref a0, .ref a1]) ++ List.replicate (3 - (lg_sl ([.ref a0, .ref a1])).length) Slot.unset).toArray = ls at hl ⊢
  have hl : lv_has ls 3 [(0, .ref a0), (1, .ref a1)] := hl
  refine lv_aload_n hx hb dX6_copyWord_0 rfl (lv_at hl 1 rfl) (hp_n (n := 1) rfl ?_)
  obtain ⟨αh1, qh1, hf⟩ := ms_bE hf
  refine d_cv (pc' := 4) B (hp_runV (As := []) (rest := []) C B (n_X9_clear n Γ l α B.2.2.1 a1 (cw_k B.2.2 k1) αh1 qh1) lb_X9_clear lv_X9_clear lk_X6_63 (cw_k B.2.2 k1) rfl (by decide) rfl hl.1 rfl (Nat.le_of_ble_eq_true rfl) dX6_copyWord_1 ⟨Nat.le_refl _, Nat.le_refl _⟩) (by decide) rfl (fun Hh1 Lh1 Bh1 => ?_)
  refine lv_iconst (v := 0) hx hb dX6_copyWord_4 (by decide) (hp_n (n := 5) rfl ?_)
  have J6 : ∀ (k6 : Nat) (αh2 : hp_T) (Hh2 : Heap) (Lh2 : List Loc) (Bh2 : hp_B Γ (cw w_X6_copyWord) s α αh2 Hh2 Lh2) (v1_h2 : Nat) (kv1_h2 : hp_K α v1_h2 = 10) (v2_h2 : Int32) (ls : Array Slot) (hl : lv_has ls 3 [(0, .ref a0), (1, .ref v1_h2), (2, .int v2_h2)]) (hf : f_X6_copyWord_L6 n a0 k6 αh2 v1_h2 v2_h2 = some res), W p l e (hp_rm 1 0 0) s m ([.ref a0, .ref a1] : List Value).toArray below meth c Hh2 Lh2 0 0 (MQ below (hp_Qv Γ (fun β => β = res ∧ cw w_X6_copyWord α β)) ([.ref a0, .ref a1] : List Value).toArray s 0 0 (hp_A Γ)) (F0 m 6 ls []) := by
    intro k6
    induction k6 with
    | zero => intro αh2 Hh2 Lh2 Bh2 v1_h2 kv1_h2 v2_h2 ls hl hf; rw [f_X6_copyWord_L6.eq_1] at hf; cases hf
    | succ k6 ih6 =>
      intro αh2 Hh2 Lh2 Bh2 v1_h2 kv1_h2 v2_h2 ls hl hf
      rw [f_X6_copyWord_L6.eq_2] at hf
      refine lv_iload_n hx hb dX6_copyWord_6 rfl (lv_at hl 2 rfl) (hp_n (n := 7) rfl ?_)
      refine lv_aload_n hx hb dX6_copyWord_7 rfl (lv_at hl 0 rfl) (hp_n (n := 8) rfl ?_)
      refine q_geti (κ := 7) (k := 5) (φ := 355) (pc' := 11) C Bh2 (cw_k Bh2.2.2 k0) fl_X6_28 rfl rfl rfl dX6_copyWord_8 rfl (fun x3 ex3 => ?_)
      replace hf := ms_lE ex3 hf
      refine lv_icmp_ge (tgt := 45) hx hb dX6_copyWord_11 (by decide) (fun c4 => ?_) (fun c4 => hp_n (n := 14) rfl ?_)
      ·
        replace hf := ms_iT c4 hf
        cases hf
        exact q_vret C Bh2 hr hlk ⟨rfl, Bh2.2.2⟩ dX6_copyWord_45
      ·
        replace hf := ms_iF c4 hf
        refine lv_iload_n hx hb dX6_copyWord_14 rfl (lv_at hl 2 rfl) (hp_n (n := 15) rfl ?_)
        refine lv_bipush (v := 8) hx hb dX6_copyWord_15 (by decide) (hp_n (n := 17) rfl ?_)
        refine lv_icmp_ge (tgt := 45) hx hb dX6_copyWord_17 (by decide) (fun c5 => ?_) (fun c5 => hp_n (n := 20) rfl ?_)
        ·
          replace hf := ms_iT c5 hf
          cases hf
          exact q_vret C Bh2 hr hlk ⟨rfl, Bh2.2.2⟩ dX6_copyWord_45
        ·
          replace hf := ms_iF c5 hf
          refine lv_aload_n hx hb dX6_copyWord_20 rfl (lv_at hl 1 rfl) (hp_n (n := 21) rfl ?_)
          refine lv_aload_n hx hb dX6_copyWord_21 rfl (lv_at hl 0 rfl) (hp_n (n := 22) rfl ?_)
          refine lv_aload_n hx hb dX6_copyWord_22 rfl (lv_at hl 0 rfl) (hp_n (n := 23) rfl ?_)
          refine q_geti (κ := 7) (k := 4) (φ := 354) (pc' := 26) C Bh2 (cw_k Bh2.2.2 k0) fl_X6_25 rfl rfl rfl dX6_copyWord_23 rfl (fun x6 ex6 => ?_)
          replace hf := ms_lE ex6 hf
          refine lv_iload_n hx hb dX6_copyWord_26 rfl (lv_at hl 2 rfl) (hp_n (n := 27) rfl ?_)
          refine lv_iadd hx hb dX6_copyWord_27 (hp_n (n := 28) rfl ?_)
          obtain ⟨rh7, qh7, hf⟩ := ms_bE hf
          refine d_pi (pc' := 31) Bh2 (hp_runV (As := [.int (x6 + v2_h2)]) (rest := [.ref v1_h2]) C Bh2 (n_X6_byteAt n Γ l αh2 Bh2.2.2.1 a0 (cw_k Bh2.2.2 k0) (x6 + v2_h2) rh7 qh7) lb_X6_byteAt lv_X6_byteAt lk_X6_43 (cw_k Bh2.2.2 k0) rfl (by decide) rfl hl.1 rfl (Nat.le_of_ble_eq_true rfl) dX6_copyWord_28 ⟨Nat.le_refl _, Nat.le_refl _⟩) rfl (fun Hh7 Lh7 Bh7 => ?_)
          refine lv_bipush (v := 97) hx hb dX6_copyWord_31 (by decide) (hp_n (n := 33) rfl ?_)
          refine lv_isub hx hb dX6_copyWord_33 (hp_n (n := 34) rfl ?_)
          refine lv_iconst (v := 1) hx hb dX6_copyWord_34 (by decide) (hp_n (n := 35) rfl ?_)
          refine lv_iadd hx hb dX6_copyWord_35 (hp_n (n := 36) rfl ?_)
          obtain ⟨αh8, qh8, hf⟩ := ms_bE hf
          refine d_cv (pc' := 39) Bh7 (hp_runV (As := [.int ((rh7 - (97 : Int32)) + (1 : Int32))]) (rest := []) C Bh7 (n_X9_put n Γ l αh2 Bh7.2.2.1 v1_h2 (cw_k Bh7.2.2 kv1_h2) ((rh7 - (97 : Int32)) + (1 : Int32)) αh8 qh8) lb_X9_put lv_X9_put lk_X6_68 (cw_k Bh7.2.2 kv1_h2) rfl (by decide) rfl hl.1 rfl (Nat.le_of_ble_eq_true rfl) dX6_copyWord_36 ⟨Nat.le_refl _, Nat.le_refl _⟩) (by decide) rfl (fun Hh8 Lh8 Bh8 => ?_)
          obtain ⟨x9, ex9⟩ : ∃ y : Int32, y = v2_h2 + 1 := ⟨_, rfl⟩
          replace hf := ms_lE ex9 hf
          refine lv_iinc (v := x9) (lv' := [(2, .int x9), (0, .ref a0), (1, .ref v1_h2)]) hx hb dX6_copyWord_39 hl (k := 2) rfl (by rw [ex9]; rfl) (by decide) rfl (fun ls hl => hp_n (n := 42) rfl ?_)
          refine lv_goto (tgt := 6) hx hb dX6_copyWord_42 (by decide) ?_
          exact ih6 αh8 Hh8 Lh8 Bh8 v1_h2 kv1_h2 x9 ls (lv_sub hl [1, 2, 0] rfl) hf
  refine lv_istore_n (lv' := [(2, .int (0 : Int32)), (0, .ref a0), (1, .ref a1)]) hx hb dX6_copyWord_5 rfl hl (by decide) rfl (fun ls hl => hp_n (n := 6) rfl ?_)
  exact J6 n αh1 Hh1 Lh1 Bh1 a1 k1 (0 : Int32) ls (lv_sub hl [1, 2, 0] rfl) hf
def f_X3_fail (n : Nat) (α : hp_T) (a0 : Nat) (a1 : Int32) : Option (Int32 × hp_T) :=
  ms_l (hp_sI α 204 a0 a1) fun αh1 =>
  ms_l (hp_R αh1 200 a0) fun b2 =>
  ms_l (hp_I αh1 354 b2) fun x3 =>
  ms_l (hp_sI αh1 205 a0 x3) fun αh4 =>
  some ((0 : Int32), αh4)
set_option maxRecDepth 100000 in
set_option maxHeartbeats 4000000 in
theorem n_X3_fail (n : Nat) (Γ : hp_G) (l : Launch) (α : hp_T) (g : GC α) (a0 : Nat) (k0 : hp_K α a0 = 4) (a1 : Int32) (res : (Int32 × hp_T)) (hf : f_X3_fail n α a0 a1 = some res) : Met l yX3_fail (hp_ws yX3_fail cX3_fail 2 (some .boolean)) (hp_rm 0 0 0) (hp_Pc Γ α [.ref a0, .int a1]) (hp_Qi Γ (fun r β => r = res.1 ∧ β = res.2 ∧ cw w_X3_fail α β)) 0 0 (hp_A Γ) := by
  unfold f_X3_fail at hf
  refine hp_start (by decide) ?_
  intro p e s m below meth c C hr hlk B0 hnm
  have C : hp_C Γ p m c cX3_fail 2 s ([.ref a0, .int a1] : List Value).toArray RX3 := C
  have hx := C.1.1
  have hb := C.1.2.1
  have hown := C.1.2.2.2.1
  have hts := C.1.2.2.2.2
  have B : hp_B Γ (cw w_X3_fail) s α α s.heap [] := ⟨B0.1, B0.2.1, cw_rf g⟩
  have hl := lv_entry ([.ref a0, .int a1]) (n := 2) (Nat.le_of_ble_eq_true rfl)
  show W p l e (hp_rm 0 0 0) s m ([.ref a0, .int a1] : List Value).toArray below meth c s.heap [] 0 0 (MQ below (hp_Qi Γ (fun r β => r = res.1 ∧ β = res.2 ∧ cw w_X3_fail α β)) ([.ref a0, .int a1] : List Value).toArray s 0 0 (hp_A Γ)) (entryFrame m ([.ref a0, .int a1] : List Value).toArray 2)
  rw [lg_entry_eq]
  generalize (lg_sl ([.ref a0, .int a1]) ++ List.replicate (2 - (lg_sl ([.ref a0, .int a1])).length) Slot.unset).toArray = ls at hl ⊢
  have hl : lv_has ls 2 [(0, .ref a0), (1, .int a1)] := hl
  refine lv_aload_n hx hb dX3_fail_0 rfl (lv_at hl 0 rfl) (hp_n (n := 1) rfl ?_)
  refine lv_iload_n hx hb dX3_fail_1 rfl (lv_at hl 1 rfl) (hp_n (n := 2) rfl ?_)
  refine q_puti (κ := 4) (k := 4) (φ := 204) (pc' := 5) C B (cw_k B.2.2 k0) fl_X3_37 rfl rfl rfl rfl rfl rfl (cw_sI B.2.2 (by decide) (fun h => absurd h (by decide))) dX3_fail_2 rfl (fun αh1 Hh1 Lh1 eh1 Bh1 => ?_)
  replace hf := ms_lE eh1 hf
  refine lv_aload_n hx hb dX3_fail_5 rfl (lv_at hl 0 rfl) (hp_n (n := 6) rfl ?_)
  refine lv_aload_n hx hb dX3_fail_6 rfl (lv_at hl 0 rfl) (hp_n (n := 7) rfl ?_)
  refine q_getr (κ := 4) (k := 0) (φ := 200) (pc' := 10) C Bh1 (cw_k Bh1.2.2 k0) fl_X3_12 rfl rfl rfl (cw_r Bh1.2.2 k0 rfl rfl (by decide) (by decide)) dX3_fail_7 rfl (fun b2 eb2 kb2 => ?_)
  replace hf := ms_lE eb2 hf
  refine q_geti (κ := 7) (k := 4) (φ := 354) (pc' := 13) C Bh1 (cw_k Bh1.2.2 kb2) fl_X3_191 rfl rfl rfl dX3_fail_10 rfl (fun x3 ex3 => ?_)
  replace hf := ms_lE ex3 hf
  refine q_puti (κ := 4) (k := 5) (φ := 205) (pc' := 16) C Bh1 (cw_k Bh1.2.2 k0) fl_X3_40 rfl rfl rfl rfl rfl rfl (cw_sI Bh1.2.2 (by decide) (fun h => absurd h (by decide))) dX3_fail_13 rfl (fun αh4 Hh4 Lh4 eh4 Bh4 => ?_)
  replace hf := ms_lE eh4 hf
  refine lv_iconst (v := 0) hx hb dX3_fail_16 (by decide) (hp_n (n := 17) rfl ?_)
  cases hf
  exact q_zret C Bh4 hr hlk (by decide) ⟨rfl, rfl, Bh4.2.2⟩ dX3_fail_17
def f_X3_stray_J17 (n : Nat) (a0 : Nat) (αh3 : hp_T) (w0_h3 : Int32) (w1_h3 : Nat) : Option (Int32 × hp_T) :=
  hq_c (f_X3_fail n αh3 w1_h3 w0_h3) fun rh4 αh4 =>
  ms_z rh4 <|
  some (rh4, αh4)
def f_X3_stray (n : Nat) (α : hp_T) (a0 : Nat) : Option (Int32 × hp_T) :=
  ms_l (hp_R α 200 a0) fun b1 =>
  ms_l (hp_I α 353 b1) fun x2 =>
  if x2 = (4 : Int32) then
    f_X3_stray_J17 n a0 α (1 : Int32) a0
  else
    f_X3_stray_J17 n a0 α (2 : Int32) a0
set_option maxRecDepth 100000 in
set_option maxHeartbeats 4000000 in
theorem n_X3_stray (n : Nat) (Γ : hp_G) (l : Launch) (α : hp_T) (g : GC α) (a0 : Nat) (k0 : hp_K α a0 = 4) (res : (Int32 × hp_T)) (hf : f_X3_stray n α a0 = some res) : Met l yX3_stray (hp_ws yX3_stray cX3_stray 1 (some .boolean)) (hp_rm 1 0 0) (hp_Pc Γ α [.ref a0]) (hp_Qi Γ (fun r β => r = res.1 ∧ β = res.2 ∧ cw w_X3_stray α β)) 0 0 (hp_A Γ) := by
  unfold f_X3_stray at hf
  refine hp_start (by decide) ?_
  intro p e s m below meth c C hr hlk B0 hnm
  have C : hp_C Γ p m c cX3_stray 1 s ([.ref a0] : List Value).toArray RX3 := C
  have hx := C.1.1
  have hb := C.1.2.1
  have hown := C.1.2.2.2.1
  have hts := C.1.2.2.2.2
  have B : hp_B Γ (cw w_X3_stray) s α α s.heap [] := ⟨B0.1, B0.2.1, cw_rf g⟩
  have hl := lv_entry ([.ref a0]) (n := 1) (Nat.le_of_ble_eq_true rfl)
  show W p l e (hp_rm 1 0 0) s m ([.ref a0] : List Value).toArray below meth c s.heap [] 0 0 (MQ below (hp_Qi Γ (fun r β => r = res.1 ∧ β = res.2 ∧ cw w_X3_stray α β)) ([.ref a0] : List Value).toArray s 0 0 (hp_A Γ)) (entryFrame m ([.ref a0] : List Value).toArray 1)
  rw [lg_entry_eq]
  generalize (lg_sl ([.ref a0]) ++ List.replicate (1 - (lg_sl ([.ref a0])).length) Slot.unset).toArray = ls at hl ⊢
  have hl : lv_has ls 1 [(0, .ref a0)] := hl
  refine lv_aload_n hx hb dX3_stray_0 rfl (lv_at hl 0 rfl) (hp_n (n := 1) rfl ?_)
  refine lv_aload_n hx hb dX3_stray_1 rfl (lv_at hl 0 rfl) (hp_n (n := 2) rfl ?_)
  refine q_getr (κ := 4) (k := 0) (φ := 200) (pc' := 5) C B (cw_k B.2.2 k0) fl_X3_12 rfl rfl rfl (cw_r B.2.2 k0 rfl rfl (by decide) (by decide)) dX3_stray_2 rfl (fun b1 eb1 kb1 => ?_)
  replace hf := ms_lE eb1 hf
  refine q_geti (κ := 7) (k := 3) (φ := 353) (pc' := 8) C B (cw_k B.2.2 kb1) fl_X3_66 rfl rfl rfl dX3_stray_5 rfl (fun x2 ex2 => ?_)
  replace hf := ms_lE ex2 hf
  refine lv_iconst (v := 4) hx hb dX3_stray_8 (by decide) (hp_n (n := 9) rfl ?_)
  have J17 : ∀ (αh3 : hp_T) (Hh3 : Heap) (Lh3 : List Loc) (Bh3 : hp_B Γ (cw w_X3_stray) s α αh3 Hh3 Lh3) (w0_h3 : Int32) (w1_h3 : Nat) (kw1_h3 : hp_K α w1_h3 = 4) (ls : Array Slot) (hl : lv_has ls 1 []) (hf : f_X3_stray_J17 n a0 αh3 w0_h3 w1_h3 = some res), W p l e (hp_rm 1 0 0) s m ([.ref a0] : List Value).toArray below meth c Hh3 Lh3 0 0 (MQ below (hp_Qi Γ (fun r β => r = res.1 ∧ β = res.2 ∧ cw w_X3_stray α β)) ([.ref a0] : List Value).toArray s 0 0 (hp_A Γ)) (F0 m 17 ls [.int w0_h3, .ref w1_h3]) := by
    intro αh3 Hh3 Lh3 Bh3 w0_h3 w1_h3 kw1_h3 ls hl hf
    unfold f_X3_stray_J17 at hf
    obtain ⟨rh4, αh4, qh4, hf⟩ := hq_cE hf
    refine d_ci (pc' := 20) Bh3 (hp_runV (As := [.int w0_h3]) (rest := []) C Bh3 (n_X3_fail n Γ l αh3 Bh3.2.2.1 w1_h3 (cw_k Bh3.2.2 kw1_h3) w0_h3 (rh4, αh4) qh4) lb_X3_fail lv_X3_fail lk_X3_145 (cw_k Bh3.2.2 kw1_h3) rfl (by decide) rfl hl.1 rfl (Nat.le_of_ble_eq_true rfl) dX3_stray_17 ⟨Nat.le_refl _, Nat.le_refl _⟩) (by decide) rfl (fun Hh4 Lh4 Bh4 => ?_)
    obtain ⟨g5, hf⟩ := ms_zE hf
    cases hf
    exact q_zret C Bh4 hr hlk (nz_z g5) ⟨rfl, rfl, Bh4.2.2⟩ dX3_stray_20
  refine lv_icmp_ne (tgt := 16) hx hb dX3_stray_9 (by decide) (fun c6 => ?_) (fun c6 => hp_n (n := 12) rfl ?_)
  ·
    replace hf := ms_iF c6 hf
    refine lv_iconst (v := 2) hx hb dX3_stray_16 (by decide) (hp_n (n := 17) rfl ?_)
    exact J17 α s.heap [] B (2 : Int32) a0 k0 ls (lv_sub hl [] rfl) hf
  ·
    replace hf := ms_iT c6 hf
    refine lv_iconst (v := 1) hx hb dX3_stray_12 (by decide) (hp_n (n := 13) rfl ?_)
    refine lv_goto (tgt := 17) hx hb dX3_stray_13 (by decide) ?_
    exact J17 α s.heap [] B (1 : Int32) a0 k0 ls (lv_sub hl [] rfl) hf
def f_X3_hasRoom_J14 (n : Nat) (a0 : Nat) (αh1 : hp_T) : Option (Int32 × hp_T) :=
  some ((1 : Int32), αh1)
def f_X3_hasRoom (n : Nat) (α : hp_T) (a0 : Nat) (a1 : Int32) (a2 : Int32) : Option (Int32 × hp_T) :=
  if a1 < a2 then
    f_X3_hasRoom_J14 n a0 α
  else
    hq_c (f_X3_fail n α a0 (6 : Int32)) fun rh3 αh3 =>
    if rh3 = 0 then
      some ((0 : Int32), αh3)
    else
      f_X3_hasRoom_J14 n a0 αh3
set_option maxRecDepth 100000 in
set_option maxHeartbeats 4000000 in
theorem n_X3_hasRoom (n : Nat) (Γ : hp_G) (l : Launch) (α : hp_T) (g : GC α) (a0 : Nat) (k0 : hp_K α a0 = 4) (a1 : Int32) (a2 : Int32) (res : (Int32 × hp_T)) (hf : f_X3_hasRoom n α a0 a1 a2 = some res) : Met l yX3_hasRoom (hp_ws yX3_hasRoom cX3_hasRoom 3 (some .boolean)) (hp_rm 1 0 0) (hp_Pc Γ α [.ref a0, .int a1, .int a2]) (hp_Qi Γ (fun r β => r = res.1 ∧ β = res.2 ∧ cw w_X3_hasRoom α β)) 0 0 (hp_A Γ) := by
  unfold f_X3_hasRoom at hf
  refine hp_start (by decide) ?_
  intro p e s m below meth c C hr hlk B0 hnm
  have C : hp_C Γ p m c cX3_hasRoom 3 s ([.ref a0, .int a1, .int a2] : List Value).toArray RX3 := C
  have hx := C.1.1
  have hb := C.1.2.1
  have hown := C.1.2.2.2.1
  have hts := C.1.2.2.2.2
  have B : hp_B Γ (cw w_X3_hasRoom) s α α s.heap [] := ⟨B0.1, B0.2.1, cw_rf g⟩
  have hl := lv_entry ([.ref a0, .int a1, .int a2]) (n := 3) (Nat.le_of_ble_eq_true rfl)
  show W p l e (hp_rm 1 0 0) s m ([.ref a0, .int a1, .int a2] : List Value).toArray below meth c s.heap [] 0 0 (MQ below (hp_Qi Γ (fun r β => r = res.1 ∧ β = res.2 ∧ cw w_X3_hasRoom α β)) ([.ref a0, .int a1, .int a2] : List Value).toArray s 0 0 (hp_A Γ)) (entryFrame m ([.ref a0, .int a1, .int a2] : List Value).toArray 3)
  rw [lg_entry_eq]
  generalize (lg_sl ([.ref a0, .int a1, .int a2]) ++ List.replicate (3 - (lg_sl ([.ref a0, .int a1, .int a2])).length) Slot.unset).toArray = ls at hl ⊢
  have hl : lv_has ls 3 [(0, .ref a0), (1, .int a1), (2, .int a2)] := hl
  refine lv_iload_n hx hb dX3_hasRoom_0 rfl (lv_at hl 1 rfl) (hp_n (n := 1) rfl ?_)
  refine lv_iload_n hx hb dX3_hasRoom_1 rfl (lv_at hl 2 rfl) (hp_n (n := 2) rfl ?_)
  have J14 : ∀ (αh1 : hp_T) (Hh1 : Heap) (Lh1 : List Loc) (Bh1 : hp_B Γ (cw w_X3_hasRoom) s α αh1 Hh1 Lh1) (ls : Array Slot) (hl : lv_has ls 3 []) (hf : f_X3_hasRoom_J14 n a0 αh1 = some res), W p l e (hp_rm 1 0 0) s m ([.ref a0, .int a1, .int a2] : List Value).toArray below meth c Hh1 Lh1 0 0 (MQ below (hp_Qi Γ (fun r β => r = res.1 ∧ β = res.2 ∧ cw w_X3_hasRoom α β)) ([.ref a0, .int a1, .int a2] : List Value).toArray s 0 0 (hp_A Γ)) (F0 m 14 ls []) := by
    intro αh1 Hh1 Lh1 Bh1 ls hl hf
    unfold f_X3_hasRoom_J14 at hf
    refine lv_iconst (v := 1) hx hb dX3_hasRoom_14 (by decide) (hp_n (n := 15) rfl ?_)
    refine lv_goto (tgt := 19) hx hb dX3_hasRoom_15 (by decide) ?_
    cases hf
    exact q_zret C Bh1 hr hlk (by decide) ⟨rfl, rfl, Bh1.2.2⟩ dX3_hasRoom_19
  refine lv_icmp_lt (tgt := 14) hx hb dX3_hasRoom_2 (by decide) (fun c2 => ?_) (fun c2 => hp_n (n := 5) rfl ?_)
  ·
    replace hf := ms_iT c2 hf
    exact J14 α s.heap [] B ls (lv_sub hl [] rfl) hf
  ·
    replace hf := ms_iF c2 hf
    refine lv_aload_n hx hb dX3_hasRoom_5 rfl (lv_at hl 0 rfl) (hp_n (n := 6) rfl ?_)
    refine lv_bipush (v := 6) hx hb dX3_hasRoom_6 (by decide) (hp_n (n := 8) rfl ?_)
    obtain ⟨rh3, αh3, qh3, hf⟩ := hq_cE hf
    refine d_ci (pc' := 11) B (hp_runV (As := [.int (6 : Int32)]) (rest := []) C B (n_X3_fail n Γ l α B.2.2.1 a0 (cw_k B.2.2 k0) (6 : Int32) (rh3, αh3) qh3) lb_X3_fail lv_X3_fail lk_X3_145 (cw_k B.2.2 k0) rfl (by decide) rfl hl.1 rfl (Nat.le_of_ble_eq_true rfl) dX3_hasRoom_8 ⟨Nat.le_refl _, Nat.le_refl _⟩) (by decide) rfl (fun Hh3 Lh3 Bh3 => ?_)
    refine lv_if_eq (tgt := 18) hx hb dX3_hasRoom_11 (by decide) (fun c4 => ?_) (fun c4 => hp_n (n := 14) rfl ?_)
    ·
      replace hf := ms_iT c4 hf
      refine lv_iconst (v := 0) hx hb dX3_hasRoom_18 (by decide) (hp_n (n := 19) rfl ?_)
      cases hf
      exact q_zret C Bh3 hr hlk (by decide) ⟨rfl, rfl, Bh3.2.2⟩ dX3_hasRoom_19
    ·
      replace hf := ms_iF c4 hf
      exact J14 αh3 Hh3 Lh3 Bh3 ls (lv_sub hl [] rfl) hf
def f_X3_begin (n : Nat) (α : hp_T) (a0 : Nat) (a1 : Nat) (a2 : Int32) : Option hp_T :=
  ms_l (hp_sI α 204 a0 (0 : Int32)) fun αh1 =>
  ms_l (hp_sI αh1 205 a0 (-1 : Int32)) fun αh2 =>
  ms_l (hp_R αh2 200 a0) fun b3 =>
  ms_b (f_X6_begin n αh2 b3 a1 a2) fun αh4 =>
  ms_l (hp_R αh4 200 a0) fun b5 =>
  ms_b (f_X6_advance n αh4 b5) fun αh6 =>
  some αh6
set_option maxRecDepth 100000 in
set_option maxHeartbeats 4000000 in
theorem n_X3_begin (n : Nat) (Γ : hp_G) (l : Launch) (α : hp_T) (g : GC α) (a0 : Nat) (k0 : hp_K α a0 = 4) (a1 : Nat) (k1 : hp_K α a1 = 24) (a2 : Int32) (res : hp_T) (hf : f_X3_begin n α a0 a1 a2 = some res) : Met l yX3_begin (hp_ws yX3_begin cX3_begin 3 none) (hp_rm 2 0 0) (hp_Pc Γ α [.ref a0, .ref a1, .int a2]) (hp_Qv Γ (fun β => β = res ∧ cw w_X3_begin α β)) 0 0 (hp_A Γ) := by
  unfold f_X3_begin at hf
  refine hp_start (by decide) ?_
  intro p e s m below meth c C hr hlk B0 hnm
  have C : hp_C Γ p m c cX3_begin 3 s ([.ref a0, .ref a1, .int a2] : List Value).toArray RX3 := C
  have hx := C.1.1
  have hb := C.1.2.1
  have hown := C.1.2.2.2.1
  have hts := C.1.2.2.2.2
  have B : hp_B Γ (cw w_X3_begin) s α α s.heap [] := ⟨B0.1, B0.2.1, cw_rf g⟩
  have hl := lv_entry ([.ref a0, .ref a1, .int a2]) (n := 3) (Nat.le_of_ble_eq_true rfl)
  show W p l e (hp_rm 2 0 0) s m ([.ref a0, .ref a1, .int a2] : List Value).toArray below meth c s.heap [] 0 0 (MQ below (hp_Qv Γ (fun β => β = res ∧ cw w_X3_begin α β)) ([.ref a0, .ref a1, .int a2] : List Value).toArray s 0 0 (hp_A Γ)) (entryFrame m ([.ref a0, .ref a1, .int a2] : List Value).toArray 3)
  rw [lg_entry_eq]
  generalize (lg_sl ([.ref a0, .ref a1, .int a2]) ++ List.replicate (3 - (lg_sl ([.ref a0, .ref a1, .int a2])).length) Slot.unset).toArray = ls at hl ⊢
  have hl : lv_has ls 3 [(0, .ref a0), (1, .ref a1), (2, .int a2)] := hl
  refine lv_aload_n hx hb dX3_begin_0 rfl (lv_at hl 0 rfl) (hp_n (n := 1) rfl ?_)
  refine lv_iconst (v := 0) hx hb dX3_begin_1 (by decide) (hp_n (n := 2) rfl ?_)
  refine q_puti (κ := 4) (k := 4) (φ := 204) (pc' := 5) C B (cw_k B.2.2 k0) fl_X3_37 rfl rfl rfl rfl rfl rfl (cw_sI B.2.2 (by decide) (fun h => absurd h (by decide))) dX3_begin_2 rfl (fun αh1 Hh1 Lh1 eh1 Bh1 => ?_)
  replace hf := ms_lE eh1 hf
  refine lv_aload_n hx hb dX3_begin_5 rfl (lv_at hl 0 rfl) (hp_n (n := 6) rfl ?_)
  refine lv_iconst (v := (-1)) hx hb dX3_begin_6 (by decide) (hp_n (n := 7) rfl ?_)
  refine q_puti (κ := 4) (k := 5) (φ := 205) (pc' := 10) C Bh1 (cw_k Bh1.2.2 k0) fl_X3_40 rfl rfl rfl rfl rfl rfl (cw_sI Bh1.2.2 (by decide) (fun h => absurd h (by decide))) dX3_begin_7 rfl (fun αh2 Hh2 Lh2 eh2 Bh2 => ?_)
  replace hf := ms_lE eh2 hf
  refine lv_aload_n hx hb dX3_begin_10 rfl (lv_at hl 0 rfl) (hp_n (n := 11) rfl ?_)
  refine q_getr (κ := 4) (k := 0) (φ := 200) (pc' := 14) C Bh2 (cw_k Bh2.2.2 k0) fl_X3_12 rfl rfl rfl (cw_r Bh2.2.2 k0 rfl rfl (by decide) (by decide)) dX3_begin_11 rfl (fun b3 eb3 kb3 => ?_)
  replace hf := ms_lE eb3 hf
  refine lv_aload_n hx hb dX3_begin_14 rfl (lv_at hl 1 rfl) (hp_n (n := 15) rfl ?_)
  refine lv_iload_n hx hb dX3_begin_15 rfl (lv_at hl 2 rfl) (hp_n (n := 16) rfl ?_)
  obtain ⟨αh4, qh4, hf⟩ := ms_bE hf
  refine d_cv (pc' := 19) Bh2 (hp_runV (As := [.ref a1, .int a2]) (rest := []) C Bh2 (n_X6_begin n Γ l αh2 Bh2.2.2.1 b3 (cw_k Bh2.2.2 kb3) a1 (cw_k Bh2.2.2 k1) a2 αh4 qh4) lb_X6_begin lv_X6_begin lk_X3_59 (cw_k Bh2.2.2 kb3) rfl (by decide) rfl hl.1 rfl (Nat.le_of_ble_eq_true rfl) dX3_begin_16 ⟨Nat.le_refl _, Nat.le_refl _⟩) (by decide) rfl (fun Hh4 Lh4 Bh4 => ?_)
  refine lv_aload_n hx hb dX3_begin_19 rfl (lv_at hl 0 rfl) (hp_n (n := 20) rfl ?_)
  refine q_getr (κ := 4) (k := 0) (φ := 200) (pc' := 23) C Bh4 (cw_k Bh4.2.2 k0) fl_X3_12 rfl rfl rfl (cw_r Bh4.2.2 k0 rfl rfl (by decide) (by decide)) dX3_begin_20 rfl (fun b5 eb5 kb5 => ?_)
  replace hf := ms_lE eb5 hf
  obtain ⟨αh6, qh6, hf⟩ := ms_bE hf
  refine d_cv (pc' := 26) Bh4 (hp_runV (As := []) (rest := []) C Bh4 (n_X6_advance n Γ l αh4 Bh4.2.2.1 b5 (cw_k Bh4.2.2 kb5) αh6 qh6) lb_X6_advance lv_X6_advance lk_X3_63 (cw_k Bh4.2.2 kb5) rfl (by decide) rfl hl.1 rfl (Nat.le_of_ble_eq_true rfl) dX3_begin_23 ⟨Nat.le_refl _, Nat.le_refl _⟩) (by decide) rfl (fun Hh6 Lh6 Bh6 => ?_)
  cases hf
  exact q_vret C Bh6 hr hlk ⟨rfl, Bh6.2.2⟩ dX3_begin_26
def f_X3_isAtEnd (n : Nat) (α : hp_T) (a0 : Nat) : Option Int32 :=
  ms_l (hp_R α 200 a0) fun b1 =>
  ms_l (hp_I α 353 b1) fun x2 =>
  if x2 = 0 then
    some (1 : Int32)
  else
    some (0 : Int32)
set_option maxRecDepth 100000 in
set_option maxHeartbeats 4000000 in
theorem n_X3_isAtEnd (n : Nat) (Γ : hp_G) (l : Launch) (α : hp_T) (g : GC α) (a0 : Nat) (k0 : hp_K α a0 = 4) (res : Int32) (hf : f_X3_isAtEnd n α a0 = some res) : Met l yX3_isAtEnd (hp_ws yX3_isAtEnd cX3_isAtEnd 1 (some .boolean)) (hp_rm 0 0 0) (hp_Pc Γ α [.ref a0]) (hp_Qi Γ (fun r β => β = α ∧ r = res)) 0 0 (hp_A Γ) := by
  unfold f_X3_isAtEnd at hf
  refine hp_start (by decide) ?_
  intro p e s m below meth c C hr hlk B0 hnm
  have C : hp_C Γ p m c cX3_isAtEnd 1 s ([.ref a0] : List Value).toArray RX3 := C
  have hx := C.1.1
  have hb := C.1.2.1
  have hown := C.1.2.2.2.1
  have hts := C.1.2.2.2.2
  have B : hp_B Γ (cw w_X3_isAtEnd) s α α s.heap [] := ⟨B0.1, B0.2.1, cw_rf g⟩
  have hl := lv_entry ([.ref a0]) (n := 1) (Nat.le_of_ble_eq_true rfl)
  show W p l e (hp_rm 0 0 0) s m ([.ref a0] : List Value).toArray below meth c s.heap [] 0 0 (MQ below (hp_Qi Γ (fun r β => β = α ∧ r = res)) ([.ref a0] : List Value).toArray s 0 0 (hp_A Γ)) (entryFrame m ([.ref a0] : List Value).toArray 1)
  rw [lg_entry_eq]
  generalize (lg_sl ([.ref a0]) ++ List.replicate (1 - (lg_sl ([.ref a0])).length) Slot.unset).toArray = ls at hl ⊢
  have hl : lv_has ls 1 [(0, .ref a0)] := hl
  refine lv_aload_n hx hb dX3_isAtEnd_0 rfl (lv_at hl 0 rfl) (hp_n (n := 1) rfl ?_)
  refine q_getr (κ := 4) (k := 0) (φ := 200) (pc' := 4) C B (cw_k B.2.2 k0) fl_X3_12 rfl rfl rfl (cw_r B.2.2 k0 rfl rfl (by decide) (by decide)) dX3_isAtEnd_1 rfl (fun b1 eb1 kb1 => ?_)
  replace hf := ms_lE eb1 hf
  refine q_geti (κ := 7) (k := 3) (φ := 353) (pc' := 7) C B (cw_k B.2.2 kb1) fl_X3_66 rfl rfl rfl dX3_isAtEnd_4 rfl (fun x2 ex2 => ?_)
  replace hf := ms_lE ex2 hf
  refine lv_if_ne (tgt := 14) hx hb dX3_isAtEnd_7 (by decide) (fun c3 => ?_) (fun c3 => hp_n (n := 10) rfl ?_)
  ·
    replace hf := ms_iF c3 hf
    refine lv_iconst (v := 0) hx hb dX3_isAtEnd_14 (by decide) (hp_n (n := 15) rfl ?_)
    cases hf
    exact q_zret C B hr hlk (by decide) ⟨rfl, rfl⟩ dX3_isAtEnd_15
  ·
    replace hf := ms_iT c3 hf
    refine lv_iconst (v := 1) hx hb dX3_isAtEnd_10 (by decide) (hp_n (n := 11) rfl ?_)
    refine lv_goto (tgt := 15) hx hb dX3_isAtEnd_11 (by decide) ?_
    cases hf
    exact q_zret C B hr hlk (by decide) ⟨rfl, rfl⟩ dX3_isAtEnd_15
def f_X3_readNumber_J58 (n : Nat) (a0 : Nat) (αh10 : hp_T) : Option (Int32 × hp_T) :=
  some ((1 : Int32), αh10)
def f_X3_readNumber_J50 (n : Nat) (a0 : Nat) (αh11 : hp_T) : Option (Int32 × hp_T) :=
  hq_c (f_X3_fail n αh11 a0 (3 : Int32)) fun rh12 αh12 =>
  if rh12 = 0 then
    some ((0 : Int32), αh12)
  else
    f_X3_readNumber_J58 n a0 αh12
def f_X3_readNumber (n : Nat) (α : hp_T) (a0 : Nat) (a1 : Int32) (a2 : Int32) : Option (Int32 × hp_T) :=
  ms_l (hp_R α 200 a0) fun b1 =>
  ms_b (f_X6_advance n α b1) fun αh2 =>
  ms_l (hp_R αh2 200 a0) fun b3 =>
  ms_l (hp_I αh2 353 b3) fun x4 =>
  if x4 = (2 : Int32) then
    ms_l (hp_R αh2 200 a0) fun b6 =>
    ms_l (hp_I αh2 356 b6) fun x7 =>
    ms_l (hp_sI αh2 209 a0 x7) fun αh8 =>
    ms_l (hp_I αh8 209 a0) fun x9 =>
    if x9 < a1 then
      f_X3_readNumber_J50 n a0 αh8
    else
      ms_l (hp_I αh8 209 a0) fun x15 =>
      if x15 ≤ a2 then
        f_X3_readNumber_J58 n a0 αh8
      else
        f_X3_readNumber_J50 n a0 αh8
  else
    hq_c (f_X3_stray n αh2 a0) fun rh17 αh17 =>
    ms_z rh17 <|
    some (rh17, αh17)
set_option maxRecDepth 100000 in
set_option maxHeartbeats 4000000 in
theorem n_X3_readNumber (n : Nat) (Γ : hp_G) (l : Launch) (α : hp_T) (g : GC α) (a0 : Nat) (k0 : hp_K α a0 = 4) (a1 : Int32) (a2 : Int32) (res : (Int32 × hp_T)) (hf : f_X3_readNumber n α a0 a1 a2 = some res) : Met l yX3_readNumber (hp_ws yX3_readNumber cX3_readNumber 3 (some .boolean)) (hp_rm 2 0 0) (hp_Pc Γ α [.ref a0, .int a1, .int a2]) (hp_Qi Γ (fun r β => r = res.1 ∧ β = res.2 ∧ cw w_X3_readNumber α β)) 0 0 (hp_A Γ) := by
  unfold f_X3_readNumber at hf
  refine hp_start (by decide) ?_
  intro p e s m below meth c C hr hlk B0 hnm
  have C : hp_C Γ p m c cX3_readNumber 3 s ([.ref a0, .int a1, .int a2] : List Value).toArray RX3 := C
  have hx := C.1.1
  have hb := C.1.2.1
  have hown := C.1.2.2.2.1
  have hts := C.1.2.2.2.2
  have B : hp_B Γ (cw w_X3_readNumber) s α α s.heap [] := ⟨B0.1, B0.2.1, cw_rf g⟩
  have hl := lv_entry ([.ref a0, .int a1, .int a2]) (n := 3) (Nat.le_of_ble_eq_true rfl)
  show W p l e (hp_rm 2 0 0) s m ([.ref a0, .int a1, .int a2] : List Value).toArray below meth c s.heap [] 0 0 (MQ below (hp_Qi Γ (fun r β => r = res.1 ∧ β = res.2 ∧ cw w_X3_readNumber α β)) ([.ref a0, .int a1, .int a2] : List Value).toArray s 0 0 (hp_A Γ)) (entryFrame m ([.ref a0, .int a1, .int a2] : List Value).toArray 3)
  rw [lg_entry_eq]
  generalize (lg_sl ([.ref a0, .int a1, .int a2]) ++ List.replicate (3 - (lg_sl ([.ref a0, .int a1, .int a2])).length) Slot.unset).toArray = ls at hl ⊢
  have hl : lv_has ls 3 [(0, .ref a0), (1, .int a1), (2, .int a2)] := hl
  refine lv_aload_n hx hb dX3_readNumber_0 rfl (lv_at hl 0 rfl) (hp_n (n := 1) rfl ?_)
  refine q_getr (κ := 4) (k := 0) (φ := 200) (pc' := 4) C B (cw_k B.2.2 k0) fl_X3_12 rfl rfl rfl (cw_r B.2.2 k0 rfl rfl (by decide) (by decide)) dX3_readNumber_1 rfl (fun b1 eb1 kb1 => ?_)
  replace hf := ms_lE eb1 hf
  obtain ⟨αh2, qh2, hf⟩ := ms_bE hf
  refine d_cv (pc' := 7) B (hp_runV (As := []) (rest := []) C B (n_X6_advance n Γ l α B.2.2.1 b1 (cw_k B.2.2 kb1) αh2 qh2) lb_X6_advance lv_X6_advance lk_X3_63 (cw_k B.2.2 kb1) rfl (by decide) rfl hl.1 rfl (Nat.le_of_ble_eq_true rfl) dX3_readNumber_4 ⟨Nat.le_refl _, Nat.le_refl _⟩) (by decide) rfl (fun Hh2 Lh2 Bh2 => ?_)
  refine lv_aload_n hx hb dX3_readNumber_7 rfl (lv_at hl 0 rfl) (hp_n (n := 8) rfl ?_)
  refine q_getr (κ := 4) (k := 0) (φ := 200) (pc' := 11) C Bh2 (cw_k Bh2.2.2 k0) fl_X3_12 rfl rfl rfl (cw_r Bh2.2.2 k0 rfl rfl (by decide) (by decide)) dX3_readNumber_8 rfl (fun b3 eb3 kb3 => ?_)
  replace hf := ms_lE eb3 hf
  refine q_geti (κ := 7) (k := 3) (φ := 353) (pc' := 14) C Bh2 (cw_k Bh2.2.2 kb3) fl_X3_66 rfl rfl rfl dX3_readNumber_11 rfl (fun x4 ex4 => ?_)
  replace hf := ms_lE ex4 hf
  refine lv_iconst (v := 2) hx hb dX3_readNumber_14 (by decide) (hp_n (n := 15) rfl ?_)
  refine lv_icmp_eq (tgt := 23) hx hb dX3_readNumber_15 (by decide) (fun c5 => ?_) (fun c5 => hp_n (n := 18) rfl ?_)
  ·
    replace hf := ms_iT c5 hf
    refine lv_aload_n hx hb dX3_readNumber_23 rfl (lv_at hl 0 rfl) (hp_n (n := 24) rfl ?_)
    refine lv_aload_n hx hb dX3_readNumber_24 rfl (lv_at hl 0 rfl) (hp_n (n := 25) rfl ?_)
    refine q_getr (κ := 4) (k := 0) (φ := 200) (pc' := 28) C Bh2 (cw_k Bh2.2.2 k0) fl_X3_12 rfl rfl rfl (cw_r Bh2.2.2 k0 rfl rfl (by decide) (by decide)) dX3_readNumber_25 rfl (fun b6 eb6 kb6 => ?_)
    replace hf := ms_lE eb6 hf
    refine q_geti (κ := 7) (k := 6) (φ := 356) (pc' := 31) C Bh2 (cw_k Bh2.2.2 kb6) fl_X3_188 rfl rfl rfl dX3_readNumber_28 rfl (fun x7 ex7 => ?_)
    replace hf := ms_lE ex7 hf
    refine q_puti (κ := 4) (k := 9) (φ := 209) (pc' := 34) C Bh2 (cw_k Bh2.2.2 k0) fl_X3_56 rfl rfl rfl rfl rfl rfl (cw_sI Bh2.2.2 (by decide) (fun h => absurd h (by decide))) dX3_readNumber_31 rfl (fun αh8 Hh8 Lh8 eh8 Bh8 => ?_)
    replace hf := ms_lE eh8 hf
    refine lv_aload_n hx hb dX3_readNumber_34 rfl (lv_at hl 0 rfl) (hp_n (n := 35) rfl ?_)
    refine q_geti (κ := 4) (k := 9) (φ := 209) (pc' := 38) C Bh8 (cw_k Bh8.2.2 k0) fl_X3_56 rfl rfl rfl dX3_readNumber_35 rfl (fun x9 ex9 => ?_)
    replace hf := ms_lE ex9 hf
    refine lv_iload_n hx hb dX3_readNumber_38 rfl (lv_at hl 1 rfl) (hp_n (n := 39) rfl ?_)
    have J58 : ∀ (αh10 : hp_T) (Hh10 : Heap) (Lh10 : List Loc) (Bh10 : hp_B Γ (cw w_X3_readNumber) s α αh10 Hh10 Lh10) (ls : Array Slot) (hl : lv_has ls 3 []) (hf : f_X3_readNumber_J58 n a0 αh10 = some res), W p l e (hp_rm 2 0 0) s m ([.ref a0, .int a1, .int a2] : List Value).toArray below meth c Hh10 Lh10 0 0 (MQ below (hp_Qi Γ (fun r β => r = res.1 ∧ β = res.2 ∧ cw w_X3_readNumber α β)) ([.ref a0, .int a1, .int a2] : List Value).toArray s 0 0 (hp_A Γ)) (F0 m 58 ls []) := by
      intro αh10 Hh10 Lh10 Bh10 ls hl hf
      unfold f_X3_readNumber_J58 at hf
      refine lv_iconst (v := 1) hx hb dX3_readNumber_58 (by decide) (hp_n (n := 59) rfl ?_)
      refine lv_goto (tgt := 63) hx hb dX3_readNumber_59 (by decide) ?_
      cases hf
      exact q_zret C Bh10 hr hlk (by decide) ⟨rfl, rfl, Bh10.2.2⟩ dX3_readNumber_63
    have J50 : ∀ (αh11 : hp_T) (Hh11 : Heap) (Lh11 : List Loc) (Bh11 : hp_B Γ (cw w_X3_readNumber) s α αh11 Hh11 Lh11) (ls : Array Slot) (hl : lv_has ls 3 [(0, .ref a0)]) (hf : f_X3_readNumber_J50 n a0 αh11 = some res), W p l e (hp_rm 2 0 0) s m ([.ref a0, .int a1, .int a2] : List Value).toArray below meth c Hh11 Lh11 0 0 (MQ below (hp_Qi Γ (fun r β => r = res.1 ∧ β = res.2 ∧ cw w_X3_readNumber α β)) ([.ref a0, .int a1, .int a2] : List Value).toArray s 0 0 (hp_A Γ)) (F0 m 50 ls []) := by
      intro αh11 Hh11 Lh11 Bh11 ls hl hf
      unfold f_X3_readNumber_J50 at hf
      refine lv_aload_n hx hb dX3_readNumber_50 rfl (lv_at hl 0 rfl) (hp_n (n := 51) rfl ?_)
      refine lv_iconst (v := 3) hx hb dX3_readNumber_51 (by decide) (hp_n (n := 52) rfl ?_)
      obtain ⟨rh12, αh12, qh12, hf⟩ := hq_cE hf
      refine d_ci (pc' := 55) Bh11 (hp_runV (As := [.int (3 : Int32)]) (rest := []) C Bh11 (n_X3_fail n Γ l αh11 Bh11.2.2.1 a0 (cw_k Bh11.2.2 k0) (3 : Int32) (rh12, αh12) qh12) lb_X3_fail lv_X3_fail lk_X3_145 (cw_k Bh11.2.2 k0) rfl (by decide) rfl hl.1 rfl (Nat.le_of_ble_eq_true rfl) dX3_readNumber_52 ⟨Nat.le_refl _, Nat.le_refl _⟩) (by decide) rfl (fun Hh12 Lh12 Bh12 => ?_)
      refine lv_if_eq (tgt := 62) hx hb dX3_readNumber_55 (by decide) (fun c13 => ?_) (fun c13 => hp_n (n := 58) rfl ?_)
      ·
        replace hf := ms_iT c13 hf
        refine lv_iconst (v := 0) hx hb dX3_readNumber_62 (by decide) (hp_n (n := 63) rfl ?_)
        cases hf
        exact q_zret C Bh12 hr hlk (by decide) ⟨rfl, rfl, Bh12.2.2⟩ dX3_readNumber_63
      ·
        replace hf := ms_iF c13 hf
        exact J58 αh12 Hh12 Lh12 Bh12 ls (lv_sub hl [] rfl) hf
    refine lv_icmp_lt (tgt := 50) hx hb dX3_readNumber_39 (by decide) (fun c14 => ?_) (fun c14 => hp_n (n := 42) rfl ?_)
    ·
      replace hf := ms_iT c14 hf
      exact J50 αh8 Hh8 Lh8 Bh8 ls (lv_sub hl [0] rfl) hf
    ·
      replace hf := ms_iF c14 hf
      refine lv_aload_n hx hb dX3_readNumber_42 rfl (lv_at hl 0 rfl) (hp_n (n := 43) rfl ?_)
      refine q_geti (κ := 4) (k := 9) (φ := 209) (pc' := 46) C Bh8 (cw_k Bh8.2.2 k0) fl_X3_56 rfl rfl rfl dX3_readNumber_43 rfl (fun x15 ex15 => ?_)
      replace hf := ms_lE ex15 hf
      refine lv_iload_n hx hb dX3_readNumber_46 rfl (lv_at hl 2 rfl) (hp_n (n := 47) rfl ?_)
      refine lv_icmp_le (tgt := 58) hx hb dX3_readNumber_47 (by decide) (fun c16 => ?_) (fun c16 => hp_n (n := 50) rfl ?_)
      ·
        replace hf := ms_iT c16 hf
        exact J58 αh8 Hh8 Lh8 Bh8 ls (lv_sub hl [] rfl) hf
      ·
        replace hf := ms_iF c16 hf
        exact J50 αh8 Hh8 Lh8 Bh8 ls (lv_sub hl [0] rfl) hf
  ·
    replace hf := ms_iF c5 hf
    refine lv_aload_n hx hb dX3_readNumber_18 rfl (lv_at hl 0 rfl) (hp_n (n := 19) rfl ?_)
    obtain ⟨rh17, αh17, qh17, hf⟩ := hq_cE hf
    refine d_ci (pc' := 22) Bh2 (hp_runV (As := []) (rest := []) C Bh2 (n_X3_stray n Γ l αh2 Bh2.2.2.1 a0 (cw_k Bh2.2.2 k0) (rh17, αh17) qh17) lb_X3_stray lv_X3_stray lk_X3_117 (cw_k Bh2.2.2 k0) rfl (by decide) rfl hl.1 rfl (Nat.le_of_ble_eq_true rfl) dX3_readNumber_19 ⟨Nat.le_refl _, Nat.le_refl _⟩) (by decide) rfl (fun Hh17 Lh17 Bh17 => ?_)
    obtain ⟨g18, hf⟩ := ms_zE hf
    cases hf
    exact q_zret C Bh17 hr hlk (nz_z g18) ⟨rfl, rfl, Bh17.2.2⟩ dX3_readNumber_22
def f_X3_readSign_J25 (n : Nat) (a0 : Nat) (αh5 : hp_T) : Option (Int32 × hp_T) :=
  some ((1 : Int32), αh5)
def f_X3_readSign (n : Nat) (α : hp_T) (a0 : Nat) : Option (Int32 × hp_T) :=
  ms_l (hp_R α 200 a0) fun b1 =>
  ms_b (f_X6_advance n α b1) fun αh2 =>
  ms_l (hp_R αh2 200 a0) fun b3 =>
  ms_l (hp_I αh2 353 b3) fun x4 =>
  if x4 = (3 : Int32) then
    f_X3_readSign_J25 n a0 αh2
  else
    hq_c (f_X3_stray n αh2 a0) fun rh7 αh7 =>
    if rh7 = 0 then
      some ((0 : Int32), αh7)
    else
      f_X3_readSign_J25 n a0 αh7
set_option maxRecDepth 100000 in
set_option maxHeartbeats 4000000 in
theorem n_X3_readSign (n : Nat) (Γ : hp_G) (l : Launch) (α : hp_T) (g : GC α) (a0 : Nat) (k0 : hp_K α a0 = 4) (res : (Int32 × hp_T)) (hf : f_X3_readSign n α a0 = some res) : Met l yX3_readSign (hp_ws yX3_readSign cX3_readSign 1 (some .boolean)) (hp_rm 2 0 0) (hp_Pc Γ α [.ref a0]) (hp_Qi Γ (fun r β => r = res.1 ∧ β = res.2 ∧ cw w_X3_readSign α β)) 0 0 (hp_A Γ) := by
  unfold f_X3_readSign at hf
  refine hp_start (by decide) ?_
  intro p e s m below meth c C hr hlk B0 hnm
  have C : hp_C Γ p m c cX3_readSign 1 s ([.ref a0] : List Value).toArray RX3 := C
  have hx := C.1.1
  have hb := C.1.2.1
  have hown := C.1.2.2.2.1
  have hts := C.1.2.2.2.2
  have B : hp_B Γ (cw w_X3_readSign) s α α s.heap [] := ⟨B0.1, B0.2.1, cw_rf g⟩
  have hl := lv_entry ([.ref a0]) (n := 1) (Nat.le_of_ble_eq_true rfl)
  show W p l e (hp_rm 2 0 0) s m ([.ref a0] : List Value).toArray below meth c s.heap [] 0 0 (MQ below (hp_Qi Γ (fun r β => r = res.1 ∧ β = res.2 ∧ cw w_X3_readSign α β)) ([.ref a0] : List Value).toArray s 0 0 (hp_A Γ)) (entryFrame m ([.ref a0] : List Value).toArray 1)
  rw [lg_entry_eq]
  generalize (lg_sl ([.ref a0]) ++ List.replicate (1 - (lg_sl ([.ref a0])).length) Slot.unset).toArray = ls at hl ⊢
  have hl : lv_has ls 1 [(0, .ref a0)] := hl
  refine lv_aload_n hx hb dX3_readSign_0 rfl (lv_at hl 0 rfl) (hp_n (n := 1) rfl ?_)
  refine q_getr (κ := 4) (k := 0) (φ := 200) (pc' := 4) C B (cw_k B.2.2 k0) fl_X3_12 rfl rfl rfl (cw_r B.2.2 k0 rfl rfl (by decide) (by decide)) dX3_readSign_1 rfl (fun b1 eb1 kb1 => ?_)
  replace hf := ms_lE eb1 hf
  obtain ⟨αh2, qh2, hf⟩ := ms_bE hf
  refine d_cv (pc' := 7) B (hp_runV (As := []) (rest := []) C B (n_X6_advance n Γ l α B.2.2.1 b1 (cw_k B.2.2 kb1) αh2 qh2) lb_X6_advance lv_X6_advance lk_X3_63 (cw_k B.2.2 kb1) rfl (by decide) rfl hl.1 rfl (Nat.le_of_ble_eq_true rfl) dX3_readSign_4 ⟨Nat.le_refl _, Nat.le_refl _⟩) (by decide) rfl (fun Hh2 Lh2 Bh2 => ?_)
  refine lv_aload_n hx hb dX3_readSign_7 rfl (lv_at hl 0 rfl) (hp_n (n := 8) rfl ?_)
  refine q_getr (κ := 4) (k := 0) (φ := 200) (pc' := 11) C Bh2 (cw_k Bh2.2.2 k0) fl_X3_12 rfl rfl rfl (cw_r Bh2.2.2 k0 rfl rfl (by decide) (by decide)) dX3_readSign_8 rfl (fun b3 eb3 kb3 => ?_)
  replace hf := ms_lE eb3 hf
  refine q_geti (κ := 7) (k := 3) (φ := 353) (pc' := 14) C Bh2 (cw_k Bh2.2.2 kb3) fl_X3_66 rfl rfl rfl dX3_readSign_11 rfl (fun x4 ex4 => ?_)
  replace hf := ms_lE ex4 hf
  refine lv_iconst (v := 3) hx hb dX3_readSign_14 (by decide) (hp_n (n := 15) rfl ?_)
  have J25 : ∀ (αh5 : hp_T) (Hh5 : Heap) (Lh5 : List Loc) (Bh5 : hp_B Γ (cw w_X3_readSign) s α αh5 Hh5 Lh5) (ls : Array Slot) (hl : lv_has ls 1 []) (hf : f_X3_readSign_J25 n a0 αh5 = some res), W p l e (hp_rm 2 0 0) s m ([.ref a0] : List Value).toArray below meth c Hh5 Lh5 0 0 (MQ below (hp_Qi Γ (fun r β => r = res.1 ∧ β = res.2 ∧ cw w_X3_readSign α β)) ([.ref a0] : List Value).toArray s 0 0 (hp_A Γ)) (F0 m 25 ls []) := by
    intro αh5 Hh5 Lh5 Bh5 ls hl hf
    unfold f_X3_readSign_J25 at hf
    refine lv_iconst (v := 1) hx hb dX3_readSign_25 (by decide) (hp_n (n := 26) rfl ?_)
    refine lv_goto (tgt := 30) hx hb dX3_readSign_26 (by decide) ?_
    cases hf
    exact q_zret C Bh5 hr hlk (by decide) ⟨rfl, rfl, Bh5.2.2⟩ dX3_readSign_30
  refine lv_icmp_eq (tgt := 25) hx hb dX3_readSign_15 (by decide) (fun c6 => ?_) (fun c6 => hp_n (n := 18) rfl ?_)
  ·
    replace hf := ms_iT c6 hf
    exact J25 αh2 Hh2 Lh2 Bh2 ls (lv_sub hl [] rfl) hf
  ·
    replace hf := ms_iF c6 hf
    refine lv_aload_n hx hb dX3_readSign_18 rfl (lv_at hl 0 rfl) (hp_n (n := 19) rfl ?_)
    obtain ⟨rh7, αh7, qh7, hf⟩ := hq_cE hf
    refine d_ci (pc' := 22) Bh2 (hp_runV (As := []) (rest := []) C Bh2 (n_X3_stray n Γ l αh2 Bh2.2.2.1 a0 (cw_k Bh2.2.2 k0) (rh7, αh7) qh7) lb_X3_stray lv_X3_stray lk_X3_117 (cw_k Bh2.2.2 k0) rfl (by decide) rfl hl.1 rfl (Nat.le_of_ble_eq_true rfl) dX3_readSign_19 ⟨Nat.le_refl _, Nat.le_refl _⟩) (by decide) rfl (fun Hh7 Lh7 Bh7 => ?_)
    refine lv_if_eq (tgt := 29) hx hb dX3_readSign_22 (by decide) (fun c8 => ?_) (fun c8 => hp_n (n := 25) rfl ?_)
    ·
      replace hf := ms_iT c8 hf
      refine lv_iconst (v := 0) hx hb dX3_readSign_29 (by decide) (hp_n (n := 30) rfl ?_)
      cases hf
      exact q_zret C Bh7 hr hlk (by decide) ⟨rfl, rfl, Bh7.2.2⟩ dX3_readSign_30
    ·
      replace hf := ms_iF c8 hf
      exact J25 αh7 Hh7 Lh7 Bh7 ls (lv_sub hl [] rfl) hf
def f_X3_readModulus (n : Nat) (α : hp_T) (a0 : Nat) (a1 : Nat) : Option (Int32 × hp_T) :=
  ms_l (hp_R α 200 a0) fun b1 =>
  ms_b (f_X6_spells n α b1 17) fun rh2 =>
  if rh2 = 0 then
    some ((1 : Int32), α)
  else
    hq_c (f_X3_readNumber n α a0 (101 : Int32) (65521 : Int32)) fun rh4 αh4 =>
    if rh4 = 0 then
      some ((0 : Int32), αh4)
    else
      hq_c (f_X3_readSign n αh4 a0) fun rh6 αh6 =>
      if rh6 = 0 then
        some ((0 : Int32), αh6)
      else
        ms_l (hp_I αh6 209 a0) fun x8 =>
        ms_l (hp_sI αh6 550 a1 x8) fun αh9 =>
        ms_l (hp_R αh9 200 a0) fun b10 =>
        ms_b (f_X6_advance n αh9 b10) fun αh11 =>
        some ((1 : Int32), αh11)
set_option maxRecDepth 100000 in
set_option maxHeartbeats 4000000 in
theorem n_X3_readModulus (n : Nat) (Γ : hp_G) (l : Launch) (α : hp_T) (g : GC α) (a0 : Nat) (k0 : hp_K α a0 = 4) (a1 : Nat) (k1 : hp_K α a1 = 11) (res : (Int32 × hp_T)) (hf : f_X3_readModulus n α a0 a1 = some res) : Met l yX3_readModulus (hp_ws yX3_readModulus cX3_readModulus 2 (some .boolean)) (hp_rm 5 0 0) (hp_Pc Γ α [.ref a0, .ref a1]) (hp_Qi Γ (fun r β => r = res.1 ∧ β = res.2 ∧ cw w_X3_readModulus α β)) 0 0 (hp_A Γ) := by
  unfold f_X3_readModulus at hf
  refine hp_start (by decide) ?_
  intro p e s m below meth c C hr hlk B0 hnm
  have C : hp_C Γ p m c cX3_readModulus 2 s ([.ref a0, .ref a1] : List Value).toArray RX3 := C
  have hx := C.1.1
  have hb := C.1.2.1
  have hown := C.1.2.2.2.1
  have hts := C.1.2.2.2.2
  have B : hp_B Γ (cw w_X3_readModulus) s α α s.heap [] := ⟨B0.1, B0.2.1, cw_rf g⟩
  have hl := lv_entry ([.ref a0, .ref a1]) (n := 2) (Nat.le_of_ble_eq_true rfl)
  show W p l e (hp_rm 5 0 0) s m ([.ref a0, .ref a1] : List Value).toArray below meth c s.heap [] 0 0 (MQ below (hp_Qi Γ (fun r β => r = res.1 ∧ β = res.2 ∧ cw w_X3_readModulus α β)) ([.ref a0, .ref a1] : List Value).toArray s 0 0 (hp_A Γ)) (entryFrame m ([.ref a0, .ref a1] : List Value).toArray 2)
  rw [lg_entry_eq]
  generalize (lg_sl ([.ref a0, .ref a1]) ++ List.replicate (2 - (lg_sl ([.ref a0, .ref a1])).length) Slot.unset).toArray = ls at hl ⊢
  have hl : lv_has ls 2 [(0, .ref a0), (1, .ref a1)] := hl
  refine lv_aload_n hx hb dX3_readModulus_0 rfl (lv_at hl 0 rfl) (hp_n (n := 1) rfl ?_)
  refine q_getr (κ := 4) (k := 0) (φ := 200) (pc' := 4) C B (cw_k B.2.2 k0) fl_X3_12 rfl rfl rfl (cw_r B.2.2 k0 rfl rfl (by decide) (by decide)) dX3_readModulus_1 rfl (fun b1 eb1 kb1 => ?_)
  replace hf := ms_lE eb1 hf
  refine va_ldcS hx hb hown (sr_X3_69 C.2) dX3_readModulus_4 (hp_n (n := 6) rfl ?_)
  obtain ⟨rh2, qh2, hf⟩ := ms_bE hf
  refine d_pi (pc' := 9) B (hp_runV (As := [.ref (Γ.2.2.2.2.1 17)]) (rest := []) C B (n_X6_spells n Γ l α B.2.2.1 b1 (cw_k B.2.2 kb1) 17 (by decide) rh2 qh2) lb_X6_spells lv_X6_spells lk_X3_71 (cw_k B.2.2 kb1) rfl (by decide) rfl hl.1 rfl (Nat.le_of_ble_eq_true rfl) dX3_readModulus_6 ⟨Nat.le_refl _, Nat.le_refl _⟩) rfl (fun Hh2 Lh2 Bh2 => ?_)
  refine lv_if_ne (tgt := 14) hx hb dX3_readModulus_9 (by decide) (fun c3 => ?_) (fun c3 => hp_n (n := 12) rfl ?_)
  ·
    replace hf := ms_iF c3 hf
    refine lv_aload_n hx hb dX3_readModulus_14 rfl (lv_at hl 0 rfl) (hp_n (n := 15) rfl ?_)
    refine lv_bipush (v := 101) hx hb dX3_readModulus_15 (by decide) (hp_n (n := 17) rfl ?_)
    refine lv_ldc hx hb hown (hts _ kc_X3_32) dX3_readModulus_17 (hp_n (n := 19) rfl ?_)
    obtain ⟨rh4, αh4, qh4, hf⟩ := hq_cE hf
    refine d_ci (pc' := 22) Bh2 (hp_runV (As := [.int (101 : Int32), .int (65521 : Int32)]) (rest := []) C Bh2 (n_X3_readNumber n Γ l α Bh2.2.2.1 a0 (cw_k Bh2.2.2 k0) (101 : Int32) (65521 : Int32) (rh4, αh4) qh4) lb_X3_readNumber lv_X3_readNumber lk_X3_75 (cw_k Bh2.2.2 k0) rfl (by decide) rfl hl.1 rfl (Nat.le_of_ble_eq_true rfl) dX3_readModulus_19 ⟨Nat.le_refl _, Nat.le_refl _⟩) (by decide) rfl (fun Hh4 Lh4 Bh4 => ?_)
    refine lv_if_eq (tgt := 32) hx hb dX3_readModulus_22 (by decide) (fun c5 => ?_) (fun c5 => hp_n (n := 25) rfl ?_)
    ·
      replace hf := ms_iT c5 hf
      refine lv_iconst (v := 0) hx hb dX3_readModulus_32 (by decide) (hp_n (n := 33) rfl ?_)
      cases hf
      exact q_zret C Bh4 hr hlk (by decide) ⟨rfl, rfl, Bh4.2.2⟩ dX3_readModulus_33
    ·
      replace hf := ms_iF c5 hf
      refine lv_aload_n hx hb dX3_readModulus_25 rfl (lv_at hl 0 rfl) (hp_n (n := 26) rfl ?_)
      obtain ⟨rh6, αh6, qh6, hf⟩ := hq_cE hf
      refine d_ci (pc' := 29) Bh4 (hp_runV (As := []) (rest := []) C Bh4 (n_X3_readSign n Γ l αh4 Bh4.2.2.1 a0 (cw_k Bh4.2.2 k0) (rh6, αh6) qh6) lb_X3_readSign lv_X3_readSign lk_X3_79 (cw_k Bh4.2.2 k0) rfl (by decide) rfl hl.1 rfl (Nat.le_of_ble_eq_true rfl) dX3_readModulus_26 ⟨Nat.le_refl _, Nat.le_refl _⟩) (by decide) rfl (fun Hh6 Lh6 Bh6 => ?_)
      refine lv_if_ne (tgt := 34) hx hb dX3_readModulus_29 (by decide) (fun c7 => ?_) (fun c7 => hp_n (n := 32) rfl ?_)
      ·
        replace hf := ms_iF c7 hf
        refine lv_aload_n hx hb dX3_readModulus_34 rfl (lv_at hl 1 rfl) (hp_n (n := 35) rfl ?_)
        refine lv_aload_n hx hb dX3_readModulus_35 rfl (lv_at hl 0 rfl) (hp_n (n := 36) rfl ?_)
        refine q_geti (κ := 4) (k := 9) (φ := 209) (pc' := 39) C Bh6 (cw_k Bh6.2.2 k0) fl_X3_56 rfl rfl rfl dX3_readModulus_36 rfl (fun x8 ex8 => ?_)
        replace hf := ms_lE ex8 hf
        refine q_puti (κ := 11) (k := 0) (φ := 550) (pc' := 42) C Bh6 (cw_k Bh6.2.2 k1) fl_X3_83 rfl rfl rfl rfl rfl rfl (cw_sI Bh6.2.2 (by decide) (fun h => absurd h (by decide))) dX3_readModulus_39 rfl (fun αh9 Hh9 Lh9 eh9 Bh9 => ?_)
        replace hf := ms_lE eh9 hf
        refine lv_aload_n hx hb dX3_readModulus_42 rfl (lv_at hl 0 rfl) (hp_n (n := 43) rfl ?_)
        refine q_getr (κ := 4) (k := 0) (φ := 200) (pc' := 46) C Bh9 (cw_k Bh9.2.2 k0) fl_X3_12 rfl rfl rfl (cw_r Bh9.2.2 k0 rfl rfl (by decide) (by decide)) dX3_readModulus_43 rfl (fun b10 eb10 kb10 => ?_)
        replace hf := ms_lE eb10 hf
        obtain ⟨αh11, qh11, hf⟩ := ms_bE hf
        refine d_cv (pc' := 49) Bh9 (hp_runV (As := []) (rest := []) C Bh9 (n_X6_advance n Γ l αh9 Bh9.2.2.1 b10 (cw_k Bh9.2.2 kb10) αh11 qh11) lb_X6_advance lv_X6_advance lk_X3_63 (cw_k Bh9.2.2 kb10) rfl (by decide) rfl hl.1 rfl (Nat.le_of_ble_eq_true rfl) dX3_readModulus_46 ⟨Nat.le_refl _, Nat.le_refl _⟩) (by decide) rfl (fun Hh11 Lh11 Bh11 => ?_)
        refine lv_iconst (v := 1) hx hb dX3_readModulus_49 (by decide) (hp_n (n := 50) rfl ?_)
        cases hf
        exact q_zret C Bh11 hr hlk (by decide) ⟨rfl, rfl, Bh11.2.2⟩ dX3_readModulus_50
      ·
        replace hf := ms_iT c7 hf
        refine lv_iconst (v := 0) hx hb dX3_readModulus_32 (by decide) (hp_n (n := 33) rfl ?_)
        cases hf
        exact q_zret C Bh6 hr hlk (by decide) ⟨rfl, rfl, Bh6.2.2⟩ dX3_readModulus_33
  ·
    replace hf := ms_iT c3 hf
    refine lv_iconst (v := 1) hx hb dX3_readModulus_12 (by decide) (hp_n (n := 13) rfl ?_)
    cases hf
    exact q_zret C Bh2 hr hlk (by decide) ⟨rfl, rfl, Bh2.2.2⟩ dX3_readModulus_13
def f_X3_readAdd_J99 (n : Nat) (a0 : Nat) (αh14 : hp_T) : Option (Int32 × hp_T) :=
  some ((1 : Int32), αh14)
def f_X3_readAdd_J81 (n : Nat) (a0 : Nat) (αh11 : hp_T) : Option (Int32 × hp_T) :=
  ms_l (hp_R αh11 200 a0) fun b12 =>
  ms_l (hp_I αh11 353 b12) fun x13 =>
  if x13 = (3 : Int32) then
    f_X3_readAdd_J99 n a0 αh11
  else
    hq_c (f_X3_stray n αh11 a0) fun rh16 αh16 =>
    if rh16 = 0 then
      some ((0 : Int32), αh16)
    else
      f_X3_readAdd_J99 n a0 αh16
def f_X3_readAdd (n : Nat) (α : hp_T) (a0 : Nat) (a1 : Nat) : Option (Int32 × hp_T) :=
  ms_l (hp_sI α 206 a0 (0 : Int32)) fun αh1 =>
  ms_l (hp_I αh1 152 a1) fun x2 =>
  hq_c (f_X3_hasRoom n αh1 a0 x2 (48 : Int32)) fun rh3 αh3 =>
  if rh3 = 0 then
    some ((0 : Int32), αh3)
  else
    ms_l (hp_R αh3 207 a0) fun b5 =>
    ms_b (f_X9_clear n αh3 b5) fun αh6 =>
    ms_l (hp_R αh6 200 a0) fun b7 =>
    ms_b (f_X6_advance n αh6 b7) fun αh8 =>
    ms_l (hp_R αh8 200 a0) fun b9 =>
    ms_l (hp_I αh8 353 b9) fun x10 =>
    if x10 = (1 : Int32) then
      ms_l (hp_R αh8 200 a0) fun b19 =>
      ms_l (hp_I αh8 355 b19) fun x20 =>
      if x20 ≤ (8 : Int32) then
        ms_l (hp_R αh8 200 a0) fun b22 =>
        ms_l (hp_R αh8 207 a0) fun b23 =>
        ms_b (f_X6_copyWord n αh8 b22 b23) fun αh24 =>
        ms_l (hp_R αh24 200 a0) fun b25 =>
        ms_b (f_X6_advance n αh24 b25) fun αh26 =>
        f_X3_readAdd_J81 n a0 αh26
      else
        hq_c (f_X3_fail n αh8 a0 (4 : Int32)) fun rh27 αh27 =>
        ms_z rh27 <|
        some (rh27, αh27)
    else
      f_X3_readAdd_J81 n a0 αh8
set_option maxRecDepth 100000 in
set_option maxHeartbeats 4000000 in
theorem n_X3_readAdd (n : Nat) (Γ : hp_G) (l : Launch) (α : hp_T) (g : GC α) (a0 : Nat) (k0 : hp_K α a0 = 4) (a1 : Nat) (k1 : hp_K α a1 = 3) (res : (Int32 × hp_T)) (hf : f_X3_readAdd n α a0 a1 = some res) : Met l yX3_readAdd (hp_ws yX3_readAdd cX3_readAdd 2 (some .boolean)) (hp_rm 2 0 0) (hp_Pc Γ α [.ref a0, .ref a1]) (hp_Qi Γ (fun r β => r = res.1 ∧ β = res.2 ∧ cw w_X3_readAdd α β)) 0 0 (hp_A Γ) := by
  unfold f_X3_readAdd at hf
  refine hp_start (by decide) ?_
  intro p e s m below meth c C hr hlk B0 hnm
  have C : hp_C Γ p m c cX3_readAdd 2 s ([.ref a0, .ref a1] : List Value).toArray RX3 := C
  have hx := C.1.1
  have hb := C.1.2.1
  have hown := C.1.2.2.2.1
  have hts := C.1.2.2.2.2
  have B : hp_B Γ (cw w_X3_readAdd) s α α s.heap [] := ⟨B0.1, B0.2.1, cw_rf g⟩
  have hl := lv_entry ([.ref a0, .ref a1]) (n := 2) (Nat.le_of_ble_eq_true rfl)
  show W p l e (hp_rm 2 0 0) s m ([.ref a0, .ref a1] : List Value).toArray below meth c s.heap [] 0 0 (MQ below (hp_Qi Γ (fun r β => r = res.1 ∧ β = res.2 ∧ cw w_X3_readAdd α β)) ([.ref a0, .ref a1] : List Value).toArray s 0 0 (hp_A Γ)) (entryFrame m ([.ref a0, .ref a1] : List Value).toArray 2)
  rw [lg_entry_eq]
  generalize (lg_sl ([.ref a0, .ref a1]) ++ List.replicate (2 - (lg_sl ([.ref a0, .ref a1])).length) Slot.unset).toArray = ls at hl ⊢
  have hl : lv_has ls 2 [(0, .ref a0), (1, .ref a1)] := hl
  refine lv_aload_n hx hb dX3_readAdd_0 rfl (lv_at hl 0 rfl) (hp_n (n := 1) rfl ?_)
  refine lv_iconst (v := 0) hx hb dX3_readAdd_1 (by decide) (hp_n (n := 2) rfl ?_)
  refine q_puti (κ := 4) (k := 6) (φ := 206) (pc' := 5) C B (cw_k B.2.2 k0) fl_X3_43 rfl rfl rfl rfl rfl rfl (cw_sI B.2.2 (by decide) (fun h => absurd h (by decide))) dX3_readAdd_2 rfl (fun αh1 Hh1 Lh1 eh1 Bh1 => ?_)
  replace hf := ms_lE eh1 hf
  refine lv_aload_n hx hb dX3_readAdd_5 rfl (lv_at hl 0 rfl) (hp_n (n := 6) rfl ?_)
  refine lv_aload_n hx hb dX3_readAdd_6 rfl (lv_at hl 1 rfl) (hp_n (n := 7) rfl ?_)
  refine q_geti (κ := 3) (k := 2) (φ := 152) (pc' := 10) C Bh1 (cw_k Bh1.2.2 k1) fl_X3_102 rfl rfl rfl dX3_readAdd_7 rfl (fun x2 ex2 => ?_)
  replace hf := ms_lE ex2 hf
  refine lv_bipush (v := 48) hx hb dX3_readAdd_10 (by decide) (hp_n (n := 12) rfl ?_)
  obtain ⟨rh3, αh3, qh3, hf⟩ := hq_cE hf
  refine d_ci (pc' := 15) Bh1 (hp_runV (As := [.int x2, .int (48 : Int32)]) (rest := []) C Bh1 (n_X3_hasRoom n Γ l αh1 Bh1.2.2.1 a0 (cw_k Bh1.2.2 k0) x2 (48 : Int32) (rh3, αh3) qh3) lb_X3_hasRoom lv_X3_hasRoom lk_X3_99 (cw_k Bh1.2.2 k0) rfl (by decide) rfl hl.1 rfl (Nat.le_of_ble_eq_true rfl) dX3_readAdd_12 ⟨Nat.le_refl _, Nat.le_refl _⟩) (by decide) rfl (fun Hh3 Lh3 Bh3 => ?_)
  refine lv_if_ne (tgt := 20) hx hb dX3_readAdd_15 (by decide) (fun c4 => ?_) (fun c4 => hp_n (n := 18) rfl ?_)
  ·
    replace hf := ms_iF c4 hf
    refine lv_aload_n hx hb dX3_readAdd_20 rfl (lv_at hl 0 rfl) (hp_n (n := 21) rfl ?_)
    refine q_getr (κ := 4) (k := 7) (φ := 207) (pc' := 24) C Bh3 (cw_k Bh3.2.2 k0) fl_X3_49 rfl rfl rfl (cw_r Bh3.2.2 k0 rfl rfl (by decide) (by decide)) dX3_readAdd_21 rfl (fun b5 eb5 kb5 => ?_)
    replace hf := ms_lE eb5 hf
    obtain ⟨αh6, qh6, hf⟩ := ms_bE hf
    refine d_cv (pc' := 27) Bh3 (hp_runV (As := []) (rest := []) C Bh3 (n_X9_clear n Γ l αh3 Bh3.2.2.1 b5 (cw_k Bh3.2.2 kb5) αh6 qh6) lb_X9_clear lv_X9_clear lk_X3_141 (cw_k Bh3.2.2 kb5) rfl (by decide) rfl hl.1 rfl (Nat.le_of_ble_eq_true rfl) dX3_readAdd_24 ⟨Nat.le_refl _, Nat.le_refl _⟩) (by decide) rfl (fun Hh6 Lh6 Bh6 => ?_)
    refine lv_aload_n hx hb dX3_readAdd_27 rfl (lv_at hl 0 rfl) (hp_n (n := 28) rfl ?_)
    refine q_getr (κ := 4) (k := 0) (φ := 200) (pc' := 31) C Bh6 (cw_k Bh6.2.2 k0) fl_X3_12 rfl rfl rfl (cw_r Bh6.2.2 k0 rfl rfl (by decide) (by decide)) dX3_readAdd_28 rfl (fun b7 eb7 kb7 => ?_)
    replace hf := ms_lE eb7 hf
    obtain ⟨αh8, qh8, hf⟩ := ms_bE hf
    refine d_cv (pc' := 34) Bh6 (hp_runV (As := []) (rest := []) C Bh6 (n_X6_advance n Γ l αh6 Bh6.2.2.1 b7 (cw_k Bh6.2.2 kb7) αh8 qh8) lb_X6_advance lv_X6_advance lk_X3_63 (cw_k Bh6.2.2 kb7) rfl (by decide) rfl hl.1 rfl (Nat.le_of_ble_eq_true rfl) dX3_readAdd_31 ⟨Nat.le_refl _, Nat.le_refl _⟩) (by decide) rfl (fun Hh8 Lh8 Bh8 => ?_)
    refine lv_aload_n hx hb dX3_readAdd_34 rfl (lv_at hl 0 rfl) (hp_n (n := 35) rfl ?_)
    refine q_getr (κ := 4) (k := 0) (φ := 200) (pc' := 38) C Bh8 (cw_k Bh8.2.2 k0) fl_X3_12 rfl rfl rfl (cw_r Bh8.2.2 k0 rfl rfl (by decide) (by decide)) dX3_readAdd_35 rfl (fun b9 eb9 kb9 => ?_)
    replace hf := ms_lE eb9 hf
    refine q_geti (κ := 7) (k := 3) (φ := 353) (pc' := 41) C Bh8 (cw_k Bh8.2.2 kb9) fl_X3_66 rfl rfl rfl dX3_readAdd_38 rfl (fun x10 ex10 => ?_)
    replace hf := ms_lE ex10 hf
    refine lv_iconst (v := 1) hx hb dX3_readAdd_41 (by decide) (hp_n (n := 42) rfl ?_)
    have J81 : ∀ (αh11 : hp_T) (Hh11 : Heap) (Lh11 : List Loc) (Bh11 : hp_B Γ (cw w_X3_readAdd) s α αh11 Hh11 Lh11) (ls : Array Slot) (hl : lv_has ls 2 [(0, .ref a0)]) (hf : f_X3_readAdd_J81 n a0 αh11 = some res), W p l e (hp_rm 2 0 0) s m ([.ref a0, .ref a1] : List Value).toArray below meth c Hh11 Lh11 0 0 (MQ below (hp_Qi Γ (fun r β => r = res.1 ∧ β = res.2 ∧ cw w_X3_readAdd α β)) ([.ref a0, .ref a1] : List Value).toArray s 0 0 (hp_A Γ)) (F0 m 81 ls []) := by
      intro αh11 Hh11 Lh11 Bh11 ls hl hf
      unfold f_X3_readAdd_J81 at hf
      refine lv_aload_n hx hb dX3_readAdd_81 rfl (lv_at hl 0 rfl) (hp_n (n := 82) rfl ?_)
      refine q_getr (κ := 4) (k := 0) (φ := 200) (pc' := 85) C Bh11 (cw_k Bh11.2.2 k0) fl_X3_12 rfl rfl rfl (cw_r Bh11.2.2 k0 rfl rfl (by decide) (by decide)) dX3_readAdd_82 rfl (fun b12 eb12 kb12 => ?_)
      replace hf := ms_lE eb12 hf
      refine q_geti (κ := 7) (k := 3) (φ := 353) (pc' := 88) C Bh11 (cw_k Bh11.2.2 kb12) fl_X3_66 rfl rfl rfl dX3_readAdd_85 rfl (fun x13 ex13 => ?_)
      replace hf := ms_lE ex13 hf
      refine lv_iconst (v := 3) hx hb dX3_readAdd_88 (by decide) (hp_n (n := 89) rfl ?_)
      have J99 : ∀ (αh14 : hp_T) (Hh14 : Heap) (Lh14 : List Loc) (Bh14 : hp_B Γ (cw w_X3_readAdd) s α αh14 Hh14 Lh14) (ls : Array Slot) (hl : lv_has ls 2 []) (hf : f_X3_readAdd_J99 n a0 αh14 = some res), W p l e (hp_rm 2 0 0) s m ([.ref a0, .ref a1] : List Value).toArray below meth c Hh14 Lh14 0 0 (MQ below (hp_Qi Γ (fun r β => r = res.1 ∧ β = res.2 ∧ cw w_X3_readAdd α β)) ([.ref a0, .ref a1] : List Value).toArray s 0 0 (hp_A Γ)) (F0 m 99 ls []) := by
        intro αh14 Hh14 Lh14 Bh14 ls hl hf
        unfold f_X3_readAdd_J99 at hf
        refine lv_iconst (v := 1) hx hb dX3_readAdd_99 (by decide) (hp_n (n := 100) rfl ?_)
        refine lv_goto (tgt := 104) hx hb dX3_readAdd_100 (by decide) ?_
        cases hf
        exact q_zret C Bh14 hr hlk (by decide) ⟨rfl, rfl, Bh14.2.2⟩ dX3_readAdd_104
      refine lv_icmp_eq (tgt := 99) hx hb dX3_readAdd_89 (by decide) (fun c15 => ?_) (fun c15 => hp_n (n := 92) rfl ?_)
      ·
        replace hf := ms_iT c15 hf
        exact J99 αh11 Hh11 Lh11 Bh11 ls (lv_sub hl [] rfl) hf
      ·
        replace hf := ms_iF c15 hf
        refine lv_aload_n hx hb dX3_readAdd_92 rfl (lv_at hl 0 rfl) (hp_n (n := 93) rfl ?_)
        obtain ⟨rh16, αh16, qh16, hf⟩ := hq_cE hf
        refine d_ci (pc' := 96) Bh11 (hp_runV (As := []) (rest := []) C Bh11 (n_X3_stray n Γ l αh11 Bh11.2.2.1 a0 (cw_k Bh11.2.2 k0) (rh16, αh16) qh16) lb_X3_stray lv_X3_stray lk_X3_117 (cw_k Bh11.2.2 k0) rfl (by decide) rfl hl.1 rfl (Nat.le_of_ble_eq_true rfl) dX3_readAdd_93 ⟨Nat.le_refl _, Nat.le_refl _⟩) (by decide) rfl (fun Hh16 Lh16 Bh16 => ?_)
        refine lv_if_eq (tgt := 103) hx hb dX3_readAdd_96 (by decide) (fun c17 => ?_) (fun c17 => hp_n (n := 99) rfl ?_)
        ·
          replace hf := ms_iT c17 hf
          refine lv_iconst (v := 0) hx hb dX3_readAdd_103 (by decide) (hp_n (n := 104) rfl ?_)
          cases hf
          exact q_zret C Bh16 hr hlk (by decide) ⟨rfl, rfl, Bh16.2.2⟩ dX3_readAdd_104
        ·
          replace hf := ms_iF c17 hf
          exact J99 αh16 Hh16 Lh16 Bh16 ls (lv_sub hl [] rfl) hf
    refine lv_icmp_ne (tgt := 81) hx hb dX3_readAdd_42 (by decide) (fun c18 => ?_) (fun c18 => hp_n (n := 45) rfl ?_)
    ·
      replace hf := ms_iF c18 hf
      exact J81 αh8 Hh8 Lh8 Bh8 ls (lv_sub hl [0] rfl) hf
    ·
      replace hf := ms_iT c18 hf
      refine lv_aload_n hx hb dX3_readAdd_45 rfl (lv_at hl 0 rfl) (hp_n (n := 46) rfl ?_)
      refine q_getr (κ := 4) (k := 0) (φ := 200) (pc' := 49) C Bh8 (cw_k Bh8.2.2 k0) fl_X3_12 rfl rfl rfl (cw_r Bh8.2.2 k0 rfl rfl (by decide) (by decide)) dX3_readAdd_46 rfl (fun b19 eb19 kb19 => ?_)
      replace hf := ms_lE eb19 hf
      refine q_geti (κ := 7) (k := 5) (φ := 355) (pc' := 52) C Bh8 (cw_k Bh8.2.2 kb19) fl_X3_144 rfl rfl rfl dX3_readAdd_49 rfl (fun x20 ex20 => ?_)
      replace hf := ms_lE ex20 hf
      refine lv_bipush (v := 8) hx hb dX3_readAdd_52 (by decide) (hp_n (n := 54) rfl ?_)
      refine lv_icmp_le (tgt := 63) hx hb dX3_readAdd_54 (by decide) (fun c21 => ?_) (fun c21 => hp_n (n := 57) rfl ?_)
      ·
        replace hf := ms_iT c21 hf
        refine lv_aload_n hx hb dX3_readAdd_63 rfl (lv_at hl 0 rfl) (hp_n (n := 64) rfl ?_)
        refine q_getr (κ := 4) (k := 0) (φ := 200) (pc' := 67) C Bh8 (cw_k Bh8.2.2 k0) fl_X3_12 rfl rfl rfl (cw_r Bh8.2.2 k0 rfl rfl (by decide) (by decide)) dX3_readAdd_64 rfl (fun b22 eb22 kb22 => ?_)
        replace hf := ms_lE eb22 hf
        refine lv_aload_n hx hb dX3_readAdd_67 rfl (lv_at hl 0 rfl) (hp_n (n := 68) rfl ?_)
        refine q_getr (κ := 4) (k := 7) (φ := 207) (pc' := 71) C Bh8 (cw_k Bh8.2.2 k0) fl_X3_49 rfl rfl rfl (cw_r Bh8.2.2 k0 rfl rfl (by decide) (by decide)) dX3_readAdd_68 rfl (fun b23 eb23 kb23 => ?_)
        replace hf := ms_lE eb23 hf
        obtain ⟨αh24, qh24, hf⟩ := ms_bE hf
        refine d_cv (pc' := 74) Bh8 (hp_runV (As := [.ref b23]) (rest := []) C Bh8 (n_X6_copyWord n Γ l αh8 Bh8.2.2.1 b22 (cw_k Bh8.2.2 kb22) b23 (cw_k Bh8.2.2 kb23) αh24 qh24) lb_X6_copyWord lv_X6_copyWord lk_X3_149 (cw_k Bh8.2.2 kb22) rfl (by decide) rfl hl.1 rfl (Nat.le_of_ble_eq_true rfl) dX3_readAdd_71 ⟨Nat.le_refl _, Nat.le_refl _⟩) (by decide) rfl (fun Hh24 Lh24 Bh24 => ?_)
        refine lv_aload_n hx hb dX3_readAdd_74 rfl (lv_at hl 0 rfl) (hp_n (n := 75) rfl ?_)
        refine q_getr (κ := 4) (k := 0) (φ := 200) (pc' := 78) C Bh24 (cw_k Bh24.2.2 k0) fl_X3_12 rfl rfl rfl (cw_r Bh24.2.2 k0 rfl rfl (by decide) (by decide)) dX3_readAdd_75 rfl (fun b25 eb25 kb25 => ?_)
        replace hf := ms_lE eb25 hf
        obtain ⟨αh26, qh26, hf⟩ := ms_bE hf
        refine d_cv (pc' := 81) Bh24 (hp_runV (As := []) (rest := []) C Bh24 (n_X6_advance n Γ l αh24 Bh24.2.2.1 b25 (cw_k Bh24.2.2 kb25) αh26 qh26) lb_X6_advance lv_X6_advance lk_X3_63 (cw_k Bh24.2.2 kb25) rfl (by decide) rfl hl.1 rfl (Nat.le_of_ble_eq_true rfl) dX3_readAdd_78 ⟨Nat.le_refl _, Nat.le_refl _⟩) (by decide) rfl (fun Hh26 Lh26 Bh26 => ?_)
        exact J81 αh26 Hh26 Lh26 Bh26 ls (lv_sub hl [0] rfl) hf
      ·
        replace hf := ms_iF c21 hf
        refine lv_aload_n hx hb dX3_readAdd_57 rfl (lv_at hl 0 rfl) (hp_n (n := 58) rfl ?_)
        refine lv_iconst (v := 4) hx hb dX3_readAdd_58 (by decide) (hp_n (n := 59) rfl ?_)
        obtain ⟨rh27, αh27, qh27, hf⟩ := hq_cE hf
        refine d_ci (pc' := 62) Bh8 (hp_runV (As := [.int (4 : Int32)]) (rest := []) C Bh8 (n_X3_fail n Γ l αh8 Bh8.2.2.1 a0 (cw_k Bh8.2.2 k0) (4 : Int32) (rh27, αh27) qh27) lb_X3_fail lv_X3_fail lk_X3_145 (cw_k Bh8.2.2 k0) rfl (by decide) rfl hl.1 rfl (Nat.le_of_ble_eq_true rfl) dX3_readAdd_59 ⟨Nat.le_refl _, Nat.le_refl _⟩) (by decide) rfl (fun Hh27 Lh27 Bh27 => ?_)
        obtain ⟨g28, hf⟩ := ms_zE hf
        cases hf
        exact q_zret C Bh27 hr hlk (nz_z g28) ⟨rfl, rfl, Bh27.2.2⟩ dX3_readAdd_62
  ·
    replace hf := ms_iT c4 hf
    refine lv_iconst (v := 0) hx hb dX3_readAdd_18 (by decide) (hp_n (n := 19) rfl ?_)
    cases hf
    exact q_zret C Bh3 hr hlk (by decide) ⟨rfl, rfl, Bh3.2.2⟩ dX3_readAdd_19
def f_X3_readShow (n : Nat) (α : hp_T) (a0 : Nat) (a1 : Nat) : Option (Int32 × hp_T) :=
  ms_l (hp_sI α 206 a0 (4 : Int32)) fun αh1 =>
  hq_c (f_X3_readNumber n αh1 a0 (0 : Int32) (3 : Int32)) fun rh2 αh2 =>
  if rh2 = 0 then
    some ((0 : Int32), αh2)
  else
    ms_l (hp_I αh2 209 a0) fun x4 =>
    ms_l (hp_sI αh2 208 a0 x4) fun αh5 =>
    ms_l (hp_I αh5 152 a1) fun x6 =>
    hq_c (f_X3_readNumber n αh5 a0 (0 : Int32) x6) fun rh7 αh7 =>
    if rh7 = 0 then
      some ((0 : Int32), αh7)
    else
      hq_c (f_X3_readSign n αh7 a0) fun rh9 αh9 =>
      if rh9 = 0 then
        some ((0 : Int32), αh9)
      else
        some ((1 : Int32), αh9)
set_option maxRecDepth 100000 in
set_option maxHeartbeats 4000000 in
theorem n_X3_readShow (n : Nat) (Γ : hp_G) (l : Launch) (α : hp_T) (g : GC α) (a0 : Nat) (k0 : hp_K α a0 = 4) (a1 : Nat) (k1 : hp_K α a1 = 3) (res : (Int32 × hp_T)) (hf : f_X3_readShow n α a0 a1 = some res) : Met l yX3_readShow (hp_ws yX3_readShow cX3_readShow 2 (some .boolean)) (hp_rm 3 0 0) (hp_Pc Γ α [.ref a0, .ref a1]) (hp_Qi Γ (fun r β => r = res.1 ∧ β = res.2 ∧ cw w_X3_readShow α β)) 0 0 (hp_A Γ) := by
  unfold f_X3_readShow at hf
  refine hp_start (by decide) ?_
  intro p e s m below meth c C hr hlk B0 hnm
  have C : hp_C Γ p m c cX3_readShow 2 s ([.ref a0, .ref a1] : List Value).toArray RX3 := C
  have hx := C.1.1
  have hb := C.1.2.1
  have hown := C.1.2.2.2.1
  have hts := C.1.2.2.2.2
  have B : hp_B Γ (cw w_X3_readShow) s α α s.heap [] := ⟨B0.1, B0.2.1, cw_rf g⟩
  have hl := lv_entry ([.ref a0, .ref a1]) (n := 2) (Nat.le_of_ble_eq_true rfl)
  show W p l e (hp_rm 3 0 0) s m ([.ref a0, .ref a1] : List Value).toArray below meth c s.heap [] 0 0 (MQ below (hp_Qi Γ (fun r β => r = res.1 ∧ β = res.2 ∧ cw w_X3_readShow α β)) ([.ref a0, .ref a1] : List Value).toArray s 0 0 (hp_A Γ)) (entryFrame m ([.ref a0, .ref a1] : List Value).toArray 2)
  rw [lg_entry_eq]
  generalize (lg_sl ([.ref a0, .ref a1]) ++ List.replicate (2 - (lg_sl ([.ref a0, .ref a1])).length) Slot.unset).toArray = ls at hl ⊢
  have hl : lv_has ls 2 [(0, .ref a0), (1, .ref a1)] := hl
  refine lv_aload_n hx hb dX3_readShow_0 rfl (lv_at hl 0 rfl) (hp_n (n := 1) rfl ?_)
  refine lv_iconst (v := 4) hx hb dX3_readShow_1 (by decide) (hp_n (n := 2) rfl ?_)
  refine q_puti (κ := 4) (k := 6) (φ := 206) (pc' := 5) C B (cw_k B.2.2 k0) fl_X3_43 rfl rfl rfl rfl rfl rfl (cw_sI B.2.2 (by decide) (fun h => absurd h (by decide))) dX3_readShow_2 rfl (fun αh1 Hh1 Lh1 eh1 Bh1 => ?_)
  replace hf := ms_lE eh1 hf
  refine lv_aload_n hx hb dX3_readShow_5 rfl (lv_at hl 0 rfl) (hp_n (n := 6) rfl ?_)
  refine lv_iconst (v := 0) hx hb dX3_readShow_6 (by decide) (hp_n (n := 7) rfl ?_)
  refine lv_iconst (v := 3) hx hb dX3_readShow_7 (by decide) (hp_n (n := 8) rfl ?_)
  obtain ⟨rh2, αh2, qh2, hf⟩ := hq_cE hf
  refine d_ci (pc' := 11) Bh1 (hp_runV (As := [.int (0 : Int32), .int (3 : Int32)]) (rest := []) C Bh1 (n_X3_readNumber n Γ l αh1 Bh1.2.2.1 a0 (cw_k Bh1.2.2 k0) (0 : Int32) (3 : Int32) (rh2, αh2) qh2) lb_X3_readNumber lv_X3_readNumber lk_X3_75 (cw_k Bh1.2.2 k0) rfl (by decide) rfl hl.1 rfl (Nat.le_of_ble_eq_true rfl) dX3_readShow_8 ⟨Nat.le_refl _, Nat.le_refl _⟩) (by decide) rfl (fun Hh2 Lh2 Bh2 => ?_)
  refine lv_if_ne (tgt := 16) hx hb dX3_readShow_11 (by decide) (fun c3 => ?_) (fun c3 => hp_n (n := 14) rfl ?_)
  ·
    replace hf := ms_iF c3 hf
    refine lv_aload_n hx hb dX3_readShow_16 rfl (lv_at hl 0 rfl) (hp_n (n := 17) rfl ?_)
    refine lv_aload_n hx hb dX3_readShow_17 rfl (lv_at hl 0 rfl) (hp_n (n := 18) rfl ?_)
    refine q_geti (κ := 4) (k := 9) (φ := 209) (pc' := 21) C Bh2 (cw_k Bh2.2.2 k0) fl_X3_56 rfl rfl rfl dX3_readShow_18 rfl (fun x4 ex4 => ?_)
    replace hf := ms_lE ex4 hf
    refine q_puti (κ := 4) (k := 8) (φ := 208) (pc' := 24) C Bh2 (cw_k Bh2.2.2 k0) fl_X3_53 rfl rfl rfl rfl rfl rfl (cw_sI Bh2.2.2 (by decide) (fun h => absurd h (by decide))) dX3_readShow_21 rfl (fun αh5 Hh5 Lh5 eh5 Bh5 => ?_)
    replace hf := ms_lE eh5 hf
    refine lv_aload_n hx hb dX3_readShow_24 rfl (lv_at hl 0 rfl) (hp_n (n := 25) rfl ?_)
    refine lv_iconst (v := 0) hx hb dX3_readShow_25 (by decide) (hp_n (n := 26) rfl ?_)
    refine lv_aload_n hx hb dX3_readShow_26 rfl (lv_at hl 1 rfl) (hp_n (n := 27) rfl ?_)
    refine q_geti (κ := 3) (k := 2) (φ := 152) (pc' := 30) C Bh5 (cw_k Bh5.2.2 k1) fl_X3_102 rfl rfl rfl dX3_readShow_27 rfl (fun x6 ex6 => ?_)
    replace hf := ms_lE ex6 hf
    obtain ⟨rh7, αh7, qh7, hf⟩ := hq_cE hf
    refine d_ci (pc' := 33) Bh5 (hp_runV (As := [.int (0 : Int32), .int x6]) (rest := []) C Bh5 (n_X3_readNumber n Γ l αh5 Bh5.2.2.1 a0 (cw_k Bh5.2.2 k0) (0 : Int32) x6 (rh7, αh7) qh7) lb_X3_readNumber lv_X3_readNumber lk_X3_75 (cw_k Bh5.2.2 k0) rfl (by decide) rfl hl.1 rfl (Nat.le_of_ble_eq_true rfl) dX3_readShow_30 ⟨Nat.le_refl _, Nat.le_refl _⟩) (by decide) rfl (fun Hh7 Lh7 Bh7 => ?_)
    refine lv_if_eq (tgt := 47) hx hb dX3_readShow_33 (by decide) (fun c8 => ?_) (fun c8 => hp_n (n := 36) rfl ?_)
    ·
      replace hf := ms_iT c8 hf
      refine lv_iconst (v := 0) hx hb dX3_readShow_47 (by decide) (hp_n (n := 48) rfl ?_)
      cases hf
      exact q_zret C Bh7 hr hlk (by decide) ⟨rfl, rfl, Bh7.2.2⟩ dX3_readShow_48
    ·
      replace hf := ms_iF c8 hf
      refine lv_aload_n hx hb dX3_readShow_36 rfl (lv_at hl 0 rfl) (hp_n (n := 37) rfl ?_)
      obtain ⟨rh9, αh9, qh9, hf⟩ := hq_cE hf
      refine d_ci (pc' := 40) Bh7 (hp_runV (As := []) (rest := []) C Bh7 (n_X3_readSign n Γ l αh7 Bh7.2.2.1 a0 (cw_k Bh7.2.2 k0) (rh9, αh9) qh9) lb_X3_readSign lv_X3_readSign lk_X3_79 (cw_k Bh7.2.2 k0) rfl (by decide) rfl hl.1 rfl (Nat.le_of_ble_eq_true rfl) dX3_readShow_37 ⟨Nat.le_refl _, Nat.le_refl _⟩) (by decide) rfl (fun Hh9 Lh9 Bh9 => ?_)
      refine lv_if_eq (tgt := 47) hx hb dX3_readShow_40 (by decide) (fun c10 => ?_) (fun c10 => hp_n (n := 43) rfl ?_)
      ·
        replace hf := ms_iT c10 hf
        refine lv_iconst (v := 0) hx hb dX3_readShow_47 (by decide) (hp_n (n := 48) rfl ?_)
        cases hf
        exact q_zret C Bh9 hr hlk (by decide) ⟨rfl, rfl, Bh9.2.2⟩ dX3_readShow_48
      ·
        replace hf := ms_iF c10 hf
        refine lv_iconst (v := 1) hx hb dX3_readShow_43 (by decide) (hp_n (n := 44) rfl ?_)
        refine lv_goto (tgt := 48) hx hb dX3_readShow_44 (by decide) ?_
        cases hf
        exact q_zret C Bh9 hr hlk (by decide) ⟨rfl, rfl, Bh9.2.2⟩ dX3_readShow_48
  ·
    replace hf := ms_iT c3 hf
    refine lv_iconst (v := 0) hx hb dX3_readShow_14 (by decide) (hp_n (n := 15) rfl ?_)
    cases hf
    exact q_zret C Bh2 hr hlk (by decide) ⟨rfl, rfl, Bh2.2.2⟩ dX3_readShow_15
def f_X3_readLine_J197 (n : Nat) (a0 : Nat) (αh3 : hp_T) (v3_h3 : Int32) : Option (Int32 × hp_T) :=
  if v3_h3 = 0 then
    ms_z v3_h3 <|
    some (v3_h3, αh3)
  else
    ms_l (hp_R αh3 200 a0) fun b6 =>
    ms_b (f_X6_advance n αh3 b6) fun αh7 =>
    ms_z v3_h3 <|
    some (v3_h3, αh7)
def f_X3_readLine_J167 (n : Nat) (a0 : Nat) (αh27 : hp_T) (w0_h27 : Int32) : Option (Int32 × hp_T) :=
  f_X3_readLine_J197 n a0 αh27 w0_h27
def f_X3_readLine_J166 (n : Nat) (a0 : Nat) (αh28 : hp_T) : Option (Int32 × hp_T) :=
  f_X3_readLine_J167 n a0 αh28 (0 : Int32)
def f_X3_readLine_J121 (n : Nat) (a0 : Nat) (αh35 : hp_T) (w0_h35 : Int32) : Option (Int32 × hp_T) :=
  f_X3_readLine_J197 n a0 αh35 w0_h35
def f_X3_readLine_J120 (n : Nat) (a0 : Nat) (αh36 : hp_T) : Option (Int32 × hp_T) :=
  f_X3_readLine_J121 n a0 αh36 (0 : Int32)
def f_X3_readLine_J64 (n : Nat) (a0 : Nat) (αh46 : hp_T) (w0_h46 : Int32) : Option (Int32 × hp_T) :=
  f_X3_readLine_J197 n a0 αh46 w0_h46
def f_X3_readLine_J63 (n : Nat) (a0 : Nat) (αh47 : hp_T) : Option (Int32 × hp_T) :=
  f_X3_readLine_J64 n a0 αh47 (0 : Int32)
def f_X3_readLine (n : Nat) (α : hp_T) (a0 : Nat) (a1 : Nat) (a2 : Nat) : Option (Int32 × hp_T) :=
  ms_l (hp_R α 200 a0) fun b1 =>
  ms_b (f_X6_spells n α b1 7) fun rh2 =>
  if rh2 = 0 then
    ms_l (hp_R α 200 a0) fun b10 =>
    ms_b (f_X6_spells n α b10 20) fun rh11 =>
    if rh11 = 0 then
      ms_l (hp_R α 200 a0) fun b13 =>
      ms_b (f_X6_spells n α b13 9) fun rh14 =>
      if rh14 = 0 then
        ms_l (hp_R α 200 a0) fun b16 =>
        ms_b (f_X6_spells n α b16 10) fun rh17 =>
        if rh17 = 0 then
          ms_l (hp_R α 200 a0) fun b19 =>
          ms_b (f_X6_spells n α b19 19) fun rh20 =>
          if rh20 = 0 then
            hq_c (f_X3_stray n α a0) fun rh22 αh22 =>
            f_X3_readLine_J197 n a0 αh22 rh22
          else
            hq_c (f_X3_readShow n α a0 a2) fun rh23 αh23 =>
            f_X3_readLine_J197 n a0 αh23 rh23
        else
          ms_l (hp_sI α 206 a0 (3 : Int32)) fun αh24 =>
          ms_l (hp_I αh24 554 a1) fun x25 =>
          hq_c (f_X3_hasRoom n αh24 a0 x25 (16 : Int32)) fun rh26 αh26 =>
          if rh26 = 0 then
            f_X3_readLine_J166 n a0 αh26
          else
            hq_c (f_X3_readSign n αh26 a0) fun rh30 αh30 =>
            if rh30 = 0 then
              f_X3_readLine_J166 n a0 αh30
            else
              f_X3_readLine_J167 n a0 αh30 (1 : Int32)
      else
        ms_l (hp_sI α 206 a0 (2 : Int32)) fun αh32 =>
        ms_l (hp_I αh32 552 a1) fun x33 =>
        hq_c (f_X3_hasRoom n αh32 a0 x33 (4 : Int32)) fun rh34 αh34 =>
        if rh34 = 0 then
          f_X3_readLine_J120 n a0 αh34
        else
          ms_l (hp_I αh34 152 a2) fun x38 =>
          hq_c (f_X3_readNumber n αh34 a0 (0 : Int32) x38) fun rh39 αh39 =>
          if rh39 = 0 then
            f_X3_readLine_J120 n a0 αh39
          else
            hq_c (f_X3_readSign n αh39 a0) fun rh41 αh41 =>
            if rh41 = 0 then
              f_X3_readLine_J120 n a0 αh41
            else
              f_X3_readLine_J121 n a0 αh41 (1 : Int32)
    else
      ms_l (hp_sI α 206 a0 (1 : Int32)) fun αh43 =>
      ms_l (hp_I αh43 552 a1) fun x44 =>
      hq_c (f_X3_readNumber n αh43 a0 (0 : Int32) (x44 - (1 : Int32))) fun rh45 αh45 =>
      if rh45 = 0 then
        f_X3_readLine_J63 n a0 αh45
      else
        hq_c (f_X3_readSign n αh45 a0) fun rh49 αh49 =>
        if rh49 = 0 then
          f_X3_readLine_J63 n a0 αh49
        else
          f_X3_readLine_J64 n a0 αh49 (1 : Int32)
  else
    hq_c (f_X3_readAdd n α a0 a2) fun rh51 αh51 =>
    f_X3_readLine_J197 n a0 αh51 rh51
set_option maxRecDepth 100000 in
set_option maxHeartbeats 4000000 in
theorem n_X3_readLine (n : Nat) (Γ : hp_G) (l : Launch) (α : hp_T) (g : GC α) (a0 : Nat) (k0 : hp_K α a0 = 4) (a1 : Nat) (k1 : hp_K α a1 = 11) (a2 : Nat) (k2 : hp_K α a2 = 3) (res : (Int32 × hp_T)) (hf : f_X3_readLine n α a0 a1 a2 = some res) : Met l yX3_readLine (hp_ws yX3_readLine cX3_readLine 4 (some .boolean)) (hp_rm 5 0 0) (hp_Pc Γ α [.ref a0, .ref a1, .ref a2]) (hp_Qi Γ (fun r β => r = res.1 ∧ β = res.2 ∧ cw w_X3_readLine α β)) 0 0 (hp_A Γ) := by
  unfold f_X3_readLine at hf
  refine hp_start (by decide) ?_
  intro p e s m below meth c C hr hlk B0 hnm
  have C : hp_C Γ p m c cX3_readLine 4 s ([.ref a0, .ref a1, .ref a2] : List Value).toArray RX3 := C
  have hx := C.1.1
  have hb := C.1.2.1
  have hown := C.1.2.2.2.1
  have hts := C.1.2.2.2.2
  have B : hp_B Γ (cw w_X3_readLine) s α α s.heap [] := ⟨B0.1, B0.2.1, cw_rf g⟩
  have hl := lv_entry ([.ref a0, .ref a1, .ref a2]) (n := 4) (Nat.le_of_ble_eq_true rfl)
  show W p l e (hp_rm 5 0 0) s m ([.ref a0, .ref a1, .ref a2] : List Value).toArray below meth c s.heap [] 0 0 (MQ below (hp_Qi Γ (fun r β => r = res.1 ∧ β = res.2 ∧ cw w_X3_readLine α β)) ([.ref a0, .ref a1, .ref a2] : List Value).toArray s 0 0 (hp_A Γ)) (entryFrame m ([.ref a0, .ref a1, .ref a2] : List Value).toArray 4)
  rw [lg_entry_eq]
  generalize (lg_sl ([.ref a0, .ref a1, .ref a2]) ++ List.replicate (4 - (lg_sl ([.ref a0, .ref a1, .ref a2])).length) Slot.unset).toArray = ls at hl ⊢
  have hl : lv_has ls 4 [(0, .ref a0), (1, .ref a1), (2, .ref a2)] := hl
  refine lv_aload_n hx hb dX3_readLine_0 rfl (lv_at hl 0 rfl) (hp_n (n := 1) rfl ?_)
  refine q_getr (κ := 4) (k := 0) (φ := 200) (pc' := 4) C B (cw_k B.2.2 k0) fl_X3_12 rfl rfl rfl (cw_r B.2.2 k0 rfl rfl (by decide) (by decide)) dX3_readLine_1 rfl (fun b1 eb1 kb1 => ?_)
  replace hf := ms_lE eb1 hf
  refine va_ldcS hx hb hown (sr_X3_86 C.2) dX3_readLine_4 (hp_n (n := 6) rfl ?_)
  obtain ⟨rh2, qh2, hf⟩ := ms_bE hf
  refine d_pi (pc' := 9) B (hp_runV (As := [.ref (Γ.2.2.2.2.1 7)]) (rest := []) C B (n_X6_spells n Γ l α B.2.2.1 b1 (cw_k B.2.2 kb1) 7 (by decide) rh2 qh2) lb_X6_spells lv_X6_spells lk_X3_71 (cw_k B.2.2 kb1) rfl (by decide) rfl hl.1 rfl (Nat.le_of_ble_eq_true rfl) dX3_readLine_6 ⟨Nat.le_refl _, Nat.le_refl _⟩) rfl (fun Hh2 Lh2 Bh2 => ?_)
  have J197 : ∀ (αh3 : hp_T) (Hh3 : Heap) (Lh3 : List Loc) (Bh3 : hp_B Γ (cw w_X3_readLine) s α αh3 Hh3 Lh3) (v3_h3 : Int32) (ls : Array Slot) (hl : lv_has ls 4 [(0, .ref a0), (3, .int v3_h3)]) (hf : f_X3_readLine_J197 n a0 αh3 v3_h3 = some res), W p l e (hp_rm 5 0 0) s m ([.ref a0, .ref a1, .ref a2] : List Value).toArray below meth c Hh3 Lh3 0 0 (MQ below (hp_Qi Γ (fun r β => r = res.1 ∧ β = res.2 ∧ cw w_X3_readLine α β)) ([.ref a0, .ref a1, .ref a2] : List Value).toArray s 0 0 (hp_A Γ)) (F0 m 197 ls []) := by
    intro αh3 Hh3 Lh3 Bh3 v3_h3 ls hl hf
    unfold f_X3_readLine_J197 at hf
    refine lv_iload_n hx hb dX3_readLine_197 rfl (lv_at hl 1 rfl) (hp_n (n := 198) rfl ?_)
    refine lv_if_eq (tgt := 208) hx hb dX3_readLine_198 (by decide) (fun c4 => ?_) (fun c4 => hp_n (n := 201) rfl ?_)
    ·
      replace hf := ms_iT c4 hf
      refine lv_iload_n hx hb dX3_readLine_208 rfl (lv_at hl 1 rfl) (hp_n (n := 209) rfl ?_)
      obtain ⟨g5, hf⟩ := ms_zE hf
      cases hf
      exact q_zret C Bh3 hr hlk (nz_z g5) ⟨rfl, rfl, Bh3.2.2⟩ dX3_readLine_209
    ·
      replace hf := ms_iF c4 hf
      refine lv_aload_n hx hb dX3_readLine_201 rfl (lv_at hl 0 rfl) (hp_n (n := 202) rfl ?_)
      refine q_getr (κ := 4) (k := 0) (φ := 200) (pc' := 205) C Bh3 (cw_k Bh3.2.2 k0) fl_X3_12 rfl rfl rfl (cw_r Bh3.2.2 k0 rfl rfl (by decide) (by decide)) dX3_readLine_202 rfl (fun b6 eb6 kb6 => ?_)
      replace hf := ms_lE eb6 hf
      obtain ⟨αh7, qh7, hf⟩ := ms_bE hf
      refine d_cv (pc' := 208) Bh3 (hp_runV (As := []) (rest := []) C Bh3 (n_X6_advance n Γ l αh3 Bh3.2.2.1 b6 (cw_k Bh3.2.2 kb6) αh7 qh7) lb_X6_advance lv_X6_advance lk_X3_63 (cw_k Bh3.2.2 kb6) rfl (by decide) rfl hl.1 rfl (Nat.le_of_ble_eq_true rfl) dX3_readLine_205 ⟨Nat.le_refl _, Nat.le_refl _⟩) (by decide) rfl (fun Hh7 Lh7 Bh7 => ?_)
      refine lv_iload_n hx hb dX3_readLine_208 rfl (lv_at hl 1 rfl) (hp_n (n := 209) rfl ?_)
      obtain ⟨g8, hf⟩ := ms_zE hf
      cases hf
      exact q_zret C Bh7 hr hlk (nz_z g8) ⟨rfl, rfl, Bh7.2.2⟩ dX3_readLine_209
  refine lv_if_eq (tgt := 21) hx hb dX3_readLine_9 (by decide) (fun c9 => ?_) (fun c9 => hp_n (n := 12) rfl ?_)
  ·
    replace hf := ms_iT c9 hf
    refine lv_aload_n hx hb dX3_readLine_21 rfl (lv_at hl 0 rfl) (hp_n (n := 22) rfl ?_)
    refine q_getr (κ := 4) (k := 0) (φ := 200) (pc' := 25) C Bh2 (cw_k Bh2.2.2 k0) fl_X3_12 rfl rfl rfl (cw_r Bh2.2.2 k0 rfl rfl (by decide) (by decide)) dX3_readLine_22 rfl (fun b10 eb10 kb10 => ?_)
    replace hf := ms_lE eb10 hf
    refine va_ldcS hx hb hown (sr_X3_92 C.2) dX3_readLine_25 (hp_n (n := 27) rfl ?_)
    obtain ⟨rh11, qh11, hf⟩ := ms_bE hf
    refine d_pi (pc' := 30) Bh2 (hp_runV (As := [.ref (Γ.2.2.2.2.1 20)]) (rest := []) C Bh2 (n_X6_spells n Γ l α Bh2.2.2.1 b10 (cw_k Bh2.2.2 kb10) 20 (by decide) rh11 qh11) lb_X6_spells lv_X6_spells lk_X3_71 (cw_k Bh2.2.2 kb10) rfl (by decide) rfl hl.1 rfl (Nat.le_of_ble_eq_true rfl) dX3_readLine_27 ⟨Nat.le_refl _, Nat.le_refl _⟩) rfl (fun Hh11 Lh11 Bh11 => ?_)
    refine lv_if_eq (tgt := 68) hx hb dX3_readLine_30 (by decide) (fun c12 => ?_) (fun c12 => hp_n (n := 33) rfl ?_)
    ·
      replace hf := ms_iT c12 hf
      refine lv_aload_n hx hb dX3_readLine_68 rfl (lv_at hl 0 rfl) (hp_n (n := 69) rfl ?_)
      refine q_getr (κ := 4) (k := 0) (φ := 200) (pc' := 72) C Bh11 (cw_k Bh11.2.2 k0) fl_X3_12 rfl rfl rfl (cw_r Bh11.2.2 k0 rfl rfl (by decide) (by decide)) dX3_readLine_69 rfl (fun b13 eb13 kb13 => ?_)
      replace hf := ms_lE eb13 hf
      refine va_ldcS hx hb hown (sr_X3_97 C.2) dX3_readLine_72 (hp_n (n := 74) rfl ?_)
      obtain ⟨rh14, qh14, hf⟩ := ms_bE hf
      refine d_pi (pc' := 77) Bh11 (hp_runV (As := [.ref (Γ.2.2.2.2.1 9)]) (rest := []) C Bh11 (n_X6_spells n Γ l α Bh11.2.2.1 b13 (cw_k Bh11.2.2 kb13) 9 (by decide) rh14 qh14) lb_X6_spells lv_X6_spells lk_X3_71 (cw_k Bh11.2.2 kb13) rfl (by decide) rfl hl.1 rfl (Nat.le_of_ble_eq_true rfl) dX3_readLine_74 ⟨Nat.le_refl _, Nat.le_refl _⟩) rfl (fun Hh14 Lh14 Bh14 => ?_)
      refine lv_if_eq (tgt := 125) hx hb dX3_readLine_77 (by decide) (fun c15 => ?_) (fun c15 => hp_n (n := 80) rfl ?_)
      ·
        replace hf := ms_iT c15 hf
        refine lv_aload_n hx hb dX3_readLine_125 rfl (lv_at hl 0 rfl) (hp_n (n := 126) rfl ?_)
        refine q_getr (κ := 4) (k := 0) (φ := 200) (pc' := 129) C Bh14 (cw_k Bh14.2.2 k0) fl_X3_12 rfl rfl rfl (cw_r Bh14.2.2 k0 rfl rfl (by decide) (by decide)) dX3_readLine_126 rfl (fun b16 eb16 kb16 => ?_)
        replace hf := ms_lE eb16 hf
        refine va_ldcS hx hb hown (sr_X3_107 C.2) dX3_readLine_129 (hp_n (n := 131) rfl ?_)
        obtain ⟨rh17, qh17, hf⟩ := ms_bE hf
        refine d_pi (pc' := 134) Bh14 (hp_runV (As := [.ref (Γ.2.2.2.2.1 10)]) (rest := []) C Bh14 (n_X6_spells n Γ l α Bh14.2.2.1 b16 (cw_k Bh14.2.2 kb16) 10 (by decide) rh17 qh17) lb_X6_spells lv_X6_spells lk_X3_71 (cw_k Bh14.2.2 kb16) rfl (by decide) rfl hl.1 rfl (Nat.le_of_ble_eq_true rfl) dX3_readLine_131 ⟨Nat.le_refl _, Nat.le_refl _⟩) rfl (fun Hh17 Lh17 Bh17 => ?_)
        refine lv_if_eq (tgt := 171) hx hb dX3_readLine_134 (by decide) (fun c18 => ?_) (fun c18 => hp_n (n := 137) rfl ?_)
        ·
          replace hf := ms_iT c18 hf
          refine lv_aload_n hx hb dX3_readLine_171 rfl (lv_at hl 0 rfl) (hp_n (n := 172) rfl ?_)
          refine q_getr (κ := 4) (k := 0) (φ := 200) (pc' := 175) C Bh17 (cw_k Bh17.2.2 k0) fl_X3_12 rfl rfl rfl (cw_r Bh17.2.2 k0 rfl rfl (by decide) (by decide)) dX3_readLine_172 rfl (fun b19 eb19 kb19 => ?_)
          replace hf := ms_lE eb19 hf
          refine va_ldcS hx hb hown (sr_X3_112 C.2) dX3_readLine_175 (hp_n (n := 177) rfl ?_)
          obtain ⟨rh20, qh20, hf⟩ := ms_bE hf
          refine d_pi (pc' := 180) Bh17 (hp_runV (As := [.ref (Γ.2.2.2.2.1 19)]) (rest := []) C Bh17 (n_X6_spells n Γ l α Bh17.2.2.1 b19 (cw_k Bh17.2.2 kb19) 19 (by decide) rh20 qh20) lb_X6_spells lv_X6_spells lk_X3_71 (cw_k Bh17.2.2 kb19) rfl (by decide) rfl hl.1 rfl (Nat.le_of_ble_eq_true rfl) dX3_readLine_177 ⟨Nat.le_refl _, Nat.le_refl _⟩) rfl (fun Hh20 Lh20 Bh20 => ?_)
          refine lv_if_eq (tgt := 192) hx hb dX3_readLine_180 (by decide) (fun c21 => ?_) (fun c21 => hp_n (n := 183) rfl ?_)
          ·
            replace hf := ms_iT c21 hf
            refine lv_aload_n hx hb dX3_readLine_192 rfl (lv_at hl 0 rfl) (hp_n (n := 193) rfl ?_)
            obtain ⟨rh22, αh22, qh22, hf⟩ := hq_cE hf
            refine d_ci (pc' := 196) Bh20 (hp_runV (As := []) (rest := []) C Bh20 (n_X3_stray n Γ l α Bh20.2.2.1 a0 (cw_k Bh20.2.2 k0) (rh22, αh22) qh22) lb_X3_stray lv_X3_stray lk_X3_117 (cw_k Bh20.2.2 k0) rfl (by decide) rfl hl.1 rfl (Nat.le_of_ble_eq_true rfl) dX3_readLine_193 ⟨Nat.le_refl _, Nat.le_refl _⟩) (by decide) rfl (fun Hh22 Lh22 Bh22 => ?_)
            refine lv_istore_n (lv' := [(3, .int rh22), (0, .ref a0), (1, .ref a1), (2, .ref a2)]) hx hb dX3_readLine_196 rfl hl (by decide) rfl (fun ls hl => hp_n (n := 197) rfl ?_)
            exact J197 αh22 Hh22 Lh22 Bh22 rh22 ls (lv_sub hl [1, 0] rfl) hf
          ·
            replace hf := ms_iF c21 hf
            refine lv_aload_n hx hb dX3_readLine_183 rfl (lv_at hl 0 rfl) (hp_n (n := 184) rfl ?_)
            refine lv_aload_n hx hb dX3_readLine_184 rfl (lv_at hl 2 rfl) (hp_n (n := 185) rfl ?_)
            obtain ⟨rh23, αh23, qh23, hf⟩ := hq_cE hf
            refine d_ci (pc' := 188) Bh20 (hp_runV (As := [.ref a2]) (rest := []) C Bh20 (n_X3_readShow n Γ l α Bh20.2.2.1 a0 (cw_k Bh20.2.2 k0) a2 (cw_k Bh20.2.2 k2) (rh23, αh23) qh23) lb_X3_readShow lv_X3_readShow lk_X3_114 (cw_k Bh20.2.2 k0) rfl (by decide) rfl hl.1 rfl (Nat.le_of_ble_eq_true rfl) dX3_readLine_185 ⟨Nat.le_refl _, Nat.le_refl _⟩) (by decide) rfl (fun Hh23 Lh23 Bh23 => ?_)
            refine lv_istore_n (lv' := [(3, .int rh23), (0, .ref a0), (1, .ref a1), (2, .ref a2)]) hx hb dX3_readLine_188 rfl hl (by decide) rfl (fun ls hl => hp_n (n := 189) rfl ?_)
            refine lv_goto (tgt := 197) hx hb dX3_readLine_189 (by decide) ?_
            exact J197 αh23 Hh23 Lh23 Bh23 rh23 ls (lv_sub hl [1, 0] rfl) hf
        ·
          replace hf := ms_iF c18 hf
          refine lv_aload_n hx hb dX3_readLine_137 rfl (lv_at hl 0 rfl) (hp_n (n := 138) rfl ?_)
          refine lv_iconst (v := 3) hx hb dX3_readLine_138 (by decide) (hp_n (n := 139) rfl ?_)
          refine q_puti (κ := 4) (k := 6) (φ := 206) (pc' := 142) C Bh17 (cw_k Bh17.2.2 k0) fl_X3_43 rfl rfl rfl rfl rfl rfl (cw_sI Bh17.2.2 (by decide) (fun h => absurd h (by decide))) dX3_readLine_139 rfl (fun αh24 Hh24 Lh24 eh24 Bh24 => ?_)
          replace hf := ms_lE eh24 hf
          refine lv_aload_n hx hb dX3_readLine_142 rfl (lv_at hl 0 rfl) (hp_n (n := 143) rfl ?_)
          refine lv_aload_n hx hb dX3_readLine_143 rfl (lv_at hl 1 rfl) (hp_n (n := 144) rfl ?_)
          refine q_geti (κ := 11) (k := 4) (φ := 554) (pc' := 147) C Bh24 (cw_k Bh24.2.2 k1) fl_X3_109 rfl rfl rfl dX3_readLine_144 rfl (fun x25 ex25 => ?_)
          replace hf := ms_lE ex25 hf
          refine lv_bipush (v := 16) hx hb dX3_readLine_147 (by decide) (hp_n (n := 149) rfl ?_)
          obtain ⟨rh26, αh26, qh26, hf⟩ := hq_cE hf
          refine d_ci (pc' := 152) Bh24 (hp_runV (As := [.int x25, .int (16 : Int32)]) (rest := []) C Bh24 (n_X3_hasRoom n Γ l αh24 Bh24.2.2.1 a0 (cw_k Bh24.2.2 k0) x25 (16 : Int32) (rh26, αh26) qh26) lb_X3_hasRoom lv_X3_hasRoom lk_X3_99 (cw_k Bh24.2.2 k0) rfl (by decide) rfl hl.1 rfl (Nat.le_of_ble_eq_true rfl) dX3_readLine_149 ⟨Nat.le_refl _, Nat.le_refl _⟩) (by decide) rfl (fun Hh26 Lh26 Bh26 => ?_)
          have J167 : ∀ (αh27 : hp_T) (Hh27 : Heap) (Lh27 : List Loc) (Bh27 : hp_B Γ (cw w_X3_readLine) s α αh27 Hh27 Lh27) (w0_h27 : Int32) (ls : Array Slot) (hl : lv_has ls 4 [(0, .ref a0)]) (hf : f_X3_readLine_J167 n a0 αh27 w0_h27 = some res), W p l e (hp_rm 5 0 0) s m ([.ref a0, .ref a1, .ref a2] : List Value).toArray below meth c Hh27 Lh27 0 0 (MQ below (hp_Qi Γ (fun r β => r = res.1 ∧ β = res.2 ∧ cw w_X3_readLine α β)) ([.ref a0, .ref a1, .ref a2] : List Value).toArray s 0 0 (hp_A Γ)) (F0 m 167 ls [.int w0_h27]) := by
            intro αh27 Hh27 Lh27 Bh27 w0_h27 ls hl hf
            unfold f_X3_readLine_J167 at hf
            refine lv_istore_n (lv' := [(3, .int w0_h27), (0, .ref a0)]) hx hb dX3_readLine_167 rfl hl (by decide) rfl (fun ls hl => hp_n (n := 168) rfl ?_)
            refine lv_goto (tgt := 197) hx hb dX3_readLine_168 (by decide) ?_
            exact J197 αh27 Hh27 Lh27 Bh27 w0_h27 ls (lv_sub hl [1, 0] rfl) hf
          have J166 : ∀ (αh28 : hp_T) (Hh28 : Heap) (Lh28 : List Loc) (Bh28 : hp_B Γ (cw w_X3_readLine) s α αh28 Hh28 Lh28) (ls : Array Slot) (hl : lv_has ls 4 [(0, .ref a0)]) (hf : f_X3_readLine_J166 n a0 αh28 = some res), W p l e (hp_rm 5 0 0) s m ([.ref a0, .ref a1, .ref a2] : List Value).toArray below meth c Hh28 Lh28 0 0 (MQ below (hp_Qi Γ (fun r β => r = res.1 ∧ β = res.2 ∧ cw w_X3_readLine α β)) ([.ref a0, .ref a1, .ref a2] : List Value).toArray s 0 0 (hp_A Γ)) (F0 m 166 ls []) := by
            intro αh28 Hh28 Lh28 Bh28 ls hl hf
            unfold f_X3_readLine_J166 at hf
            refine lv_iconst (v := 0) hx hb dX3_readLine_166 (by decide) (hp_n (n := 167) rfl ?_)
            exact J167 αh28 Hh28 Lh28 Bh28 (0 : Int32) ls (lv_sub hl [0] rfl) hf
          refine lv_if_eq (tgt := 166) hx hb dX3_readLine_152 (by decide) (fun c29 => ?_) (fun c29 => hp_n (n := 155) rfl ?_)
          ·
            replace hf := ms_iT c29 hf
            exact J166 αh26 Hh26 Lh26 Bh26 ls (lv_sub hl [0] rfl) hf
          ·
            replace hf := ms_iF c29 hf
            refine lv_aload_n hx hb dX3_readLine_155 rfl (lv_at hl 0 rfl) (hp_n (n := 156) rfl ?_)
            obtain ⟨rh30, αh30, qh30, hf⟩ := hq_cE hf
            refine d_ci (pc' := 159) Bh26 (hp_runV (As := []) (rest := []) C Bh26 (n_X3_readSign n Γ l αh26 Bh26.2.2.1 a0 (cw_k Bh26.2.2 k0) (rh30, αh30) qh30) lb_X3_readSign lv_X3_readSign lk_X3_79 (cw_k Bh26.2.2 k0) rfl (by decide) rfl hl.1 rfl (Nat.le_of_ble_eq_true rfl) dX3_readLine_156 ⟨Nat.le_refl _, Nat.le_refl _⟩) (by decide) rfl (fun Hh30 Lh30 Bh30 => ?_)
            refine lv_if_eq (tgt := 166) hx hb dX3_readLine_159 (by decide) (fun c31 => ?_) (fun c31 => hp_n (n := 162) rfl ?_)
            ·
              replace hf := ms_iT c31 hf
              exact J166 αh30 Hh30 Lh30 Bh30 ls (lv_sub hl [0] rfl) hf
            ·
              replace hf := ms_iF c31 hf
              refine lv_iconst (v := 1) hx hb dX3_readLine_162 (by decide) (hp_n (n := 163) rfl ?_)
              refine lv_goto (tgt := 167) hx hb dX3_readLine_163 (by decide) ?_
              exact J167 αh30 Hh30 Lh30 Bh30 (1 : Int32) ls (lv_sub hl [0] rfl) hf
      ·
        replace hf := ms_iF c15 hf
        refine lv_aload_n hx hb dX3_readLine_80 rfl (lv_at hl 0 rfl) (hp_n (n := 81) rfl ?_)
        refine lv_iconst (v := 2) hx hb dX3_readLine_81 (by decide) (hp_n (n := 82) rfl ?_)
        refine q_puti (κ := 4) (k := 6) (φ := 206) (pc' := 85) C Bh14 (cw_k Bh14.2.2 k0) fl_X3_43 rfl rfl rfl rfl rfl rfl (cw_sI Bh14.2.2 (by decide) (fun h => absurd h (by decide))) dX3_readLine_82 rfl (fun αh32 Hh32 Lh32 eh32 Bh32 => ?_)
        replace hf := ms_lE eh32 hf
        refine lv_aload_n hx hb dX3_readLine_85 rfl (lv_at hl 0 rfl) (hp_n (n := 86) rfl ?_)
        refine lv_aload_n hx hb dX3_readLine_86 rfl (lv_at hl 1 rfl) (hp_n (n := 87) rfl ?_)
        refine q_geti (κ := 11) (k := 2) (φ := 552) (pc' := 90) C Bh32 (cw_k Bh32.2.2 k1) fl_X3_94 rfl rfl rfl dX3_readLine_87 rfl (fun x33 ex33 => ?_)
        replace hf := ms_lE ex33 hf
        refine lv_iconst (v := 4) hx hb dX3_readLine_90 (by decide) (hp_n (n := 91) rfl ?_)
        obtain ⟨rh34, αh34, qh34, hf⟩ := hq_cE hf
        refine d_ci (pc' := 94) Bh32 (hp_runV (As := [.int x33, .int (4 : Int32)]) (rest := []) C Bh32 (n_X3_hasRoom n Γ l αh32 Bh32.2.2.1 a0 (cw_k Bh32.2.2 k0) x33 (4 : Int32) (rh34, αh34) qh34) lb_X3_hasRoom lv_X3_hasRoom lk_X3_99 (cw_k Bh32.2.2 k0) rfl (by decide) rfl hl.1 rfl (Nat.le_of_ble_eq_true rfl) dX3_readLine_91 ⟨Nat.le_refl _, Nat.le_refl _⟩) (by decide) rfl (fun Hh34 Lh34 Bh34 => ?_)
        have J121 : ∀ (αh35 : hp_T) (Hh35 : Heap) (Lh35 : List Loc) (Bh35 : hp_B Γ (cw w_X3_readLine) s α αh35 Hh35 Lh35) (w0_h35 : Int32) (ls : Array Slot) (hl : lv_has ls 4 [(0, .ref a0)]) (hf : f_X3_readLine_J121 n a0 αh35 w0_h35 = some res), W p l e (hp_rm 5 0 0) s m ([.ref a0, .ref a1, .ref a2] : List Value).toArray below meth c Hh35 Lh35 0 0 (MQ below (hp_Qi Γ (fun r β => r = res.1 ∧ β = res.2 ∧ cw w_X3_readLine α β)) ([.ref a0, .ref a1, .ref a2] : List Value).toArray s 0 0 (hp_A Γ)) (F0 m 121 ls [.int w0_h35]) := by
          intro αh35 Hh35 Lh35 Bh35 w0_h35 ls hl hf
          unfold f_X3_readLine_J121 at hf
          refine lv_istore_n (lv' := [(3, .int w0_h35), (0, .ref a0)]) hx hb dX3_readLine_121 rfl hl (by decide) rfl (fun ls hl => hp_n (n := 122) rfl ?_)
          refine lv_goto (tgt := 197) hx hb dX3_readLine_122 (by decide) ?_
          exact J197 αh35 Hh35 Lh35 Bh35 w0_h35 ls (lv_sub hl [1, 0] rfl) hf
        have J120 : ∀ (αh36 : hp_T) (Hh36 : Heap) (Lh36 : List Loc) (Bh36 : hp_B Γ (cw w_X3_readLine) s α αh36 Hh36 Lh36) (ls : Array Slot) (hl : lv_has ls 4 [(0, .ref a0)]) (hf : f_X3_readLine_J120 n a0 αh36 = some res), W p l e (hp_rm 5 0 0) s m ([.ref a0, .ref a1, .ref a2] : List Value).toArray below meth c Hh36 Lh36 0 0 (MQ below (hp_Qi Γ (fun r β => r = res.1 ∧ β = res.2 ∧ cw w_X3_readLine α β)) ([.ref a0, .ref a1, .ref a2] : List Value).toArray s 0 0 (hp_A Γ)) (F0 m 120 ls []) := by
          intro αh36 Hh36 Lh36 Bh36 ls hl hf
          unfold f_X3_readLine_J120 at hf
          refine lv_iconst (v := 0) hx hb dX3_readLine_120 (by decide) (hp_n (n := 121) rfl ?_)
          exact J121 αh36 Hh36 Lh36 Bh36 (0 : Int32) ls (lv_sub hl [0] rfl) hf
        refine lv_if_eq (tgt := 120) hx hb dX3_readLine_94 (by decide) (fun c37 => ?_) (fun c37 => hp_n (n := 97) rfl ?_)
        ·
          replace hf := ms_iT c37 hf
          exact J120 αh34 Hh34 Lh34 Bh34 ls (lv_sub hl [0] rfl) hf
        ·
          replace hf := ms_iF c37 hf
          refine lv_aload_n hx hb dX3_readLine_97 rfl (lv_at hl 0 rfl) (hp_n (n := 98) rfl ?_)
          refine lv_iconst (v := 0) hx hb dX3_readLine_98 (by decide) (hp_n (n := 99) rfl ?_)
          refine lv_aload_n hx hb dX3_readLine_99 rfl (lv_at hl 2 rfl) (hp_n (n := 100) rfl ?_)
          refine q_geti (κ := 3) (k := 2) (φ := 152) (pc' := 103) C Bh34 (cw_k Bh34.2.2 k2) fl_X3_102 rfl rfl rfl dX3_readLine_100 rfl (fun x38 ex38 => ?_)
          replace hf := ms_lE ex38 hf
          obtain ⟨rh39, αh39, qh39, hf⟩ := hq_cE hf
          refine d_ci (pc' := 106) Bh34 (hp_runV (As := [.int (0 : Int32), .int x38]) (rest := []) C Bh34 (n_X3_readNumber n Γ l αh34 Bh34.2.2.1 a0 (cw_k Bh34.2.2 k0) (0 : Int32) x38 (rh39, αh39) qh39) lb_X3_readNumber lv_X3_readNumber lk_X3_75 (cw_k Bh34.2.2 k0) rfl (by decide) rfl hl.1 rfl (Nat.le_of_ble_eq_true rfl) dX3_readLine_103 ⟨Nat.le_refl _, Nat.le_refl _⟩) (by decide) rfl (fun Hh39 Lh39 Bh39 => ?_)
          refine lv_if_eq (tgt := 120) hx hb dX3_readLine_106 (by decide) (fun c40 => ?_) (fun c40 => hp_n (n := 109) rfl ?_)
          ·
            replace hf := ms_iT c40 hf
            exact J120 αh39 Hh39 Lh39 Bh39 ls (lv_sub hl [0] rfl) hf
          ·
            replace hf := ms_iF c40 hf
            refine lv_aload_n hx hb dX3_readLine_109 rfl (lv_at hl 0 rfl) (hp_n (n := 110) rfl ?_)
            obtain ⟨rh41, αh41, qh41, hf⟩ := hq_cE hf
            refine d_ci (pc' := 113) Bh39 (hp_runV (As := []) (rest := []) C Bh39 (n_X3_readSign n Γ l αh39 Bh39.2.2.1 a0 (cw_k Bh39.2.2 k0) (rh41, αh41) qh41) lb_X3_readSign lv_X3_readSign lk_X3_79 (cw_k Bh39.2.2 k0) rfl (by decide) rfl hl.1 rfl (Nat.le_of_ble_eq_true rfl) dX3_readLine_110 ⟨Nat.le_refl _, Nat.le_refl _⟩) (by decide) rfl (fun Hh41 Lh41 Bh41 => ?_)
            refine lv_if_eq (tgt := 120) hx hb dX3_readLine_113 (by decide) (fun c42 => ?_) (fun c42 => hp_n (n := 116) rfl ?_)
            ·
              replace hf := ms_iT c42 hf
              exact J120 αh41 Hh41 Lh41 Bh41 ls (lv_sub hl [0] rfl) hf
            ·
              replace hf := ms_iF c42 hf
              refine lv_iconst (v := 1) hx hb dX3_readLine_116 (by decide) (hp_n (n := 117) rfl ?_)
              refine lv_goto (tgt := 121) hx hb dX3_readLine_117 (by decide) ?_
              exact J121 αh41 Hh41 Lh41 Bh41 (1 : Int32) ls (lv_sub hl [0] rfl) hf
    ·
      replace hf := ms_iF c12 hf
      refine lv_aload_n hx hb dX3_readLine_33 rfl (lv_at hl 0 rfl) (hp_n (n := 34) rfl ?_)
      refine lv_iconst (v := 1) hx hb dX3_readLine_34 (by decide) (hp_n (n := 35) rfl ?_)
      refine q_puti (κ := 4) (k := 6) (φ := 206) (pc' := 38) C Bh11 (cw_k Bh11.2.2 k0) fl_X3_43 rfl rfl rfl rfl rfl rfl (cw_sI Bh11.2.2 (by decide) (fun h => absurd h (by decide))) dX3_readLine_35 rfl (fun αh43 Hh43 Lh43 eh43 Bh43 => ?_)
      replace hf := ms_lE eh43 hf
      refine lv_aload_n hx hb dX3_readLine_38 rfl (lv_at hl 0 rfl) (hp_n (n := 39) rfl ?_)
      refine lv_iconst (v := 0) hx hb dX3_readLine_39 (by decide) (hp_n (n := 40) rfl ?_)
      refine lv_aload_n hx hb dX3_readLine_40 rfl (lv_at hl 1 rfl) (hp_n (n := 41) rfl ?_)
      refine q_geti (κ := 11) (k := 2) (φ := 552) (pc' := 44) C Bh43 (cw_k Bh43.2.2 k1) fl_X3_94 rfl rfl rfl dX3_readLine_41 rfl (fun x44 ex44 => ?_)
      replace hf := ms_lE ex44 hf
      refine lv_iconst (v := 1) hx hb dX3_readLine_44 (by decide) (hp_n (n := 45) rfl ?_)
      refine lv_isub hx hb dX3_readLine_45 (hp_n (n := 46) rfl ?_)
      obtain ⟨rh45, αh45, qh45, hf⟩ := hq_cE hf
      refine d_ci (pc' := 49) Bh43 (hp_runV (As := [.int (0 : Int32), .int (x44 - (1 : Int32))]) (rest := []) C Bh43 (n_X3_readNumber n Γ l αh43 Bh43.2.2.1 a0 (cw_k Bh43.2.2 k0) (0 : Int32) (x44 - (1 : Int32)) (rh45, αh45) qh45) lb_X3_readNumber lv_X3_readNumber lk_X3_75 (cw_k Bh43.2.2 k0) rfl (by decide) rfl hl.1 rfl (Nat.le_of_ble_eq_true rfl) dX3_readLine_46 ⟨Nat.le_refl _, Nat.le_refl _⟩) (by decide) rfl (fun Hh45 Lh45 Bh45 => ?_)
      have J64 : ∀ (αh46 : hp_T) (Hh46 : Heap) (Lh46 : List Loc) (Bh46 : hp_B Γ (cw w_X3_readLine) s α αh46 Hh46 Lh46) (w0_h46 : Int32) (ls : Array Slot) (hl : lv_has ls 4 [(0, .ref a0)]) (hf : f_X3_readLine_J64 n a0 αh46 w0_h46 = some res), W p l e (hp_rm 5 0 0) s m ([.ref a0, .ref a1, .ref a2] : List Value).toArray below meth c Hh46 Lh46 0 0 (MQ below (hp_Qi Γ (fun r β => r = res.1 ∧ β = res.2 ∧ cw w_X3_readLine α β)) ([.ref a0, .ref a1, .ref a2] : List Value).toArray s 0 0 (hp_A Γ)) (F0 m 64 ls [.int w0_h46]) := by
        intro αh46 Hh46 Lh46 Bh46 w0_h46 ls hl hf
        unfold f_X3_readLine_J64 at hf
        refine lv_istore_n (lv' := [(3, .int w0_h46), (0, .ref a0)]) hx hb dX3_readLine_64 rfl hl (by decide) rfl (fun ls hl => hp_n (n := 65) rfl ?_)
        refine lv_goto (tgt := 197) hx hb dX3_readLine_65 (by decide) ?_
        exact J197 αh46 Hh46 Lh46 Bh46 w0_h46 ls (lv_sub hl [1, 0] rfl) hf
      have J63 : ∀ (αh47 : hp_T) (Hh47 : Heap) (Lh47 : List Loc) (Bh47 : hp_B Γ (cw w_X3_readLine) s α αh47 Hh47 Lh47) (ls : Array Slot) (hl : lv_has ls 4 [(0, .ref a0)]) (hf : f_X3_readLine_J63 n a0 αh47 = some res), W p l e (hp_rm 5 0 0) s m ([.ref a0, .ref a1, .ref a2] : List Value).toArray below meth c Hh47 Lh47 0 0 (MQ below (hp_Qi Γ (fun r β => r = res.1 ∧ β = res.2 ∧ cw w_X3_readLine α β)) ([.ref a0, .ref a1, .ref a2] : List Value).toArray s 0 0 (hp_A Γ)) (F0 m 63 ls []) := by
        intro αh47 Hh47 Lh47 Bh47 ls hl hf
        unfold f_X3_readLine_J63 at hf
        refine lv_iconst (v := 0) hx hb dX3_readLine_63 (by decide) (hp_n (n := 64) rfl ?_)
        exact J64 αh47 Hh47 Lh47 Bh47 (0 : Int32) ls (lv_sub hl [0] rfl) hf
      refine lv_if_eq (tgt := 63) hx hb dX3_readLine_49 (by decide) (fun c48 => ?_) (fun c48 => hp_n (n := 52) rfl ?_)
      ·
        replace hf := ms_iT c48 hf
        exact J63 αh45 Hh45 Lh45 Bh45 ls (lv_sub hl [0] rfl) hf
      ·
        replace hf := ms_iF c48 hf
        refine lv_aload_n hx hb dX3_readLine_52 rfl (lv_at hl 0 rfl) (hp_n (n := 53) rfl ?_)
        obtain ⟨rh49, αh49, qh49, hf⟩ := hq_cE hf
        refine d_ci (pc' := 56) Bh45 (hp_runV (As := []) (rest := []) C Bh45 (n_X3_readSign n Γ l αh45 Bh45.2.2.1 a0 (cw_k Bh45.2.2 k0) (rh49, αh49) qh49) lb_X3_readSign lv_X3_readSign lk_X3_79 (cw_k Bh45.2.2 k0) rfl (by decide) rfl hl.1 rfl (Nat.le_of_ble_eq_true rfl) dX3_readLine_53 ⟨Nat.le_refl _, Nat.le_refl _⟩) (by decide) rfl (fun Hh49 Lh49 Bh49 => ?_)
        refine lv_if_eq (tgt := 63) hx hb dX3_readLine_56 (by decide) (fun c50 => ?_) (fun c50 => hp_n (n := 59) rfl ?_)
        ·
          replace hf := ms_iT c50 hf
          exact J63 αh49 Hh49 Lh49 Bh49 ls (lv_sub hl [0] rfl) hf
        ·
          replace hf := ms_iF c50 hf
          refine lv_iconst (v := 1) hx hb dX3_readLine_59 (by decide) (hp_n (n := 60) rfl ?_)
          refine lv_goto (tgt := 64) hx hb dX3_readLine_60 (by decide) ?_
          exact J64 αh49 Hh49 Lh49 Bh49 (1 : Int32) ls (lv_sub hl [0] rfl) hf
  ·
    replace hf := ms_iF c9 hf
    refine lv_aload_n hx hb dX3_readLine_12 rfl (lv_at hl 0 rfl) (hp_n (n := 13) rfl ?_)
    refine lv_aload_n hx hb dX3_readLine_13 rfl (lv_at hl 2 rfl) (hp_n (n := 14) rfl ?_)
    obtain ⟨rh51, αh51, qh51, hf⟩ := hq_cE hf
    refine d_ci (pc' := 17) Bh2 (hp_runV (As := [.ref a2]) (rest := []) C Bh2 (n_X3_readAdd n Γ l α Bh2.2.2.1 a0 (cw_k Bh2.2.2 k0) a2 (cw_k Bh2.2.2 k2) (rh51, αh51) qh51) lb_X3_readAdd lv_X3_readAdd lk_X3_88 (cw_k Bh2.2.2 k0) rfl (by decide) rfl hl.1 rfl (Nat.le_of_ble_eq_true rfl) dX3_readLine_14 ⟨Nat.le_refl _, Nat.le_refl _⟩) (by decide) rfl (fun Hh51 Lh51 Bh51 => ?_)
    refine lv_istore_n (lv' := [(3, .int rh51), (0, .ref a0), (1, .ref a1), (2, .ref a2)]) hx hb dX3_readLine_17 rfl hl (by decide) rfl (fun ls hl => hp_n (n := 18) rfl ?_)
    refine lv_goto (tgt := 197) hx hb dX3_readLine_18 (by decide) ?_
    exact J197 αh51 Hh51 Lh51 Bh51 rh51 ls (lv_sub hl [1, 0] rfl) hf
def f_X2_wordAt (n : Nat) (α : hp_T) (a0 : Nat) (a1 : Int32) : Option (Option Nat) :=
  if a1 < 0 then
    some none
  else
    ms_l (hp_I α 152 a0) fun x2 =>
    if x2 ≤ a1 then
      some none
    else
      ms_l (hp_R α 150 a0) fun b4 =>
      if (48 : Int32) ≤ a1 then
        some none
      else
        ms_l (hp_R α 150 a0) fun b6 =>
        ms_g a1 48 <|
        hq_m (hp_Q α 28 b6 (a1).toNatClampNeg) (
          some none) fun b8 =>
        some (some b8)
set_option maxRecDepth 100000 in
set_option maxHeartbeats 4000000 in
theorem n_X2_wordAt (n : Nat) (Γ : hp_G) (l : Launch) (α : hp_T) (g : GC α) (a0 : Nat) (k0 : hp_K α a0 = 3) (a1 : Int32) (res : Option Nat) (hf : f_X2_wordAt n α a0 a1 = some res) : Met l yX2_wordAt (hp_ws yX2_wordAt cX2_wordAt 2 (some (.object "ProvenRecord$Word"))) (hp_rm 0 0 0) (hp_Pc Γ α [.ref a0, .int a1]) (hp_Qq Γ (fun r β => (β = α ∧ r = res) ∧ ∀ b, r = some b → hp_K α b = 10)) 0 0 (hp_A Γ) := by
  unfold f_X2_wordAt at hf
  refine hp_start (by decide) ?_
  intro p e s m below meth c C hr hlk B0 hnm
  have C : hp_C Γ p m c cX2_wordAt 2 s ([.ref a0, .int a1] : List Value).toArray RX2 := C
  have hx := C.1.1
  have hb := C.1.2.1
  have hown := C.1.2.2.2.1
  have hts := C.1.2.2.2.2
  have B : hp_B Γ (cw w_X2_wordAt) s α α s.heap [] := ⟨B0.1, B0.2.1, cw_rf g⟩
  have hl := lv_entry ([.ref a0, .int a1]) (n := 2) (Nat.le_of_ble_eq_true rfl)
  show W p l e (hp_rm 0 0 0) s m ([.ref a0, .int a1] : List Value).toArray below meth c s.heap [] 0 0 (MQ below (hp_Qq Γ (fun r β => (β = α ∧ r = res) ∧ ∀ b, r = some b → hp_K α b = 10)) ([.ref a0, .int a1] : List Value).toArray s 0 0 (hp_A Γ)) (entryFrame m ([.ref a0, .int a1] : List Value).toArray 2)
  rw [lg_entry_eq]
  generalize (lg_sl ([.ref a0, .int a1]) ++ List.replicate (2 - (lg_sl ([.ref a0, .int a1])).length) Slot.unset).toArray = ls at hl ⊢
  have hl : lv_has ls 2 [(0, .ref a0), (1, .int a1)] := hl
  refine lv_iload_n hx hb dX2_wordAt_0 rfl (lv_at hl 1 rfl) (hp_n (n := 1) rfl ?_)
  refine lv_if_lt (tgt := 30) hx hb dX2_wordAt_1 (by decide) (fun c1 => ?_) (fun c1 => hp_n (n := 4) rfl ?_)
  ·
    replace hf := ms_iT c1 hf
    refine lv_null hx hb dX2_wordAt_30 (hp_n (n := 31) rfl ?_)
    cases hf
    exact q_aret (x := none) C B hr hlk ⟨⟨rfl, rfl⟩, fun b h => by cases h⟩ dX2_wordAt_31
  ·
    replace hf := ms_iF c1 hf
    refine lv_iload_n hx hb dX2_wordAt_4 rfl (lv_at hl 1 rfl) (hp_n (n := 5) rfl ?_)
    refine lv_aload_n hx hb dX2_wordAt_5 rfl (lv_at hl 0 rfl) (hp_n (n := 6) rfl ?_)
    refine q_geti (κ := 3) (k := 2) (φ := 152) (pc' := 9) C B (cw_k B.2.2 k0) fl_X2_21 rfl rfl rfl dX2_wordAt_6 rfl (fun x2 ex2 => ?_)
    replace hf := ms_lE ex2 hf
    refine lv_icmp_ge (tgt := 30) hx hb dX2_wordAt_9 (by decide) (fun c3 => ?_) (fun c3 => hp_n (n := 12) rfl ?_)
    ·
      replace hf := ms_iT c3 hf
      refine lv_null hx hb dX2_wordAt_30 (hp_n (n := 31) rfl ?_)
      cases hf
      exact q_aret (x := none) C B hr hlk ⟨⟨rfl, rfl⟩, fun b h => by cases h⟩ dX2_wordAt_31
    ·
      replace hf := ms_iF c3 hf
      refine lv_iload_n hx hb dX2_wordAt_12 rfl (lv_at hl 1 rfl) (hp_n (n := 13) rfl ?_)
      refine lv_aload_n hx hb dX2_wordAt_13 rfl (lv_at hl 0 rfl) (hp_n (n := 14) rfl ?_)
      refine q_getr (κ := 3) (k := 0) (φ := 150) (pc' := 17) C B (cw_k B.2.2 k0) fl_X2_11 rfl rfl rfl (cw_r B.2.2 k0 rfl rfl (by decide) (by decide)) dX2_wordAt_14 rfl (fun b4 eb4 kb4 => ?_)
      replace hf := ms_lE eb4 hf
      refine q_alen (κ := 28) (t := 7) (n := 48) (x := 48) (ty := .object "ProvenRecord$Word") (pc' := 18) C B (cw_k B.2.2 kb4) (by decide) rfl rfl rfl dX2_wordAt_17 rfl ?_
      refine lv_icmp_ge (tgt := 30) hx hb dX2_wordAt_18 (by decide) (fun c5 => ?_) (fun c5 => hp_n (n := 21) rfl ?_)
      ·
        replace hf := ms_iT c5 hf
        refine lv_null hx hb dX2_wordAt_30 (hp_n (n := 31) rfl ?_)
        cases hf
        exact q_aret (x := none) C B hr hlk ⟨⟨rfl, rfl⟩, fun b h => by cases h⟩ dX2_wordAt_31
      ·
        replace hf := ms_iF c5 hf
        refine lv_aload_n hx hb dX2_wordAt_21 rfl (lv_at hl 0 rfl) (hp_n (n := 22) rfl ?_)
        refine q_getr (κ := 3) (k := 0) (φ := 150) (pc' := 25) C B (cw_k B.2.2 k0) fl_X2_11 rfl rfl rfl (cw_r B.2.2 k0 rfl rfl (by decide) (by decide)) dX2_wordAt_22 rfl (fun b6 eb6 kb6 => ?_)
        replace hf := ms_lE eb6 hf
        refine lv_iload_n hx hb dX2_wordAt_25 rfl (lv_at hl 1 rfl) (hp_n (n := 26) rfl ?_)
        obtain ⟨g7, hf⟩ := ms_gE hf
        refine q_aal (κ := 28) (t := 7) (n := 48) (C0 := "ProvenRecord$Word") (pc' := 27) C B (cw_k B.2.2 kb6) (by decide) rfl rfl (by decide) (vi_of g7.1 g7.2) dX2_wordAt_26 rfl ?_
        rcases hq_E hf with ⟨hqb8, hf⟩ | ⟨b8, hqb8, hf⟩
        ·
          rw [hqb8]
          refine lv_goto (tgt := 31) hx hb dX2_wordAt_27 (by decide) ?_
          cases hf
          exact q_aret (x := none) C B hr hlk ⟨⟨rfl, rfl⟩, fun b h => by cases h⟩ dX2_wordAt_31
        ·
          rw [hqb8]
          have kb8 := cw_q B.2.2 kb6 rfl (by decide) hqb8
          refine lv_goto (tgt := 31) hx hb dX2_wordAt_27 (by decide) ?_
          cases hf
          exact q_aret (x := (some b8)) C B hr hlk ⟨⟨rfl, rfl⟩, fun b h => by cases h; exact kb8⟩ dX2_wordAt_31
def f_X2_markAt (n : Nat) (α : hp_T) (a0 : Nat) (a1 : Int32) : Option Int32 :=
  if a1 < 0 then
    some (0 : Int32)
  else
    ms_l (hp_I α 152 a0) fun x2 =>
    if x2 ≤ a1 then
      some (0 : Int32)
    else
      ms_l (hp_R α 151 a0) fun b4 =>
      if (48 : Int32) ≤ a1 then
        some (0 : Int32)
      else
        ms_l (hp_R α 151 a0) fun b6 =>
        ms_g a1 48 <|
        some (hp_E α 29 b6 (a1).toNatClampNeg)
set_option maxRecDepth 100000 in
set_option maxHeartbeats 4000000 in
theorem n_X2_markAt (n : Nat) (Γ : hp_G) (l : Launch) (α : hp_T) (g : GC α) (a0 : Nat) (k0 : hp_K α a0 = 3) (a1 : Int32) (res : Int32) (hf : f_X2_markAt n α a0 a1 = some res) : Met l yX2_markAt (hp_ws yX2_markAt cX2_markAt 2 (some .int)) (hp_rm 0 0 0) (hp_Pc Γ α [.ref a0, .int a1]) (hp_Qi Γ (fun r β => β = α ∧ r = res)) 0 0 (hp_A Γ) := by
  unfold f_X2_markAt at hf
  refine hp_start (by decide) ?_
  intro p e s m below meth c C hr hlk B0 hnm
  have C : hp_C Γ p m c cX2_markAt 2 s ([.ref a0, .int a1] : List Value).toArray RX2 := C
  have hx := C.1.1
  have hb := C.1.2.1
  have hown := C.1.2.2.2.1
  have hts := C.1.2.2.2.2
  have B : hp_B Γ (cw w_X2_markAt) s α α s.heap [] := ⟨B0.1, B0.2.1, cw_rf g⟩
  have hl := lv_entry ([.ref a0, .int a1]) (n := 2) (Nat.le_of_ble_eq_true rfl)
  show W p l e (hp_rm 0 0 0) s m ([.ref a0, .int a1] : List Value).toArray below meth c s.heap [] 0 0 (MQ below (hp_Qi Γ (fun r β => β = α ∧ r = res)) ([.ref a0, .int a1] : List Value).toArray s 0 0 (hp_A Γ)) (entryFrame m ([.ref a0, .int a1] : List Value).toArray 2)
  rw [lg_entry_eq]
  generalize (lg_sl ([.ref a0, .int a1]) ++ List.replicate (2 - (lg_sl ([.ref a0, .int a1])).length) Slot.unset).toArray = ls at hl ⊢
  have hl : lv_has ls 2 [(0, .ref a0), (1, .int a1)] := hl
  refine lv_iload_n hx hb dX2_markAt_0 rfl (lv_at hl 1 rfl) (hp_n (n := 1) rfl ?_)
  refine lv_if_lt (tgt := 30) hx hb dX2_markAt_1 (by decide) (fun c1 => ?_) (fun c1 => hp_n (n := 4) rfl ?_)
  ·
    replace hf := ms_iT c1 hf
    refine lv_iconst (v := 0) hx hb dX2_markAt_30 (by decide) (hp_n (n := 31) rfl ?_)
    cases hf
    exact q_iret C B hr hlk ⟨rfl, rfl⟩ dX2_markAt_31
  ·
    replace hf := ms_iF c1 hf
    refine lv_iload_n hx hb dX2_markAt_4 rfl (lv_at hl 1 rfl) (hp_n (n := 5) rfl ?_)
    refine lv_aload_n hx hb dX2_markAt_5 rfl (lv_at hl 0 rfl) (hp_n (n := 6) rfl ?_)
    refine q_geti (κ := 3) (k := 2) (φ := 152) (pc' := 9) C B (cw_k B.2.2 k0) fl_X2_21 rfl rfl rfl dX2_markAt_6 rfl (fun x2 ex2 => ?_)
    replace hf := ms_lE ex2 hf
    refine lv_icmp_ge (tgt := 30) hx hb dX2_markAt_9 (by decide) (fun c3 => ?_) (fun c3 => hp_n (n := 12) rfl ?_)
    ·
      replace hf := ms_iT c3 hf
      refine lv_iconst (v := 0) hx hb dX2_markAt_30 (by decide) (hp_n (n := 31) rfl ?_)
      cases hf
      exact q_iret C B hr hlk ⟨rfl, rfl⟩ dX2_markAt_31
    ·
      replace hf := ms_iF c3 hf
      refine lv_iload_n hx hb dX2_markAt_12 rfl (lv_at hl 1 rfl) (hp_n (n := 13) rfl ?_)
      refine lv_aload_n hx hb dX2_markAt_13 rfl (lv_at hl 0 rfl) (hp_n (n := 14) rfl ?_)
      refine q_getr (κ := 3) (k := 1) (φ := 151) (pc' := 17) C B (cw_k B.2.2 k0) fl_X2_17 rfl rfl rfl (cw_r B.2.2 k0 rfl rfl (by decide) (by decide)) dX2_markAt_14 rfl (fun b4 eb4 kb4 => ?_)
      replace hf := ms_lE eb4 hf
      refine q_alen (κ := 29) (t := 0) (n := 48) (x := 48) (ty := .int) (pc' := 18) C B (cw_k B.2.2 kb4) (by decide) rfl rfl rfl dX2_markAt_17 rfl ?_
      refine lv_icmp_ge (tgt := 30) hx hb dX2_markAt_18 (by decide) (fun c5 => ?_) (fun c5 => hp_n (n := 21) rfl ?_)
      ·
        replace hf := ms_iT c5 hf
        refine lv_iconst (v := 0) hx hb dX2_markAt_30 (by decide) (hp_n (n := 31) rfl ?_)
        cases hf
        exact q_iret C B hr hlk ⟨rfl, rfl⟩ dX2_markAt_31
      ·
        replace hf := ms_iF c5 hf
        refine lv_aload_n hx hb dX2_markAt_21 rfl (lv_at hl 0 rfl) (hp_n (n := 22) rfl ?_)
        refine q_getr (κ := 3) (k := 1) (φ := 151) (pc' := 25) C B (cw_k B.2.2 k0) fl_X2_17 rfl rfl rfl (cw_r B.2.2 k0 rfl rfl (by decide) (by decide)) dX2_markAt_22 rfl (fun b6 eb6 kb6 => ?_)
        replace hf := ms_lE eb6 hf
        refine lv_iload_n hx hb dX2_markAt_25 rfl (lv_at hl 1 rfl) (hp_n (n := 26) rfl ?_)
        obtain ⟨g7, hf⟩ := ms_gE hf
        refine q_ial (κ := 29) (n := 48) (pc' := 27) C B (cw_k B.2.2 kb6) (by decide) rfl (vi_of g7.1 g7.2) dX2_markAt_26 rfl ?_
        refine lv_goto (tgt := 31) hx hb dX2_markAt_27 (by decide) ?_
        cases hf
        exact q_iret C B hr hlk ⟨rfl, rfl⟩ dX2_markAt_31
def f_X10_treeMarks_J161 (n : Nat) (a0 : Nat) (αh7 : hp_T) : Option (Int32 × hp_T) :=
  ms_l (hp_R αh7 557 a0) fun b8 =>
  ms_g (0 : Int32) 48 <|
  some ((hp_E αh7 33 b8 ((0 : Int32)).toNatClampNeg), αh7)
def f_X10_treeMarks_J148 (n : Nat) (a0 : Nat) (rec55 : hp_T → Int32 → Int32 → Option (Int32 × hp_T)) (αh15 : hp_T) (v4_h15 : Int32) (v5_h15 : Int32) (v6_h15 : Int32) : Option (Int32 × hp_T) :=
  ms_l ((v4_h15 - v6_h15)) fun x16 =>
  ms_l (v5_h15 + 1) fun x17 =>
  rec55 αh15 x16 x17
def f_X10_treeMarks_L77 (n : Nat) (a0 : Nat) (rec55 : hp_T → Int32 → Int32 → Option (Int32 × hp_T)) : Nat → hp_T → Int32 → Int32 → Int32 → Int32 → Option (Int32 × hp_T)
  | 0, _, _, _, _, _ => none
  | k77 + 1, αh13, v4_h13, v5_h13, v6_h13, v7_h13 =>
    if v6_h13 ≤ v7_h13 then
      if (v4_h13 - v4_h13 / (2 : Int32) * (2 : Int32)) = (1 : Int32) then
        ms_l (hp_R αh13 557 a0) fun b19 =>
        ms_l (hp_R αh13 557 a0) fun b20 =>
        ms_g (v4_h13 - (1 : Int32)) 48 <|
        ms_g v6_h13 48 <|
        ms_l (hp_sE αh13 33 b19 (v6_h13).toNatClampNeg (hp_E αh13 33 b20 ((v4_h13 - (1 : Int32))).toNatClampNeg)) fun αh23 =>
        f_X10_treeMarks_J148 n a0 rec55 αh23 v4_h13 v5_h13 v6_h13
      else
        f_X10_treeMarks_J148 n a0 rec55 αh13 v4_h13 v5_h13 v6_h13
    else
      ms_l (hp_R αh13 557 a0) fun b24 =>
      ms_l (hp_I αh13 550 a0) fun x25 =>
      ms_l (hp_R αh13 557 a0) fun b26 =>
      ms_g ((2 : Int32) * v7_h13) 48 <|
      ms_l (hp_R αh13 557 a0) fun b28 =>
      ms_g (((2 : Int32) * v7_h13) + (1 : Int32)) 48 <|
      ms_b (f_X11_markOfTwo n x25 (hp_E αh13 33 b26 (((2 : Int32) * v7_h13)).toNatClampNeg) (hp_E αh13 33 b28 ((((2 : Int32) * v7_h13) + (1 : Int32))).toNatClampNeg)) fun rh30 =>
      ms_g v7_h13 48 <|
      ms_l (hp_sE αh13 33 b24 (v7_h13).toNatClampNeg rh30) fun αh32 =>
      ms_l (v7_h13 + 1) fun x33 =>
      (f_X10_treeMarks_L77 n a0 rec55 k77) αh32 v4_h13 v5_h13 v6_h13 x33
def f_X10_treeMarks_L55 (n : Nat) (a0 : Nat) : Nat → hp_T → Int32 → Int32 → Option (Int32 × hp_T)
  | 0, _, _, _ => none
  | k55 + 1, αh6, v4_h6, v5_h6 =>
    if (40 : Int32) ≤ v5_h6 then
      f_X10_treeMarks_J161 n a0 αh6
    else
      if v4_h6 ≤ (1 : Int32) then
        f_X10_treeMarks_J161 n a0 αh6
      else
        ms_l ((v4_h6 / (2 : Int32))) fun x12 =>
        f_X10_treeMarks_L77 n a0 (f_X10_treeMarks_L55 n a0 k55) n αh6 v4_h6 v5_h6 x12 (0 : Int32)
def f_X10_treeMarks_L24 (n : Nat) (a0 : Nat) : Nat → hp_T → Nat → Int32 → Int32 → Int32 → Option (Int32 × hp_T)
  | 0, _, _, _, _, _ => none
  | k24 + 1, αh4, v1_h4, v2_h4, v4_h4, v5_h4 =>
    if v4_h4 ≤ v5_h4 then
      f_X10_treeMarks_L55 n a0 n αh4 v4_h4 (0 : Int32)
    else
      ms_l (hp_R αh4 557 a0) fun b34 =>
      ms_b (f_X2_markAt n αh4 v1_h4 (v2_h4 + v5_h4)) fun rh35 =>
      ms_g v5_h4 48 <|
      ms_l (hp_sE αh4 33 b34 (v5_h4).toNatClampNeg rh35) fun αh37 =>
      ms_l (v5_h4 + 1) fun x38 =>
      (f_X10_treeMarks_L24 n a0 k24) αh37 v1_h4 v2_h4 v4_h4 x38
def f_X10_treeMark (n : Nat) (α : hp_T) (a0 : Nat) (o1 : Option Nat) (a2 : Int32) (a3 : Int32) : Option (Int32 × hp_T) :=
  hq_m o1 (
    some ((0 : Int32), α)) fun a1 =>
  if 0 < a3 then
    ms_l (hp_R α 557 a0) fun b2 =>
    ms_b (f_J9_min_7cf53 n a3 (48 : Int32)) fun rh3 =>
    f_X10_treeMarks_L24 n a0 n α a1 a2 rh3 (0 : Int32)
  else
    some ((0 : Int32), α)
set_option maxRecDepth 100000 in
set_option maxHeartbeats 4000000 in
theorem n_X10_treeMark (n : Nat) (Γ : hp_G) (l : Launch) (α : hp_T) (g : GC α) (a0 : Nat) (k0 : hp_K α a0 = 11) (o1 : Option Nat) (k1 : ∀ b, o1 = some b → hp_K α b = 3) (a2 : Int32) (a3 : Int32) (res : (Int32 × hp_T)) (hf : f_X10_treeMark n α a0 o1 a2 a3 = some res) : Met l yX10_treeMark (hp_ws yX10_treeMark cX10_treeMark 8 (some .int)) (hp_rm 1 0 0) (hp_Pc Γ α [.ref a0, va_rf o1, .int a2, .int a3]) (hp_Qi Γ (fun r β => r = res.1 ∧ β = res.2 ∧ cw w_X10_treeMark α β)) 0 0 (hp_A Γ) := by
  unfold f_X10_treeMark at hf
  refine hp_start (by decide) ?_
  intro p e s m below meth c C hr hlk B0 hnm
  have C : hp_C Γ p m c cX10_treeMark 8 s ([.ref a0, va_rf o1, .int a2, .int a3] : List Value).toArray RX10 := C
  have hx := C.1.1
  have hb := C.1.2.1
  have hown := C.1.2.2.2.1
  have hts := C.1.2.2.2.2
  have B : hp_B Γ (cw w_X10_treeMark) s α α s.heap [] := ⟨B0.1, B0.2.1, cw_rf g⟩
  rcases o1 with _ | a1
  ·
    replace hf := hq_N hf
    have hl := lv_entry ([.ref a0, .null, .int a2, .int a3]) (n := 8) (Nat.le_of_ble_eq_true rfl)
    show W p l e (hp_rm 1 0 0) s m ([.ref a0, .null, .int a2, .int a3] : List Value).toArray below meth c s.heap [] 0 0 (MQ below (hp_Qi Γ (fun r β => r = res.1 ∧ β = res.2 ∧ cw w_X10_treeMark α β)) ([.ref a0, .null, .int a2, .int a3] : List Value).toArray s 0 0 (hp_A Γ)) (entryFrame m ([.ref a0, .null, .int a2, .int a3] : List Value).toArray 8)
    rw [lg_entry_eq]
    generalize (lg_sl ([.ref a0, .null, .int a2, .int a3]) ++ List.replicate (8 - (lg_sl ([.ref a0, .null, .int a2, .int a3])).length) Slot.unset).toArray = ls at hl ⊢
    have hl : lv_has ls 8 [(0, .ref a0), (1, .null), (2, .int a2), (3, .int a3)] := hl
    refine lv_aload_nN hx hb dX10_treeMark_0 rfl (lv_at hl 1 rfl) (hp_n (n := 1) rfl ?_)
    refine lv_ifnullN (tgt := 8) hx hb dX10_treeMark_1 (by decide) ?_
    refine lv_iconst (v := 0) hx hb dX10_treeMark_8 (by decide) (hp_n (n := 9) rfl ?_)
    cases hf
    exact q_iret C B hr hlk ⟨rfl, rfl, B.2.2⟩ dX10_treeMark_9
  ·
    replace hf := hq_S hf
    have ka1 := k1 a1 rfl
    have hl := lv_entry ([.ref a0, .ref a1, .int a2, .int a3]) (n := 8) (Nat.le_of_ble_eq_true rfl)
    show W p l e (hp_rm 1 0 0) s m ([.ref a0, .ref a1, .int a2, .int a3] : List Value).toArray below meth c s.heap [] 0 0 (MQ below (hp_Qi Γ (fun r β => r = res.1 ∧ β = res.2 ∧ cw w_X10_treeMark α β)) ([.ref a0, .ref a1, .int a2, .int a3] : List Value).toArray s 0 0 (hp_A Γ)) (entryFrame m ([.ref a0, .ref a1, .int a2, .int a3] : List Value).toArray 8)
    rw [lg_entry_eq]
    generalize (lg_sl ([.ref a0, .ref a1, .int a2, .int a3]) ++ List.replicate (8 - (lg_sl ([.ref a0, .ref a1, .int a2, .int a3])).length) Slot.unset).toArray = ls at hl ⊢
    have hl : lv_has ls 8 [(0, .ref a0), (1, .ref a1), (2, .int a2), (3, .int a3)] := hl
    refine lv_aload_n hx hb dX10_treeMark_0 rfl (lv_at hl 1 rfl) (hp_n (n := 1) rfl ?_)
    refine lv_ifnull hx hb dX10_treeMark_1 (hp_n (n := 4) rfl ?_)
    refine lv_iload_n hx hb dX10_treeMark_4 rfl (lv_at hl 3 rfl) (hp_n (n := 5) rfl ?_)
    refine lv_if_gt (tgt := 10) hx hb dX10_treeMark_5 (by decide) (fun c1 => ?_) (fun c1 => hp_n (n := 8) rfl ?_)
    ·
      replace hf := ms_iT c1 hf
      refine lv_iload_n hx hb dX10_treeMark_10 rfl (lv_at hl 3 rfl) (hp_n (n := 11) rfl ?_)
      refine lv_aload_n hx hb dX10_treeMark_11 rfl (lv_at hl 0 rfl) (hp_n (n := 12) rfl ?_)
      refine q_getr (κ := 11) (k := 7) (φ := 557) (pc' := 15) C B (cw_k B.2.2 k0) fl_X10_43 rfl rfl rfl (cw_r B.2.2 k0 rfl rfl (by decide) (by decide)) dX10_treeMark_12 rfl (fun b2 eb2 kb2 => ?_)
      replace hf := ms_lE eb2 hf
      refine q_alen (κ := 33) (t := 0) (n := 48) (x := 48) (ty := .int) (pc' := 16) C B (cw_k B.2.2 kb2) (by decide) rfl rfl rfl dX10_treeMark_15 rfl ?_
      obtain ⟨rh3, qh3, hf⟩ := ms_bE hf
      refine d_pi (pc' := 19) B (hp_runS (As := [.int a3, .int (48 : Int32)]) (rest := []) C B (n_J9_min_7cf53 n Γ l α B.2.2.1 a3 (48 : Int32) rh3 qh3) lb_J9_min_7cf53 ls_J9_min_7cf53 lk_X10_82 rfl (by decide) rfl hl.1 rfl (Nat.le_of_ble_eq_true rfl) dX10_treeMark_16 ⟨Nat.le_refl _, Nat.le_refl _⟩) rfl (fun Hh3 Lh3 Bh3 => ?_)
      refine lv_istore (lv' := [(4, .int rh3), (0, .ref a0), (1, .ref a1), (2, .int a2), (3, .int a3)]) hx hb dX10_treeMark_19 hl (by decide) rfl (fun ls hl => hp_n (n := 21) rfl ?_)
      refine lv_iconst (v := 0) hx hb dX10_treeMark_21 (by decide) (hp_n (n := 22) rfl ?_)
      have J24 : ∀ (k24 : Nat) (αh4 : hp_T) (Hh4 : Heap) (Lh4 : List Loc) (Bh4 : hp_B Γ (cw w_X10_treeMark) s α αh4 Hh4 Lh4) (v1_h4 : Nat) (kv1_h4 : hp_K α v1_h4 = 3) (v2_h4 : Int32) (v4_h4 : Int32) (v5_h4 : Int32) (ls : Array Slot) (hl : lv_has ls 8 [(0, .ref a0), (1, .ref v1_h4), (2, .int v2_h4), (4, .int v4_h4), (5, .int v5_h4)]) (hf : f_X10_treeMarks_L24 n a0 k24 αh4 v1_h4 v2_h4 v4_h4 v5_h4 = some res), W p l e (hp_rm 1 0 0) s m ([.ref a0, .ref a1, .int a2, .int a3] : List Value).toArray below meth c Hh4 Lh4 0 0 (MQ below (hp_Qi Γ (fun r β => r = res.1 ∧ β = res.2 ∧ cw w_X10_treeMark α β)) ([.ref a0, .ref a1, .int a2, .int a3] : List Value).toArray s 0 0 (hp_A Γ)) (F0 m 24 ls []) := by
        intro k24
        induction k24 with
        | zero => intro αh4 Hh4 Lh4 Bh4 v1_h4 kv1_h4 v2_h4 v4_h4 v5_h4 ls hl hf; rw [f_X10_treeMarks_L24.eq_1] at hf; cases hf
        | succ k24 ih24 =>
          intro αh4 Hh4 Lh4 Bh4 v1_h4 kv1_h4 v2_h4 v4_h4 v5_h4 ls hl hf
          rw [f_X10_treeMarks_L24.eq_2] at hf
          refine lv_iload hx hb dX10_treeMark_24 (lv_at hl 4 rfl) (hp_n (n := 26) rfl ?_)
          refine lv_iload hx hb dX10_treeMark_26 (lv_at hl 3 rfl) (hp_n (n := 28) rfl ?_)
          refine lv_icmp_ge (tgt := 52) hx hb dX10_treeMark_28 (by decide) (fun c5 => ?_) (fun c5 => hp_n (n := 31) rfl ?_)
          ·
            replace hf := ms_iT c5 hf
            refine lv_iconst (v := 0) hx hb dX10_treeMark_52 (by decide) (hp_n (n := 53) rfl ?_)
            have J55 : ∀ (k55 : Nat) (αh6 : hp_T) (Hh6 : Heap) (Lh6 : List Loc) (Bh6 : hp_B Γ (cw w_X10_treeMark) s α αh6 Hh6 Lh6) (v4_h6 : Int32) (v5_h6 : Int32) (ls : Array Slot) (hl : lv_has ls 8 [(0, .ref a0), (4, .int v4_h6), (5, .int v5_h6)]) (hf : f_X10_treeMarks_L55 n a0 k55 αh6 v4_h6 v5_h6 = some res), W p l e (hp_rm 1 0 0) s m ([.ref a0, .ref a1, .int a2, .int a3] : List Value).toArray below meth c Hh6 Lh6 0 0 (MQ below (hp_Qi Γ (fun r β => r = res.1 ∧ β = res.2 ∧ cw w_X10_treeMark α β)) ([.ref a0, .ref a1, .int a2, .int a3] : List Value).toArray s 0 0 (hp_A Γ)) (F0 m 55 ls []) := by
              intro k55
              induction k55 with
              | zero => intro αh6 Hh6 Lh6 Bh6 v4_h6 v5_h6 ls hl hf; rw [f_X10_treeMarks_L55.eq_1] at hf; cases hf
              | succ k55 ih55 =>
                intro αh6 Hh6 Lh6 Bh6 v4_h6 v5_h6 ls hl hf
                rw [f_X10_treeMarks_L55.eq_2] at hf
                refine lv_iload hx hb dX10_treeMark_55 (lv_at hl 2 rfl) (hp_n (n := 57) rfl ?_)
                refine lv_bipush (v := 40) hx hb dX10_treeMark_57 (by decide) (hp_n (n := 59) rfl ?_)
                have J161 : ∀ (αh7 : hp_T) (Hh7 : Heap) (Lh7 : List Loc) (Bh7 : hp_B Γ (cw w_X10_treeMark) s α αh7 Hh7 Lh7) (ls : Array Slot) (hl : lv_has ls 8 [(0, .ref a0)]) (hf : f_X10_treeMarks_J161 n a0 αh7 = some res), W p l e (hp_rm 1 0 0) s m ([.ref a0, .ref a1, .int a2, .int a3] : List Value).toArray below meth c Hh7 Lh7 0 0 (MQ below (hp_Qi Γ (fun r β => r = res.1 ∧ β = res.2 ∧ cw w_X10_treeMark α β)) ([.ref a0, .ref a1, .int a2, .int a3] : List Value).toArray s 0 0 (hp_A Γ)) (F0 m 161 ls []) := by
                  intro αh7 Hh7 Lh7 Bh7 ls hl hf
                  unfold f_X10_treeMarks_J161 at hf
                  refine lv_aload_n hx hb dX10_treeMark_161 rfl (lv_at hl 0 rfl) (hp_n (n := 162) rfl ?_)
                  refine q_getr (κ := 11) (k := 7) (φ := 557) (pc' := 165) C Bh7 (cw_k Bh7.2.2 k0) fl_X10_43 rfl rfl rfl (cw_r Bh7.2.2 k0 rfl rfl (by decide) (by decide)) dX10_treeMark_162 rfl (fun b8 eb8 kb8 => ?_)
                  replace hf := ms_lE eb8 hf
                  refine lv_iconst (v := 0) hx hb dX10_treeMark_165 (by decide) (hp_n (n := 166) rfl ?_)
                  obtain ⟨g9, hf⟩ := ms_gE hf
                  refine q_ial (κ := 33) (n := 48) (pc' := 167) C Bh7 (cw_k Bh7.2.2 kb8) (by decide) rfl (vi_of g9.1 g9.2) dX10_treeMark_166 rfl ?_
                  cases hf
                  exact q_iret C Bh7 hr hlk ⟨rfl, rfl, Bh7.2.2⟩ dX10_treeMark_167
                refine lv_icmp_ge (tgt := 161) hx hb dX10_treeMark_59 (by decide) (fun c10 => ?_) (fun c10 => hp_n (n := 62) rfl ?_)
                ·
                  replace hf := ms_iT c10 hf
                  exact J161 αh6 Hh6 Lh6 Bh6 ls (lv_sub hl [0] rfl) hf
                ·
                  replace hf := ms_iF c10 hf
                  refine lv_iload hx hb dX10_treeMark_62 (lv_at hl 1 rfl) (hp_n (n := 64) rfl ?_)
                  refine lv_iconst (v := 1) hx hb dX10_treeMark_64 (by decide) (hp_n (n := 65) rfl ?_)
                  refine lv_icmp_le (tgt := 161) hx hb dX10_treeMark_65 (by decide) (fun c11 => ?_) (fun c11 => hp_n (n := 68) rfl ?_)
                  ·
                    replace hf := ms_iT c11 hf
                    exact J161 αh6 Hh6 Lh6 Bh6 ls (lv_sub hl [0] rfl) hf
                  ·
                    replace hf := ms_iF c11 hf
                    refine lv_iload hx hb dX10_treeMark_68 (lv_at hl 1 rfl) (hp_n (n := 70) rfl ?_)
                    refine lv_iconst (v := 2) hx hb dX10_treeMark_70 (by decide) (hp_n (n := 71) rfl ?_)
                    refine lv_idiv hx hb dX10_treeMark_71 (by decide) (hp_n (n := 72) rfl ?_)
                    refine lv_topi (fun x12 ex12 => ?_)
                    replace hf := ms_lE ex12 hf
                    refine lv_istore (lv' := [(6, .int x12), (0, .ref a0), (4, .int v4_h6), (5, .int v5_h6)]) hx hb dX10_treeMark_72 hl (by decide) rfl (fun ls hl => hp_n (n := 74) rfl ?_)
                    refine lv_iconst (v := 0) hx hb dX10_treeMark_74 (by decide) (hp_n (n := 75) rfl ?_)
                    have J77 : ∀ (k77 : Nat) (αh13 : hp_T) (Hh13 : Heap) (Lh13 : List Loc) (Bh13 : hp_B Γ (cw w_X10_treeMark) s α αh13 Hh13 Lh13) (v4_h13 : Int32) (v5_h13 : Int32) (v6_h13 : Int32) (v7_h13 : Int32) (ls : Array Slot) (hl : lv_has ls 8 [(0, .ref a0), (4, .int v4_h13), (5, .int v5_h13), (6, .int v6_h13), (7, .int v7_h13)]) (hf : f_X10_treeMarks_L77 n a0 (f_X10_treeMarks_L55 n a0 k55) k77 αh13 v4_h13 v5_h13 v6_h13 v7_h13 = some res), W p l e (hp_rm 1 0 0) s m ([.ref a0, .ref a1, .int a2, .int a3] : List Value).toArray below meth c Hh13 Lh13 0 0 (MQ below (hp_Qi Γ (fun r β => r = res.1 ∧ β = res.2 ∧ cw w_X10_treeMark α β)) ([.ref a0, .ref a1, .int a2, .int a3] : List Value).toArray s 0 0 (hp_A Γ)) (F0 m 77 ls []) := by
                      intro k77
                      induction k77 with
                      | zero => intro αh13 Hh13 Lh13 Bh13 v4_h13 v5_h13 v6_h13 v7_h13 ls hl hf; rw [f_X10_treeMarks_L77.eq_1] at hf; cases hf
                      | succ k77 ih77 =>
                        intro αh13 Hh13 Lh13 Bh13 v4_h13 v5_h13 v6_h13 v7_h13 ls hl hf
                        rw [f_X10_treeMarks_L77.eq_2] at hf
                        refine lv_iload hx hb dX10_treeMark_77 (lv_at hl 4 rfl) (hp_n (n := 79) rfl ?_)
                        refine lv_iload hx hb dX10_treeMark_79 (lv_at hl 3 rfl) (hp_n (n := 81) rfl ?_)
                        refine lv_icmp_ge (tgt := 124) hx hb dX10_treeMark_81 (by decide) (fun c14 => ?_) (fun c14 => hp_n (n := 84) rfl ?_)
                        ·
                          replace hf := ms_iT c14 hf
                          refine lv_iload hx hb dX10_treeMark_124 (lv_at hl 1 rfl) (hp_n (n := 126) rfl ?_)
                          refine lv_iconst (v := 2) hx hb dX10_treeMark_126 (by decide) (hp_n (n := 127) rfl ?_)
                          refine lv_irem hx hb dX10_treeMark_127 (by decide) (hp_n (n := 128) rfl ?_)
                          refine lv_iconst (v := 1) hx hb dX10_treeMark_128 (by decide) (hp_n (n := 129) rfl ?_)
                          have J148 : ∀ (αh15 : hp_T) (Hh15 : Heap) (Lh15 : List Loc) (Bh15 : hp_B Γ (cw w_X10_treeMark) s α αh15 Hh15 Lh15) (v4_h15 : Int32) (v5_h15 : Int32) (v6_h15 : Int32) (ls : Array Slot) (hl : lv_has ls 8 [(0, .ref a0), (4, .int v4_h15), (5, .int v5_h15), (6, .int v6_h15)]) (hf : f_X10_treeMarks_J148 n a0 (f_X10_treeMarks_L55 n a0 k55) αh15 v4_h15 v5_h15 v6_h15 = some res), W p l e (hp_rm 1 0 0) s m ([.ref a0, .ref a1, .int a2, .int a3] : List Value).toArray below meth c Hh15 Lh15 0 0 (MQ below (hp_Qi Γ (fun r β => r = res.1 ∧ β = res.2 ∧ cw w_X10_treeMark α β)) ([.ref a0, .ref a1, .int a2, .int a3] : List Value).toArray s 0 0 (hp_A Γ)) (F0 m 148 ls []) := by
                            intro αh15 Hh15 Lh15 Bh15 v4_h15 v5_h15 v6_h15 ls hl hf
                            unfold f_X10_treeMarks_J148 at hf
                            refine lv_iload hx hb dX10_treeMark_148 (lv_at hl 1 rfl) (hp_n (n := 150) rfl ?_)
                            refine lv_iload hx hb dX10_treeMark_150 (lv_at hl 3 rfl) (hp_n (n := 152) rfl ?_)
                            refine lv_isub hx hb dX10_treeMark_152 (hp_n (n := 153) rfl ?_)
                            refine lv_topi (fun x16 ex16 => ?_)
                            replace hf := ms_lE ex16 hf
                            refine lv_istore (lv' := [(4, .int x16), (0, .ref a0), (5, .int v5_h15), (6, .int v6_h15)]) hx hb dX10_treeMark_153 hl (by decide) rfl (fun ls hl => hp_n (n := 155) rfl ?_)
                            obtain ⟨x17, ex17⟩ : ∃ y : Int32, y = v5_h15 + 1 := ⟨_, rfl⟩
                            replace hf := ms_lE ex17 hf
                            refine lv_iinc (v := x17) (lv' := [(5, .int x17), (4, .int x16), (0, .ref a0), (6, .int v6_h15)]) hx hb dX10_treeMark_155 hl (k := 2) rfl (by rw [ex17]; rfl) (by decide) rfl (fun ls hl => hp_n (n := 158) rfl ?_)
                            refine lv_goto (tgt := 55) hx hb dX10_treeMark_158 (by decide) ?_
                            exact ih55 αh15 Hh15 Lh15 Bh15 x16 x17 ls (lv_sub hl [2, 1, 0] rfl) hf
                          refine lv_icmp_ne (tgt := 148) hx hb dX10_treeMark_129 (by decide) (fun c18 => ?_) (fun c18 => hp_n (n := 132) rfl ?_)
                          ·
                            replace hf := ms_iF c18 hf
                            exact J148 αh13 Hh13 Lh13 Bh13 v4_h13 v5_h13 v6_h13 ls (lv_sub hl [0, 1, 2, 3] rfl) hf
                          ·
                            replace hf := ms_iT c18 hf
                            refine lv_aload_n hx hb dX10_treeMark_132 rfl (lv_at hl 0 rfl) (hp_n (n := 133) rfl ?_)
                            refine q_getr (κ := 11) (k := 7) (φ := 557) (pc' := 136) C Bh13 (cw_k Bh13.2.2 k0) fl_X10_43 rfl rfl rfl (cw_r Bh13.2.2 k0 rfl rfl (by decide) (by decide)) dX10_treeMark_133 rfl (fun b19 eb19 kb19 => ?_)
                            replace hf := ms_lE eb19 hf
                            refine lv_iload hx hb dX10_treeMark_136 (lv_at hl 3 rfl) (hp_n (n := 138) rfl ?_)
                            refine lv_aload_n hx hb dX10_treeMark_138 rfl (lv_at hl 0 rfl) (hp_n (n := 139) rfl ?_)
                            refine q_getr (κ := 11) (k := 7) (φ := 557) (pc' := 142) C Bh13 (cw_k Bh13.2.2 k0) fl_X10_43 rfl rfl rfl (cw_r Bh13.2.2 k0 rfl rfl (by decide) (by decide)) dX10_treeMark_139 rfl (fun b20 eb20 kb20 => ?_)
                            replace hf := ms_lE eb20 hf
                            refine lv_iload hx hb dX10_treeMark_142 (lv_at hl 1 rfl) (hp_n (n := 144) rfl ?_)
                            refine lv_iconst (v := 1) hx hb dX10_treeMark_144 (by decide) (hp_n (n := 145) rfl ?_)
                            refine lv_isub hx hb dX10_treeMark_145 (hp_n (n := 146) rfl ?_)
                            obtain ⟨g21, hf⟩ := ms_gE hf
                            refine q_ial (κ := 33) (n := 48) (pc' := 147) C Bh13 (cw_k Bh13.2.2 kb20) (by decide) rfl (vi_of g21.1 g21.2) dX10_treeMark_146 rfl ?_
                            obtain ⟨g22, hf⟩ := ms_gE hf
                            refine q_ias (κ := 33) (n := 48) (pc' := 148) C Bh13 (cw_k Bh13.2.2 kb19) (by decide) rfl (vi_of g22.1 g22.2) rfl (cw_sE Bh13.2.2 (by decide)) dX10_treeMark_147 rfl (fun αh23 Hh23 Lh23 eh23 Bh23 => ?_)
                            replace hf := ms_lE eh23 hf
                            exact J148 αh23 Hh23 Lh23 Bh23 v4_h13 v5_h13 v6_h13 ls (lv_sub hl [0, 1, 2, 3] rfl) hf
                        ·
                          replace hf := ms_iF c14 hf
                          refine lv_aload_n hx hb dX10_treeMark_84 rfl (lv_at hl 0 rfl) (hp_n (n := 85) rfl ?_)
                          refine q_getr (κ := 11) (k := 7) (φ := 557) (pc' := 88) C Bh13 (cw_k Bh13.2.2 k0) fl_X10_43 rfl rfl rfl (cw_r Bh13.2.2 k0 rfl rfl (by decide) (by decide)) dX10_treeMark_85 rfl (fun b24 eb24 kb24 => ?_)
                          replace hf := ms_lE eb24 hf
                          refine lv_iload hx hb dX10_treeMark_88 (lv_at hl 4 rfl) (hp_n (n := 90) rfl ?_)
                          refine lv_aload_n hx hb dX10_treeMark_90 rfl (lv_at hl 0 rfl) (hp_n (n := 91) rfl ?_)
                          refine q_geti (κ := 11) (k := 0) (φ := 550) (pc' := 94) C Bh13 (cw_k Bh13.2.2 k0) fl_X10_10 rfl rfl rfl dX10_treeMark_91 rfl (fun x25 ex25 => ?_)
                          replace hf := ms_lE ex25 hf
                          refine lv_aload_n hx hb dX10_treeMark_94 rfl (lv_at hl 0 rfl) (hp_n (n := 95) rfl ?_)
                          refine q_getr (κ := 11) (k := 7) (φ := 557) (pc' := 98) C Bh13 (cw_k Bh13.2.2 k0) fl_X10_43 rfl rfl rfl (cw_r Bh13.2.2 k0 rfl rfl (by decide) (by decide)) dX10_treeMark_95 rfl (fun b26 eb26 kb26 => ?_)
                          replace hf := ms_lE eb26 hf
                          refine lv_iconst (v := 2) hx hb dX10_treeMark_98 (by decide) (hp_n (n := 99) rfl ?_)
                          refine lv_iload hx hb dX10_treeMark_99 (lv_at hl 4 rfl) (hp_n (n := 101) rfl ?_)
                          refine lv_imul hx hb dX10_treeMark_101 (hp_n (n := 102) rfl ?_)
                          obtain ⟨g27, hf⟩ := ms_gE hf
                          refine q_ial (κ := 33) (n := 48) (pc' := 103) C Bh13 (cw_k Bh13.2.2 kb26) (by decide) rfl (vi_of g27.1 g27.2) dX10_treeMark_102 rfl ?_
                          refine lv_aload_n hx hb dX10_treeMark_103 rfl (lv_at hl 0 rfl) (hp_n (n := 104) rfl ?_)
                          refine q_getr (κ := 11) (k := 7) (φ := 557) (pc' := 107) C Bh13 (cw_k Bh13.2.2 k0) fl_X10_43 rfl rfl rfl (cw_r Bh13.2.2 k0 rfl rfl (by decide) (by decide)) dX10_treeMark_104 rfl (fun b28 eb28 kb28 => ?_)
                          replace hf := ms_lE eb28 hf
                          refine lv_iconst (v := 2) hx hb dX10_treeMark_107 (by decide) (hp_n (n := 108) rfl ?_)
                          refine lv_iload hx hb dX10_treeMark_108 (lv_at hl 4 rfl) (hp_n (n := 110) rfl ?_)
                          refine lv_imul hx hb dX10_treeMark_110 (hp_n (n := 111) rfl ?_)
                          refine lv_iconst (v := 1) hx hb dX10_treeMark_111 (by decide) (hp_n (n := 112) rfl ?_)
                          refine lv_iadd hx hb dX10_treeMark_112 (hp_n (n := 113) rfl ?_)
                          obtain ⟨g29, hf⟩ := ms_gE hf
                          refine q_ial (κ := 33) (n := 48) (pc' := 114) C Bh13 (cw_k Bh13.2.2 kb28) (by decide) rfl (vi_of g29.1 g29.2) dX10_treeMark_113 rfl ?_
                          obtain ⟨rh30, qh30, hf⟩ := ms_bE hf
                          refine d_pi (pc' := 117) Bh13 (hp_runS (As := [.int x25, .int (hp_E αh13 33 b26 (((2 : Int32) * v7_h13)).toNatClampNeg), .int (hp_E αh13 33 b28 ((((2 : Int32) * v7_h13) + (1 : Int32))).toNatClampNeg)]) (rest := [.int v7_h13, .ref b24]) C Bh13 (n_X11_markOfTwo n Γ l αh13 Bh13.2.2.1 x25 (hp_E αh13 33 b26 (((2 : Int32) * v7_h13)).toNatClampNeg) (hp_E αh13 33 b28 ((((2 : Int32) * v7_h13) + (1 : Int32))).toNatClampNeg) rh30 qh30) lb_X11_markOfTwo ls_X11_markOfTwo lk_X10_92 rfl (by decide) rfl hl.1 rfl (Nat.le_of_ble_eq_true rfl) dX10_treeMark_114 ⟨Nat.le_refl _, Nat.le_refl _⟩) rfl (fun Hh30 Lh30 Bh30 => ?_)
                          obtain ⟨g31, hf⟩ := ms_gE hf
                          refine q_ias (κ := 33) (n := 48) (pc' := 118) C Bh30 (cw_k Bh30.2.2 kb24) (by decide) rfl (vi_of g31.1 g31.2) rfl (cw_sE Bh30.2.2 (by decide)) dX10_treeMark_117 rfl (fun αh32 Hh32 Lh32 eh32 Bh32 => ?_)
                          replace hf := ms_lE eh32 hf
                          obtain ⟨x33, ex33⟩ : ∃ y : Int32, y = v7_h13 + 1 := ⟨_, rfl⟩
                          replace hf := ms_lE ex33 hf
                          refine lv_iinc (v := x33) (lv' := [(7, .int x33), (0, .ref a0), (4, .int v4_h13), (5, .int v5_h13), (6, .int v6_h13)]) hx hb dX10_treeMark_118 hl (k := 4) rfl (by rw [ex33]; rfl) (by decide) rfl (fun ls hl => hp_n (n := 121) rfl ?_)
                          refine lv_goto (tgt := 77) hx hb dX10_treeMark_121 (by decide) ?_
                          exact ih77 αh32 Hh32 Lh32 Bh32 v4_h13 v5_h13 v6_h13 x33 ls (lv_sub hl [1, 2, 3, 4, 0] rfl) hf
                    refine lv_istore (lv' := [(7, .int (0 : Int32)), (6, .int x12), (0, .ref a0), (4, .int v4_h6), (5, .int v5_h6)]) hx hb dX10_treeMark_75 hl (by decide) rfl (fun ls hl => hp_n (n := 77) rfl ?_)
                    exact J77 n αh6 Hh6 Lh6 Bh6 v4_h6 v5_h6 x12 (0 : Int32) ls (lv_sub hl [2, 3, 4, 1, 0] rfl) hf
            refine lv_istore (lv' := [(5, .int (0 : Int32)), (0, .ref a0), (1, .ref v1_h4), (2, .int v2_h4), (4, .int v4_h4)]) hx hb dX10_treeMark_53 hl (by decide) rfl (fun ls hl => hp_n (n := 55) rfl ?_)
            exact J55 n αh4 Hh4 Lh4 Bh4 v4_h4 (0 : Int32) ls (lv_sub hl [1, 4, 0] rfl) hf
          ·
            replace hf := ms_iF c5 hf
            refine lv_aload_n hx hb dX10_treeMark_31 rfl (lv_at hl 0 rfl) (hp_n (n := 32) rfl ?_)
            refine q_getr (κ := 11) (k := 7) (φ := 557) (pc' := 35) C Bh4 (cw_k Bh4.2.2 k0) fl_X10_43 rfl rfl rfl (cw_r Bh4.2.2 k0 rfl rfl (by decide) (by decide)) dX10_treeMark_32 rfl (fun b34 eb34 kb34 => ?_)
            replace hf := ms_lE eb34 hf
            refine lv_iload hx hb dX10_treeMark_35 (lv_at hl 4 rfl) (hp_n (n := 37) rfl ?_)
            refine lv_aload_n hx hb dX10_treeMark_37 rfl (lv_at hl 1 rfl) (hp_n (n := 38) rfl ?_)
            refine lv_iload_n hx hb dX10_treeMark_38 rfl (lv_at hl 2 rfl) (hp_n (n := 39) rfl ?_)
            refine lv_iload hx hb dX10_treeMark_39 (lv_at hl 4 rfl) (hp_n (n := 41) rfl ?_)
            refine lv_iadd hx hb dX10_treeMark_41 (hp_n (n := 42) rfl ?_)
            obtain ⟨rh35, qh35, hf⟩ := ms_bE hf
            refine d_pi (pc' := 45) Bh4 (hp_runV (As := [.int (v2_h4 + v5_h4)]) (rest := [.int v5_h4, .ref b34]) C Bh4 (n_X2_markAt n Γ l αh4 Bh4.2.2.1 v1_h4 (cw_k Bh4.2.2 kv1_h4) (v2_h4 + v5_h4) rh35 qh35) lb_X2_markAt lv_X2_markAt lk_X10_88 (cw_k Bh4.2.2 kv1_h4) rfl (by decide) rfl hl.1 rfl (Nat.le_of_ble_eq_true rfl) dX10_treeMark_42 ⟨Nat.le_refl _, Nat.le_refl _⟩) rfl (fun Hh35 Lh35 Bh35 => ?_)
            obtain ⟨g36, hf⟩ := ms_gE hf
            refine q_ias (κ := 33) (n := 48) (pc' := 46) C Bh35 (cw_k Bh35.2.2 kb34) (by decide) rfl (vi_of g36.1 g36.2) rfl (cw_sE Bh35.2.2 (by decide)) dX10_treeMark_45 rfl (fun αh37 Hh37 Lh37 eh37 Bh37 => ?_)
            replace hf := ms_lE eh37 hf
            obtain ⟨x38, ex38⟩ : ∃ y : Int32, y = v5_h4 + 1 := ⟨_, rfl⟩
            replace hf := ms_lE ex38 hf
            refine lv_iinc (v := x38) (lv' := [(5, .int x38), (0, .ref a0), (1, .ref v1_h4), (2, .int v2_h4), (4, .int v4_h4)]) hx hb dX10_treeMark_46 hl (k := 4) rfl (by rw [ex38]; rfl) (by decide) rfl (fun ls hl => hp_n (n := 49) rfl ?_)
            refine lv_goto (tgt := 24) hx hb dX10_treeMark_49 (by decide) ?_
            exact ih24 αh37 Hh37 Lh37 Bh37 v1_h4 kv1_h4 v2_h4 v4_h4 x38 ls (lv_sub hl [1, 2, 3, 4, 0] rfl) hf
      refine lv_istore (lv' := [(5, .int (0 : Int32)), (4, .int rh3), (0, .ref a0), (1, .ref a1), (2, .int a2), (3, .int a3)]) hx hb dX10_treeMark_22 hl (by decide) rfl (fun ls hl => hp_n (n := 24) rfl ?_)
      exact J24 n α Hh3 Lh3 Bh3 a1 ka1 a2 rh3 (0 : Int32) ls (lv_sub hl [2, 3, 4, 1, 0] rfl) hf
    ·
      replace hf := ms_iF c1 hf
      refine lv_iconst (v := 0) hx hb dX10_treeMark_8 (by decide) (hp_n (n := 9) rfl ?_)
      cases hf
      exact q_iret C B hr hlk ⟨rfl, rfl, B.2.2⟩ dX10_treeMark_9
def f_X10_headOf (n : Nat) (α : hp_T) (a0 : Nat) (o1 : Option Nat) (a2 : Int32) : Option (Int32 × hp_T) :=
  hq_m o1 (
    hq_c (f_X10_treeMark n α a0 none (0 : Int32) a2) fun rh1 αh1 =>
    some (rh1, αh1)) fun a1 =>
  hq_c (f_X10_treeMark n α a0 (some a1) (0 : Int32) a2) fun rh2 αh2 =>
  some (rh2, αh2)
set_option maxRecDepth 100000 in
set_option maxHeartbeats 4000000 in
theorem n_X10_headOf (n : Nat) (Γ : hp_G) (l : Launch) (α : hp_T) (g : GC α) (a0 : Nat) (k0 : hp_K α a0 = 11) (o1 : Option Nat) (k1 : ∀ b, o1 = some b → hp_K α b = 3) (a2 : Int32) (res : (Int32 × hp_T)) (hf : f_X10_headOf n α a0 o1 a2 = some res) : Met l yX10_headOf (hp_ws yX10_headOf cX10_headOf 3 (some .int)) (hp_rm 2 0 0) (hp_Pc Γ α [.ref a0, va_rf o1, .int a2]) (hp_Qi Γ (fun r β => r = res.1 ∧ β = res.2 ∧ cw w_X10_headOf α β)) 0 0 (hp_A Γ) := by
  unfold f_X10_headOf at hf
  refine hp_start (by decide) ?_
  intro p e s m below meth c C hr hlk B0 hnm
  have C : hp_C Γ p m c cX10_headOf 3 s ([.ref a0, va_rf o1, .int a2] : List Value).toArray RX10 := C
  have hx := C.1.1
  have hb := C.1.2.1
  have hown := C.1.2.2.2.1
  have hts := C.1.2.2.2.2
  have B : hp_B Γ (cw w_X10_headOf) s α α s.heap [] := ⟨B0.1, B0.2.1, cw_rf g⟩
  rcases o1 with _ | a1
  ·
    replace hf := hq_N hf
    have hl := lv_entry ([.ref a0, .null, .int a2]) (n := 3) (Nat.le_of_ble_eq_true rfl)
    show W p l e (hp_rm 2 0 0) s m ([.ref a0, .null, .int a2] : List Value).toArray below meth c s.heap [] 0 0 (MQ below (hp_Qi Γ (fun r β => r = res.1 ∧ β = res.2 ∧ cw w_X10_headOf α β)) ([.ref a0, .null, .int a2] : List Value).toArray s 0 0 (hp_A Γ)) (entryFrame m ([.ref a0, .null, .int a2] : List Value).toArray 3)
    rw [lg_entry_eq]
    generalize (lg_sl ([.ref a0, .null, .int a2]) ++ List.replicate (3 - (lg_sl ([.ref a0, .null, .int a2])).length) Slot.unset).toArray = ls at hl ⊢
    have hl : lv_has ls 3 [(0, .ref a0), (1, .null), (2, .int a2)] := hl
    refine lv_aload_n hx hb dX10_headOf_0 rfl (lv_at hl 0 rfl) (hp_n (n := 1) rfl ?_)
    refine lv_aload_nN hx hb dX10_headOf_1 rfl (lv_at hl 1 rfl) (hp_n (n := 2) rfl ?_)
    refine lv_iconst (v := 0) hx hb dX10_headOf_2 (by decide) (hp_n (n := 3) rfl ?_)
    refine lv_iload_n hx hb dX10_headOf_3 rfl (lv_at hl 2 rfl) (hp_n (n := 4) rfl ?_)
    obtain ⟨rh1, αh1, qh1, hf⟩ := hq_cE hf
    refine d_ci (pc' := 7) B (hp_runV (As := [va_rf none, .int (0 : Int32), .int a2]) (rest := []) C B (n_X10_treeMark n Γ l α B.2.2.1 a0 (cw_k B.2.2 k0) none (fun b h => by cases h) (0 : Int32) a2 (rh1, αh1) qh1) lb_X10_treeMark lv_X10_treeMark lk_X10_100 (cw_k B.2.2 k0) rfl (by decide) rfl hl.1 rfl (Nat.le_of_ble_eq_true rfl) dX10_headOf_4 ⟨Nat.le_refl _, Nat.le_refl _⟩) (by decide) rfl (fun Hh1 Lh1 Bh1 => ?_)
    cases hf
    exact q_iret C Bh1 hr hlk ⟨rfl, rfl, Bh1.2.2⟩ dX10_headOf_7
  ·
    replace hf := hq_S hf
    have ka1 := k1 a1 rfl
    have hl := lv_entry ([.ref a0, .ref a1, .int a2]) (n := 3) (Nat.le_of_ble_eq_true rfl)
    show W p l e (hp_rm 2 0 0) s m ([.ref a0, .ref a1, .int a2] : List Value).toArray below meth c s.heap [] 0 0 (MQ below (hp_Qi Γ (fun r β => r = res.1 ∧ β = res.2 ∧ cw w_X10_headOf α β)) ([.ref a0, .ref a1, .int a2] : List Value).toArray s 0 0 (hp_A Γ)) (entryFrame m ([.ref a0, .ref a1, .int a2] : List Value).toArray 3)
    rw [lg_entry_eq]
    generalize (lg_sl ([.ref a0, .ref a1, .int a2]) ++ List.replicate (3 - (lg_sl ([.ref a0, .ref a1, .int a2])).length) Slot.unset).toArray = ls at hl ⊢
    have hl : lv_has ls 3 [(0, .ref a0), (1, .ref a1), (2, .int a2)] := hl
    refine lv_aload_n hx hb dX10_headOf_0 rfl (lv_at hl 0 rfl) (hp_n (n := 1) rfl ?_)
    refine lv_aload_n hx hb dX10_headOf_1 rfl (lv_at hl 1 rfl) (hp_n (n := 2) rfl ?_)
    refine lv_iconst (v := 0) hx hb dX10_headOf_2 (by decide) (hp_n (n := 3) rfl ?_)
    refine lv_iload_n hx hb dX10_headOf_3 rfl (lv_at hl 2 rfl) (hp_n (n := 4) rfl ?_)
    obtain ⟨rh2, αh2, qh2, hf⟩ := hq_cE hf
    refine d_ci (pc' := 7) B (hp_runV (As := [va_rf (some a1), .int (0 : Int32), .int a2]) (rest := []) C B (n_X10_treeMark n Γ l α B.2.2.1 a0 (cw_k B.2.2 k0) (some a1) (fun b h => by cases h; exact (cw_k B.2.2 ka1)) (0 : Int32) a2 (rh2, αh2) qh2) lb_X10_treeMark lv_X10_treeMark lk_X10_100 (cw_k B.2.2 k0) rfl (by decide) rfl hl.1 rfl (Nat.le_of_ble_eq_true rfl) dX10_headOf_4 ⟨Nat.le_refl _, Nat.le_refl _⟩) (by decide) rfl (fun Hh2 Lh2 Bh2 => ?_)
    cases hf
    exact q_iret C Bh2 hr hlk ⟨rfl, rfl, Bh2.2.2⟩ dX10_headOf_7
def f_X10_peaksOfn_J44 (n : Nat) (a0 : Nat) (rec12 : hp_T → Int32 → Nat → Int32 → Int32 → Option hp_T) (αh4 : hp_T) (v2_h4 : Int32) (v3_h4 : Nat) (v4_h4 : Int32) (v5_h4 : Int32) : Option hp_T :=
  ms_l ((v5_h4 / (2 : Int32))) fun x5 =>
  rec12 αh4 v2_h4 v3_h4 v4_h4 x5
def f_X10_peaksOfn_L12 (n : Nat) (a0 : Nat) : Nat → hp_T → Int32 → Nat → Int32 → Int32 → Option hp_T
  | 0, _, _, _, _, _ => none
  | k12 + 1, αh2, v2_h2, v3_h2, v4_h2, v5_h2 =>
    if v5_h2 ≤ 0 then
      some αh2
    else
      if (v2_h2 &&& v5_h2) = 0 then
        f_X10_peaksOfn_J44 n a0 (f_X10_peaksOfn_L12 n a0 k12) αh2 v2_h2 v3_h2 v4_h2 v5_h2
      else
        hq_c (f_X10_treeMark n αh2 a0 none v4_h2 v5_h2) fun rh7 αh7 =>
        ms_b (f_X5_put n αh7 v3_h2 rh7) fun αh8 =>
        ms_l ((v4_h2 + v5_h2)) fun x9 =>
        f_X10_peaksOfn_J44 n a0 (f_X10_peaksOfn_L12 n a0 k12) αh8 v2_h2 v3_h2 x9 v5_h2
def f_X10_peaksOfs_J44 (n : Nat) (a0 : Nat) (rec12 : hp_T → Nat → Int32 → Nat → Int32 → Int32 → Option hp_T) (αh13 : hp_T) (v1_h13 : Nat) (v2_h13 : Int32) (v3_h13 : Nat) (v4_h13 : Int32) (v5_h13 : Int32) : Option hp_T :=
  ms_l ((v5_h13 / (2 : Int32))) fun x14 =>
  rec12 αh13 v1_h13 v2_h13 v3_h13 v4_h13 x14
def f_X10_peaksOfs_L12 (n : Nat) (a0 : Nat) : Nat → hp_T → Nat → Int32 → Nat → Int32 → Int32 → Option hp_T
  | 0, _, _, _, _, _, _ => none
  | k12 + 1, αh11, v1_h11, v2_h11, v3_h11, v4_h11, v5_h11 =>
    if v5_h11 ≤ 0 then
      some αh11
    else
      if (v2_h11 &&& v5_h11) = 0 then
        f_X10_peaksOfs_J44 n a0 (f_X10_peaksOfs_L12 n a0 k12) αh11 v1_h11 v2_h11 v3_h11 v4_h11 v5_h11
      else
        hq_c (f_X10_treeMark n αh11 a0 (some v1_h11) v4_h11 v5_h11) fun rh16 αh16 =>
        ms_b (f_X5_put n αh16 v3_h11 rh16) fun αh17 =>
        ms_l ((v4_h11 + v5_h11)) fun x18 =>
        f_X10_peaksOfs_J44 n a0 (f_X10_peaksOfs_L12 n a0 k12) αh17 v1_h11 v2_h11 v3_h11 x18 v5_h11
def f_X10_peaksOf (n : Nat) (α : hp_T) (a0 : Nat) (o1 : Option Nat) (a2 : Int32) (a3 : Nat) : Option hp_T :=
  hq_m o1 (
    ms_b (f_X5_shorten n α a3 (0 : Int32)) fun αh1 =>
    f_X10_peaksOfn_L12 n a0 n αh1 a2 a3 (0 : Int32) (32 : Int32)) fun a1 =>
  ms_b (f_X5_shorten n α a3 (0 : Int32)) fun αh10 =>
  f_X10_peaksOfs_L12 n a0 n αh10 a1 a2 a3 (0 : Int32) (32 : Int32)
set_option maxRecDepth 100000 in
set_option maxHeartbeats 4000000 in
theorem n_X10_peaksOf (n : Nat) (Γ : hp_G) (l : Launch) (α : hp_T) (g : GC α) (a0 : Nat) (k0 : hp_K α a0 = 11) (o1 : Option Nat) (k1 : ∀ b, o1 = some b → hp_K α b = 3) (a2 : Int32) (a3 : Nat) (k3 : hp_K α a3 = 6) (res : hp_T) (hf : f_X10_peaksOf n α a0 o1 a2 a3 = some res) : Met l yX10_peaksOf (hp_ws yX10_peaksOf cX10_peaksOf 6 none) (hp_rm 2 0 0) (hp_Pc Γ α [.ref a0, va_rf o1, .int a2, .ref a3]) (hp_Qv Γ (fun β => β = res ∧ cw w_X10_peaksOf α β)) 0 0 (hp_A Γ) := by
  unfold f_X10_peaksOf at hf
  refine hp_start (by decide) ?_
  intro p e s m below meth c C hr hlk B0 hnm
  have C : hp_C Γ p m c cX10_peaksOf 6 s ([.ref a0, va_rf o1, .int a2, .ref a3] : List Value).toArray RX10 := C
  have hx := C.1.1
  have hb := C.1.2.1
  have hown := C.1.2.2.2.1
  have hts := C.1.2.2.2.2
  have B : hp_B Γ (cw w_X10_peaksOf) s α α s.heap [] := ⟨B0.1, B0.2.1, cw_rf g⟩
  rcases o1 with _ | a1
  ·
    replace hf := hq_N hf
    have hl := lv_entry ([.ref a0, .null, .int a2, .ref a3]) (n := 6) (Nat.le_of_ble_eq_true rfl)
    show W p l e (hp_rm 2 0 0) s m ([.ref a0, .null, .int a2, .ref a3] : List Value).toArray below meth c s.heap [] 0 0 (MQ below (hp_Qv Γ (fun β => β = res ∧ cw w_X10_peaksOf α β)) ([.ref a0, .null, .int a2, .ref a3] : List Value).toArray s 0 0 (hp_A Γ)) (entryFrame m ([.ref a0, .null, .int a2, .ref a3] : List Value).toArray 6)
    rw [lg_entry_eq]
    generalize (lg_sl ([.ref a0, .null, .int a2, .ref a3]) ++ List.replicate (6 - (lg_sl ([.ref a0, .null, .int a2, .ref a3])).length) Slot.unset).toArray = ls at hl ⊢
    have hl : lv_has ls 6 [(0, .ref a0), (1, .null), (2, .int a2), (3, .ref a3)] := hl
    refine lv_aload_n hx hb dX10_peaksOf_0 rfl (lv_at hl 3 rfl) (hp_n (n := 1) rfl ?_)
    refine lv_iconst (v := 0) hx hb dX10_peaksOf_1 (by decide) (hp_n (n := 2) rfl ?_)
    obtain ⟨αh1, qh1, hf⟩ := ms_bE hf
    refine d_cv (pc' := 5) B (hp_runV (As := [.int (0 : Int32)]) (rest := []) C B (n_X5_shorten n Γ l α B.2.2.1 a3 (cw_k B.2.2 k3) (0 : Int32) αh1 qh1) lb_X5_shorten lv_X5_shorten lk_X10_96 (cw_k B.2.2 k3) rfl (by decide) rfl hl.1 rfl (Nat.le_of_ble_eq_true rfl) dX10_peaksOf_2 ⟨Nat.le_refl _, Nat.le_refl _⟩) (by decide) rfl (fun Hh1 Lh1 Bh1 => ?_)
    refine lv_iconst (v := 0) hx hb dX10_peaksOf_5 (by decide) (hp_n (n := 6) rfl ?_)
    refine lv_istore (lv' := [(4, .int (0 : Int32)), (0, .ref a0), (1, .null), (2, .int a2), (3, .ref a3)]) hx hb dX10_peaksOf_6 hl (by decide) rfl (fun ls hl => hp_n (n := 8) rfl ?_)
    refine lv_bipush (v := 32) hx hb dX10_peaksOf_8 (by decide) (hp_n (n := 10) rfl ?_)
    have J12 : ∀ (k12 : Nat) (αh2 : hp_T) (Hh2 : Heap) (Lh2 : List Loc) (Bh2 : hp_B Γ (cw w_X10_peaksOf) s α αh2 Hh2 Lh2) (v2_h2 : Int32) (v3_h2 : Nat) (kv3_h2 : hp_K α v3_h2 = 6) (v4_h2 : Int32) (v5_h2 : Int32) (ls : Array Slot) (hl : lv_has ls 6 [(0, .ref a0), (1, .null), (2, .int v2_h2), (3, .ref v3_h2), (4, .int v4_h2), (5, .int v5_h2)]) (hf : f_X10_peaksOfn_L12 n a0 k12 αh2 v2_h2 v3_h2 v4_h2 v5_h2 = some res), W p l e (hp_rm 2 0 0) s m ([.ref a0, .null, .int a2, .ref a3] : List Value).toArray below meth c Hh2 Lh2 0 0 (MQ below (hp_Qv Γ (fun β => β = res ∧ cw w_X10_peaksOf α β)) ([.ref a0, .null, .int a2, .ref a3] : List Value).toArray s 0 0 (hp_A Γ)) (F0 m 12 ls []) := by
      intro k12
      induction k12 with
      | zero => intro αh2 Hh2 Lh2 Bh2 v2_h2 v3_h2 kv3_h2 v4_h2 v5_h2 ls hl hf; rw [f_X10_peaksOfn_L12.eq_1] at hf; cases hf
      | succ k12 ih12 =>
        intro αh2 Hh2 Lh2 Bh2 v2_h2 v3_h2 kv3_h2 v4_h2 v5_h2 ls hl hf
        rw [f_X10_peaksOfn_L12.eq_2] at hf
        refine lv_iload hx hb dX10_peaksOf_12 (lv_at hl 5 rfl) (hp_n (n := 14) rfl ?_)
        refine lv_if_le (tgt := 53) hx hb dX10_peaksOf_14 (by decide) (fun c3 => ?_) (fun c3 => hp_n (n := 17) rfl ?_)
        ·
          replace hf := ms_iT c3 hf
          cases hf
          exact q_vret C Bh2 hr hlk ⟨rfl, Bh2.2.2⟩ dX10_peaksOf_53
        ·
          replace hf := ms_iF c3 hf
          refine lv_iload_n hx hb dX10_peaksOf_17 rfl (lv_at hl 2 rfl) (hp_n (n := 18) rfl ?_)
          refine lv_iload hx hb dX10_peaksOf_18 (lv_at hl 5 rfl) (hp_n (n := 20) rfl ?_)
          refine lv_iand hx hb dX10_peaksOf_20 (hp_n (n := 21) rfl ?_)
          have J44 : ∀ (αh4 : hp_T) (Hh4 : Heap) (Lh4 : List Loc) (Bh4 : hp_B Γ (cw w_X10_peaksOf) s α αh4 Hh4 Lh4) (v2_h4 : Int32) (v3_h4 : Nat) (kv3_h4 : hp_K α v3_h4 = 6) (v4_h4 : Int32) (v5_h4 : Int32) (ls : Array Slot) (hl : lv_has ls 6 [(0, .ref a0), (1, .null), (2, .int v2_h4), (3, .ref v3_h4), (4, .int v4_h4), (5, .int v5_h4)]) (hf : f_X10_peaksOfn_J44 n a0 (f_X10_peaksOfn_L12 n a0 k12) αh4 v2_h4 v3_h4 v4_h4 v5_h4 = some res), W p l e (hp_rm 2 0 0) s m ([.ref a0, .null, .int a2, .ref a3] : List Value).toArray below meth c Hh4 Lh4 0 0 (MQ below (hp_Qv Γ (fun β => β = res ∧ cw w_X10_peaksOf α β)) ([.ref a0, .null, .int a2, .ref a3] : List Value).toArray s 0 0 (hp_A Γ)) (F0 m 44 ls []) := by
            intro αh4 Hh4 Lh4 Bh4 v2_h4 v3_h4 kv3_h4 v4_h4 v5_h4 ls hl hf
            unfold f_X10_peaksOfn_J44 at hf
            refine lv_iload hx hb dX10_peaksOf_44 (lv_at hl 5 rfl) (hp_n (n := 46) rfl ?_)
            refine lv_iconst (v := 2) hx hb dX10_peaksOf_46 (by decide) (hp_n (n := 47) rfl ?_)
            refine lv_idiv hx hb dX10_peaksOf_47 (by decide) (hp_n (n := 48) rfl ?_)
            refine lv_topi (fun x5 ex5 => ?_)
            replace hf := ms_lE ex5 hf
            refine lv_istore (lv' := [(5, .int x5), (0, .ref a0), (1, .null), (2, .int v2_h4), (3, .ref v3_h4), (4, .int v4_h4)]) hx hb dX10_peaksOf_48 hl (by decide) rfl (fun ls hl => hp_n (n := 50) rfl ?_)
            refine lv_goto (tgt := 12) hx hb dX10_peaksOf_50 (by decide) ?_
            exact ih12 αh4 Hh4 Lh4 Bh4 v2_h4 v3_h4 kv3_h4 v4_h4 x5 ls (lv_sub hl [1, 2, 3, 4, 5, 0] rfl) hf
          refine lv_if_eq (tgt := 44) hx hb dX10_peaksOf_21 (by decide) (fun c6 => ?_) (fun c6 => hp_n (n := 24) rfl ?_)
          ·
            replace hf := ms_iT c6 hf
            exact J44 αh2 Hh2 Lh2 Bh2 v2_h2 v3_h2 kv3_h2 v4_h2 v5_h2 ls (lv_sub hl [0, 1, 2, 3, 4, 5] rfl) hf
          ·
            replace hf := ms_iF c6 hf
            refine lv_aload_n hx hb dX10_peaksOf_24 rfl (lv_at hl 3 rfl) (hp_n (n := 25) rfl ?_)
            refine lv_aload_n hx hb dX10_peaksOf_25 rfl (lv_at hl 0 rfl) (hp_n (n := 26) rfl ?_)
            refine lv_aload_nN hx hb dX10_peaksOf_26 rfl (lv_at hl 1 rfl) (hp_n (n := 27) rfl ?_)
            refine lv_iload hx hb dX10_peaksOf_27 (lv_at hl 4 rfl) (hp_n (n := 29) rfl ?_)
            refine lv_iload hx hb dX10_peaksOf_29 (lv_at hl 5 rfl) (hp_n (n := 31) rfl ?_)
            obtain ⟨rh7, αh7, qh7, hf⟩ := hq_cE hf
            refine d_ci (pc' := 34) Bh2 (hp_runV (As := [va_rf none, .int v4_h2, .int v5_h2]) (rest := [.ref v3_h2]) C Bh2 (n_X10_treeMark n Γ l αh2 Bh2.2.2.1 a0 (cw_k Bh2.2.2 k0) none (fun b h => by cases h) v4_h2 v5_h2 (rh7, αh7) qh7) lb_X10_treeMark lv_X10_treeMark lk_X10_100 (cw_k Bh2.2.2 k0) rfl (by decide) rfl hl.1 rfl (Nat.le_of_ble_eq_true rfl) dX10_peaksOf_31 ⟨Nat.le_refl _, Nat.le_refl _⟩) (by decide) rfl (fun Hh7 Lh7 Bh7 => ?_)
            obtain ⟨αh8, qh8, hf⟩ := ms_bE hf
            refine d_cv (pc' := 37) Bh7 (hp_runV (As := [.int rh7]) (rest := []) C Bh7 (n_X5_put n Γ l αh7 Bh7.2.2.1 v3_h2 (cw_k Bh7.2.2 kv3_h2) rh7 αh8 qh8) lb_X5_put lv_X5_put lk_X10_104 (cw_k Bh7.2.2 kv3_h2) rfl (by decide) rfl hl.1 rfl (Nat.le_of_ble_eq_true rfl) dX10_peaksOf_34 ⟨Nat.le_refl _, Nat.le_refl _⟩) (by decide) rfl (fun Hh8 Lh8 Bh8 => ?_)
            refine lv_iload hx hb dX10_peaksOf_37 (lv_at hl 4 rfl) (hp_n (n := 39) rfl ?_)
            refine lv_iload hx hb dX10_peaksOf_39 (lv_at hl 5 rfl) (hp_n (n := 41) rfl ?_)
            refine lv_iadd hx hb dX10_peaksOf_41 (hp_n (n := 42) rfl ?_)
            refine lv_topi (fun x9 ex9 => ?_)
            replace hf := ms_lE ex9 hf
            refine lv_istore (lv' := [(4, .int x9), (0, .ref a0), (1, .null), (2, .int v2_h2), (3, .ref v3_h2), (5, .int v5_h2)]) hx hb dX10_peaksOf_42 hl (by decide) rfl (fun ls hl => hp_n (n := 44) rfl ?_)
            exact J44 αh8 Hh8 Lh8 Bh8 v2_h2 v3_h2 kv3_h2 x9 v5_h2 ls (lv_sub hl [1, 2, 3, 4, 0, 5] rfl) hf
    refine lv_istore (lv' := [(5, .int (32 : Int32)), (4, .int (0 : Int32)), (0, .ref a0), (1, .null), (2, .int a2), (3, .ref a3)]) hx hb dX10_peaksOf_10 hl (by decide) rfl (fun ls hl => hp_n (n := 12) rfl ?_)
    exact J12 n αh1 Hh1 Lh1 Bh1 a2 a3 k3 (0 : Int32) (32 : Int32) ls (lv_sub hl [2, 3, 4, 5, 1, 0] rfl) hf
  ·
    replace hf := hq_S hf
    have ka1 := k1 a1 rfl
    have hl := lv_entry ([.ref a0, .ref a1, .int a2, .ref a3]) (n := 6) (Nat.le_of_ble_eq_true rfl)
    show W p l e (hp_rm 2 0 0) s m ([.ref a0, .ref a1, .int a2, .ref a3] : List Value).toArray below meth c s.heap [] 0 0 (MQ below (hp_Qv Γ (fun β => β = res ∧ cw w_X10_peaksOf α β)) ([.ref a0, .ref a1, .int a2, .ref a3] : List Value).toArray s 0 0 (hp_A Γ)) (entryFrame m ([.ref a0, .ref a1, .int a2, .ref a3] : List Value).toArray 6)
    rw [lg_entry_eq]
    generalize (lg_sl ([.ref a0, .ref a1, .int a2, .ref a3]) ++ List.replicate (6 - (lg_sl ([.ref a0, .ref a1, .int a2, .ref a3])).length) Slot.unset).toArray = ls at hl ⊢
    have hl : lv_has ls 6 [(0, .ref a0), (1, .ref a1), (2, .int a2), (3, .ref a3)] := hl
    refine lv_aload_n hx hb dX10_peaksOf_0 rfl (lv_at hl 3 rfl) (hp_n (n := 1) rfl ?_)
    refine lv_iconst (v := 0) hx hb dX10_peaksOf_1 (by decide) (hp_n (n := 2) rfl ?_)
    obtain ⟨αh10, qh10, hf⟩ := ms_bE hf
    refine d_cv (pc' := 5) B (hp_runV (As := [.int (0 : Int32)]) (rest := []) C B (n_X5_shorten n Γ l α B.2.2.1 a3 (cw_k B.2.2 k3) (0 : Int32) αh10 qh10) lb_X5_shorten lv_X5_shorten lk_X10_96 (cw_k B.2.2 k3) rfl (by decide) rfl hl.1 rfl (Nat.le_of_ble_eq_true rfl) dX10_peaksOf_2 ⟨Nat.le_refl _, Nat.le_refl _⟩) (by decide) rfl (fun Hh10 Lh10 Bh10 => ?_)
    refine lv_iconst (v := 0) hx hb dX10_peaksOf_5 (by decide) (hp_n (n := 6) rfl ?_)
    refine lv_istore (lv' := [(4, .int (0 : Int32)), (0, .ref a0), (1, .ref a1), (2, .int a2), (3, .ref a3)]) hx hb dX10_peaksOf_6 hl (by decide) rfl (fun ls hl => hp_n (n := 8) rfl ?_)
    refine lv_bipush (v := 32) hx hb dX10_peaksOf_8 (by decide) (hp_n (n := 10) rfl ?_)
    have J12 : ∀ (k12 : Nat) (αh11 : hp_T) (Hh11 : Heap) (Lh11 : List Loc) (Bh11 : hp_B Γ (cw w_X10_peaksOf) s α αh11 Hh11 Lh11) (v1_h11 : Nat) (kv1_h11 : hp_K α v1_h11 = 3) (v2_h11 : Int32) (v3_h11 : Nat) (kv3_h11 : hp_K α v3_h11 = 6) (v4_h11 : Int32) (v5_h11 : Int32) (ls : Array Slot) (hl : lv_has ls 6 [(0, .ref a0), (1, .ref v1_h11), (2, .int v2_h11), (3, .ref v3_h11), (4, .int v4_h11), (5, .int v5_h11)]) (hf : f_X10_peaksOfs_L12 n a0 k12 αh11 v1_h11 v2_h11 v3_h11 v4_h11 v5_h11 = some res), W p l e (hp_rm 2 0 0) s m ([.ref a0, .ref a1, .int a2, .ref a3] : List Value).toArray below meth c Hh11 Lh11 0 0 (MQ below (hp_Qv Γ (fun β => β = res ∧ cw w_X10_peaksOf α β)) ([.ref a0, .ref a1, .int a2, .ref a3] : List Value).toArray s 0 0 (hp_A Γ)) (F0 m 12 ls []) := by
      intro k12
      induction k12 with
      | zero => intro αh11 Hh11 Lh11 Bh11 v1_h11 kv1_h11 v2_h11 v3_h11 kv3_h11 v4_h11 v5_h11 ls hl hf; rw [f_X10_peaksOfs_L12.eq_1] at hf; cases hf
      | succ k12 ih12 =>
        intro αh11 Hh11 Lh11 Bh11 v1_h11 kv1_h11 v2_h11 v3_h11 kv3_h11 v4_h11 v5_h11 ls hl hf
        rw [f_X10_peaksOfs_L12.eq_2] at hf
        refine lv_iload hx hb dX10_peaksOf_12 (lv_at hl 5 rfl) (hp_n (n := 14) rfl ?_)
        refine lv_if_le (tgt := 53) hx hb dX10_peaksOf_14 (by decide) (fun c12 => ?_) (fun c12 => hp_n (n := 17) rfl ?_)
        ·
          replace hf := ms_iT c12 hf
          cases hf
          exact q_vret C Bh11 hr hlk ⟨rfl, Bh11.2.2⟩ dX10_peaksOf_53
        ·
          replace hf := ms_iF c12 hf
          refine lv_iload_n hx hb dX10_peaksOf_17 rfl (lv_at hl 2 rfl) (hp_n (n := 18) rfl ?_)
          refine lv_iload hx hb dX10_peaksOf_18 (lv_at hl 5 rfl) (hp_n (n := 20) rfl ?_)
          refine lv_iand hx hb dX10_peaksOf_20 (hp_n (n := 21) rfl ?_)
          have J44 : ∀ (αh13 : hp_T) (Hh13 : Heap) (Lh13 : List Loc) (Bh13 : hp_B Γ (cw w_X10_peaksOf) s α αh13 Hh13 Lh13) (v1_h13 : Nat) (kv1_h13 : hp_K α v1_h13 = 3) (v2_h13 : Int32) (v3_h13 : Nat) (kv3_h13 : hp_K α v3_h13 = 6) (v4_h13 : Int32) (v5_h13 : Int32) (ls : Array Slot) (hl : lv_has ls 6 [(0, .ref a0), (1, .ref v1_h13), (2, .int v2_h13), (3, .ref v3_h13), (4, .int v4_h13), (5, .int v5_h13)]) (hf : f_X10_peaksOfs_J44 n a0 (f_X10_peaksOfs_L12 n a0 k12) αh13 v1_h13 v2_h13 v3_h13 v4_h13 v5_h13 = some res), W p l e (hp_rm 2 0 0) s m ([.ref a0, .ref a1, .int a2, .ref a3] : List Value).toArray below meth c Hh13 Lh13 0 0 (MQ below (hp_Qv Γ (fun β => β = res ∧ cw w_X10_peaksOf α β)) ([.ref a0, .ref a1, .int a2, .ref a3] : List Value).toArray s 0 0 (hp_A Γ)) (F0 m 44 ls []) := by
            intro αh13 Hh13 Lh13 Bh13 v1_h13 kv1_h13 v2_h13 v3_h13 kv3_h13 v4_h13 v5_h13 ls hl hf
            unfold f_X10_peaksOfs_J44 at hf
            refine lv_iload hx hb dX10_peaksOf_44 (lv_at hl 5 rfl) (hp_n (n := 46) rfl ?_)
            refine lv_iconst (v := 2) hx hb dX10_peaksOf_46 (by decide) (hp_n (n := 47) rfl ?_)
            refine lv_idiv hx hb dX10_peaksOf_47 (by decide) (hp_n (n := 48) rfl ?_)
            refine lv_topi (fun x14 ex14 => ?_)
            replace hf := ms_lE ex14 hf
            refine lv_istore (lv' := [(5, .int x14), (0, .ref a0), (1, .ref v1_h13), (2, .int v2_h13), (3, .ref v3_h13), (4, .int v4_h13)]) hx hb dX10_peaksOf_48 hl (by decide) rfl (fun ls hl => hp_n (n := 50) rfl ?_)
            refine lv_goto (tgt := 12) hx hb dX10_peaksOf_50 (by decide) ?_
            exact ih12 αh13 Hh13 Lh13 Bh13 v1_h13 kv1_h13 v2_h13 v3_h13 kv3_h13 v4_h13 x14 ls (lv_sub hl [1, 2, 3, 4, 5, 0] rfl) hf
          refine lv_if_eq (tgt := 44) hx hb dX10_peaksOf_21 (by decide) (fun c15 => ?_) (fun c15 => hp_n (n := 24) rfl ?_)
          ·
            replace hf := ms_iT c15 hf
            exact J44 αh11 Hh11 Lh11 Bh11 v1_h11 kv1_h11 v2_h11 v3_h11 kv3_h11 v4_h11 v5_h11 ls (lv_sub hl [0, 1, 2, 3, 4, 5] rfl) hf
          ·
            replace hf := ms_iF c15 hf
            refine lv_aload_n hx hb dX10_peaksOf_24 rfl (lv_at hl 3 rfl) (hp_n (n := 25) rfl ?_)
            refine lv_aload_n hx hb dX10_peaksOf_25 rfl (lv_at hl 0 rfl) (hp_n (n := 26) rfl ?_)
            refine lv_aload_n hx hb dX10_peaksOf_26 rfl (lv_at hl 1 rfl) (hp_n (n := 27) rfl ?_)
            refine lv_iload hx hb dX10_peaksOf_27 (lv_at hl 4 rfl) (hp_n (n := 29) rfl ?_)
            refine lv_iload hx hb dX10_peaksOf_29 (lv_at hl 5 rfl) (hp_n (n := 31) rfl ?_)
            obtain ⟨rh16, αh16, qh16, hf⟩ := hq_cE hf
            refine d_ci (pc' := 34) Bh11 (hp_runV (As := [va_rf (some v1_h11), .int v4_h11, .int v5_h11]) (rest := [.ref v3_h11]) C Bh11 (n_X10_treeMark n Γ l αh11 Bh11.2.2.1 a0 (cw_k Bh11.2.2 k0) (some v1_h11) (fun b h => by cases h; exact (cw_k Bh11.2.2 kv1_h11)) v4_h11 v5_h11 (rh16, αh16) qh16) lb_X10_treeMark lv_X10_treeMark lk_X10_100 (cw_k Bh11.2.2 k0) rfl (by decide) rfl hl.1 rfl (Nat.le_of_ble_eq_true rfl) dX10_peaksOf_31 ⟨Nat.le_refl _, Nat.le_refl _⟩) (by decide) rfl (fun Hh16 Lh16 Bh16 => ?_)
            obtain ⟨αh17, qh17, hf⟩ := ms_bE hf
            refine d_cv (pc' := 37) Bh16 (hp_runV (As := [.int rh16]) (rest := []) C Bh16 (n_X5_put n Γ l αh16 Bh16.2.2.1 v3_h11 (cw_k Bh16.2.2 kv3_h11) rh16 αh17 qh17) lb_X5_put lv_X5_put lk_X10_104 (cw_k Bh16.2.2 kv3_h11) rfl (by decide) rfl hl.1 rfl (Nat.le_of_ble_eq_true rfl) dX10_peaksOf_34 ⟨Nat.le_refl _, Nat.le_refl _⟩) (by decide) rfl (fun Hh17 Lh17 Bh17 => ?_)
            refine lv_iload hx hb dX10_peaksOf_37 (lv_at hl 4 rfl) (hp_n (n := 39) rfl ?_)
            refine lv_iload hx hb dX10_peaksOf_39 (lv_at hl 5 rfl) (hp_n (n := 41) rfl ?_)
            refine lv_iadd hx hb dX10_peaksOf_41 (hp_n (n := 42) rfl ?_)
            refine lv_topi (fun x18 ex18 => ?_)
            replace hf := ms_lE ex18 hf
            refine lv_istore (lv' := [(4, .int x18), (0, .ref a0), (1, .ref v1_h11), (2, .int v2_h11), (3, .ref v3_h11), (5, .int v5_h11)]) hx hb dX10_peaksOf_42 hl (by decide) rfl (fun ls hl => hp_n (n := 44) rfl ?_)
            exact J44 αh17 Hh17 Lh17 Bh17 v1_h11 kv1_h11 v2_h11 v3_h11 kv3_h11 x18 v5_h11 ls (lv_sub hl [1, 2, 3, 4, 0, 5] rfl) hf
    refine lv_istore (lv' := [(5, .int (32 : Int32)), (4, .int (0 : Int32)), (0, .ref a0), (1, .ref a1), (2, .int a2), (3, .ref a3)]) hx hb dX10_peaksOf_10 hl (by decide) rfl (fun ls hl => hp_n (n := 12) rfl ?_)
    exact J12 n αh10 Hh10 Lh10 Bh10 a1 ka1 a2 a3 k3 (0 : Int32) (32 : Int32) ls (lv_sub hl [2, 3, 4, 5, 1, 0] rfl) hf
def f_X2_putWord (n : Nat) (α : hp_T) (a0 : Nat) (a1 : Nat) (a2 : Int32) : Option hp_T :=
  ms_l (hp_I α 152 a0) fun x1 =>
  if x1 < 0 then
    some α
  else
    ms_l (hp_I α 152 a0) fun x3 =>
    ms_l (hp_R α 150 a0) fun b4 =>
    if (48 : Int32) ≤ x3 then
      some α
    else
      ms_l (hp_I α 152 a0) fun x6 =>
      ms_l (hp_R α 151 a0) fun b7 =>
      if (48 : Int32) ≤ x6 then
        some α
      else
        ms_l (hp_R α 150 a0) fun b9 =>
        ms_l (hp_I α 152 a0) fun x10 =>
        ms_g x10 48 <|
        hq_m (hp_Q α 28 b9 (x10).toNatClampNeg) (
          some α) fun b12 =>
        ms_l (hp_R α 150 a0) fun b13 =>
        ms_l (hp_I α 152 a0) fun x14 =>
        ms_g x14 48 <|
        hq_m (hp_Q α 28 b13 (x14).toNatClampNeg) (
          none) fun b16 =>
        ms_b (f_X9_copy n α b16 a1) fun αh18 =>
        ms_l (hp_R αh18 151 a0) fun b19 =>
        ms_l (hp_I αh18 152 a0) fun x20 =>
        ms_b (f_X9_markBy n αh18 a1 a2) fun rh21 =>
        ms_g x20 48 <|
        ms_l (hp_sE αh18 29 b19 (x20).toNatClampNeg rh21) fun αh23 =>
        ms_l (hp_I αh23 152 a0) fun x24 =>
        ms_l (hp_sI αh23 152 a0 (x24 + (1 : Int32))) fun αh25 =>
        some αh25
set_option maxRecDepth 100000 in
set_option maxHeartbeats 4000000 in
theorem n_X2_putWord (n : Nat) (Γ : hp_G) (l : Launch) (α : hp_T) (g : GC α) (a0 : Nat) (k0 : hp_K α a0 = 3) (a1 : Nat) (k1 : hp_K α a1 = 10) (a2 : Int32) (res : hp_T) (hf : f_X2_putWord n α a0 a1 a2 = some res) : Met l yX2_putWord (hp_ws yX2_putWord cX2_putWord 3 none) (hp_rm 2 0 0) (hp_Pc Γ α [.ref a0, .ref a1, .int a2]) (hp_Qv Γ (fun β => β = res ∧ cw w_X2_putWord α β)) 0 0 (hp_A Γ) := by
  unfold f_X2_putWord at hf
  refine hp_start (by decide) ?_
  intro p e s m below meth c C hr hlk B0 hnm
  have C : hp_C Γ p m c cX2_putWord 3 s ([.ref a0, .ref a1, .int a2] : List Value).toArray RX2 := C
  have hx := C.1.1
  have hb := C.1.2.1
  have hown := C.1.2.2.2.1
  have hts := C.1.2.2.2.2
  have B : hp_B Γ (cw w_X2_putWord) s α α s.heap [] := ⟨B0.1, B0.2.1, cw_rf g⟩
  have hl := lv_entry ([.ref a0, .ref a1, .int a2]) (n := 3) (Nat.le_of_ble_eq_true rfl)
  show W p l e (hp_rm 2 0 0) s m ([.ref a0, .ref a1, .int a2] : List Value).toArray below meth c s.heap [] 0 0 (MQ below (hp_Qv Γ (fun β => β = res ∧ cw w_X2_putWord α β)) ([.ref a0, .ref a1, .int a2] : List Value).toArray s 0 0 (hp_A Γ)) (entryFrame m ([.ref a0, .ref a1, .int a2] : List Value).toArray 3)
  rw [lg_entry_eq]
  generalize (lg_sl ([.ref a0, .ref a1, .int a2]) ++ List.replicate (3 - (lg_sl ([.ref a0, .ref a1, .int a2])).length) Slot.unset).toArray = ls at hl ⊢
  have hl : lv_has ls 3 [(0, .ref a0), (1, .ref a1), (2, .int a2)] := hl
  refine lv_aload_n hx hb dX2_putWord_0 rfl (lv_at hl 0 rfl) (hp_n (n := 1) rfl ?_)
  refine q_geti (κ := 3) (k := 2) (φ := 152) (pc' := 4) C B (cw_k B.2.2 k0) fl_X2_21 rfl rfl rfl dX2_putWord_1 rfl (fun x1 ex1 => ?_)
  replace hf := ms_lE ex1 hf
  refine lv_if_lt (tgt := 43) hx hb dX2_putWord_4 (by decide) (fun c2 => ?_) (fun c2 => hp_n (n := 7) rfl ?_)
  ·
    replace hf := ms_iT c2 hf
    cases hf
    exact q_vret C B hr hlk ⟨rfl, B.2.2⟩ dX2_putWord_43
  ·
    replace hf := ms_iF c2 hf
    refine lv_aload_n hx hb dX2_putWord_7 rfl (lv_at hl 0 rfl) (hp_n (n := 8) rfl ?_)
    refine q_geti (κ := 3) (k := 2) (φ := 152) (pc' := 11) C B (cw_k B.2.2 k0) fl_X2_21 rfl rfl rfl dX2_putWord_8 rfl (fun x3 ex3 => ?_)
    replace hf := ms_lE ex3 hf
    refine lv_aload_n hx hb dX2_putWord_11 rfl (lv_at hl 0 rfl) (hp_n (n := 12) rfl ?_)
    refine q_getr (κ := 3) (k := 0) (φ := 150) (pc' := 15) C B (cw_k B.2.2 k0) fl_X2_11 rfl rfl rfl (cw_r B.2.2 k0 rfl rfl (by decide) (by decide)) dX2_putWord_12 rfl (fun b4 eb4 kb4 => ?_)
    replace hf := ms_lE eb4 hf
    refine q_alen (κ := 28) (t := 7) (n := 48) (x := 48) (ty := .object "ProvenRecord$Word") (pc' := 16) C B (cw_k B.2.2 kb4) (by decide) rfl rfl rfl dX2_putWord_15 rfl ?_
    refine lv_icmp_ge (tgt := 43) hx hb dX2_putWord_16 (by decide) (fun c5 => ?_) (fun c5 => hp_n (n := 19) rfl ?_)
    ·
      replace hf := ms_iT c5 hf
      cases hf
      exact q_vret C B hr hlk ⟨rfl, B.2.2⟩ dX2_putWord_43
    ·
      replace hf := ms_iF c5 hf
      refine lv_aload_n hx hb dX2_putWord_19 rfl (lv_at hl 0 rfl) (hp_n (n := 20) rfl ?_)
      refine q_geti (κ := 3) (k := 2) (φ := 152) (pc' := 23) C B (cw_k B.2.2 k0) fl_X2_21 rfl rfl rfl dX2_putWord_20 rfl (fun x6 ex6 => ?_)
      replace hf := ms_lE ex6 hf
      refine lv_aload_n hx hb dX2_putWord_23 rfl (lv_at hl 0 rfl) (hp_n (n := 24) rfl ?_)
      refine q_getr (κ := 3) (k := 1) (φ := 151) (pc' := 27) C B (cw_k B.2.2 k0) fl_X2_17 rfl rfl rfl (cw_r B.2.2 k0 rfl rfl (by decide) (by decide)) dX2_putWord_24 rfl (fun b7 eb7 kb7 => ?_)
      replace hf := ms_lE eb7 hf
      refine q_alen (κ := 29) (t := 0) (n := 48) (x := 48) (ty := .int) (pc' := 28) C B (cw_k B.2.2 kb7) (by decide) rfl rfl rfl dX2_putWord_27 rfl ?_
      refine lv_icmp_ge (tgt := 43) hx hb dX2_putWord_28 (by decide) (fun c8 => ?_) (fun c8 => hp_n (n := 31) rfl ?_)
      ·
        replace hf := ms_iT c8 hf
        cases hf
        exact q_vret C B hr hlk ⟨rfl, B.2.2⟩ dX2_putWord_43
      ·
        replace hf := ms_iF c8 hf
        refine lv_aload_n hx hb dX2_putWord_31 rfl (lv_at hl 0 rfl) (hp_n (n := 32) rfl ?_)
        refine q_getr (κ := 3) (k := 0) (φ := 150) (pc' := 35) C B (cw_k B.2.2 k0) fl_X2_11 rfl rfl rfl (cw_r B.2.2 k0 rfl rfl (by decide) (by decide)) dX2_putWord_32 rfl (fun b9 eb9 kb9 => ?_)
        replace hf := ms_lE eb9 hf
        refine lv_aload_n hx hb dX2_putWord_35 rfl (lv_at hl 0 rfl) (hp_n (n := 36) rfl ?_)
        refine q_geti (κ := 3) (k := 2) (φ := 152) (pc' := 39) C B (cw_k B.2.2 k0) fl_X2_21 rfl rfl rfl dX2_putWord_36 rfl (fun x10 ex10 => ?_)
        replace hf := ms_lE ex10 hf
        obtain ⟨g11, hf⟩ := ms_gE hf
        refine q_aal (κ := 28) (t := 7) (n := 48) (C0 := "ProvenRecord$Word") (pc' := 40) C B (cw_k B.2.2 kb9) (by decide) rfl rfl (by decide) (vi_of g11.1 g11.2) dX2_putWord_39 rfl ?_
        rcases hq_E hf with ⟨hqb12, hf⟩ | ⟨b12, hqb12, hf⟩
        ·
          rw [hqb12]
          refine lv_ifnonnullN hx hb dX2_putWord_40 (hp_n (n := 43) rfl ?_)
          cases hf
          exact q_vret C B hr hlk ⟨rfl, B.2.2⟩ dX2_putWord_43
        ·
          rw [hqb12]
          have kb12 := cw_q B.2.2 kb9 rfl (by decide) hqb12
          refine lv_ifnonnull (tgt := 44) hx hb dX2_putWord_40 (by decide) ?_
          refine lv_aload_n hx hb dX2_putWord_44 rfl (lv_at hl 0 rfl) (hp_n (n := 45) rfl ?_)
          refine q_getr (κ := 3) (k := 0) (φ := 150) (pc' := 48) C B (cw_k B.2.2 k0) fl_X2_11 rfl rfl rfl (cw_r B.2.2 k0 rfl rfl (by decide) (by decide)) dX2_putWord_45 rfl (fun b13 eb13 kb13 => ?_)
          replace hf := ms_lE eb13 hf
          refine lv_aload_n hx hb dX2_putWord_48 rfl (lv_at hl 0 rfl) (hp_n (n := 49) rfl ?_)
          refine q_geti (κ := 3) (k := 2) (φ := 152) (pc' := 52) C B (cw_k B.2.2 k0) fl_X2_21 rfl rfl rfl dX2_putWord_49 rfl (fun x14 ex14 => ?_)
          replace hf := ms_lE ex14 hf
          obtain ⟨g15, hf⟩ := ms_gE hf
          refine q_aal (κ := 28) (t := 7) (n := 48) (C0 := "ProvenRecord$Word") (pc' := 53) C B (cw_k B.2.2 kb13) (by decide) rfl rfl (by decide) (vi_of g15.1 g15.2) dX2_putWord_52 rfl ?_
          rcases hq_E hf with ⟨hqb16, hf⟩ | ⟨b16, hqb16, hf⟩
          ·
            rw [hqb16]
            refine lv_aload_n hx hb dX2_putWord_53 rfl (lv_at hl 1 rfl) (hp_n (n := 54) rfl ?_)
            cases hf
          ·
            rw [hqb16]
            have kb16 := cw_q B.2.2 kb13 rfl (by decide) hqb16
            refine lv_aload_n hx hb dX2_putWord_53 rfl (lv_at hl 1 rfl) (hp_n (n := 54) rfl ?_)
            obtain ⟨αh18, qh18, hf⟩ := ms_bE hf
            refine d_cv (pc' := 57) B (hp_runV (As := [.ref a1]) (rest := []) C B (n_X9_copy n Γ l α B.2.2.1 b16 (cw_k B.2.2 kb16) a1 (cw_k B.2.2 k1) αh18 qh18) lb_X9_copy lv_X9_copy lk_X2_26 (cw_k B.2.2 kb16) rfl (by decide) rfl hl.1 rfl (Nat.le_of_ble_eq_true rfl) dX2_putWord_54 ⟨Nat.le_refl _, Nat.le_refl _⟩) (by decide) rfl (fun Hh18 Lh18 Bh18 => ?_)
            refine lv_aload_n hx hb dX2_putWord_57 rfl (lv_at hl 0 rfl) (hp_n (n := 58) rfl ?_)
            refine q_getr (κ := 3) (k := 1) (φ := 151) (pc' := 61) C Bh18 (cw_k Bh18.2.2 k0) fl_X2_17 rfl rfl rfl (cw_r Bh18.2.2 k0 rfl rfl (by decide) (by decide)) dX2_putWord_58 rfl (fun b19 eb19 kb19 => ?_)
            replace hf := ms_lE eb19 hf
            refine lv_aload_n hx hb dX2_putWord_61 rfl (lv_at hl 0 rfl) (hp_n (n := 62) rfl ?_)
            refine q_geti (κ := 3) (k := 2) (φ := 152) (pc' := 65) C Bh18 (cw_k Bh18.2.2 k0) fl_X2_21 rfl rfl rfl dX2_putWord_62 rfl (fun x20 ex20 => ?_)
            replace hf := ms_lE ex20 hf
            refine lv_aload_n hx hb dX2_putWord_65 rfl (lv_at hl 1 rfl) (hp_n (n := 66) rfl ?_)
            refine lv_iload_n hx hb dX2_putWord_66 rfl (lv_at hl 2 rfl) (hp_n (n := 67) rfl ?_)
            obtain ⟨rh21, qh21, hf⟩ := ms_bE hf
            refine d_pi (pc' := 70) Bh18 (hp_runV (As := [.int a2]) (rest := [.int x20, .ref b19]) C Bh18 (n_X9_markBy n Γ l αh18 Bh18.2.2.1 a1 (cw_k Bh18.2.2 k1) a2 rh21 qh21) lb_X9_markBy lv_X9_markBy lk_X2_30 (cw_k Bh18.2.2 k1) rfl (by decide) rfl hl.1 rfl (Nat.le_of_ble_eq_true rfl) dX2_putWord_67 ⟨Nat.le_refl _, Nat.le_refl _⟩) rfl (fun Hh21 Lh21 Bh21 => ?_)
            obtain ⟨g22, hf⟩ := ms_gE hf
            refine q_ias (κ := 29) (n := 48) (pc' := 71) C Bh21 (cw_k Bh21.2.2 kb19) (by decide) rfl (vi_of g22.1 g22.2) rfl (cw_sE Bh21.2.2 (by decide)) dX2_putWord_70 rfl (fun αh23 Hh23 Lh23 eh23 Bh23 => ?_)
            replace hf := ms_lE eh23 hf
            refine lv_aload_n hx hb dX2_putWord_71 rfl (lv_at hl 0 rfl) (hp_n (n := 72) rfl ?_)
            refine lv_dup hx hb dX2_putWord_72 rfl (hp_n (n := 73) rfl ?_)
            refine q_geti (κ := 3) (k := 2) (φ := 152) (pc' := 76) C Bh23 (cw_k Bh23.2.2 k0) fl_X2_21 rfl rfl rfl dX2_putWord_73 rfl (fun x24 ex24 => ?_)
            replace hf := ms_lE ex24 hf
            refine lv_iconst (v := 1) hx hb dX2_putWord_76 (by decide) (hp_n (n := 77) rfl ?_)
            refine lv_iadd hx hb dX2_putWord_77 (hp_n (n := 78) rfl ?_)
            refine q_puti (κ := 3) (k := 2) (φ := 152) (pc' := 81) C Bh23 (cw_k Bh23.2.2 k0) fl_X2_21 rfl rfl rfl rfl rfl rfl (cw_sI Bh23.2.2 (by decide) (fun h => absurd h (by decide))) dX2_putWord_78 rfl (fun αh25 Hh25 Lh25 eh25 Bh25 => ?_)
            replace hf := ms_lE eh25 hf
            cases hf
            exact q_vret C Bh25 hr hlk ⟨rfl, Bh25.2.2⟩ dX2_putWord_81
def f_X10_addWord (n : Nat) (α : hp_T) (a0 : Nat) (a1 : Nat) (a2 : Nat) : Option hp_T :=
  ms_l (hp_I α 550 a0) fun x1 =>
  ms_b (f_X2_putWord n α a1 a2 x1) fun αh2 =>
  ms_l (hp_I αh2 556 a0) fun x3 =>
  ms_l (hp_sI αh2 556 a0 (x3 + (1 : Int32))) fun αh4 =>
  some αh4
set_option maxRecDepth 100000 in
set_option maxHeartbeats 4000000 in
theorem n_X10_addWord (n : Nat) (Γ : hp_G) (l : Launch) (α : hp_T) (g : GC α) (a0 : Nat) (k0 : hp_K α a0 = 11) (a1 : Nat) (k1 : hp_K α a1 = 3) (a2 : Nat) (k2 : hp_K α a2 = 10) (res : hp_T) (hf : f_X10_addWord n α a0 a1 a2 = some res) : Met l yX10_addWord (hp_ws yX10_addWord cX10_addWord 3 none) (hp_rm 3 0 0) (hp_Pc Γ α [.ref a0, .ref a1, .ref a2]) (hp_Qv Γ (fun β => β = res ∧ cw w_X10_addWord α β)) 0 0 (hp_A Γ) := by
  unfold f_X10_addWord at hf
  refine hp_start (by decide) ?_
  intro p e s m below meth c C hr hlk B0 hnm
  have C : hp_C Γ p m c cX10_addWord 3 s ([.ref a0, .ref a1, .ref a2] : List Value).toArray RX10 := C
  have hx := C.1.1
  have hb := C.1.2.1
  have hown := C.1.2.2.2.1
  have hts := C.1.2.2.2.2
  have B : hp_B Γ (cw w_X10_addWord) s α α s.heap [] := ⟨B0.1, B0.2.1, cw_rf g⟩
  have hl := lv_entry ([.ref a0, .ref a1, .ref a2]) (n := 3) (Nat.le_of_ble_eq_true rfl)
  show W p l e (hp_rm 3 0 0) s m ([.ref a0, .ref a1, .ref a2] : List Value).toArray below meth c s.heap [] 0 0 (MQ below (hp_Qv Γ (fun β => β = res ∧ cw w_X10_addWord α β)) ([.ref a0, .ref a1, .ref a2] : List Value).toArray s 0 0 (hp_A Γ)) (entryFrame m ([.ref a0, .ref a1, .ref a2] : List Value).toArray 3)
  rw [lg_entry_eq]
  generalize (lg_sl ([.ref a0, .ref a1, .ref a2]) ++ List.replicate (3 - (lg_sl ([.ref a0, .ref a1, .ref a2])).length) Slot.unset).toArray = ls at hl ⊢
  have hl : lv_has ls 3 [(0, .ref a0), (1, .ref a1), (2, .ref a2)] := hl
  refine lv_aload_n hx hb dX10_addWord_0 rfl (lv_at hl 1 rfl) (hp_n (n := 1) rfl ?_)
  refine lv_aload_n hx hb dX10_addWord_1 rfl (lv_at hl 2 rfl) (hp_n (n := 2) rfl ?_)
  refine lv_aload_n hx hb dX10_addWord_2 rfl (lv_at hl 0 rfl) (hp_n (n := 3) rfl ?_)
  refine q_geti (κ := 11) (k := 0) (φ := 550) (pc' := 6) C B (cw_k B.2.2 k0) fl_X10_10 rfl rfl rfl dX10_addWord_3 rfl (fun x1 ex1 => ?_)
  replace hf := ms_lE ex1 hf
  obtain ⟨αh2, qh2, hf⟩ := ms_bE hf
  refine d_cv (pc' := 9) B (hp_runV (As := [.ref a2, .int x1]) (rest := []) C B (n_X2_putWord n Γ l α B.2.2.1 a1 (cw_k B.2.2 k1) a2 (cw_k B.2.2 k2) x1 αh2 qh2) lb_X2_putWord lv_X2_putWord lk_X10_120 (cw_k B.2.2 k1) rfl (by decide) rfl hl.1 rfl (Nat.le_of_ble_eq_true rfl) dX10_addWord_6 ⟨Nat.le_refl _, Nat.le_refl _⟩) (by decide) rfl (fun Hh2 Lh2 Bh2 => ?_)
  refine lv_aload_n hx hb dX10_addWord_9 rfl (lv_at hl 0 rfl) (hp_n (n := 10) rfl ?_)
  refine lv_dup hx hb dX10_addWord_10 rfl (hp_n (n := 11) rfl ?_)
  refine q_geti (κ := 11) (k := 6) (φ := 556) (pc' := 14) C Bh2 (cw_k Bh2.2.2 k0) fl_X10_40 rfl rfl rfl dX10_addWord_11 rfl (fun x3 ex3 => ?_)
  replace hf := ms_lE ex3 hf
  refine lv_iconst (v := 1) hx hb dX10_addWord_14 (by decide) (hp_n (n := 15) rfl ?_)
  refine lv_iadd hx hb dX10_addWord_15 (hp_n (n := 16) rfl ?_)
  refine q_puti (κ := 11) (k := 6) (φ := 556) (pc' := 19) C Bh2 (cw_k Bh2.2.2 k0) fl_X10_40 rfl rfl rfl rfl rfl rfl (cw_sI Bh2.2.2 (by decide) (fun h => absurd h (by decide))) dX10_addWord_16 rfl (fun αh4 Hh4 Lh4 eh4 Bh4 => ?_)
  replace hf := ms_lE eh4 hf
  cases hf
  exact q_vret C Bh4 hr hlk ⟨rfl, Bh4.2.2⟩ dX10_addWord_19
def f_X10_logAt (n : Nat) (α : hp_T) (a0 : Nat) (a1 : Int32) : Option (Option Nat) :=
  if a1 < 0 then
    some none
  else
    ms_l (hp_I α 552 a0) fun x2 =>
    if x2 ≤ a1 then
      some none
    else
      ms_l (hp_R α 551 a0) fun b4 =>
      if (4 : Int32) ≤ a1 then
        some none
      else
        ms_l (hp_R α 551 a0) fun b6 =>
        ms_g a1 4 <|
        hq_m (hp_Q α 30 b6 (a1).toNatClampNeg) (
          some none) fun b8 =>
        some (some b8)
set_option maxRecDepth 100000 in
set_option maxHeartbeats 4000000 in
theorem n_X10_logAt (n : Nat) (Γ : hp_G) (l : Launch) (α : hp_T) (g : GC α) (a0 : Nat) (k0 : hp_K α a0 = 11) (a1 : Int32) (res : Option Nat) (hf : f_X10_logAt n α a0 a1 = some res) : Met l yX10_logAt (hp_ws yX10_logAt cX10_logAt 2 (some (.object "ProvenRecord$Log"))) (hp_rm 0 0 0) (hp_Pc Γ α [.ref a0, .int a1]) (hp_Qq Γ (fun r β => (β = α ∧ r = res) ∧ ∀ b, r = some b → hp_K α b = 3)) 0 0 (hp_A Γ) := by
  unfold f_X10_logAt at hf
  refine hp_start (by decide) ?_
  intro p e s m below meth c C hr hlk B0 hnm
  have C : hp_C Γ p m c cX10_logAt 2 s ([.ref a0, .int a1] : List Value).toArray RX10 := C
  have hx := C.1.1
  have hb := C.1.2.1
  have hown := C.1.2.2.2.1
  have hts := C.1.2.2.2.2
  have B : hp_B Γ (cw w_X10_logAt) s α α s.heap [] := ⟨B0.1, B0.2.1, cw_rf g⟩
  have hl := lv_entry ([.ref a0, .int a1]) (n := 2) (Nat.le_of_ble_eq_true rfl)
  show W p l e (hp_rm 0 0 0) s m ([.ref a0, .int a1] : List Value).toArray below meth c s.heap [] 0 0 (MQ below (hp_Qq Γ (fun r β => (β = α ∧ r = res) ∧ ∀ b, r = some b → hp_K α b = 3)) ([.ref a0, .int a1] : List Value).toArray s 0 0 (hp_A Γ)) (entryFrame m ([.ref a0, .int a1] : List Value).toArray 2)
  rw [lg_entry_eq]
  generalize (lg_sl ([.ref a0, .int a1]) ++ List.replicate (2 - (lg_sl ([.ref a0, .int a1])).length) Slot.unset).toArray = ls at hl ⊢
  have hl : lv_has ls 2 [(0, .ref a0), (1, .int a1)] := hl
  refine lv_iload_n hx hb dX10_logAt_0 rfl (lv_at hl 1 rfl) (hp_n (n := 1) rfl ?_)
  refine lv_if_lt (tgt := 30) hx hb dX10_logAt_1 (by decide) (fun c1 => ?_) (fun c1 => hp_n (n := 4) rfl ?_)
  ·
    replace hf := ms_iT c1 hf
    refine lv_null hx hb dX10_logAt_30 (hp_n (n := 31) rfl ?_)
    cases hf
    exact q_aret (x := none) C B hr hlk ⟨⟨rfl, rfl⟩, fun b h => by cases h⟩ dX10_logAt_31
  ·
    replace hf := ms_iF c1 hf
    refine lv_iload_n hx hb dX10_logAt_4 rfl (lv_at hl 1 rfl) (hp_n (n := 5) rfl ?_)
    refine lv_aload_n hx hb dX10_logAt_5 rfl (lv_at hl 0 rfl) (hp_n (n := 6) rfl ?_)
    refine q_geti (κ := 11) (k := 2) (φ := 552) (pc' := 9) C B (cw_k B.2.2 k0) fl_X10_22 rfl rfl rfl dX10_logAt_6 rfl (fun x2 ex2 => ?_)
    replace hf := ms_lE ex2 hf
    refine lv_icmp_ge (tgt := 30) hx hb dX10_logAt_9 (by decide) (fun c3 => ?_) (fun c3 => hp_n (n := 12) rfl ?_)
    ·
      replace hf := ms_iT c3 hf
      refine lv_null hx hb dX10_logAt_30 (hp_n (n := 31) rfl ?_)
      cases hf
      exact q_aret (x := none) C B hr hlk ⟨⟨rfl, rfl⟩, fun b h => by cases h⟩ dX10_logAt_31
    ·
      replace hf := ms_iF c3 hf
      refine lv_iload_n hx hb dX10_logAt_12 rfl (lv_at hl 1 rfl) (hp_n (n := 13) rfl ?_)
      refine lv_aload_n hx hb dX10_logAt_13 rfl (lv_at hl 0 rfl) (hp_n (n := 14) rfl ?_)
      refine q_getr (κ := 11) (k := 1) (φ := 551) (pc' := 17) C B (cw_k B.2.2 k0) fl_X10_18 rfl rfl rfl (cw_r B.2.2 k0 rfl rfl (by decide) (by decide)) dX10_logAt_14 rfl (fun b4 eb4 kb4 => ?_)
      replace hf := ms_lE eb4 hf
      refine q_alen (κ := 30) (t := 4) (n := 4) (x := 4) (ty := .object "ProvenRecord$Log") (pc' := 18) C B (cw_k B.2.2 kb4) (by decide) rfl rfl rfl dX10_logAt_17 rfl ?_
      refine lv_icmp_ge (tgt := 30) hx hb dX10_logAt_18 (by decide) (fun c5 => ?_) (fun c5 => hp_n (n := 21) rfl ?_)
      ·
        replace hf := ms_iT c5 hf
        refine lv_null hx hb dX10_logAt_30 (hp_n (n := 31) rfl ?_)
        cases hf
        exact q_aret (x := none) C B hr hlk ⟨⟨rfl, rfl⟩, fun b h => by cases h⟩ dX10_logAt_31
      ·
        replace hf := ms_iF c5 hf
        refine lv_aload_n hx hb dX10_logAt_21 rfl (lv_at hl 0 rfl) (hp_n (n := 22) rfl ?_)
        refine q_getr (κ := 11) (k := 1) (φ := 551) (pc' := 25) C B (cw_k B.2.2 k0) fl_X10_18 rfl rfl rfl (cw_r B.2.2 k0 rfl rfl (by decide) (by decide)) dX10_logAt_22 rfl (fun b6 eb6 kb6 => ?_)
        replace hf := ms_lE eb6 hf
        refine lv_iload_n hx hb dX10_logAt_25 rfl (lv_at hl 1 rfl) (hp_n (n := 26) rfl ?_)
        obtain ⟨g7, hf⟩ := ms_gE hf
        refine q_aal (κ := 30) (t := 4) (n := 4) (C0 := "ProvenRecord$Log") (pc' := 27) C B (cw_k B.2.2 kb6) (by decide) rfl rfl (by decide) (vi_of g7.1 g7.2) dX10_logAt_26 rfl ?_
        rcases hq_E hf with ⟨hqb8, hf⟩ | ⟨b8, hqb8, hf⟩
        ·
          rw [hqb8]
          refine lv_goto (tgt := 31) hx hb dX10_logAt_27 (by decide) ?_
          cases hf
          exact q_aret (x := none) C B hr hlk ⟨⟨rfl, rfl⟩, fun b h => by cases h⟩ dX10_logAt_31
        ·
          rw [hqb8]
          have kb8 := cw_q B.2.2 kb6 rfl (by decide) hqb8
          refine lv_goto (tgt := 31) hx hb dX10_logAt_27 (by decide) ?_
          cases hf
          exact q_aret (x := (some b8)) C B hr hlk ⟨⟨rfl, rfl⟩, fun b h => by cases h; exact kb8⟩ dX10_logAt_31
def f_X11_add (n : Nat) (α : hp_T) (a0 : Nat) (a1 : Int32) : Option (Int32 × hp_T) :=
  ms_l (hp_R α 601 a0) fun b1 =>
  ms_b (f_X10_logAt n α b1 a1) fun rh2 =>
  hq_m rh2 (
    hq_c (f_X11_refuse n α a0 (2 : Int32)) fun rh3 αh3 =>
    some (rh3, αh3)) fun bh2 =>
  ms_l (hp_I α 152 bh2) fun x4 =>
  if x4 < (48 : Int32) then
    ms_l (hp_R α 601 a0) fun b6 =>
    ms_l (hp_R α 606 a0) fun b7 =>
    ms_b (f_X10_addWord n α b6 bh2 b7) fun αh8 =>
    ms_l (hp_I αh8 152 bh2) fun x9 =>
    hq_c (f_X11_answer n αh8 a0 (x9 - (1 : Int32))) fun rh10 αh10 =>
    some (rh10, αh10)
  else
    hq_c (f_X11_refuse n α a0 (3 : Int32)) fun rh11 αh11 =>
    some (rh11, αh11)
set_option maxRecDepth 100000 in
set_option maxHeartbeats 4000000 in
theorem n_X11_add (n : Nat) (Γ : hp_G) (l : Launch) (α : hp_T) (g : GC α) (a0 : Nat) (k0 : hp_K α a0 = 12) (a1 : Int32) (res : (Int32 × hp_T)) (hf : f_X11_add n α a0 a1 = some res) : Met l yX11_add (hp_ws yX11_add cX11_add 3 (some .int)) (hp_rm 4 0 0) (hp_Pc Γ α [.ref a0, .int a1]) (hp_Qi Γ (fun r β => r = res.1 ∧ β = res.2 ∧ cw w_X11_add α β)) 0 0 (hp_A Γ) := by
  unfold f_X11_add at hf
  refine hp_start (by decide) ?_
  intro p e s m below meth c C hr hlk B0 hnm
  have C : hp_C Γ p m c cX11_add 3 s ([.ref a0, .int a1] : List Value).toArray RX11 := C
  have hx := C.1.1
  have hb := C.1.2.1
  have hown := C.1.2.2.2.1
  have hts := C.1.2.2.2.2
  have B : hp_B Γ (cw w_X11_add) s α α s.heap [] := ⟨B0.1, B0.2.1, cw_rf g⟩
  have hl := lv_entry ([.ref a0, .int a1]) (n := 3) (Nat.le_of_ble_eq_true rfl)
  show W p l e (hp_rm 4 0 0) s m ([.ref a0, .int a1] : List Value).toArray below meth c s.heap [] 0 0 (MQ below (hp_Qi Γ (fun r β => r = res.1 ∧ β = res.2 ∧ cw w_X11_add α β)) ([.ref a0, .int a1] : List Value).toArray s 0 0 (hp_A Γ)) (entryFrame m ([.ref a0, .int a1] : List Value).toArray 3)
  rw [lg_entry_eq]
  generalize (lg_sl ([.ref a0, .int a1]) ++ List.replicate (3 - (lg_sl ([.ref a0, .int a1])).length) Slot.unset).toArray = ls at hl ⊢
  have hl : lv_has ls 3 [(0, .ref a0), (1, .int a1)] := hl
  refine lv_aload_n hx hb dX11_add_0 rfl (lv_at hl 0 rfl) (hp_n (n := 1) rfl ?_)
  refine q_getr (κ := 12) (k := 1) (φ := 601) (pc' := 4) C B (cw_k B.2.2 k0) fl_X11_16 rfl rfl rfl (cw_r B.2.2 k0 rfl rfl (by decide) (by decide)) dX11_add_1 rfl (fun b1 eb1 kb1 => ?_)
  replace hf := ms_lE eb1 hf
  refine lv_iload_n hx hb dX11_add_4 rfl (lv_at hl 1 rfl) (hp_n (n := 5) rfl ?_)
  obtain ⟨rh2, qh2, hf⟩ := ms_bE hf
  refine d_pq (pc' := 8) B (hp_runV (As := [.int a1]) (rest := []) C B (n_X10_logAt n Γ l α B.2.2.1 b1 (cw_k B.2.2 kb1) a1 rh2 qh2) lb_X10_logAt lv_X10_logAt lk_X11_163 (cw_k B.2.2 kb1) rfl (by decide) rfl hl.1 rfl (Nat.le_of_ble_eq_true rfl) dX11_add_5 ⟨Nat.le_refl _, Nat.le_refl _⟩) rfl (fun Hh2 Lh2 Bh2 kh2 => ?_)
  rcases rh2 with _ | bh2
  ·
    replace hf := hq_N hf
    refine lv_astore_nN (lv' := [(2, .null), (0, .ref a0), (1, .int a1)]) hx hb dX11_add_8 rfl hl (by decide) rfl (fun ls hl => hp_n (n := 9) rfl ?_)
    refine lv_aload_nN hx hb dX11_add_9 rfl (lv_at hl 0 rfl) (hp_n (n := 10) rfl ?_)
    refine lv_ifnonnullN hx hb dX11_add_10 (hp_n (n := 13) rfl ?_)
    refine lv_aload_n hx hb dX11_add_13 rfl (lv_at hl 1 rfl) (hp_n (n := 14) rfl ?_)
    refine lv_iconst (v := 2) hx hb dX11_add_14 (by decide) (hp_n (n := 15) rfl ?_)
    obtain ⟨rh3, αh3, qh3, hf⟩ := hq_cE hf
    refine d_ci (pc' := 18) Bh2 (hp_runV (As := [.int (2 : Int32)]) (rest := []) C Bh2 (n_X11_refuse n Γ l α Bh2.2.2.1 a0 (cw_k Bh2.2.2 k0) (2 : Int32) (rh3, αh3) qh3) lb_X11_refuse lv_X11_refuse lk_X11_98 (cw_k Bh2.2.2 k0) rfl (by decide) rfl hl.1 rfl (Nat.le_of_ble_eq_true rfl) dX11_add_15 ⟨Nat.le_refl _, Nat.le_refl _⟩) (by decide) rfl (fun Hh3 Lh3 Bh3 => ?_)
    cases hf
    exact q_iret C Bh3 hr hlk ⟨rfl, rfl, Bh3.2.2⟩ dX11_add_18
  ·
    replace hf := hq_S hf
    have kbh2 := kh2 bh2 rfl
    refine lv_astore_n (lv' := [(2, .ref bh2), (0, .ref a0), (1, .int a1)]) hx hb dX11_add_8 rfl hl (by decide) rfl (fun ls hl => hp_n (n := 9) rfl ?_)
    refine lv_aload_n hx hb dX11_add_9 rfl (lv_at hl 0 rfl) (hp_n (n := 10) rfl ?_)
    refine lv_ifnonnull (tgt := 19) hx hb dX11_add_10 (by decide) ?_
    refine lv_aload_n hx hb dX11_add_19 rfl (lv_at hl 0 rfl) (hp_n (n := 20) rfl ?_)
    refine q_geti (κ := 3) (k := 2) (φ := 152) (pc' := 23) C Bh2 (cw_k Bh2.2.2 kbh2) fl_X11_167 rfl rfl rfl dX11_add_20 rfl (fun x4 ex4 => ?_)
    replace hf := ms_lE ex4 hf
    refine lv_bipush (v := 48) hx hb dX11_add_23 (by decide) (hp_n (n := 25) rfl ?_)
    refine lv_icmp_lt (tgt := 34) hx hb dX11_add_25 (by decide) (fun c5 => ?_) (fun c5 => hp_n (n := 28) rfl ?_)
    ·
      replace hf := ms_iT c5 hf
      refine lv_aload_n hx hb dX11_add_34 rfl (lv_at hl 1 rfl) (hp_n (n := 35) rfl ?_)
      refine q_getr (κ := 12) (k := 1) (φ := 601) (pc' := 38) C Bh2 (cw_k Bh2.2.2 k0) fl_X11_16 rfl rfl rfl (cw_r Bh2.2.2 k0 rfl rfl (by decide) (by decide)) dX11_add_35 rfl (fun b6 eb6 kb6 => ?_)
      replace hf := ms_lE eb6 hf
      refine lv_aload_n hx hb dX11_add_38 rfl (lv_at hl 0 rfl) (hp_n (n := 39) rfl ?_)
      refine lv_aload_n hx hb dX11_add_39 rfl (lv_at hl 1 rfl) (hp_n (n := 40) rfl ?_)
      refine q_getr (κ := 12) (k := 6) (φ := 606) (pc' := 43) C Bh2 (cw_k Bh2.2.2 k0) fl_X11_40 rfl rfl rfl (cw_r Bh2.2.2 k0 rfl rfl (by decide) (by decide)) dX11_add_40 rfl (fun b7 eb7 kb7 => ?_)
      replace hf := ms_lE eb7 hf
      obtain ⟨αh8, qh8, hf⟩ := ms_bE hf
      refine d_cv (pc' := 46) Bh2 (hp_runV (As := [.ref bh2, .ref b7]) (rest := []) C Bh2 (n_X10_addWord n Γ l α Bh2.2.2.1 b6 (cw_k Bh2.2.2 kb6) bh2 (cw_k Bh2.2.2 kbh2) b7 (cw_k Bh2.2.2 kb7) αh8 qh8) lb_X10_addWord lv_X10_addWord lk_X11_237 (cw_k Bh2.2.2 kb6) rfl (by decide) rfl hl.1 rfl (Nat.le_of_ble_eq_true rfl) dX11_add_43 ⟨Nat.le_refl _, Nat.le_refl _⟩) (by decide) rfl (fun Hh8 Lh8 Bh8 => ?_)
      refine lv_aload_n hx hb dX11_add_46 rfl (lv_at hl 1 rfl) (hp_n (n := 47) rfl ?_)
      refine lv_aload_n hx hb dX11_add_47 rfl (lv_at hl 0 rfl) (hp_n (n := 48) rfl ?_)
      refine q_geti (κ := 3) (k := 2) (φ := 152) (pc' := 51) C Bh8 (cw_k Bh8.2.2 kbh2) fl_X11_167 rfl rfl rfl dX11_add_48 rfl (fun x9 ex9 => ?_)
      replace hf := ms_lE ex9 hf
      refine lv_iconst (v := 1) hx hb dX11_add_51 (by decide) (hp_n (n := 52) rfl ?_)
      refine lv_isub hx hb dX11_add_52 (hp_n (n := 53) rfl ?_)
      obtain ⟨rh10, αh10, qh10, hf⟩ := hq_cE hf
      refine d_ci (pc' := 56) Bh8 (hp_runV (As := [.int (x9 - (1 : Int32))]) (rest := []) C Bh8 (n_X11_answer n Γ l αh8 Bh8.2.2.1 a0 (cw_k Bh8.2.2 k0) (x9 - (1 : Int32)) (rh10, αh10) qh10) lb_X11_answer lv_X11_answer lk_X11_115 (cw_k Bh8.2.2 k0) rfl (by decide) rfl hl.1 rfl (Nat.le_of_ble_eq_true rfl) dX11_add_53 ⟨Nat.le_refl _, Nat.le_refl _⟩) (by decide) rfl (fun Hh10 Lh10 Bh10 => ?_)
      cases hf
      exact q_iret C Bh10 hr hlk ⟨rfl, rfl, Bh10.2.2⟩ dX11_add_56
    ·
      replace hf := ms_iF c5 hf
      refine lv_aload_n hx hb dX11_add_28 rfl (lv_at hl 1 rfl) (hp_n (n := 29) rfl ?_)
      refine lv_iconst (v := 3) hx hb dX11_add_29 (by decide) (hp_n (n := 30) rfl ?_)
      obtain ⟨rh11, αh11, qh11, hf⟩ := hq_cE hf
      refine d_ci (pc' := 33) Bh2 (hp_runV (As := [.int (3 : Int32)]) (rest := []) C Bh2 (n_X11_refuse n Γ l α Bh2.2.2.1 a0 (cw_k Bh2.2.2 k0) (3 : Int32) (rh11, αh11) qh11) lb_X11_refuse lv_X11_refuse lk_X11_98 (cw_k Bh2.2.2 k0) rfl (by decide) rfl hl.1 rfl (Nat.le_of_ble_eq_true rfl) dX11_add_30 ⟨Nat.le_refl _, Nat.le_refl _⟩) (by decide) rfl (fun Hh11 Lh11 Bh11 => ?_)
      cases hf
      exact q_iret C Bh11 hr hlk ⟨rfl, rfl, Bh11.2.2⟩ dX11_add_33
def f_X10_forkLog_J80 (n : Nat) (a0 : Nat) (rec51 : hp_T → Nat → Int32 → Nat → Int32 → Option (Int32 × hp_T)) (αh24 : hp_T) (v1_h24 : Nat) (v2_h24 : Int32) (v3_h24 : Nat) (v4_h24 : Int32) : Option (Int32 × hp_T) :=
  ms_l (v4_h24 + 1) fun x25 =>
  rec51 αh24 v1_h24 v2_h24 v3_h24 x25
def f_X10_forkLog_L51 (n : Nat) (a0 : Nat) : Nat → hp_T → Nat → Int32 → Nat → Int32 → Option (Int32 × hp_T)
  | 0, _, _, _, _, _ => none
  | k51 + 1, αh16, v1_h16, v2_h16, v3_h16, v4_h16 =>
    if v2_h16 ≤ v4_h16 then
      ms_l (hp_I αh16 552 a0) fun x18 =>
      ms_l (hp_sI αh16 552 a0 (x18 + (1 : Int32))) fun αh19 =>
      ms_l (hp_I αh19 556 a0) fun x20 =>
      ms_l (hp_sI αh19 556 a0 (x20 + (1 : Int32))) fun αh21 =>
      ms_l (hp_I αh21 552 a0) fun x22 =>
      some ((x22 - (1 : Int32)), αh21)
    else
      ms_b (f_X2_wordAt n αh16 v1_h16 v4_h16) fun rh23 =>
      hq_m rh23 (
        f_X10_forkLog_J80 n a0 (f_X10_forkLog_L51 n a0 k51) αh16 v1_h16 v2_h16 v3_h16 v4_h16) fun bh23 =>
      ms_l (hp_I αh16 550 a0) fun x28 =>
      ms_b (f_X2_putWord n αh16 v3_h16 bh23 x28) fun αh29 =>
      f_X10_forkLog_J80 n a0 (f_X10_forkLog_L51 n a0 k51) αh29 v1_h16 v2_h16 v3_h16 v4_h16
def f_X10_forkLog (n : Nat) (α : hp_T) (a0 : Nat) (a1 : Nat) (a2 : Int32) : Option (Int32 × hp_T) :=
  ms_l (hp_I α 552 a0) fun x1 =>
  if x1 < 0 then
    some ((-1 : Int32), α)
  else
    ms_l (hp_I α 552 a0) fun x3 =>
    ms_l (hp_R α 551 a0) fun b4 =>
    if (4 : Int32) ≤ x3 then
      some ((-1 : Int32), α)
    else
      ms_l (hp_R α 551 a0) fun b6 =>
      ms_l (hp_I α 552 a0) fun x7 =>
      ms_g x7 4 <|
      hq_m (hp_Q α 30 b6 (x7).toNatClampNeg) (
        some ((-1 : Int32), α)) fun b9 =>
      ms_l (hp_R α 551 a0) fun b10 =>
      ms_l (hp_I α 552 a0) fun x11 =>
      ms_g x11 4 <|
      hq_m (hp_Q α 30 b10 (x11).toNatClampNeg) (
        none) fun b13 =>
      ms_l (hp_sI α 152 b13 (0 : Int32)) fun αh15 =>
      f_X10_forkLog_L51 n a0 n αh15 a1 a2 b13 (0 : Int32)
set_option maxRecDepth 100000 in
set_option maxHeartbeats 4000000 in
theorem n_X10_forkLog (n : Nat) (Γ : hp_G) (l : Launch) (α : hp_T) (g : GC α) (a0 : Nat) (k0 : hp_K α a0 = 11) (a1 : Nat) (k1 : hp_K α a1 = 3) (a2 : Int32) (res : (Int32 × hp_T)) (hf : f_X10_forkLog n α a0 a1 a2 = some res) : Met l yX10_forkLog (hp_ws yX10_forkLog cX10_forkLog 6 (some .int)) (hp_rm 3 0 0) (hp_Pc Γ α [.ref a0, .ref a1, .int a2]) (hp_Qi Γ (fun r β => r = res.1 ∧ β = res.2 ∧ cw w_X10_forkLog α β)) 0 0 (hp_A Γ) := by
  unfold f_X10_forkLog at hf
  refine hp_start (by decide) ?_
  intro p e s m below meth c C hr hlk B0 hnm
  have C : hp_C Γ p m c cX10_forkLog 6 s ([.ref a0, .ref a1, .int a2] : List Value).toArray RX10 := C
  have hx := C.1.1
  have hb := C.1.2.1
  have hown := C.1.2.2.2.1
  have hts := C.1.2.2.2.2
  have B : hp_B Γ (cw w_X10_forkLog) s α α s.heap [] := ⟨B0.1, B0.2.1, cw_rf g⟩
  have hl := lv_entry ([.ref a0, .ref a1, .int a2]) (n := 6) (Nat.le_of_ble_eq_true rfl)
  show W p l e (hp_rm 3 0 0) s m ([.ref a0, .ref a1, .int a2] : List Value).toArray below meth c s.heap [] 0 0 (MQ below (hp_Qi Γ (fun r β => r = res.1 ∧ β = res.2 ∧ cw w_X10_forkLog α β)) ([.ref a0, .ref a1, .int a2] : List Value).toArray s 0 0 (hp_A Γ)) (entryFrame m ([.ref a0, .ref a1, .int a2] : List Value).toArray 6)
  rw [lg_entry_eq]
  generalize (lg_sl ([.ref a0, .ref a1, .int a2]) ++ List.replicate (6 - (lg_sl ([.ref a0, .ref a1, .int a2])).length) Slot.unset).toArray = ls at hl ⊢
  have hl : lv_has ls 6 [(0, .ref a0), (1, .ref a1), (2, .int a2)] := hl
  refine lv_aload_n hx hb dX10_forkLog_0 rfl (lv_at hl 0 rfl) (hp_n (n := 1) rfl ?_)
  refine q_geti (κ := 11) (k := 2) (φ := 552) (pc' := 4) C B (cw_k B.2.2 k0) fl_X10_22 rfl rfl rfl dX10_forkLog_1 rfl (fun x1 ex1 => ?_)
  replace hf := ms_lE ex1 hf
  refine lv_if_lt (tgt := 31) hx hb dX10_forkLog_4 (by decide) (fun c2 => ?_) (fun c2 => hp_n (n := 7) rfl ?_)
  ·
    replace hf := ms_iT c2 hf
    refine lv_iconst (v := (-1)) hx hb dX10_forkLog_31 (by decide) (hp_n (n := 32) rfl ?_)
    cases hf
    exact q_iret C B hr hlk ⟨rfl, rfl, B.2.2⟩ dX10_forkLog_32
  ·
    replace hf := ms_iF c2 hf
    refine lv_aload_n hx hb dX10_forkLog_7 rfl (lv_at hl 0 rfl) (hp_n (n := 8) rfl ?_)
    refine q_geti (κ := 11) (k := 2) (φ := 552) (pc' := 11) C B (cw_k B.2.2 k0) fl_X10_22 rfl rfl rfl dX10_forkLog_8 rfl (fun x3 ex3 => ?_)
    replace hf := ms_lE ex3 hf
    refine lv_aload_n hx hb dX10_forkLog_11 rfl (lv_at hl 0 rfl) (hp_n (n := 12) rfl ?_)
    refine q_getr (κ := 11) (k := 1) (φ := 551) (pc' := 15) C B (cw_k B.2.2 k0) fl_X10_18 rfl rfl rfl (cw_r B.2.2 k0 rfl rfl (by decide) (by decide)) dX10_forkLog_12 rfl (fun b4 eb4 kb4 => ?_)
    replace hf := ms_lE eb4 hf
    refine q_alen (κ := 30) (t := 4) (n := 4) (x := 4) (ty := .object "ProvenRecord$Log") (pc' := 16) C B (cw_k B.2.2 kb4) (by decide) rfl rfl rfl dX10_forkLog_15 rfl ?_
    refine lv_icmp_ge (tgt := 31) hx hb dX10_forkLog_16 (by decide) (fun c5 => ?_) (fun c5 => hp_n (n := 19) rfl ?_)
    ·
      replace hf := ms_iT c5 hf
      refine lv_iconst (v := (-1)) hx hb dX10_forkLog_31 (by decide) (hp_n (n := 32) rfl ?_)
      cases hf
      exact q_iret C B hr hlk ⟨rfl, rfl, B.2.2⟩ dX10_forkLog_32
    ·
      replace hf := ms_iF c5 hf
      refine lv_aload_n hx hb dX10_forkLog_19 rfl (lv_at hl 0 rfl) (hp_n (n := 20) rfl ?_)
      refine q_getr (κ := 11) (k := 1) (φ := 551) (pc' := 23) C B (cw_k B.2.2 k0) fl_X10_18 rfl rfl rfl (cw_r B.2.2 k0 rfl rfl (by decide) (by decide)) dX10_forkLog_20 rfl (fun b6 eb6 kb6 => ?_)
      replace hf := ms_lE eb6 hf
      refine lv_aload_n hx hb dX10_forkLog_23 rfl (lv_at hl 0 rfl) (hp_n (n := 24) rfl ?_)
      refine q_geti (κ := 11) (k := 2) (φ := 552) (pc' := 27) C B (cw_k B.2.2 k0) fl_X10_22 rfl rfl rfl dX10_forkLog_24 rfl (fun x7 ex7 => ?_)
      replace hf := ms_lE ex7 hf
      obtain ⟨g8, hf⟩ := ms_gE hf
      refine q_aal (κ := 30) (t := 4) (n := 4) (C0 := "ProvenRecord$Log") (pc' := 28) C B (cw_k B.2.2 kb6) (by decide) rfl rfl (by decide) (vi_of g8.1 g8.2) dX10_forkLog_27 rfl ?_
      rcases hq_E hf with ⟨hqb9, hf⟩ | ⟨b9, hqb9, hf⟩
      ·
        rw [hqb9]
        refine lv_ifnonnullN hx hb dX10_forkLog_28 (hp_n (n := 31) rfl ?_)
        refine lv_iconst (v := (-1)) hx hb dX10_forkLog_31 (by decide) (hp_n (n := 32) rfl ?_)
        cases hf
        exact q_iret C B hr hlk ⟨rfl, rfl, B.2.2⟩ dX10_forkLog_32
      ·
        rw [hqb9]
        have kb9 := cw_q B.2.2 kb6 rfl (by decide) hqb9
        refine lv_ifnonnull (tgt := 33) hx hb dX10_forkLog_28 (by decide) ?_
        refine lv_aload_n hx hb dX10_forkLog_33 rfl (lv_at hl 0 rfl) (hp_n (n := 34) rfl ?_)
        refine q_getr (κ := 11) (k := 1) (φ := 551) (pc' := 37) C B (cw_k B.2.2 k0) fl_X10_18 rfl rfl rfl (cw_r B.2.2 k0 rfl rfl (by decide) (by decide)) dX10_forkLog_34 rfl (fun b10 eb10 kb10 => ?_)
        replace hf := ms_lE eb10 hf
        refine lv_aload_n hx hb dX10_forkLog_37 rfl (lv_at hl 0 rfl) (hp_n (n := 38) rfl ?_)
        refine q_geti (κ := 11) (k := 2) (φ := 552) (pc' := 41) C B (cw_k B.2.2 k0) fl_X10_22 rfl rfl rfl dX10_forkLog_38 rfl (fun x11 ex11 => ?_)
        replace hf := ms_lE ex11 hf
        obtain ⟨g12, hf⟩ := ms_gE hf
        refine q_aal (κ := 30) (t := 4) (n := 4) (C0 := "ProvenRecord$Log") (pc' := 42) C B (cw_k B.2.2 kb10) (by decide) rfl rfl (by decide) (vi_of g12.1 g12.2) dX10_forkLog_41 rfl ?_
        rcases hq_E hf with ⟨hqb13, hf⟩ | ⟨b13, hqb13, hf⟩
        ·
          rw [hqb13]
          refine lv_astore_nN (lv' := [(3, .null), (0, .ref a0), (1, .ref a1), (2, .int a2)]) hx hb dX10_forkLog_42 rfl hl (by decide) rfl (fun ls hl => hp_n (n := 43) rfl ?_)
          refine lv_aload_nN hx hb dX10_forkLog_43 rfl (lv_at hl 0 rfl) (hp_n (n := 44) rfl ?_)
          refine lv_iconst (v := 0) hx hb dX10_forkLog_44 (by decide) (hp_n (n := 45) rfl ?_)
          cases hf
        ·
          rw [hqb13]
          have kb13 := cw_q B.2.2 kb10 rfl (by decide) hqb13
          refine lv_astore_n (lv' := [(3, .ref b13), (0, .ref a0), (1, .ref a1), (2, .int a2)]) hx hb dX10_forkLog_42 rfl hl (by decide) rfl (fun ls hl => hp_n (n := 43) rfl ?_)
          refine lv_aload_n hx hb dX10_forkLog_43 rfl (lv_at hl 0 rfl) (hp_n (n := 44) rfl ?_)
          refine lv_iconst (v := 0) hx hb dX10_forkLog_44 (by decide) (hp_n (n := 45) rfl ?_)
          refine q_puti (κ := 3) (k := 2) (φ := 152) (pc' := 48) C B (cw_k B.2.2 kb13) fl_X10_68 rfl rfl rfl rfl rfl rfl (cw_sI B.2.2 (by decide) (fun h => absurd h (by decide))) dX10_forkLog_45 rfl (fun αh15 Hh15 Lh15 eh15 Bh15 => ?_)
          replace hf := ms_lE eh15 hf
          refine lv_iconst (v := 0) hx hb dX10_forkLog_48 (by decide) (hp_n (n := 49) rfl ?_)
          have J51 : ∀ (k51 : Nat) (αh16 : hp_T) (Hh16 : Heap) (Lh16 : List Loc) (Bh16 : hp_B Γ (cw w_X10_forkLog) s α αh16 Hh16 Lh16) (v1_h16 : Nat) (kv1_h16 : hp_K α v1_h16 = 3) (v2_h16 : Int32) (v3_h16 : Nat) (kv3_h16 : hp_K α v3_h16 = 3) (v4_h16 : Int32) (ls : Array Slot) (hl : lv_has ls 6 [(0, .ref a0), (1, .ref v1_h16), (2, .int v2_h16), (3, .ref v3_h16), (4, .int v4_h16)]) (hf : f_X10_forkLog_L51 n a0 k51 αh16 v1_h16 v2_h16 v3_h16 v4_h16 = some res), W p l e (hp_rm 3 0 0) s m ([.ref a0, .ref a1, .int a2] : List Value).toArray below meth c Hh16 Lh16 0 0 (MQ below (hp_Qi Γ (fun r β => r = res.1 ∧ β = res.2 ∧ cw w_X10_forkLog α β)) ([.ref a0, .ref a1, .int a2] : List Value).toArray s 0 0 (hp_A Γ)) (F0 m 51 ls []) := by
            intro k51
            induction k51 with
            | zero => intro αh16 Hh16 Lh16 Bh16 v1_h16 kv1_h16 v2_h16 v3_h16 kv3_h16 v4_h16 ls hl hf; rw [f_X10_forkLog_L51.eq_1] at hf; cases hf
            | succ k51 ih51 =>
              intro αh16 Hh16 Lh16 Bh16 v1_h16 kv1_h16 v2_h16 v3_h16 kv3_h16 v4_h16 ls hl hf
              rw [f_X10_forkLog_L51.eq_2] at hf
              refine lv_iload hx hb dX10_forkLog_51 (lv_at hl 4 rfl) (hp_n (n := 53) rfl ?_)
              refine lv_iload_n hx hb dX10_forkLog_53 rfl (lv_at hl 2 rfl) (hp_n (n := 54) rfl ?_)
              refine lv_icmp_ge (tgt := 86) hx hb dX10_forkLog_54 (by decide) (fun c17 => ?_) (fun c17 => hp_n (n := 57) rfl ?_)
              ·
                replace hf := ms_iT c17 hf
                refine lv_aload_n hx hb dX10_forkLog_86 rfl (lv_at hl 0 rfl) (hp_n (n := 87) rfl ?_)
                refine lv_dup hx hb dX10_forkLog_87 rfl (hp_n (n := 88) rfl ?_)
                refine q_geti (κ := 11) (k := 2) (φ := 552) (pc' := 91) C Bh16 (cw_k Bh16.2.2 k0) fl_X10_22 rfl rfl rfl dX10_forkLog_88 rfl (fun x18 ex18 => ?_)
                replace hf := ms_lE ex18 hf
                refine lv_iconst (v := 1) hx hb dX10_forkLog_91 (by decide) (hp_n (n := 92) rfl ?_)
                refine lv_iadd hx hb dX10_forkLog_92 (hp_n (n := 93) rfl ?_)
                refine q_puti (κ := 11) (k := 2) (φ := 552) (pc' := 96) C Bh16 (cw_k Bh16.2.2 k0) fl_X10_22 rfl rfl rfl rfl rfl rfl (cw_sI Bh16.2.2 (by decide) (fun h => absurd h (by decide))) dX10_forkLog_93 rfl (fun αh19 Hh19 Lh19 eh19 Bh19 => ?_)
                replace hf := ms_lE eh19 hf
                refine lv_aload_n hx hb dX10_forkLog_96 rfl (lv_at hl 0 rfl) (hp_n (n := 97) rfl ?_)
                refine lv_dup hx hb dX10_forkLog_97 rfl (hp_n (n := 98) rfl ?_)
                refine q_geti (κ := 11) (k := 6) (φ := 556) (pc' := 101) C Bh19 (cw_k Bh19.2.2 k0) fl_X10_40 rfl rfl rfl dX10_forkLog_98 rfl (fun x20 ex20 => ?_)
                replace hf := ms_lE ex20 hf
                refine lv_iconst (v := 1) hx hb dX10_forkLog_101 (by decide) (hp_n (n := 102) rfl ?_)
                refine lv_iadd hx hb dX10_forkLog_102 (hp_n (n := 103) rfl ?_)
                refine q_puti (κ := 11) (k := 6) (φ := 556) (pc' := 106) C Bh19 (cw_k Bh19.2.2 k0) fl_X10_40 rfl rfl rfl rfl rfl rfl (cw_sI Bh19.2.2 (by decide) (fun h => absurd h (by decide))) dX10_forkLog_103 rfl (fun αh21 Hh21 Lh21 eh21 Bh21 => ?_)
                replace hf := ms_lE eh21 hf
                refine lv_aload_n hx hb dX10_forkLog_106 rfl (lv_at hl 0 rfl) (hp_n (n := 107) rfl ?_)
                refine q_geti (κ := 11) (k := 2) (φ := 552) (pc' := 110) C Bh21 (cw_k Bh21.2.2 k0) fl_X10_22 rfl rfl rfl dX10_forkLog_107 rfl (fun x22 ex22 => ?_)
                replace hf := ms_lE ex22 hf
                refine lv_iconst (v := 1) hx hb dX10_forkLog_110 (by decide) (hp_n (n := 111) rfl ?_)
                refine lv_isub hx hb dX10_forkLog_111 (hp_n (n := 112) rfl ?_)
                cases hf
                exact q_iret C Bh21 hr hlk ⟨rfl, rfl, Bh21.2.2⟩ dX10_forkLog_112
              ·
                replace hf := ms_iF c17 hf
                refine lv_aload_n hx hb dX10_forkLog_57 rfl (lv_at hl 1 rfl) (hp_n (n := 58) rfl ?_)
                refine lv_iload hx hb dX10_forkLog_58 (lv_at hl 4 rfl) (hp_n (n := 60) rfl ?_)
                obtain ⟨rh23, qh23, hf⟩ := ms_bE hf
                refine d_pq (pc' := 63) Bh16 (hp_runV (As := [.int v4_h16]) (rest := []) C Bh16 (n_X2_wordAt n Γ l αh16 Bh16.2.2.1 v1_h16 (cw_k Bh16.2.2 kv1_h16) v4_h16 rh23 qh23) lb_X2_wordAt lv_X2_wordAt lk_X10_124 (cw_k Bh16.2.2 kv1_h16) rfl (by decide) rfl hl.1 rfl (Nat.le_of_ble_eq_true rfl) dX10_forkLog_60 ⟨Nat.le_refl _, Nat.le_refl _⟩) rfl (fun Hh23 Lh23 Bh23 kh23 => ?_)
                rcases rh23 with _ | bh23
                ·
                  replace hf := hq_N hf
                  refine lv_astoreN (lv' := [(5, .null), (0, .ref a0), (1, .ref v1_h16), (2, .int v2_h16), (3, .ref v3_h16), (4, .int v4_h16)]) hx hb dX10_forkLog_63 hl (by decide) rfl (fun ls hl => hp_n (n := 65) rfl ?_)
                  refine lv_aloadN hx hb dX10_forkLog_65 (lv_at hl 0 rfl) (hp_n (n := 67) rfl ?_)
                  have J80 : ∀ (αh24 : hp_T) (Hh24 : Heap) (Lh24 : List Loc) (Bh24 : hp_B Γ (cw w_X10_forkLog) s α αh24 Hh24 Lh24) (v1_h24 : Nat) (kv1_h24 : hp_K α v1_h24 = 3) (v2_h24 : Int32) (v3_h24 : Nat) (kv3_h24 : hp_K α v3_h24 = 3) (v4_h24 : Int32) (ls : Array Slot) (hl : lv_has ls 6 [(0, .ref a0), (1, .ref v1_h24), (2, .int v2_h24), (3, .ref v3_h24), (4, .int v4_h24)]) (hf : f_X10_forkLog_J80 n a0 (f_X10_forkLog_L51 n a0 k51) αh24 v1_h24 v2_h24 v3_h24 v4_h24 = some res), W p l e (hp_rm 3 0 0) s m ([.ref a0, .ref a1, .int a2] : List Value).toArray below meth c Hh24 Lh24 0 0 (MQ below (hp_Qi Γ (fun r β => r = res.1 ∧ β = res.2 ∧ cw w_X10_forkLog α β)) ([.ref a0, .ref a1, .int a2] : List Value).toArray s 0 0 (hp_A Γ)) (F0 m 80 ls []) := by
                    intro αh24 Hh24 Lh24 Bh24 v1_h24 kv1_h24 v2_h24 v3_h24 kv3_h24 v4_h24 ls hl hf
                    unfold f_X10_forkLog_J80 at hf
                    obtain ⟨x25, ex25⟩ : ∃ y : Int32, y = v4_h24 + 1 := ⟨_, rfl⟩
                    replace hf := ms_lE ex25 hf
                    refine lv_iinc (v := x25) (lv' := [(4, .int x25), (0, .ref a0), (1, .ref v1_h24), (2, .int v2_h24), (3, .ref v3_h24)]) hx hb dX10_forkLog_80 hl (k := 4) rfl (by rw [ex25]; rfl) (by decide) rfl (fun ls hl => hp_n (n := 83) rfl ?_)
                    refine lv_goto (tgt := 51) hx hb dX10_forkLog_83 (by decide) ?_
                    exact ih51 αh24 Hh24 Lh24 Bh24 v1_h24 kv1_h24 v2_h24 v3_h24 kv3_h24 x25 ls (lv_sub hl [1, 2, 3, 4, 0] rfl) hf
                  refine lv_ifnullN (tgt := 80) hx hb dX10_forkLog_67 (by decide) ?_
                  exact J80 αh16 Hh23 Lh23 Bh23 v1_h16 kv1_h16 v2_h16 v3_h16 kv3_h16 v4_h16 ls (lv_sub hl [1, 2, 3, 4, 5] rfl) hf
                ·
                  replace hf := hq_S hf
                  have kbh23 := kh23 bh23 rfl
                  refine lv_astore (lv' := [(5, .ref bh23), (0, .ref a0), (1, .ref v1_h16), (2, .int v2_h16), (3, .ref v3_h16), (4, .int v4_h16)]) hx hb dX10_forkLog_63 hl (by decide) rfl (fun ls hl => hp_n (n := 65) rfl ?_)
                  refine lv_aload hx hb dX10_forkLog_65 (lv_at hl 0 rfl) (hp_n (n := 67) rfl ?_)
                  have J80 : ∀ (αh26 : hp_T) (Hh26 : Heap) (Lh26 : List Loc) (Bh26 : hp_B Γ (cw w_X10_forkLog) s α αh26 Hh26 Lh26) (v1_h26 : Nat) (kv1_h26 : hp_K α v1_h26 = 3) (v2_h26 : Int32) (v3_h26 : Nat) (kv3_h26 : hp_K α v3_h26 = 3) (v4_h26 : Int32) (ls : Array Slot) (hl : lv_has ls 6 [(0, .ref a0), (1, .ref v1_h26), (2, .int v2_h26), (3, .ref v3_h26), (4, .int v4_h26)]) (hf : f_X10_forkLog_J80 n a0 (f_X10_forkLog_L51 n a0 k51) αh26 v1_h26 v2_h26 v3_h26 v4_h26 = some res), W p l e (hp_rm 3 0 0) s m ([.ref a0, .ref a1, .int a2] : List Value).toArray below meth c Hh26 Lh26 0 0 (MQ below (hp_Qi Γ (fun r β => r = res.1 ∧ β = res.2 ∧ cw w_X10_forkLog α β)) ([.ref a0, .ref a1, .int a2] : List Value).toArray s 0 0 (hp_A Γ)) (F0 m 80 ls []) := by
                    intro αh26 Hh26 Lh26 Bh26 v1_h26 kv1_h26 v2_h26 v3_h26 kv3_h26 v4_h26 ls hl hf
                    unfold f_X10_forkLog_J80 at hf
                    obtain ⟨x27, ex27⟩ : ∃ y : Int32, y = v4_h26 + 1 := ⟨_, rfl⟩
                    replace hf := ms_lE ex27 hf
                    refine lv_iinc (v := x27) (lv' := [(4, .int x27), (0, .ref a0), (1, .ref v1_h26), (2, .int v2_h26), (3, .ref v3_h26)]) hx hb dX10_forkLog_80 hl (k := 4) rfl (by rw [ex27]; rfl) (by decide) rfl (fun ls hl => hp_n (n := 83) rfl ?_)
                    refine lv_goto (tgt := 51) hx hb dX10_forkLog_83 (by decide) ?_
                    exact ih51 αh26 Hh26 Lh26 Bh26 v1_h26 kv1_h26 v2_h26 v3_h26 kv3_h26 x27 ls (lv_sub hl [1, 2, 3, 4, 0] rfl) hf
                  refine lv_ifnull hx hb dX10_forkLog_67 (hp_n (n := 70) rfl ?_)
                  refine lv_aload_n hx hb dX10_forkLog_70 rfl (lv_at hl 4 rfl) (hp_n (n := 71) rfl ?_)
                  refine lv_aload hx hb dX10_forkLog_71 (lv_at hl 0 rfl) (hp_n (n := 73) rfl ?_)
                  refine lv_aload_n hx hb dX10_forkLog_73 rfl (lv_at hl 1 rfl) (hp_n (n := 74) rfl ?_)
                  refine q_geti (κ := 11) (k := 0) (φ := 550) (pc' := 77) C Bh23 (cw_k Bh23.2.2 k0) fl_X10_10 rfl rfl rfl dX10_forkLog_74 rfl (fun x28 ex28 => ?_)
                  replace hf := ms_lE ex28 hf
                  obtain ⟨αh29, qh29, hf⟩ := ms_bE hf
                  refine d_cv (pc' := 80) Bh23 (hp_runV (As := [.ref bh23, .int x28]) (rest := []) C Bh23 (n_X2_putWord n Γ l αh16 Bh23.2.2.1 v3_h16 (cw_k Bh23.2.2 kv3_h16) bh23 (cw_k Bh23.2.2 kbh23) x28 αh29 qh29) lb_X2_putWord lv_X2_putWord lk_X10_120 (cw_k Bh23.2.2 kv3_h16) rfl (by decide) rfl hl.1 rfl (Nat.le_of_ble_eq_true rfl) dX10_forkLog_77 ⟨Nat.le_refl _, Nat.le_refl _⟩) (by decide) rfl (fun Hh29 Lh29 Bh29 => ?_)
                  exact J80 αh29 Hh29 Lh29 Bh29 v1_h16 kv1_h16 v2_h16 v3_h16 kv3_h16 v4_h16 ls (lv_sub hl [1, 2, 3, 4, 5] rfl) hf
          refine lv_istore (lv' := [(4, .int (0 : Int32)), (3, .ref b13), (0, .ref a0), (1, .ref a1), (2, .int a2)]) hx hb dX10_forkLog_49 hl (by decide) rfl (fun ls hl => hp_n (n := 51) rfl ?_)
          exact J51 n αh15 Hh15 Lh15 Bh15 a1 k1 a2 b13 kb13 (0 : Int32) ls (lv_sub hl [2, 3, 4, 1, 0] rfl) hf
def f_X10_freezeHead (n : Nat) (α : hp_T) (a0 : Nat) (a1 : Int32) : Option (Int32 × hp_T) :=
  ms_b (f_X10_logAt n α a0 a1) fun rh1 =>
  hq_m rh1 (
    some ((-1 : Int32), α)) fun bh1 =>
  ms_l (hp_I α 554 a0) fun x2 =>
  if x2 < 0 then
    some ((-1 : Int32), α)
  else
    ms_l (hp_I α 554 a0) fun x4 =>
    ms_l (hp_R α 553 a0) fun b5 =>
    if (16 : Int32) ≤ x4 then
      some ((-1 : Int32), α)
    else
      ms_l (hp_R α 553 a0) fun b7 =>
      ms_l (hp_I α 554 a0) fun x8 =>
      ms_g x8 16 <|
      hq_m (hp_Q α 31 b7 (x8).toNatClampNeg) (
        some ((-1 : Int32), α)) fun b10 =>
      ms_l (hp_R α 553 a0) fun b11 =>
      ms_l (hp_I α 554 a0) fun x12 =>
      ms_g x12 16 <|
      hq_m (hp_Q α 31 b11 (x12).toNatClampNeg) (
        none) fun b14 =>
      ms_l (hp_sI α 100 b14 a1) fun αh16 =>
      ms_l (hp_I αh16 152 bh1) fun x17 =>
      ms_l (hp_sI αh16 101 b14 x17) fun αh18 =>
      ms_l (hp_I αh18 152 bh1) fun x19 =>
      hq_c (f_X10_headOf n αh18 a0 (some bh1) x19) fun rh20 αh20 =>
      ms_l (hp_sI αh20 102 b14 rh20) fun αh21 =>
      ms_l (hp_I αh21 556 a0) fun x22 =>
      ms_l (hp_sI αh21 103 b14 x22) fun αh23 =>
      ms_l (hp_I αh23 152 bh1) fun x24 =>
      ms_l (hp_R αh23 104 b14) fun b25 =>
      ms_b (f_X10_peaksOf n αh23 a0 (some bh1) x24 b25) fun αh26 =>
      ms_l (hp_I αh26 554 a0) fun x27 =>
      ms_l (hp_sI αh26 554 a0 (x27 + (1 : Int32))) fun αh28 =>
      ms_l (hp_I αh28 556 a0) fun x29 =>
      ms_l (hp_sI αh28 556 a0 (x29 + (1 : Int32))) fun αh30 =>
      ms_l (hp_I αh30 554 a0) fun x31 =>
      some ((x31 - (1 : Int32)), αh30)
set_option maxRecDepth 100000 in
set_option maxHeartbeats 4000000 in
theorem n_X10_freezeHead (n : Nat) (Γ : hp_G) (l : Launch) (α : hp_T) (g : GC α) (a0 : Nat) (k0 : hp_K α a0 = 11) (a1 : Int32) (res : (Int32 × hp_T)) (hf : f_X10_freezeHead n α a0 a1 = some res) : Met l yX10_freezeHead (hp_ws yX10_freezeHead cX10_freezeHead 4 (some .int)) (hp_rm 3 0 0) (hp_Pc Γ α [.ref a0, .int a1]) (hp_Qi Γ (fun r β => r = res.1 ∧ β = res.2 ∧ cw w_X10_freezeHead α β)) 0 0 (hp_A Γ) := by
  unfold f_X10_freezeHead at hf
  refine hp_start (by decide) ?_
  intro p e s m below meth c C hr hlk B0 hnm
  have C : hp_C Γ p m c cX10_freezeHead 4 s ([.ref a0, .int a1] : List Value).toArray RX10 := C
  have hx := C.1.1
  have hb := C.1.2.1
  have hown := C.1.2.2.2.1
  have hts := C.1.2.2.2.2
  have B : hp_B Γ (cw w_X10_freezeHead) s α α s.heap [] := ⟨B0.1, B0.2.1, cw_rf g⟩
  have hl := lv_entry ([.ref a0, .int a1]) (n := 4) (Nat.le_of_ble_eq_true rfl)
  show W p l e (hp_rm 3 0 0) s m ([.ref a0, .int a1] : List Value).toArray below meth c s.heap [] 0 0 (MQ below (hp_Qi Γ (fun r β => r = res.1 ∧ β = res.2 ∧ cw w_X10_freezeHead α β)) ([.ref a0, .int a1] : List Value).toArray s 0 0 (hp_A Γ)) (entryFrame m ([.ref a0, .int a1] : List Value).toArray 4)
  rw [lg_entry_eq]
  generalize (lg_sl ([.ref a0, .int a1]) ++ List.replicate (4 - (lg_sl ([.ref a0, .int a1])).length) Slot.unset).toArray = ls at hl ⊢
  have hl : lv_has ls 4 [(0, .ref a0), (1, .int a1)] := hl
  refine lv_aload_n hx hb dX10_freezeHead_0 rfl (lv_at hl 0 rfl) (hp_n (n := 1) rfl ?_)
  refine lv_iload_n hx hb dX10_freezeHead_1 rfl (lv_at hl 1 rfl) (hp_n (n := 2) rfl ?_)
  obtain ⟨rh1, qh1, hf⟩ := ms_bE hf
  refine d_pq (pc' := 5) B (hp_runV (As := [.int a1]) (rest := []) C B (n_X10_logAt n Γ l α B.2.2.1 a0 (cw_k B.2.2 k0) a1 rh1 qh1) lb_X10_logAt lv_X10_logAt lk_X10_64 (cw_k B.2.2 k0) rfl (by decide) rfl hl.1 rfl (Nat.le_of_ble_eq_true rfl) dX10_freezeHead_2 ⟨Nat.le_refl _, Nat.le_refl _⟩) rfl (fun Hh1 Lh1 Bh1 kh1 => ?_)
  rcases rh1 with _ | bh1
  ·
    replace hf := hq_N hf
    refine lv_astore_nN (lv' := [(2, .null), (0, .ref a0), (1, .int a1)]) hx hb dX10_freezeHead_5 rfl hl (by decide) rfl (fun ls hl => hp_n (n := 6) rfl ?_)
    refine lv_aload_nN hx hb dX10_freezeHead_6 rfl (lv_at hl 0 rfl) (hp_n (n := 7) rfl ?_)
    refine lv_ifnullN (tgt := 41) hx hb dX10_freezeHead_7 (by decide) ?_
    refine lv_iconst (v := (-1)) hx hb dX10_freezeHead_41 (by decide) (hp_n (n := 42) rfl ?_)
    cases hf
    exact q_iret C Bh1 hr hlk ⟨rfl, rfl, Bh1.2.2⟩ dX10_freezeHead_42
  ·
    replace hf := hq_S hf
    have kbh1 := kh1 bh1 rfl
    refine lv_astore_n (lv' := [(2, .ref bh1), (0, .ref a0), (1, .int a1)]) hx hb dX10_freezeHead_5 rfl hl (by decide) rfl (fun ls hl => hp_n (n := 6) rfl ?_)
    refine lv_aload_n hx hb dX10_freezeHead_6 rfl (lv_at hl 0 rfl) (hp_n (n := 7) rfl ?_)
    refine lv_ifnull hx hb dX10_freezeHead_7 (hp_n (n := 10) rfl ?_)
    refine lv_aload_n hx hb dX10_freezeHead_10 rfl (lv_at hl 1 rfl) (hp_n (n := 11) rfl ?_)
    refine q_geti (κ := 11) (k := 4) (φ := 554) (pc' := 14) C Bh1 (cw_k Bh1.2.2 k0) fl_X10_31 rfl rfl rfl dX10_freezeHead_11 rfl (fun x2 ex2 => ?_)
    replace hf := ms_lE ex2 hf
    refine lv_if_lt (tgt := 41) hx hb dX10_freezeHead_14 (by decide) (fun c3 => ?_) (fun c3 => hp_n (n := 17) rfl ?_)
    ·
      replace hf := ms_iT c3 hf
      refine lv_iconst (v := (-1)) hx hb dX10_freezeHead_41 (by decide) (hp_n (n := 42) rfl ?_)
      cases hf
      exact q_iret C Bh1 hr hlk ⟨rfl, rfl, Bh1.2.2⟩ dX10_freezeHead_42
    ·
      replace hf := ms_iF c3 hf
      refine lv_aload_n hx hb dX10_freezeHead_17 rfl (lv_at hl 1 rfl) (hp_n (n := 18) rfl ?_)
      refine q_geti (κ := 11) (k := 4) (φ := 554) (pc' := 21) C Bh1 (cw_k Bh1.2.2 k0) fl_X10_31 rfl rfl rfl dX10_freezeHead_18 rfl (fun x4 ex4 => ?_)
      replace hf := ms_lE ex4 hf
      refine lv_aload_n hx hb dX10_freezeHead_21 rfl (lv_at hl 1 rfl) (hp_n (n := 22) rfl ?_)
      refine q_getr (κ := 11) (k := 3) (φ := 553) (pc' := 25) C Bh1 (cw_k Bh1.2.2 k0) fl_X10_27 rfl rfl rfl (cw_r Bh1.2.2 k0 rfl rfl (by decide) (by decide)) dX10_freezeHead_22 rfl (fun b5 eb5 kb5 => ?_)
      replace hf := ms_lE eb5 hf
      refine q_alen (κ := 31) (t := 5) (n := 16) (x := 16) (ty := .object "ProvenRecord$Frozen") (pc' := 26) C Bh1 (cw_k Bh1.2.2 kb5) (by decide) rfl rfl rfl dX10_freezeHead_25 rfl ?_
      refine lv_icmp_ge (tgt := 41) hx hb dX10_freezeHead_26 (by decide) (fun c6 => ?_) (fun c6 => hp_n (n := 29) rfl ?_)
      ·
        replace hf := ms_iT c6 hf
        refine lv_iconst (v := (-1)) hx hb dX10_freezeHead_41 (by decide) (hp_n (n := 42) rfl ?_)
        cases hf
        exact q_iret C Bh1 hr hlk ⟨rfl, rfl, Bh1.2.2⟩ dX10_freezeHead_42
      ·
        replace hf := ms_iF c6 hf
        refine lv_aload_n hx hb dX10_freezeHead_29 rfl (lv_at hl 1 rfl) (hp_n (n := 30) rfl ?_)
        refine q_getr (κ := 11) (k := 3) (φ := 553) (pc' := 33) C Bh1 (cw_k Bh1.2.2 k0) fl_X10_27 rfl rfl rfl (cw_r Bh1.2.2 k0 rfl rfl (by decide) (by decide)) dX10_freezeHead_30 rfl (fun b7 eb7 kb7 => ?_)
        replace hf := ms_lE eb7 hf
        refine lv_aload_n hx hb dX10_freezeHead_33 rfl (lv_at hl 1 rfl) (hp_n (n := 34) rfl ?_)
        refine q_geti (κ := 11) (k := 4) (φ := 554) (pc' := 37) C Bh1 (cw_k Bh1.2.2 k0) fl_X10_31 rfl rfl rfl dX10_freezeHead_34 rfl (fun x8 ex8 => ?_)
        replace hf := ms_lE ex8 hf
        obtain ⟨g9, hf⟩ := ms_gE hf
        refine q_aal (κ := 31) (t := 5) (n := 16) (C0 := "ProvenRecord$Frozen") (pc' := 38) C Bh1 (cw_k Bh1.2.2 kb7) (by decide) rfl rfl (by decide) (vi_of g9.1 g9.2) dX10_freezeHead_37 rfl ?_
        rcases hq_E hf with ⟨hqb10, hf⟩ | ⟨b10, hqb10, hf⟩
        ·
          rw [hqb10]
          refine lv_ifnonnullN hx hb dX10_freezeHead_38 (hp_n (n := 41) rfl ?_)
          refine lv_iconst (v := (-1)) hx hb dX10_freezeHead_41 (by decide) (hp_n (n := 42) rfl ?_)
          cases hf
          exact q_iret C Bh1 hr hlk ⟨rfl, rfl, Bh1.2.2⟩ dX10_freezeHead_42
        ·
          rw [hqb10]
          have kb10 := cw_q Bh1.2.2 kb7 rfl (by decide) hqb10
          refine lv_ifnonnull (tgt := 43) hx hb dX10_freezeHead_38 (by decide) ?_
          refine lv_aload_n hx hb dX10_freezeHead_43 rfl (lv_at hl 1 rfl) (hp_n (n := 44) rfl ?_)
          refine q_getr (κ := 11) (k := 3) (φ := 553) (pc' := 47) C Bh1 (cw_k Bh1.2.2 k0) fl_X10_27 rfl rfl rfl (cw_r Bh1.2.2 k0 rfl rfl (by decide) (by decide)) dX10_freezeHead_44 rfl (fun b11 eb11 kb11 => ?_)
          replace hf := ms_lE eb11 hf
          refine lv_aload_n hx hb dX10_freezeHead_47 rfl (lv_at hl 1 rfl) (hp_n (n := 48) rfl ?_)
          refine q_geti (κ := 11) (k := 4) (φ := 554) (pc' := 51) C Bh1 (cw_k Bh1.2.2 k0) fl_X10_31 rfl rfl rfl dX10_freezeHead_48 rfl (fun x12 ex12 => ?_)
          replace hf := ms_lE ex12 hf
          obtain ⟨g13, hf⟩ := ms_gE hf
          refine q_aal (κ := 31) (t := 5) (n := 16) (C0 := "ProvenRecord$Frozen") (pc' := 52) C Bh1 (cw_k Bh1.2.2 kb11) (by decide) rfl rfl (by decide) (vi_of g13.1 g13.2) dX10_freezeHead_51 rfl ?_
          rcases hq_E hf with ⟨hqb14, hf⟩ | ⟨b14, hqb14, hf⟩
          ·
            rw [hqb14]
            refine lv_astore_nN (lv' := [(3, .null), (2, .ref bh1), (0, .ref a0), (1, .int a1)]) hx hb dX10_freezeHead_52 rfl hl (by decide) rfl (fun ls hl => hp_n (n := 53) rfl ?_)
            refine lv_aload_nN hx hb dX10_freezeHead_53 rfl (lv_at hl 0 rfl) (hp_n (n := 54) rfl ?_)
            refine lv_iload_n hx hb dX10_freezeHead_54 rfl (lv_at hl 3 rfl) (hp_n (n := 55) rfl ?_)
            cases hf
          ·
            rw [hqb14]
            have kb14 := cw_q Bh1.2.2 kb11 rfl (by decide) hqb14
            refine lv_astore_n (lv' := [(3, .ref b14), (2, .ref bh1), (0, .ref a0), (1, .int a1)]) hx hb dX10_freezeHead_52 rfl hl (by decide) rfl (fun ls hl => hp_n (n := 53) rfl ?_)
            refine lv_aload_n hx hb dX10_freezeHead_53 rfl (lv_at hl 0 rfl) (hp_n (n := 54) rfl ?_)
            refine lv_iload_n hx hb dX10_freezeHead_54 rfl (lv_at hl 3 rfl) (hp_n (n := 55) rfl ?_)
            refine q_puti (κ := 2) (k := 0) (φ := 100) (pc' := 58) C Bh1 (cw_k Bh1.2.2 kb14) fl_X10_128 rfl rfl rfl rfl rfl rfl (cw_sI Bh1.2.2 (by decide) (fun h => absurd h (by decide))) dX10_freezeHead_55 rfl (fun αh16 Hh16 Lh16 eh16 Bh16 => ?_)
            replace hf := ms_lE eh16 hf
            refine lv_aload_n hx hb dX10_freezeHead_58 rfl (lv_at hl 0 rfl) (hp_n (n := 59) rfl ?_)
            refine lv_aload_n hx hb dX10_freezeHead_59 rfl (lv_at hl 1 rfl) (hp_n (n := 60) rfl ?_)
            refine q_geti (κ := 3) (k := 2) (φ := 152) (pc' := 63) C Bh16 (cw_k Bh16.2.2 kbh1) fl_X10_68 rfl rfl rfl dX10_freezeHead_60 rfl (fun x17 ex17 => ?_)
            replace hf := ms_lE ex17 hf
            refine q_puti (κ := 2) (k := 1) (φ := 101) (pc' := 66) C Bh16 (cw_k Bh16.2.2 kb14) fl_X10_131 rfl rfl rfl rfl rfl rfl (cw_sI Bh16.2.2 (by decide) (fun h => absurd h (by decide))) dX10_freezeHead_63 rfl (fun αh18 Hh18 Lh18 eh18 Bh18 => ?_)
            replace hf := ms_lE eh18 hf
            refine lv_aload_n hx hb dX10_freezeHead_66 rfl (lv_at hl 0 rfl) (hp_n (n := 67) rfl ?_)
            refine lv_aload_n hx hb dX10_freezeHead_67 rfl (lv_at hl 2 rfl) (hp_n (n := 68) rfl ?_)
            refine lv_aload_n hx hb dX10_freezeHead_68 rfl (lv_at hl 1 rfl) (hp_n (n := 69) rfl ?_)
            refine lv_aload_n hx hb dX10_freezeHead_69 rfl (lv_at hl 1 rfl) (hp_n (n := 70) rfl ?_)
            refine q_geti (κ := 3) (k := 2) (φ := 152) (pc' := 73) C Bh18 (cw_k Bh18.2.2 kbh1) fl_X10_68 rfl rfl rfl dX10_freezeHead_70 rfl (fun x19 ex19 => ?_)
            replace hf := ms_lE ex19 hf
            obtain ⟨rh20, αh20, qh20, hf⟩ := hq_cE hf
            refine d_ci (pc' := 76) Bh18 (hp_runV (As := [va_rf (some bh1), .int x19]) (rest := [.ref b14]) C Bh18 (n_X10_headOf n Γ l αh18 Bh18.2.2.1 a0 (cw_k Bh18.2.2 k0) (some bh1) (fun b h => by cases h; exact (cw_k Bh18.2.2 kbh1)) x19 (rh20, αh20) qh20) lb_X10_headOf lv_X10_headOf lk_X10_107 (cw_k Bh18.2.2 k0) rfl (by decide) rfl hl.1 rfl (Nat.le_of_ble_eq_true rfl) dX10_freezeHead_73 ⟨Nat.le_refl _, Nat.le_refl _⟩) (by decide) rfl (fun Hh20 Lh20 Bh20 => ?_)
            refine q_puti (κ := 2) (k := 2) (φ := 102) (pc' := 79) C Bh20 (cw_k Bh20.2.2 kb14) fl_X10_134 rfl rfl rfl rfl rfl rfl (cw_sI Bh20.2.2 (by decide) (fun h => absurd h (by decide))) dX10_freezeHead_76 rfl (fun αh21 Hh21 Lh21 eh21 Bh21 => ?_)
            replace hf := ms_lE eh21 hf
            refine lv_aload_n hx hb dX10_freezeHead_79 rfl (lv_at hl 0 rfl) (hp_n (n := 80) rfl ?_)
            refine lv_aload_n hx hb dX10_freezeHead_80 rfl (lv_at hl 2 rfl) (hp_n (n := 81) rfl ?_)
            refine q_geti (κ := 11) (k := 6) (φ := 556) (pc' := 84) C Bh21 (cw_k Bh21.2.2 k0) fl_X10_40 rfl rfl rfl dX10_freezeHead_81 rfl (fun x22 ex22 => ?_)
            replace hf := ms_lE ex22 hf
            refine q_puti (κ := 2) (k := 3) (φ := 103) (pc' := 87) C Bh21 (cw_k Bh21.2.2 kb14) fl_X10_137 rfl rfl rfl rfl rfl rfl (cw_sI Bh21.2.2 (by decide) (fun h => absurd h (by decide))) dX10_freezeHead_84 rfl (fun αh23 Hh23 Lh23 eh23 Bh23 => ?_)
            replace hf := ms_lE eh23 hf
            refine lv_aload_n hx hb dX10_freezeHead_87 rfl (lv_at hl 2 rfl) (hp_n (n := 88) rfl ?_)
            refine lv_aload_n hx hb dX10_freezeHead_88 rfl (lv_at hl 1 rfl) (hp_n (n := 89) rfl ?_)
            refine lv_aload_n hx hb dX10_freezeHead_89 rfl (lv_at hl 1 rfl) (hp_n (n := 90) rfl ?_)
            refine q_geti (κ := 3) (k := 2) (φ := 152) (pc' := 93) C Bh23 (cw_k Bh23.2.2 kbh1) fl_X10_68 rfl rfl rfl dX10_freezeHead_90 rfl (fun x24 ex24 => ?_)
            replace hf := ms_lE ex24 hf
            refine lv_aload_n hx hb dX10_freezeHead_93 rfl (lv_at hl 0 rfl) (hp_n (n := 94) rfl ?_)
            refine q_getr (κ := 2) (k := 4) (φ := 104) (pc' := 97) C Bh23 (cw_k Bh23.2.2 kb14) fl_X10_140 rfl rfl rfl (cw_r Bh23.2.2 kb14 rfl rfl (by decide) (by decide)) dX10_freezeHead_94 rfl (fun b25 eb25 kb25 => ?_)
            replace hf := ms_lE eb25 hf
            obtain ⟨αh26, qh26, hf⟩ := ms_bE hf
            refine d_cv (pc' := 100) Bh23 (hp_runV (As := [va_rf (some bh1), .int x24, .ref b25]) (rest := []) C Bh23 (n_X10_peaksOf n Γ l αh23 Bh23.2.2.1 a0 (cw_k Bh23.2.2 k0) (some bh1) (fun b h => by cases h; exact (cw_k Bh23.2.2 kbh1)) x24 b25 (cw_k Bh23.2.2 kb25) αh26 qh26) lb_X10_peaksOf lv_X10_peaksOf lk_X10_143 (cw_k Bh23.2.2 k0) rfl (by decide) rfl hl.1 rfl (Nat.le_of_ble_eq_true rfl) dX10_freezeHead_97 ⟨Nat.le_refl _, Nat.le_refl _⟩) (by decide) rfl (fun Hh26 Lh26 Bh26 => ?_)
            refine lv_aload_n hx hb dX10_freezeHead_100 rfl (lv_at hl 2 rfl) (hp_n (n := 101) rfl ?_)
            refine lv_dup hx hb dX10_freezeHead_101 rfl (hp_n (n := 102) rfl ?_)
            refine q_geti (κ := 11) (k := 4) (φ := 554) (pc' := 105) C Bh26 (cw_k Bh26.2.2 k0) fl_X10_31 rfl rfl rfl dX10_freezeHead_102 rfl (fun x27 ex27 => ?_)
            replace hf := ms_lE ex27 hf
            refine lv_iconst (v := 1) hx hb dX10_freezeHead_105 (by decide) (hp_n (n := 106) rfl ?_)
            refine lv_iadd hx hb dX10_freezeHead_106 (hp_n (n := 107) rfl ?_)
            refine q_puti (κ := 11) (k := 4) (φ := 554) (pc' := 110) C Bh26 (cw_k Bh26.2.2 k0) fl_X10_31 rfl rfl rfl rfl rfl rfl (cw_sI Bh26.2.2 (by decide) (fun h => absurd h (by decide))) dX10_freezeHead_107 rfl (fun αh28 Hh28 Lh28 eh28 Bh28 => ?_)
            replace hf := ms_lE eh28 hf
            refine lv_aload_n hx hb dX10_freezeHead_110 rfl (lv_at hl 2 rfl) (hp_n (n := 111) rfl ?_)
            refine lv_dup hx hb dX10_freezeHead_111 rfl (hp_n (n := 112) rfl ?_)
            refine q_geti (κ := 11) (k := 6) (φ := 556) (pc' := 115) C Bh28 (cw_k Bh28.2.2 k0) fl_X10_40 rfl rfl rfl dX10_freezeHead_112 rfl (fun x29 ex29 => ?_)
            replace hf := ms_lE ex29 hf
            refine lv_iconst (v := 1) hx hb dX10_freezeHead_115 (by decide) (hp_n (n := 116) rfl ?_)
            refine lv_iadd hx hb dX10_freezeHead_116 (hp_n (n := 117) rfl ?_)
            refine q_puti (κ := 11) (k := 6) (φ := 556) (pc' := 120) C Bh28 (cw_k Bh28.2.2 k0) fl_X10_40 rfl rfl rfl rfl rfl rfl (cw_sI Bh28.2.2 (by decide) (fun h => absurd h (by decide))) dX10_freezeHead_117 rfl (fun αh30 Hh30 Lh30 eh30 Bh30 => ?_)
            replace hf := ms_lE eh30 hf
            refine lv_aload_n hx hb dX10_freezeHead_120 rfl (lv_at hl 2 rfl) (hp_n (n := 121) rfl ?_)
            refine q_geti (κ := 11) (k := 4) (φ := 554) (pc' := 124) C Bh30 (cw_k Bh30.2.2 k0) fl_X10_31 rfl rfl rfl dX10_freezeHead_121 rfl (fun x31 ex31 => ?_)
            replace hf := ms_lE ex31 hf
            refine lv_iconst (v := 1) hx hb dX10_freezeHead_124 (by decide) (hp_n (n := 125) rfl ?_)
            refine lv_isub hx hb dX10_freezeHead_125 (hp_n (n := 126) rfl ?_)
            cases hf
            exact q_iret C Bh30 hr hlk ⟨rfl, rfl, Bh30.2.2⟩ dX10_freezeHead_126
end JN8_0
section JN8_1
def f_X8_isAhead (n : Nat) (α : hp_T) (a0 : Nat) (a1 : Int32) : Option Int32 :=
  if a1 < 0 then
    some (0 : Int32)
  else
    ms_l (hp_I α 453 a0) fun x2 =>
    if x2 ≤ a1 then
      some (0 : Int32)
    else
      ms_l (hp_R α 452 a0) fun b4 =>
      if (64 : Int32) ≤ a1 then
        some (0 : Int32)
      else
        ms_l (hp_R α 452 a0) fun b6 =>
        ms_g a1 64 <|
        if (hp_E α 23 b6 (a1).toNatClampNeg) = 0 then
          some (0 : Int32)
        else
          some (1 : Int32)
set_option maxRecDepth 100000 in
set_option maxHeartbeats 4000000 in
theorem n_X8_isAhead (n : Nat) (Γ : hp_G) (l : Launch) (α : hp_T) (g : GC α) (a0 : Nat) (k0 : hp_K α a0 = 9) (a1 : Int32) (res : Int32) (hf : f_X8_isAhead n α a0 a1 = some res) : Met l yX8_isAhead (hp_ws yX8_isAhead cX8_isAhead 2 (some .boolean)) (hp_rm 0 0 0) (hp_Pc Γ α [.ref a0, .int a1]) (hp_Qi Γ (fun r β => β = α ∧ r = res)) 0 0 (hp_A Γ) := by
  unfold f_X8_isAhead at hf
  refine hp_start (by decide) ?_
  intro p e s m below meth c C hr hlk B0 hnm
  have C : hp_C Γ p m c cX8_isAhead 2 s ([.ref a0, .int a1] : List Value).toArray RX8 := C
  have hx := C.1.1
  have hb := C.1.2.1
  have hown := C.1.2.2.2.1
  have hts := C.1.2.2.2.2
  have B : hp_B Γ (cw w_X8_isAhead) s α α s.heap [] := ⟨B0.1, B0.2.1, cw_rf g⟩
  have hl := lv_entry ([.ref a0, .int a1]) (n := 2) (Nat.le_of_ble_eq_true rfl)
  show W p l e (hp_rm 0 0 0) s m ([.ref a0, .int a1] : List Value).toArray below meth c s.heap [] 0 0 (MQ below (hp_Qi Γ (fun r β => β = α ∧ r = res)) ([.ref a0, .int a1] : List Value).toArray s 0 0 (hp_A Γ)) (entryFrame m ([.ref a0, .int a1] : List Value).toArray 2)
  rw [lg_entry_eq]
  generalize (lg_sl ([.ref a0, .int a1]) ++ List.replicate (2 - (lg_sl ([.ref a0, .int a1])).length) Slot.unset).toArray = ls at hl ⊢
  have hl : lv_has ls 2 [(0, .ref a0), (1, .int a1)] := hl
  refine lv_iload_n hx hb dX8_isAhead_0 rfl (lv_at hl 1 rfl) (hp_n (n := 1) rfl ?_)
  refine lv_if_lt (tgt := 34) hx hb dX8_isAhead_1 (by decide) (fun c1 => ?_) (fun c1 => hp_n (n := 4) rfl ?_)
  ·
    replace hf := ms_iT c1 hf
    refine lv_iconst (v := 0) hx hb dX8_isAhead_34 (by decide) (hp_n (n := 35) rfl ?_)
    cases hf
    exact q_zret C B hr hlk (by decide) ⟨rfl, rfl⟩ dX8_isAhead_35
  ·
    replace hf := ms_iF c1 hf
    refine lv_iload_n hx hb dX8_isAhead_4 rfl (lv_at hl 1 rfl) (hp_n (n := 5) rfl ?_)
    refine lv_aload_n hx hb dX8_isAhead_5 rfl (lv_at hl 0 rfl) (hp_n (n := 6) rfl ?_)
    refine q_geti (κ := 9) (k := 3) (φ := 453) (pc' := 9) C B (cw_k B.2.2 k0) fl_X8_22 rfl rfl rfl dX8_isAhead_6 rfl (fun x2 ex2 => ?_)
    replace hf := ms_lE ex2 hf
    refine lv_icmp_ge (tgt := 34) hx hb dX8_isAhead_9 (by decide) (fun c3 => ?_) (fun c3 => hp_n (n := 12) rfl ?_)
    ·
      replace hf := ms_iT c3 hf
      refine lv_iconst (v := 0) hx hb dX8_isAhead_34 (by decide) (hp_n (n := 35) rfl ?_)
      cases hf
      exact q_zret C B hr hlk (by decide) ⟨rfl, rfl⟩ dX8_isAhead_35
    ·
      replace hf := ms_iF c3 hf
      refine lv_iload_n hx hb dX8_isAhead_12 rfl (lv_at hl 1 rfl) (hp_n (n := 13) rfl ?_)
      refine lv_aload_n hx hb dX8_isAhead_13 rfl (lv_at hl 0 rfl) (hp_n (n := 14) rfl ?_)
      refine q_getr (κ := 9) (k := 2) (φ := 452) (pc' := 17) C B (cw_k B.2.2 k0) fl_X8_18 rfl rfl rfl (cw_r B.2.2 k0 rfl rfl (by decide) (by decide)) dX8_isAhead_14 rfl (fun b4 eb4 kb4 => ?_)
      replace hf := ms_lE eb4 hf
      refine q_alen (κ := 23) (t := 2) (n := 64) (x := 64) (ty := .boolean) (pc' := 18) C B (cw_k B.2.2 kb4) (by decide) rfl rfl rfl dX8_isAhead_17 rfl ?_
      refine lv_icmp_ge (tgt := 34) hx hb dX8_isAhead_18 (by decide) (fun c5 => ?_) (fun c5 => hp_n (n := 21) rfl ?_)
      ·
        replace hf := ms_iT c5 hf
        refine lv_iconst (v := 0) hx hb dX8_isAhead_34 (by decide) (hp_n (n := 35) rfl ?_)
        cases hf
        exact q_zret C B hr hlk (by decide) ⟨rfl, rfl⟩ dX8_isAhead_35
      ·
        replace hf := ms_iF c5 hf
        refine lv_aload_n hx hb dX8_isAhead_21 rfl (lv_at hl 0 rfl) (hp_n (n := 22) rfl ?_)
        refine q_getr (κ := 9) (k := 2) (φ := 452) (pc' := 25) C B (cw_k B.2.2 k0) fl_X8_18 rfl rfl rfl (cw_r B.2.2 k0 rfl rfl (by decide) (by decide)) dX8_isAhead_22 rfl (fun b6 eb6 kb6 => ?_)
        replace hf := ms_lE eb6 hf
        refine lv_iload_n hx hb dX8_isAhead_25 rfl (lv_at hl 1 rfl) (hp_n (n := 26) rfl ?_)
        obtain ⟨g7, hf⟩ := ms_gE hf
        refine q_zal (κ := 23) (n := 64) (pc' := 27) C B (cw_k B.2.2 kb6) (by decide) rfl (vi_of g7.1 g7.2) dX8_isAhead_26 rfl ?_
        refine lv_if_eq (tgt := 34) hx hb dX8_isAhead_27 (by decide) (fun c8 => ?_) (fun c8 => hp_n (n := 30) rfl ?_)
        ·
          replace hf := ms_iT c8 hf
          refine lv_iconst (v := 0) hx hb dX8_isAhead_34 (by decide) (hp_n (n := 35) rfl ?_)
          cases hf
          exact q_zret C B hr hlk (by decide) ⟨rfl, rfl⟩ dX8_isAhead_35
        ·
          replace hf := ms_iF c8 hf
          refine lv_iconst (v := 1) hx hb dX8_isAhead_30 (by decide) (hp_n (n := 31) rfl ?_)
          refine lv_goto (tgt := 35) hx hb dX8_isAhead_31 (by decide) ?_
          cases hf
          exact q_zret C B hr hlk (by decide) ⟨rfl, rfl⟩ dX8_isAhead_35
def f_X8_joined (n : Nat) (α : hp_T) (a0 : Nat) (a1 : Int32) (a2 : Int32) (a3 : Int32) (a4 : Int32) : Option Int32 :=
  ms_b (f_X8_isAhead n α a0 a2) fun rh1 =>
  if rh1 = 0 then
    ms_b (f_X11_markOfTwo n a1 a3 a4) fun rh3 =>
    some rh3
  else
    ms_b (f_X11_markOfTwo n a1 a4 a3) fun rh4 =>
    some rh4
set_option maxRecDepth 100000 in
set_option maxHeartbeats 4000000 in
theorem n_X8_joined (n : Nat) (Γ : hp_G) (l : Launch) (α : hp_T) (g : GC α) (a0 : Nat) (k0 : hp_K α a0 = 9) (a1 : Int32) (a2 : Int32) (a3 : Int32) (a4 : Int32) (res : Int32) (hf : f_X8_joined n α a0 a1 a2 a3 a4 = some res) : Met l yX8_joined (hp_ws yX8_joined cX8_joined 5 (some .int)) (hp_rm 1 0 0) (hp_Pc Γ α [.ref a0, .int a1, .int a2, .int a3, .int a4]) (hp_Qi Γ (fun r β => β = α ∧ r = res)) 0 0 (hp_A Γ) := by
  unfold f_X8_joined at hf
  refine hp_start (by decide) ?_
  intro p e s m below meth c C hr hlk B0 hnm
  have C : hp_C Γ p m c cX8_joined 5 s ([.ref a0, .int a1, .int a2, .int a3, .int a4] : List Value).toArray RX8 := C
  have hx := C.1.1
  have hb := C.1.2.1
  have hown := C.1.2.2.2.1
  have hts := C.1.2.2.2.2
  have B : hp_B Γ (cw w_X8_joined) s α α s.heap [] := ⟨B0.1, B0.2.1, cw_rf g⟩
  have hl := lv_entry ([.ref a0, .int a1, .int a2, .int a3, .int a4]) (n := 5) (Nat.le_of_ble_eq_true rfl)
  show W p l e (hp_rm 1 0 0) s m ([.ref a0, .int a1, .int a2, .int a3, .int a4] : List Value).toArray below meth c s.heap [] 0 0 (MQ below (hp_Qi Γ (fun r β => β = α ∧ r = res)) ([.ref a0, .int a1, .int a2, .int a3, .int a4] : List Value).toArray s 0 0 (hp_A Γ)) (entryFrame m ([.ref a0, .int a1, .int a2, .int a3, .int a4] : List Value).toArray 5)
  rw [lg_entry_eq]
  generalize (lg_sl ([.ref a0, .int a1, .int a2, .int a3, .int a4]) ++ List.replicate (5 - (lg_sl ([.ref a0, .int a1, .int a2, .int a3, .int a4])).length) Slot.unset).toArray = ls at hl ⊢
  have hl : lv_has ls 5 [(0, .ref a0), (1, .int a1), (2, .int a2), (3, .int a3), (4, .int a4)] := hl
  refine lv_aload_n hx hb dX8_joined_0 rfl (lv_at hl 0 rfl) (hp_n (n := 1) rfl ?_)
  refine lv_iload_n hx hb dX8_joined_1 rfl (lv_at hl 2 rfl) (hp_n (n := 2) rfl ?_)
  obtain ⟨rh1, qh1, hf⟩ := ms_bE hf
  refine d_pi (pc' := 5) B (hp_runV (As := [.int a2]) (rest := []) C B (n_X8_isAhead n Γ l α B.2.2.1 a0 (cw_k B.2.2 k0) a2 rh1 qh1) lb_X8_isAhead lv_X8_isAhead lk_X8_58 (cw_k B.2.2 k0) rfl (by decide) rfl hl.1 rfl (Nat.le_of_ble_eq_true rfl) dX8_joined_2 ⟨Nat.le_refl _, Nat.le_refl _⟩) rfl (fun Hh1 Lh1 Bh1 => ?_)
  refine lv_if_eq (tgt := 18) hx hb dX8_joined_5 (by decide) (fun c2 => ?_) (fun c2 => hp_n (n := 8) rfl ?_)
  ·
    replace hf := ms_iT c2 hf
    refine lv_iload_n hx hb dX8_joined_18 rfl (lv_at hl 1 rfl) (hp_n (n := 19) rfl ?_)
    refine lv_iload_n hx hb dX8_joined_19 rfl (lv_at hl 3 rfl) (hp_n (n := 20) rfl ?_)
    refine lv_iload hx hb dX8_joined_20 (lv_at hl 4 rfl) (hp_n (n := 22) rfl ?_)
    obtain ⟨rh3, qh3, hf⟩ := ms_bE hf
    refine d_pi (pc' := 25) Bh1 (hp_runS (As := [.int a1, .int a3, .int a4]) (rest := []) C Bh1 (n_X11_markOfTwo n Γ l α Bh1.2.2.1 a1 a3 a4 rh3 qh3) lb_X11_markOfTwo ls_X11_markOfTwo lk_X8_62 rfl (by decide) rfl hl.1 rfl (Nat.le_of_ble_eq_true rfl) dX8_joined_22 ⟨Nat.le_refl _, Nat.le_refl _⟩) rfl (fun Hh3 Lh3 Bh3 => ?_)
    cases hf
    exact q_iret C Bh3 hr hlk ⟨rfl, rfl⟩ dX8_joined_25
  ·
    replace hf := ms_iF c2 hf
    refine lv_iload_n hx hb dX8_joined_8 rfl (lv_at hl 1 rfl) (hp_n (n := 9) rfl ?_)
    refine lv_iload hx hb dX8_joined_9 (lv_at hl 4 rfl) (hp_n (n := 11) rfl ?_)
    refine lv_iload_n hx hb dX8_joined_11 rfl (lv_at hl 3 rfl) (hp_n (n := 12) rfl ?_)
    obtain ⟨rh4, qh4, hf⟩ := ms_bE hf
    refine d_pi (pc' := 15) Bh1 (hp_runS (As := [.int a1, .int a4, .int a3]) (rest := []) C Bh1 (n_X11_markOfTwo n Γ l α Bh1.2.2.1 a1 a4 a3 rh4 qh4) lb_X11_markOfTwo ls_X11_markOfTwo lk_X8_62 rfl (by decide) rfl hl.1 rfl (Nat.le_of_ble_eq_true rfl) dX8_joined_12 ⟨Nat.le_refl _, Nat.le_refl _⟩) rfl (fun Hh4 Lh4 Bh4 => ?_)
    refine lv_goto (tgt := 25) hx hb dX8_joined_15 (by decide) ?_
    cases hf
    exact q_iret C Bh4 hr hlk ⟨rfl, rfl⟩ dX8_joined_25
def f_X8_whyGrowth_J170 (n : Nat) (a0 : Nat) (rec115 : hp_T → Int32 → Nat → Int32 → Int32 → Int32 → Int32 → Int32 → Option (Int32 × hp_T)) (αh19 : hp_T) (v1_h19 : Int32) (v2_h19 : Nat) (v4_h19 : Int32) (v6_h19 : Int32) (v8_h19 : Int32) (v9_h19 : Int32) (w0_h19 : Int32) : Option (Int32 × hp_T) :=
  ms_l (v9_h19 + 1) fun x20 =>
  rec115 αh19 v1_h19 v2_h19 v4_h19 v6_h19 w0_h19 v8_h19 x20
def f_X8_whyGrowth_L115 (n : Nat) (a0 : Nat) : Nat → hp_T → Int32 → Nat → Int32 → Int32 → Int32 → Int32 → Int32 → Option (Int32 × hp_T)
  | 0, _, _, _, _, _, _, _, _ => none
  | k115 + 1, αh11, v1_h11, v2_h11, v4_h11, v6_h11, v7_h11, v8_h11, v9_h11 =>
    ms_l (hp_I αh11 453 a0) fun x12 =>
    if x12 ≤ v9_h11 then
      if v7_h11 = v4_h11 then
        if v8_h11 = v6_h11 then
          some ((0 : Int32), αh11)
        else
          some ((4 : Int32), αh11)
      else
        some ((3 : Int32), αh11)
    else
      ms_b (f_X5_at n αh11 v2_h11 v9_h11) fun rh16 =>
      ms_b (f_X8_joined n αh11 a0 v1_h11 v9_h11 v8_h11 rh16) fun rh17 =>
      ms_b (f_X8_isAhead n αh11 a0 v9_h11) fun rh18 =>
      if rh18 = 0 then
        f_X8_whyGrowth_J170 n a0 (f_X8_whyGrowth_L115 n a0 k115) αh11 v1_h11 v2_h11 v4_h11 v6_h11 rh17 v9_h11 v7_h11
      else
        ms_b (f_X5_at n αh11 v2_h11 v9_h11) fun rh22 =>
        ms_b (f_X8_joined n αh11 a0 v1_h11 v9_h11 v7_h11 rh22) fun rh23 =>
        f_X8_whyGrowth_J170 n a0 (f_X8_whyGrowth_L115 n a0 k115) αh11 v1_h11 v2_h11 v4_h11 v6_h11 rh17 v9_h11 rh23
def f_X8_whyGrowth_J113 (n : Nat) (a0 : Nat) (αh10 : hp_T) (v1_h10 : Int32) (v2_h10 : Nat) (v4_h10 : Int32) (v6_h10 : Int32) (v7_h10 : Int32) (v8_h10 : Int32) (w0_h10 : Int32) : Option (Int32 × hp_T) :=
  f_X8_whyGrowth_L115 n a0 n αh10 v1_h10 v2_h10 v4_h10 v6_h10 v7_h10 v8_h10 w0_h10
def f_X8_whyGrowth_J95 (n : Nat) (a0 : Nat) (αh8 : hp_T) (v1_h8 : Int32) (v2_h8 : Nat) (v4_h8 : Int32) (v6_h8 : Int32) (w0_h8 : Int32) : Option (Int32 × hp_T) :=
  ms_l (hp_I αh8 454 a0) fun x9 =>
  if x9 = 0 then
    f_X8_whyGrowth_J113 n a0 αh8 v1_h8 v2_h8 v4_h8 v6_h8 w0_h8 w0_h8 (0 : Int32)
  else
    f_X8_whyGrowth_J113 n a0 αh8 v1_h8 v2_h8 v4_h8 v6_h8 w0_h8 w0_h8 (1 : Int32)
def f_X8_whyGrowth_J57 (n : Nat) (a0 : Nat) (αh29 : hp_T) : Option (Int32 × hp_T) :=
  some ((0 : Int32), αh29)
def f_X8_whyGrowth (n : Nat) (α : hp_T) (a0 : Nat) (a1 : Int32) (a2 : Nat) (a3 : Int32) (a4 : Int32) (a5 : Int32) (a6 : Int32) : Option (Int32 × hp_T) :=
  ms_b (f_X8_toGrowth n α a0 a3 a5) fun αh1 =>
  ms_l (hp_I αh1 301 a2) fun x2 =>
  ms_l (hp_I αh1 453 a0) fun x3 =>
  if x2 = x3 then
    if a3 = a5 then
      if a4 = a6 then
        if a3 = 0 then
          if a4 = 0 then
            f_X8_whyGrowth_J57 n a0 αh1
          else
            some ((3 : Int32), αh1)
        else
          f_X8_whyGrowth_J57 n a0 αh1
      else
        some ((3 : Int32), αh1)
    else
      if a3 = 0 then
        if a4 = 0 then
          some ((0 : Int32), αh1)
        else
          some ((3 : Int32), αh1)
      else
        ms_l (hp_I αh1 454 a0) fun x7 =>
        if x7 = 0 then
          f_X8_whyGrowth_J95 n a0 αh1 a1 a2 a4 a6 a4
        else
          ms_b (f_X5_at n αh1 a2 (0 : Int32)) fun rh26 =>
          f_X8_whyGrowth_J95 n a0 αh1 a1 a2 a4 a6 rh26
  else
    ms_l (hp_I αh1 301 a2) fun x32 =>
    ms_l (hp_I αh1 453 a0) fun x33 =>
    if x33 ≤ x32 then
      some ((2 : Int32), αh1)
    else
      some ((1 : Int32), αh1)
set_option maxRecDepth 100000 in
set_option maxHeartbeats 4000000 in
theorem n_X8_whyGrowth (n : Nat) (Γ : hp_G) (l : Launch) (α : hp_T) (g : GC α) (a0 : Nat) (k0 : hp_K α a0 = 9) (a1 : Int32) (a2 : Nat) (k2 : hp_K α a2 = 6) (a3 : Int32) (a4 : Int32) (a5 : Int32) (a6 : Int32) (res : (Int32 × hp_T)) (hf : f_X8_whyGrowth n α a0 a1 a2 a3 a4 a5 a6 = some res) : Met l yX8_whyGrowth (hp_ws yX8_whyGrowth cX8_whyGrowth 10 (some .int)) (hp_rm 4 0 0) (hp_Pc Γ α [.ref a0, .int a1, .ref a2, .int a3, .int a4, .int a5, .int a6]) (hp_Qi Γ (fun r β => r = res.1 ∧ β = res.2 ∧ cw w_X8_whyGrowth α β)) 0 0 (hp_A Γ) := by
  unfold f_X8_whyGrowth at hf
  refine hp_start (by decide) ?_
  intro p e s m below meth c C hr hlk B0 hnm
  have C : hp_C Γ p m c cX8_whyGrowth 10 s ([.ref a0, .int a1, .ref a2, .int a3, .int a4, .int a5, .int a6] : List Value).toArray RX8 := C
  have hx := C.1.1
  have hb := C.1.2.1
  have hown := C.1.2.2.2.1
  have hts := C.1.2.2.2.2
  have B : hp_B Γ (cw w_X8_whyGrowth) s α α s.heap [] := ⟨B0.1, B0.2.1, cw_rf g⟩
  have hl := lv_entry ([.ref a0, .int a1, .ref a2, .int a3, .int a4, .int a5, .int a6]) (n := 10) (Nat.le_of_ble_eq_true rfl)
  show W p l e (hp_rm 4 0 0) s m ([.ref a0, .int a1, .ref a2, .int a3, .int a4, .int a5, .int a6] : List Value).toArray below meth c s.heap [] 0 0 (MQ below (hp_Qi Γ (fun r β => r = res.1 ∧ β = res.2 ∧ cw w_X8_whyGrowth α β)) ([.ref a0, .int a1, .ref a2, .int a3, .int a4, .int a5, .int a6] : List Value).toArray s 0 0 (hp_A Γ)) (entryFrame m ([.ref a0, .int a1, .ref a2, .int a3, .int a4, .int a5, .int a6] : List Value).toArray 10)
  rw [lg_entry_eq]
  generalize (lg_sl ([.ref a0, .int a1, .ref a2, .int a3, .int a4, .int a5, .int a6]) ++ List.replicate (10 - (lg_sl ([.ref a0, .int a1, .ref a2, .int a3, .int a4, .int a5, .int a6])).length) Slot.unset).toArray = ls at hl ⊢
  have hl : lv_has ls 10 [(0, .ref a0), (1, .int a1), (2, .ref a2), (3, .int a3), (4, .int a4), (5, .int a5), (6, .int a6)] := hl
  refine lv_aload_n hx hb dX8_whyGrowth_0 rfl (lv_at hl 0 rfl) (hp_n (n := 1) rfl ?_)
  refine lv_iload_n hx hb dX8_whyGrowth_1 rfl (lv_at hl 3 rfl) (hp_n (n := 2) rfl ?_)
  refine lv_iload hx hb dX8_whyGrowth_2 (lv_at hl 5 rfl) (hp_n (n := 4) rfl ?_)
  obtain ⟨αh1, qh1, hf⟩ := ms_bE hf
  refine d_cv (pc' := 7) B (hp_runV (As := [.int a3, .int a5]) (rest := []) C B (n_X8_toGrowth n Γ l α B.2.2.1 a0 (cw_k B.2.2 k0) a3 a5 αh1 qh1) lb_X8_toGrowth lv_X8_toGrowth lk_X8_79 (cw_k B.2.2 k0) rfl (by decide) rfl hl.1 rfl (Nat.le_of_ble_eq_true rfl) dX8_whyGrowth_4 ⟨Nat.le_refl _, Nat.le_refl _⟩) (by decide) rfl (fun Hh1 Lh1 Bh1 => ?_)
  refine lv_aload_n hx hb dX8_whyGrowth_7 rfl (lv_at hl 2 rfl) (hp_n (n := 8) rfl ?_)
  refine q_geti (κ := 6) (k := 1) (φ := 301) (pc' := 11) C Bh1 (cw_k Bh1.2.2 k2) fl_X8_74 rfl rfl rfl dX8_whyGrowth_8 rfl (fun x2 ex2 => ?_)
  replace hf := ms_lE ex2 hf
  refine lv_aload_n hx hb dX8_whyGrowth_11 rfl (lv_at hl 0 rfl) (hp_n (n := 12) rfl ?_)
  refine q_geti (κ := 9) (k := 3) (φ := 453) (pc' := 15) C Bh1 (cw_k Bh1.2.2 k0) fl_X8_22 rfl rfl rfl dX8_whyGrowth_12 rfl (fun x3 ex3 => ?_)
  replace hf := ms_lE ex3 hf
  refine lv_icmp_eq (tgt := 35) hx hb dX8_whyGrowth_15 (by decide) (fun c4 => ?_) (fun c4 => hp_n (n := 18) rfl ?_)
  ·
    replace hf := ms_iT c4 hf
    refine lv_iload_n hx hb dX8_whyGrowth_35 rfl (lv_at hl 3 rfl) (hp_n (n := 36) rfl ?_)
    refine lv_iload hx hb dX8_whyGrowth_36 (lv_at hl 5 rfl) (hp_n (n := 38) rfl ?_)
    refine lv_icmp_ne (tgt := 63) hx hb dX8_whyGrowth_38 (by decide) (fun c5 => ?_) (fun c5 => hp_n (n := 41) rfl ?_)
    ·
      replace hf := ms_iF c5 hf
      refine lv_iload_n hx hb dX8_whyGrowth_63 rfl (lv_at hl 3 rfl) (hp_n (n := 64) rfl ?_)
      refine lv_if_ne (tgt := 78) hx hb dX8_whyGrowth_64 (by decide) (fun c6 => ?_) (fun c6 => hp_n (n := 67) rfl ?_)
      ·
        replace hf := ms_iF c6 hf
        refine lv_aload_n hx hb dX8_whyGrowth_78 rfl (lv_at hl 0 rfl) (hp_n (n := 79) rfl ?_)
        refine q_geti (κ := 9) (k := 4) (φ := 454) (pc' := 82) C Bh1 (cw_k Bh1.2.2 k0) fl_X8_26 rfl rfl rfl dX8_whyGrowth_79 rfl (fun x7 ex7 => ?_)
        replace hf := ms_lE ex7 hf
        have J95 : ∀ (αh8 : hp_T) (Hh8 : Heap) (Lh8 : List Loc) (Bh8 : hp_B Γ (cw w_X8_whyGrowth) s α αh8 Hh8 Lh8) (v1_h8 : Int32) (v2_h8 : Nat) (kv2_h8 : hp_K α v2_h8 = 6) (v4_h8 : Int32) (v6_h8 : Int32) (w0_h8 : Int32) (ls : Array Slot) (hl : lv_has ls 10 [(0, .ref a0), (1, .int v1_h8), (2, .ref v2_h8), (4, .int v4_h8), (6, .int v6_h8)]) (hf : f_X8_whyGrowth_J95 n a0 αh8 v1_h8 v2_h8 v4_h8 v6_h8 w0_h8 = some res), W p l e (hp_rm 4 0 0) s m ([.ref a0, .int a1, .ref a2, .int a3, .int a4, .int a5, .int a6] : List Value).toArray below meth c Hh8 Lh8 0 0 (MQ below (hp_Qi Γ (fun r β => r = res.1 ∧ β = res.2 ∧ cw w_X8_whyGrowth α β)) ([.ref a0, .int a1, .ref a2, .int a3, .int a4, .int a5, .int a6] : List Value).toArray s 0 0 (hp_A Γ)) (F0 m 95 ls [.int w0_h8]) := by
          intro αh8 Hh8 Lh8 Bh8 v1_h8 v2_h8 kv2_h8 v4_h8 v6_h8 w0_h8 ls hl hf
          unfold f_X8_whyGrowth_J95 at hf
          refine lv_istore (lv' := [(7, .int w0_h8), (0, .ref a0), (1, .int v1_h8), (2, .ref v2_h8), (4, .int v4_h8), (6, .int v6_h8)]) hx hb dX8_whyGrowth_95 hl (by decide) rfl (fun ls hl => hp_n (n := 97) rfl ?_)
          refine lv_iload hx hb dX8_whyGrowth_97 (lv_at hl 0 rfl) (hp_n (n := 99) rfl ?_)
          refine lv_istore (lv' := [(8, .int w0_h8), (7, .int w0_h8), (0, .ref a0), (1, .int v1_h8), (2, .ref v2_h8), (4, .int v4_h8), (6, .int v6_h8)]) hx hb dX8_whyGrowth_99 hl (by decide) rfl (fun ls hl => hp_n (n := 101) rfl ?_)
          refine lv_aload_n hx hb dX8_whyGrowth_101 rfl (lv_at hl 2 rfl) (hp_n (n := 102) rfl ?_)
          refine q_geti (κ := 9) (k := 4) (φ := 454) (pc' := 105) C Bh8 (cw_k Bh8.2.2 k0) fl_X8_26 rfl rfl rfl dX8_whyGrowth_102 rfl (fun x9 ex9 => ?_)
          replace hf := ms_lE ex9 hf
          have J113 : ∀ (αh10 : hp_T) (Hh10 : Heap) (Lh10 : List Loc) (Bh10 : hp_B Γ (cw w_X8_whyGrowth) s α αh10 Hh10 Lh10) (v1_h10 : Int32) (v2_h10 : Nat) (kv2_h10 : hp_K α v2_h10 = 6) (v4_h10 : Int32) (v6_h10 : Int32) (v7_h10 : Int32) (v8_h10 : Int32) (w0_h10 : Int32) (ls : Array Slot) (hl : lv_has ls 10 [(0, .ref a0), (1, .int v1_h10), (2, .ref v2_h10), (4, .int v4_h10), (6, .int v6_h10), (7, .int v7_h10), (8, .int v8_h10)]) (hf : f_X8_whyGrowth_J113 n a0 αh10 v1_h10 v2_h10 v4_h10 v6_h10 v7_h10 v8_h10 w0_h10 = some res), W p l e (hp_rm 4 0 0) s m ([.ref a0, .int a1, .ref a2, .int a3, .int a4, .int a5, .int a6] : List Value).toArray below meth c Hh10 Lh10 0 0 (MQ below (hp_Qi Γ (fun r β => r = res.1 ∧ β = res.2 ∧ cw w_X8_whyGrowth α β)) ([.ref a0, .int a1, .ref a2, .int a3, .int a4, .int a5, .int a6] : List Value).toArray s 0 0 (hp_A Γ)) (F0 m 113 ls [.int w0_h10]) := by
            intro αh10 Hh10 Lh10 Bh10 v1_h10 v2_h10 kv2_h10 v4_h10 v6_h10 v7_h10 v8_h10 w0_h10 ls hl hf
            unfold f_X8_whyGrowth_J113 at hf
            have J115 : ∀ (k115 : Nat) (αh11 : hp_T) (Hh11 : Heap) (Lh11 : List Loc) (Bh11 : hp_B Γ (cw w_X8_whyGrowth) s α αh11 Hh11 Lh11) (v1_h11 : Int32) (v2_h11 : Nat) (kv2_h11 : hp_K α v2_h11 = 6) (v4_h11 : Int32) (v6_h11 : Int32) (v7_h11 : Int32) (v8_h11 : Int32) (v9_h11 : Int32) (ls : Array Slot) (hl : lv_has ls 10 [(0, .ref a0), (1, .int v1_h11), (2, .ref v2_h11), (4, .int v4_h11), (6, .int v6_h11), (7, .int v7_h11), (8, .int v8_h11), (9, .int v9_h11)]) (hf : f_X8_whyGrowth_L115 n a0 k115 αh11 v1_h11 v2_h11 v4_h11 v6_h11 v7_h11 v8_h11 v9_h11 = some res), W p l e (hp_rm 4 0 0) s m ([.ref a0, .int a1, .ref a2, .int a3, .int a4, .int a5, .int a6] : List Value).toArray below meth c Hh11 Lh11 0 0 (MQ below (hp_Qi Γ (fun r β => r = res.1 ∧ β = res.2 ∧ cw w_X8_whyGrowth α β)) ([.ref a0, .int a1, .ref a2, .int a3, .int a4, .int a5, .int a6] : List Value).toArray s 0 0 (hp_A Γ)) (F0 m 115 ls []) := by
              intro k115
              induction k115 with
              | zero => intro αh11 Hh11 Lh11 Bh11 v1_h11 v2_h11 kv2_h11 v4_h11 v6_h11 v7_h11 v8_h11 v9_h11 ls hl hf; rw [f_X8_whyGrowth_L115.eq_1] at hf; cases hf
              | succ k115 ih115 =>
                intro αh11 Hh11 Lh11 Bh11 v1_h11 v2_h11 kv2_h11 v4_h11 v6_h11 v7_h11 v8_h11 v9_h11 ls hl hf
                rw [f_X8_whyGrowth_L115.eq_2] at hf
                refine lv_iload hx hb dX8_whyGrowth_115 (lv_at hl 7 rfl) (hp_n (n := 117) rfl ?_)
                refine lv_aload_n hx hb dX8_whyGrowth_117 rfl (lv_at hl 0 rfl) (hp_n (n := 118) rfl ?_)
                refine q_geti (κ := 9) (k := 3) (φ := 453) (pc' := 121) C Bh11 (cw_k Bh11.2.2 k0) fl_X8_22 rfl rfl rfl dX8_whyGrowth_118 rfl (fun x12 ex12 => ?_)
                replace hf := ms_lE ex12 hf
                refine lv_icmp_ge (tgt := 178) hx hb dX8_whyGrowth_121 (by decide) (fun c13 => ?_) (fun c13 => hp_n (n := 124) rfl ?_)
                ·
                  replace hf := ms_iT c13 hf
                  refine lv_iload hx hb dX8_whyGrowth_178 (lv_at hl 5 rfl) (hp_n (n := 180) rfl ?_)
                  refine lv_iload hx hb dX8_whyGrowth_180 (lv_at hl 3 rfl) (hp_n (n := 182) rfl ?_)
                  refine lv_icmp_eq (tgt := 187) hx hb dX8_whyGrowth_182 (by decide) (fun c14 => ?_) (fun c14 => hp_n (n := 185) rfl ?_)
                  ·
                    replace hf := ms_iT c14 hf
                    refine lv_iload hx hb dX8_whyGrowth_187 (lv_at hl 6 rfl) (hp_n (n := 189) rfl ?_)
                    refine lv_iload hx hb dX8_whyGrowth_189 (lv_at hl 4 rfl) (hp_n (n := 191) rfl ?_)
                    refine lv_icmp_ne (tgt := 198) hx hb dX8_whyGrowth_191 (by decide) (fun c15 => ?_) (fun c15 => hp_n (n := 194) rfl ?_)
                    ·
                      replace hf := ms_iF c15 hf
                      refine lv_iconst (v := 4) hx hb dX8_whyGrowth_198 (by decide) (hp_n (n := 199) rfl ?_)
                      cases hf
                      exact q_iret C Bh11 hr hlk ⟨rfl, rfl, Bh11.2.2⟩ dX8_whyGrowth_199
                    ·
                      replace hf := ms_iT c15 hf
                      refine lv_iconst (v := 0) hx hb dX8_whyGrowth_194 (by decide) (hp_n (n := 195) rfl ?_)
                      refine lv_goto (tgt := 199) hx hb dX8_whyGrowth_195 (by decide) ?_
                      cases hf
                      exact q_iret C Bh11 hr hlk ⟨rfl, rfl, Bh11.2.2⟩ dX8_whyGrowth_199
                  ·
                    replace hf := ms_iF c14 hf
                    refine lv_iconst (v := 3) hx hb dX8_whyGrowth_185 (by decide) (hp_n (n := 186) rfl ?_)
                    cases hf
                    exact q_iret C Bh11 hr hlk ⟨rfl, rfl, Bh11.2.2⟩ dX8_whyGrowth_186
                ·
                  replace hf := ms_iF c13 hf
                  refine lv_aload_n hx hb dX8_whyGrowth_124 rfl (lv_at hl 0 rfl) (hp_n (n := 125) rfl ?_)
                  refine lv_iload_n hx hb dX8_whyGrowth_125 rfl (lv_at hl 1 rfl) (hp_n (n := 126) rfl ?_)
                  refine lv_iload hx hb dX8_whyGrowth_126 (lv_at hl 7 rfl) (hp_n (n := 128) rfl ?_)
                  refine lv_iload hx hb dX8_whyGrowth_128 (lv_at hl 6 rfl) (hp_n (n := 130) rfl ?_)
                  refine lv_aload_n hx hb dX8_whyGrowth_130 rfl (lv_at hl 2 rfl) (hp_n (n := 131) rfl ?_)
                  refine lv_iload hx hb dX8_whyGrowth_131 (lv_at hl 7 rfl) (hp_n (n := 133) rfl ?_)
                  obtain ⟨rh16, qh16, hf⟩ := ms_bE hf
                  refine d_pi (pc' := 136) Bh11 (hp_runV (As := [.int v9_h11]) (rest := [.int v8_h11, .int v9_h11, .int v1_h11, .ref a0]) C Bh11 (n_X5_at n Γ l αh11 Bh11.2.2.1 v2_h11 (cw_k Bh11.2.2 kv2_h11) v9_h11 rh16 qh16) lb_X5_at lv_X5_at lk_X8_65 (cw_k Bh11.2.2 kv2_h11) rfl (by decide) rfl hl.1 rfl (Nat.le_of_ble_eq_true rfl) dX8_whyGrowth_133 ⟨Nat.le_refl _, Nat.le_refl _⟩) rfl (fun Hh16 Lh16 Bh16 => ?_)
                  obtain ⟨rh17, qh17, hf⟩ := ms_bE hf
                  refine d_pi (pc' := 139) Bh16 (hp_runV (As := [.int v1_h11, .int v9_h11, .int v8_h11, .int rh16]) (rest := []) C Bh16 (n_X8_joined n Γ l αh11 Bh16.2.2.1 a0 (cw_k Bh16.2.2 k0) v1_h11 v9_h11 v8_h11 rh16 rh17 qh17) lb_X8_joined lv_X8_joined lk_X8_70 (cw_k Bh16.2.2 k0) rfl (by decide) rfl hl.1 rfl (Nat.le_of_ble_eq_true rfl) dX8_whyGrowth_136 ⟨Nat.le_refl _, Nat.le_refl _⟩) rfl (fun Hh17 Lh17 Bh17 => ?_)
                  refine lv_istore (lv' := [(8, .int rh17), (0, .ref a0), (1, .int v1_h11), (2, .ref v2_h11), (4, .int v4_h11), (6, .int v6_h11), (7, .int v7_h11), (9, .int v9_h11)]) hx hb dX8_whyGrowth_139 hl (by decide) rfl (fun ls hl => hp_n (n := 141) rfl ?_)
                  refine lv_aload_n hx hb dX8_whyGrowth_141 rfl (lv_at hl 1 rfl) (hp_n (n := 142) rfl ?_)
                  refine lv_iload hx hb dX8_whyGrowth_142 (lv_at hl 7 rfl) (hp_n (n := 144) rfl ?_)
                  obtain ⟨rh18, qh18, hf⟩ := ms_bE hf
                  refine d_pi (pc' := 147) Bh17 (hp_runV (As := [.int v9_h11]) (rest := []) C Bh17 (n_X8_isAhead n Γ l αh11 Bh17.2.2.1 a0 (cw_k Bh17.2.2 k0) v9_h11 rh18 qh18) lb_X8_isAhead lv_X8_isAhead lk_X8_58 (cw_k Bh17.2.2 k0) rfl (by decide) rfl hl.1 rfl (Nat.le_of_ble_eq_true rfl) dX8_whyGrowth_144 ⟨Nat.le_refl _, Nat.le_refl _⟩) rfl (fun Hh18 Lh18 Bh18 => ?_)
                  have J170 : ∀ (αh19 : hp_T) (Hh19 : Heap) (Lh19 : List Loc) (Bh19 : hp_B Γ (cw w_X8_whyGrowth) s α αh19 Hh19 Lh19) (v1_h19 : Int32) (v2_h19 : Nat) (kv2_h19 : hp_K α v2_h19 = 6) (v4_h19 : Int32) (v6_h19 : Int32) (v8_h19 : Int32) (v9_h19 : Int32) (w0_h19 : Int32) (ls : Array Slot) (hl : lv_has ls 10 [(0, .ref a0), (1, .int v1_h19), (2, .ref v2_h19), (4, .int v4_h19), (6, .int v6_h19), (8, .int v8_h19), (9, .int v9_h19)]) (hf : f_X8_whyGrowth_J170 n a0 (f_X8_whyGrowth_L115 n a0 k115) αh19 v1_h19 v2_h19 v4_h19 v6_h19 v8_h19 v9_h19 w0_h19 = some res), W p l e (hp_rm 4 0 0) s m ([.ref a0, .int a1, .ref a2, .int a3, .int a4, .int a5, .int a6] : List Value).toArray below meth c Hh19 Lh19 0 0 (MQ below (hp_Qi Γ (fun r β => r = res.1 ∧ β = res.2 ∧ cw w_X8_whyGrowth α β)) ([.ref a0, .int a1, .ref a2, .int a3, .int a4, .int a5, .int a6] : List Value).toArray s 0 0 (hp_A Γ)) (F0 m 170 ls [.int w0_h19]) := by
                    intro αh19 Hh19 Lh19 Bh19 v1_h19 v2_h19 kv2_h19 v4_h19 v6_h19 v8_h19 v9_h19 w0_h19 ls hl hf
                    unfold f_X8_whyGrowth_J170 at hf
                    refine lv_istore (lv' := [(7, .int w0_h19), (0, .ref a0), (1, .int v1_h19), (2, .ref v2_h19), (4, .int v4_h19), (6, .int v6_h19), (8, .int v8_h19), (9, .int v9_h19)]) hx hb dX8_whyGrowth_170 hl (by decide) rfl (fun ls hl => hp_n (n := 172) rfl ?_)
                    obtain ⟨x20, ex20⟩ : ∃ y : Int32, y = v9_h19 + 1 := ⟨_, rfl⟩
                    replace hf := ms_lE ex20 hf
                    refine lv_iinc (v := x20) (lv' := [(9, .int x20), (7, .int w0_h19), (0, .ref a0), (1, .int v1_h19), (2, .ref v2_h19), (4, .int v4_h19), (6, .int v6_h19), (8, .int v8_h19)]) hx hb dX8_whyGrowth_172 hl (k := 7) rfl (by rw [ex20]; rfl) (by decide) rfl (fun ls hl => hp_n (n := 175) rfl ?_)
                    refine lv_goto (tgt := 115) hx hb dX8_whyGrowth_175 (by decide) ?_
                    exact ih115 αh19 Hh19 Lh19 Bh19 v1_h19 v2_h19 kv2_h19 v4_h19 v6_h19 w0_h19 v8_h19 x20 ls (lv_sub hl [2, 3, 4, 5, 6, 1, 7, 0] rfl) hf
                  refine lv_if_eq (tgt := 168) hx hb dX8_whyGrowth_147 (by decide) (fun c21 => ?_) (fun c21 => hp_n (n := 150) rfl ?_)
                  ·
                    replace hf := ms_iT c21 hf
                    refine lv_iload hx hb dX8_whyGrowth_168 (lv_at hl 6 rfl) (hp_n (n := 170) rfl ?_)
                    exact J170 αh11 Hh18 Lh18 Bh18 v1_h11 v2_h11 kv2_h11 v4_h11 v6_h11 rh17 v9_h11 v7_h11 ls (lv_sub hl [1, 2, 3, 4, 5, 0, 7] rfl) hf
                  ·
                    replace hf := ms_iF c21 hf
                    refine lv_aload_n hx hb dX8_whyGrowth_150 rfl (lv_at hl 1 rfl) (hp_n (n := 151) rfl ?_)
                    refine lv_iload_n hx hb dX8_whyGrowth_151 rfl (lv_at hl 2 rfl) (hp_n (n := 152) rfl ?_)
                    refine lv_iload hx hb dX8_whyGrowth_152 (lv_at hl 7 rfl) (hp_n (n := 154) rfl ?_)
                    refine lv_iload hx hb dX8_whyGrowth_154 (lv_at hl 6 rfl) (hp_n (n := 156) rfl ?_)
                    refine lv_aload_n hx hb dX8_whyGrowth_156 rfl (lv_at hl 3 rfl) (hp_n (n := 157) rfl ?_)
                    refine lv_iload hx hb dX8_whyGrowth_157 (lv_at hl 7 rfl) (hp_n (n := 159) rfl ?_)
                    obtain ⟨rh22, qh22, hf⟩ := ms_bE hf
                    refine d_pi (pc' := 162) Bh18 (hp_runV (As := [.int v9_h11]) (rest := [.int v7_h11, .int v9_h11, .int v1_h11, .ref a0]) C Bh18 (n_X5_at n Γ l αh11 Bh18.2.2.1 v2_h11 (cw_k Bh18.2.2 kv2_h11) v9_h11 rh22 qh22) lb_X5_at lv_X5_at lk_X8_65 (cw_k Bh18.2.2 kv2_h11) rfl (by decide) rfl hl.1 rfl (Nat.le_of_ble_eq_true rfl) dX8_whyGrowth_159 ⟨Nat.le_refl _, Nat.le_refl _⟩) rfl (fun Hh22 Lh22 Bh22 => ?_)
                    obtain ⟨rh23, qh23, hf⟩ := ms_bE hf
                    refine d_pi (pc' := 165) Bh22 (hp_runV (As := [.int v1_h11, .int v9_h11, .int v7_h11, .int rh22]) (rest := []) C Bh22 (n_X8_joined n Γ l αh11 Bh22.2.2.1 a0 (cw_k Bh22.2.2 k0) v1_h11 v9_h11 v7_h11 rh22 rh23 qh23) lb_X8_joined lv_X8_joined lk_X8_70 (cw_k Bh22.2.2 k0) rfl (by decide) rfl hl.1 rfl (Nat.le_of_ble_eq_true rfl) dX8_whyGrowth_162 ⟨Nat.le_refl _, Nat.le_refl _⟩) rfl (fun Hh23 Lh23 Bh23 => ?_)
                    refine lv_goto (tgt := 170) hx hb dX8_whyGrowth_165 (by decide) ?_
                    exact J170 αh11 Hh23 Lh23 Bh23 v1_h11 v2_h11 kv2_h11 v4_h11 v6_h11 rh17 v9_h11 rh23 ls (lv_sub hl [1, 2, 3, 4, 5, 0, 7] rfl) hf
            refine lv_istore (lv' := [(9, .int w0_h10), (0, .ref a0), (1, .int v1_h10), (2, .ref v2_h10), (4, .int v4_h10), (6, .int v6_h10), (7, .int v7_h10), (8, .int v8_h10)]) hx hb dX8_whyGrowth_113 hl (by decide) rfl (fun ls hl => hp_n (n := 115) rfl ?_)
            exact J115 n αh10 Hh10 Lh10 Bh10 v1_h10 v2_h10 kv2_h10 v4_h10 v6_h10 v7_h10 v8_h10 w0_h10 ls (lv_sub hl [1, 2, 3, 4, 5, 6, 7, 0] rfl) hf
          refine lv_if_eq (tgt := 112) hx hb dX8_whyGrowth_105 (by decide) (fun c24 => ?_) (fun c24 => hp_n (n := 108) rfl ?_)
          ·
            replace hf := ms_iT c24 hf
            refine lv_iconst (v := 0) hx hb dX8_whyGrowth_112 (by decide) (hp_n (n := 113) rfl ?_)
            exact J113 αh8 Hh8 Lh8 Bh8 v1_h8 v2_h8 kv2_h8 v4_h8 v6_h8 w0_h8 w0_h8 (0 : Int32) ls (lv_sub hl [2, 3, 4, 5, 6, 1, 0] rfl) hf
          ·
            replace hf := ms_iF c24 hf
            refine lv_iconst (v := 1) hx hb dX8_whyGrowth_108 (by decide) (hp_n (n := 109) rfl ?_)
            refine lv_goto (tgt := 113) hx hb dX8_whyGrowth_109 (by decide) ?_
            exact J113 αh8 Hh8 Lh8 Bh8 v1_h8 v2_h8 kv2_h8 v4_h8 v6_h8 w0_h8 w0_h8 (1 : Int32) ls (lv_sub hl [2, 3, 4, 5, 6, 1, 0] rfl) hf
        refine lv_if_eq (tgt := 93) hx hb dX8_whyGrowth_82 (by decide) (fun c25 => ?_) (fun c25 => hp_n (n := 85) rfl ?_)
        ·
          replace hf := ms_iT c25 hf
          refine lv_iload hx hb dX8_whyGrowth_93 (lv_at hl 4 rfl) (hp_n (n := 95) rfl ?_)
          exact J95 αh1 Hh1 Lh1 Bh1 a1 a2 k2 a4 a6 a4 ls (lv_sub hl [0, 1, 2, 4, 6] rfl) hf
        ·
          replace hf := ms_iF c25 hf
          refine lv_aload_n hx hb dX8_whyGrowth_85 rfl (lv_at hl 2 rfl) (hp_n (n := 86) rfl ?_)
          refine lv_iconst (v := 0) hx hb dX8_whyGrowth_86 (by decide) (hp_n (n := 87) rfl ?_)
          obtain ⟨rh26, qh26, hf⟩ := ms_bE hf
          refine d_pi (pc' := 90) Bh1 (hp_runV (As := [.int (0 : Int32)]) (rest := []) C Bh1 (n_X5_at n Γ l αh1 Bh1.2.2.1 a2 (cw_k Bh1.2.2 k2) (0 : Int32) rh26 qh26) lb_X5_at lv_X5_at lk_X8_65 (cw_k Bh1.2.2 k2) rfl (by decide) rfl hl.1 rfl (Nat.le_of_ble_eq_true rfl) dX8_whyGrowth_87 ⟨Nat.le_refl _, Nat.le_refl _⟩) rfl (fun Hh26 Lh26 Bh26 => ?_)
          refine lv_goto (tgt := 95) hx hb dX8_whyGrowth_90 (by decide) ?_
          exact J95 αh1 Hh26 Lh26 Bh26 a1 a2 k2 a4 a6 rh26 ls (lv_sub hl [0, 1, 2, 4, 6] rfl) hf
      ·
        replace hf := ms_iT c6 hf
        refine lv_iload hx hb dX8_whyGrowth_67 (lv_at hl 4 rfl) (hp_n (n := 69) rfl ?_)
        refine lv_if_ne (tgt := 76) hx hb dX8_whyGrowth_69 (by decide) (fun c27 => ?_) (fun c27 => hp_n (n := 72) rfl ?_)
        ·
          replace hf := ms_iF c27 hf
          refine lv_iconst (v := 3) hx hb dX8_whyGrowth_76 (by decide) (hp_n (n := 77) rfl ?_)
          cases hf
          exact q_iret C Bh1 hr hlk ⟨rfl, rfl, Bh1.2.2⟩ dX8_whyGrowth_77
        ·
          replace hf := ms_iT c27 hf
          refine lv_iconst (v := 0) hx hb dX8_whyGrowth_72 (by decide) (hp_n (n := 73) rfl ?_)
          refine lv_goto (tgt := 77) hx hb dX8_whyGrowth_73 (by decide) ?_
          cases hf
          exact q_iret C Bh1 hr hlk ⟨rfl, rfl, Bh1.2.2⟩ dX8_whyGrowth_77
    ·
      replace hf := ms_iT c5 hf
      refine lv_iload hx hb dX8_whyGrowth_41 (lv_at hl 4 rfl) (hp_n (n := 43) rfl ?_)
      refine lv_iload hx hb dX8_whyGrowth_43 (lv_at hl 6 rfl) (hp_n (n := 45) rfl ?_)
      refine lv_icmp_ne (tgt := 61) hx hb dX8_whyGrowth_45 (by decide) (fun c28 => ?_) (fun c28 => hp_n (n := 48) rfl ?_)
      ·
        replace hf := ms_iF c28 hf
        refine lv_iconst (v := 3) hx hb dX8_whyGrowth_61 (by decide) (hp_n (n := 62) rfl ?_)
        cases hf
        exact q_iret C Bh1 hr hlk ⟨rfl, rfl, Bh1.2.2⟩ dX8_whyGrowth_62
      ·
        replace hf := ms_iT c28 hf
        refine lv_iload_n hx hb dX8_whyGrowth_48 rfl (lv_at hl 3 rfl) (hp_n (n := 49) rfl ?_)
        have J57 : ∀ (αh29 : hp_T) (Hh29 : Heap) (Lh29 : List Loc) (Bh29 : hp_B Γ (cw w_X8_whyGrowth) s α αh29 Hh29 Lh29) (ls : Array Slot) (hl : lv_has ls 10 []) (hf : f_X8_whyGrowth_J57 n a0 αh29 = some res), W p l e (hp_rm 4 0 0) s m ([.ref a0, .int a1, .ref a2, .int a3, .int a4, .int a5, .int a6] : List Value).toArray below meth c Hh29 Lh29 0 0 (MQ below (hp_Qi Γ (fun r β => r = res.1 ∧ β = res.2 ∧ cw w_X8_whyGrowth α β)) ([.ref a0, .int a1, .ref a2, .int a3, .int a4, .int a5, .int a6] : List Value).toArray s 0 0 (hp_A Γ)) (F0 m 57 ls []) := by
          intro αh29 Hh29 Lh29 Bh29 ls hl hf
          unfold f_X8_whyGrowth_J57 at hf
          refine lv_iconst (v := 0) hx hb dX8_whyGrowth_57 (by decide) (hp_n (n := 58) rfl ?_)
          refine lv_goto (tgt := 62) hx hb dX8_whyGrowth_58 (by decide) ?_
          cases hf
          exact q_iret C Bh29 hr hlk ⟨rfl, rfl, Bh29.2.2⟩ dX8_whyGrowth_62
        refine lv_if_ne (tgt := 57) hx hb dX8_whyGrowth_49 (by decide) (fun c30 => ?_) (fun c30 => hp_n (n := 52) rfl ?_)
        ·
          replace hf := ms_iF c30 hf
          exact J57 αh1 Hh1 Lh1 Bh1 ls (lv_sub hl [] rfl) hf
        ·
          replace hf := ms_iT c30 hf
          refine lv_iload hx hb dX8_whyGrowth_52 (lv_at hl 4 rfl) (hp_n (n := 54) rfl ?_)
          refine lv_if_ne (tgt := 61) hx hb dX8_whyGrowth_54 (by decide) (fun c31 => ?_) (fun c31 => hp_n (n := 57) rfl ?_)
          ·
            replace hf := ms_iF c31 hf
            refine lv_iconst (v := 3) hx hb dX8_whyGrowth_61 (by decide) (hp_n (n := 62) rfl ?_)
            cases hf
            exact q_iret C Bh1 hr hlk ⟨rfl, rfl, Bh1.2.2⟩ dX8_whyGrowth_62
          ·
            replace hf := ms_iT c31 hf
            exact J57 αh1 Hh1 Lh1 Bh1 ls (lv_sub hl [] rfl) hf
  ·
    replace hf := ms_iF c4 hf
    refine lv_aload_n hx hb dX8_whyGrowth_18 rfl (lv_at hl 2 rfl) (hp_n (n := 19) rfl ?_)
    refine q_geti (κ := 6) (k := 1) (φ := 301) (pc' := 22) C Bh1 (cw_k Bh1.2.2 k2) fl_X8_74 rfl rfl rfl dX8_whyGrowth_19 rfl (fun x32 ex32 => ?_)
    replace hf := ms_lE ex32 hf
    refine lv_aload_n hx hb dX8_whyGrowth_22 rfl (lv_at hl 0 rfl) (hp_n (n := 23) rfl ?_)
    refine q_geti (κ := 9) (k := 3) (φ := 453) (pc' := 26) C Bh1 (cw_k Bh1.2.2 k0) fl_X8_22 rfl rfl rfl dX8_whyGrowth_23 rfl (fun x33 ex33 => ?_)
    replace hf := ms_lE ex33 hf
    refine lv_icmp_ge (tgt := 33) hx hb dX8_whyGrowth_26 (by decide) (fun c34 => ?_) (fun c34 => hp_n (n := 29) rfl ?_)
    ·
      replace hf := ms_iT c34 hf
      refine lv_iconst (v := 2) hx hb dX8_whyGrowth_33 (by decide) (hp_n (n := 34) rfl ?_)
      cases hf
      exact q_iret C Bh1 hr hlk ⟨rfl, rfl, Bh1.2.2⟩ dX8_whyGrowth_34
    ·
      replace hf := ms_iF c34 hf
      refine lv_iconst (v := 1) hx hb dX8_whyGrowth_29 (by decide) (hp_n (n := 30) rfl ?_)
      refine lv_goto (tgt := 34) hx hb dX8_whyGrowth_30 (by decide) ?_
      cases hf
      exact q_iret C Bh1 hr hlk ⟨rfl, rfl, Bh1.2.2⟩ dX8_whyGrowth_34
def f_X10_marksAlongn_L8 (n : Nat) (a0 : Nat) : Nat → hp_T → Nat → Nat → Int32 → Option hp_T
  | 0, _, _, _, _ => none
  | k8 + 1, αh2, v1_h2, v3_h2, v4_h2 =>
    ms_l (hp_I αh2 453 v1_h2) fun x3 =>
    if x3 ≤ v4_h2 then
      some αh2
    else
      ms_b (f_X8_firstAt n αh2 v1_h2 v4_h2) fun rh5 =>
      ms_b (f_X8_manyAt n αh2 v1_h2 v4_h2) fun rh6 =>
      hq_c (f_X10_treeMark n αh2 a0 none rh5 rh6) fun rh7 αh7 =>
      ms_b (f_X5_put n αh7 v3_h2 rh7) fun αh8 =>
      ms_l (v4_h2 + 1) fun x9 =>
      (f_X10_marksAlongn_L8 n a0 k8) αh8 v1_h2 v3_h2 x9
def f_X10_marksAlongs_L8 (n : Nat) (a0 : Nat) : Nat → hp_T → Nat → Nat → Nat → Int32 → Option hp_T
  | 0, _, _, _, _, _ => none
  | k8 + 1, αh11, v1_h11, v2_h11, v3_h11, v4_h11 =>
    ms_l (hp_I αh11 453 v1_h11) fun x12 =>
    if x12 ≤ v4_h11 then
      some αh11
    else
      ms_b (f_X8_firstAt n αh11 v1_h11 v4_h11) fun rh14 =>
      ms_b (f_X8_manyAt n αh11 v1_h11 v4_h11) fun rh15 =>
      hq_c (f_X10_treeMark n αh11 a0 (some v2_h11) rh14 rh15) fun rh16 αh16 =>
      ms_b (f_X5_put n αh16 v3_h11 rh16) fun αh17 =>
      ms_l (v4_h11 + 1) fun x18 =>
      (f_X10_marksAlongs_L8 n a0 k8) αh17 v1_h11 v2_h11 v3_h11 x18
def f_X10_marksAlong (n : Nat) (α : hp_T) (a0 : Nat) (a1 : Nat) (o2 : Option Nat) (a3 : Nat) : Option hp_T :=
  hq_m o2 (
    ms_b (f_X5_shorten n α a3 (0 : Int32)) fun αh1 =>
    f_X10_marksAlongn_L8 n a0 n αh1 a1 a3 (0 : Int32)) fun a2 =>
  ms_b (f_X5_shorten n α a3 (0 : Int32)) fun αh10 =>
  f_X10_marksAlongs_L8 n a0 n αh10 a1 a2 a3 (0 : Int32)
set_option maxRecDepth 100000 in
set_option maxHeartbeats 4000000 in
theorem n_X10_marksAlong (n : Nat) (Γ : hp_G) (l : Launch) (α : hp_T) (g : GC α) (a0 : Nat) (k0 : hp_K α a0 = 11) (a1 : Nat) (k1 : hp_K α a1 = 9) (o2 : Option Nat) (k2 : ∀ b, o2 = some b → hp_K α b = 3) (a3 : Nat) (k3 : hp_K α a3 = 6) (res : hp_T) (hf : f_X10_marksAlong n α a0 a1 o2 a3 = some res) : Met l yX10_marksAlong (hp_ws yX10_marksAlong cX10_marksAlong 5 none) (hp_rm 2 0 0) (hp_Pc Γ α [.ref a0, .ref a1, va_rf o2, .ref a3]) (hp_Qv Γ (fun β => β = res ∧ cw w_X10_marksAlong α β)) 0 0 (hp_A Γ) := by
  unfold f_X10_marksAlong at hf
  refine hp_start (by decide) ?_
  intro p e s m below meth c C hr hlk B0 hnm
  have C : hp_C Γ p m c cX10_marksAlong 5 s ([.ref a0, .ref a1, va_rf o2, .ref a3] : List Value).toArray RX10 := C
  have hx := C.1.1
  have hb := C.1.2.1
  have hown := C.1.2.2.2.1
  have hts := C.1.2.2.2.2
  have B : hp_B Γ (cw w_X10_marksAlong) s α α s.heap [] := ⟨B0.1, B0.2.1, cw_rf g⟩
  rcases o2 with _ | a2
  ·
    replace hf := hq_N hf
    have hl := lv_entry ([.ref a0, .ref a1, .null, .ref a3]) (n := 5) (Nat.le_of_ble_eq_true rfl)
    show W p l e (hp_rm 2 0 0) s m ([.ref a0, .ref a1, .null, .ref a3] : List Value).toArray below meth c s.heap [] 0 0 (MQ below (hp_Qv Γ (fun β => β = res ∧ cw w_X10_marksAlong α β)) ([.ref a0, .ref a1, .null, .ref a3] : List Value).toArray s 0 0 (hp_A Γ)) (entryFrame m ([.ref a0, .ref a1, .null, .ref a3] : List Value).toArray 5)
    rw [lg_entry_eq]
    generalize (lg_sl ([.ref a0, .ref a1, .null, .ref a3]) ++ List.replicate (5 - (lg_sl ([.ref a0, .ref a1, .null, .ref a3])).length) Slot.unset).toArray = ls at hl ⊢
    have hl : lv_has ls 5 [(0, .ref a0), (1, .ref a1), (2, .null), (3, .ref a3)] := hl
    refine lv_aload_n hx hb dX10_marksAlong_0 rfl (lv_at hl 3 rfl) (hp_n (n := 1) rfl ?_)
    refine lv_iconst (v := 0) hx hb dX10_marksAlong_1 (by decide) (hp_n (n := 2) rfl ?_)
    obtain ⟨αh1, qh1, hf⟩ := ms_bE hf
    refine d_cv (pc' := 5) B (hp_runV (As := [.int (0 : Int32)]) (rest := []) C B (n_X5_shorten n Γ l α B.2.2.1 a3 (cw_k B.2.2 k3) (0 : Int32) αh1 qh1) lb_X5_shorten lv_X5_shorten lk_X10_96 (cw_k B.2.2 k3) rfl (by decide) rfl hl.1 rfl (Nat.le_of_ble_eq_true rfl) dX10_marksAlong_2 ⟨Nat.le_refl _, Nat.le_refl _⟩) (by decide) rfl (fun Hh1 Lh1 Bh1 => ?_)
    refine lv_iconst (v := 0) hx hb dX10_marksAlong_5 (by decide) (hp_n (n := 6) rfl ?_)
    have J8 : ∀ (k8 : Nat) (αh2 : hp_T) (Hh2 : Heap) (Lh2 : List Loc) (Bh2 : hp_B Γ (cw w_X10_marksAlong) s α αh2 Hh2 Lh2) (v1_h2 : Nat) (kv1_h2 : hp_K α v1_h2 = 9) (v3_h2 : Nat) (kv3_h2 : hp_K α v3_h2 = 6) (v4_h2 : Int32) (ls : Array Slot) (hl : lv_has ls 5 [(0, .ref a0), (1, .ref v1_h2), (2, .null), (3, .ref v3_h2), (4, .int v4_h2)]) (hf : f_X10_marksAlongn_L8 n a0 k8 αh2 v1_h2 v3_h2 v4_h2 = some res), W p l e (hp_rm 2 0 0) s m ([.ref a0, .ref a1, .null, .ref a3] : List Value).toArray below meth c Hh2 Lh2 0 0 (MQ below (hp_Qv Γ (fun β => β = res ∧ cw w_X10_marksAlong α β)) ([.ref a0, .ref a1, .null, .ref a3] : List Value).toArray s 0 0 (hp_A Γ)) (F0 m 8 ls []) := by
      intro k8
      induction k8 with
      | zero => intro αh2 Hh2 Lh2 Bh2 v1_h2 kv1_h2 v3_h2 kv3_h2 v4_h2 ls hl hf; rw [f_X10_marksAlongn_L8.eq_1] at hf; cases hf
      | succ k8 ih8 =>
        intro αh2 Hh2 Lh2 Bh2 v1_h2 kv1_h2 v3_h2 kv3_h2 v4_h2 ls hl hf
        rw [f_X10_marksAlongn_L8.eq_2] at hf
        refine lv_iload hx hb dX10_marksAlong_8 (lv_at hl 4 rfl) (hp_n (n := 10) rfl ?_)
        refine lv_aload_n hx hb dX10_marksAlong_10 rfl (lv_at hl 1 rfl) (hp_n (n := 11) rfl ?_)
        refine q_geti (κ := 9) (k := 3) (φ := 453) (pc' := 14) C Bh2 (cw_k Bh2.2.2 kv1_h2) fl_X10_111 rfl rfl rfl dX10_marksAlong_11 rfl (fun x3 ex3 => ?_)
        replace hf := ms_lE ex3 hf
        refine lv_icmp_ge (tgt := 44) hx hb dX10_marksAlong_14 (by decide) (fun c4 => ?_) (fun c4 => hp_n (n := 17) rfl ?_)
        ·
          replace hf := ms_iT c4 hf
          cases hf
          exact q_vret C Bh2 hr hlk ⟨rfl, Bh2.2.2⟩ dX10_marksAlong_44
        ·
          replace hf := ms_iF c4 hf
          refine lv_aload_n hx hb dX10_marksAlong_17 rfl (lv_at hl 3 rfl) (hp_n (n := 18) rfl ?_)
          refine lv_aload_n hx hb dX10_marksAlong_18 rfl (lv_at hl 0 rfl) (hp_n (n := 19) rfl ?_)
          refine lv_aload_nN hx hb dX10_marksAlong_19 rfl (lv_at hl 2 rfl) (hp_n (n := 20) rfl ?_)
          refine lv_aload_n hx hb dX10_marksAlong_20 rfl (lv_at hl 1 rfl) (hp_n (n := 21) rfl ?_)
          refine lv_iload hx hb dX10_marksAlong_21 (lv_at hl 4 rfl) (hp_n (n := 23) rfl ?_)
          obtain ⟨rh5, qh5, hf⟩ := ms_bE hf
          refine d_pi (pc' := 26) Bh2 (hp_runV (As := [.int v4_h2]) (rest := [.null, .ref a0, .ref v3_h2]) C Bh2 (n_X8_firstAt n Γ l αh2 Bh2.2.2.1 v1_h2 (cw_k Bh2.2.2 kv1_h2) v4_h2 rh5 qh5) lb_X8_firstAt lv_X8_firstAt lk_X10_114 (cw_k Bh2.2.2 kv1_h2) rfl (by decide) rfl hl.1 rfl (Nat.le_of_ble_eq_true rfl) dX10_marksAlong_23 ⟨Nat.le_refl _, Nat.le_refl _⟩) rfl (fun Hh5 Lh5 Bh5 => ?_)
          refine lv_aload_n hx hb dX10_marksAlong_26 rfl (lv_at hl 1 rfl) (hp_n (n := 27) rfl ?_)
          refine lv_iload hx hb dX10_marksAlong_27 (lv_at hl 4 rfl) (hp_n (n := 29) rfl ?_)
          obtain ⟨rh6, qh6, hf⟩ := ms_bE hf
          refine d_pi (pc' := 32) Bh5 (hp_runV (As := [.int v4_h2]) (rest := [.int rh5, .null, .ref a0, .ref v3_h2]) C Bh5 (n_X8_manyAt n Γ l αh2 Bh5.2.2.1 v1_h2 (cw_k Bh5.2.2 kv1_h2) v4_h2 rh6 qh6) lb_X8_manyAt lv_X8_manyAt lk_X10_117 (cw_k Bh5.2.2 kv1_h2) rfl (by decide) rfl hl.1 rfl (Nat.le_of_ble_eq_true rfl) dX10_marksAlong_29 ⟨Nat.le_refl _, Nat.le_refl _⟩) rfl (fun Hh6 Lh6 Bh6 => ?_)
          obtain ⟨rh7, αh7, qh7, hf⟩ := hq_cE hf
          refine d_ci (pc' := 35) Bh6 (hp_runV (As := [va_rf none, .int rh5, .int rh6]) (rest := [.ref v3_h2]) C Bh6 (n_X10_treeMark n Γ l αh2 Bh6.2.2.1 a0 (cw_k Bh6.2.2 k0) none (fun b h => by cases h) rh5 rh6 (rh7, αh7) qh7) lb_X10_treeMark lv_X10_treeMark lk_X10_100 (cw_k Bh6.2.2 k0) rfl (by decide) rfl hl.1 rfl (Nat.le_of_ble_eq_true rfl) dX10_marksAlong_32 ⟨Nat.le_refl _, Nat.le_refl _⟩) (by decide) rfl (fun Hh7 Lh7 Bh7 => ?_)
          obtain ⟨αh8, qh8, hf⟩ := ms_bE hf
          refine d_cv (pc' := 38) Bh7 (hp_runV (As := [.int rh7]) (rest := []) C Bh7 (n_X5_put n Γ l αh7 Bh7.2.2.1 v3_h2 (cw_k Bh7.2.2 kv3_h2) rh7 αh8 qh8) lb_X5_put lv_X5_put lk_X10_104 (cw_k Bh7.2.2 kv3_h2) rfl (by decide) rfl hl.1 rfl (Nat.le_of_ble_eq_true rfl) dX10_marksAlong_35 ⟨Nat.le_refl _, Nat.le_refl _⟩) (by decide) rfl (fun Hh8 Lh8 Bh8 => ?_)
          obtain ⟨x9, ex9⟩ : ∃ y : Int32, y = v4_h2 + 1 := ⟨_, rfl⟩
          replace hf := ms_lE ex9 hf
          refine lv_iinc (v := x9) (lv' := [(4, .int x9), (0, .ref a0), (1, .ref v1_h2), (2, .null), (3, .ref v3_h2)]) hx hb dX10_marksAlong_38 hl (k := 4) rfl (by rw [ex9]; rfl) (by decide) rfl (fun ls hl => hp_n (n := 41) rfl ?_)
          refine lv_goto (tgt := 8) hx hb dX10_marksAlong_41 (by decide) ?_
          exact ih8 αh8 Hh8 Lh8 Bh8 v1_h2 kv1_h2 v3_h2 kv3_h2 x9 ls (lv_sub hl [1, 2, 3, 4, 0] rfl) hf
    refine lv_istore (lv' := [(4, .int (0 : Int32)), (0, .ref a0), (1, .ref a1), (2, .null), (3, .ref a3)]) hx hb dX10_marksAlong_6 hl (by decide) rfl (fun ls hl => hp_n (n := 8) rfl ?_)
    exact J8 n αh1 Hh1 Lh1 Bh1 a1 k1 a3 k3 (0 : Int32) ls (lv_sub hl [1, 2, 3, 4, 0] rfl) hf
  ·
    replace hf := hq_S hf
    have ka2 := k2 a2 rfl
    have hl := lv_entry ([.ref a0, .ref a1, .ref a2, .ref a3]) (n := 5) (Nat.le_of_ble_eq_true rfl)
    show W p l e (hp_rm 2 0 0) s m ([.ref a0, .ref a1, .ref a2, .ref a3] : List Value).toArray below meth c s.heap [] 0 0 (MQ below (hp_Qv Γ (fun β => β = res ∧ cw w_X10_marksAlong α β)) ([.ref a0, .ref a1, .ref a2, .ref a3] : List Value).toArray s 0 0 (hp_A Γ)) (entryFrame m ([.ref a0, .ref a1, .ref a2, .ref a3] : List Value).toArray 5)
    rw [lg_entry_eq]
    generalize (lg_sl ([.ref a0, .ref a1, .ref a2, .ref a3]) ++ List.replicate (5 - (lg_sl ([.ref a0, .ref a1, .ref a2, .ref a3])).length) Slot.unset).toArray = ls at hl ⊢
    have hl : lv_has ls 5 [(0, .ref a0), (1, .ref a1), (2, .ref a2), (3, .ref a3)] := hl
    refine lv_aload_n hx hb dX10_marksAlong_0 rfl (lv_at hl 3 rfl) (hp_n (n := 1) rfl ?_)
    refine lv_iconst (v := 0) hx hb dX10_marksAlong_1 (by decide) (hp_n (n := 2) rfl ?_)
    obtain ⟨αh10, qh10, hf⟩ := ms_bE hf
    refine d_cv (pc' := 5) B (hp_runV (As := [.int (0 : Int32)]) (rest := []) C B (n_X5_shorten n Γ l α B.2.2.1 a3 (cw_k B.2.2 k3) (0 : Int32) αh10 qh10) lb_X5_shorten lv_X5_shorten lk_X10_96 (cw_k B.2.2 k3) rfl (by decide) rfl hl.1 rfl (Nat.le_of_ble_eq_true rfl) dX10_marksAlong_2 ⟨Nat.le_refl _, Nat.le_refl _⟩) (by decide) rfl (fun Hh10 Lh10 Bh10 => ?_)
    refine lv_iconst (v := 0) hx hb dX10_marksAlong_5 (by decide) (hp_n (n := 6) rfl ?_)
    have J8 : ∀ (k8 : Nat) (αh11 : hp_T) (Hh11 : Heap) (Lh11 : List Loc) (Bh11 : hp_B Γ (cw w_X10_marksAlong) s α αh11 Hh11 Lh11) (v1_h11 : Nat) (kv1_h11 : hp_K α v1_h11 = 9) (v2_h11 : Nat) (kv2_h11 : hp_K α v2_h11 = 3) (v3_h11 : Nat) (kv3_h11 : hp_K α v3_h11 = 6) (v4_h11 : Int32) (ls : Array Slot) (hl : lv_has ls 5 [(0, .ref a0), (1, .ref v1_h11), (2, .ref v2_h11), (3, .ref v3_h11), (4, .int v4_h11)]) (hf : f_X10_marksAlongs_L8 n a0 k8 αh11 v1_h11 v2_h11 v3_h11 v4_h11 = some res), W p l e (hp_rm 2 0 0) s m ([.ref a0, .ref a1, .ref a2, .ref a3] : List Value).toArray below meth c Hh11 Lh11 0 0 (MQ below (hp_Qv Γ (fun β => β = res ∧ cw w_X10_marksAlong α β)) ([.ref a0, .ref a1, .ref a2, .ref a3] : List Value).toArray s 0 0 (hp_A Γ)) (F0 m 8 ls []) := by
      intro k8
      induction k8 with
      | zero => intro αh11 Hh11 Lh11 Bh11 v1_h11 kv1_h11 v2_h11 kv2_h11 v3_h11 kv3_h11 v4_h11 ls hl hf; rw [f_X10_marksAlongs_L8.eq_1] at hf; cases hf
      | succ k8 ih8 =>
        intro αh11 Hh11 Lh11 Bh11 v1_h11 kv1_h11 v2_h11 kv2_h11 v3_h11 kv3_h11 v4_h11 ls hl hf
        rw [f_X10_marksAlongs_L8.eq_2] at hf
        refine lv_iload hx hb dX10_marksAlong_8 (lv_at hl 4 rfl) (hp_n (n := 10) rfl ?_)
        refine lv_aload_n hx hb dX10_marksAlong_10 rfl (lv_at hl 1 rfl) (hp_n (n := 11) rfl ?_)
        refine q_geti (κ := 9) (k := 3) (φ := 453) (pc' := 14) C Bh11 (cw_k Bh11.2.2 kv1_h11) fl_X10_111 rfl rfl rfl dX10_marksAlong_11 rfl (fun x12 ex12 => ?_)
        replace hf := ms_lE ex12 hf
        refine lv_icmp_ge (tgt := 44) hx hb dX10_marksAlong_14 (by decide) (fun c13 => ?_) (fun c13 => hp_n (n := 17) rfl ?_)
        ·
          replace hf := ms_iT c13 hf
          cases hf
          exact q_vret C Bh11 hr hlk ⟨rfl, Bh11.2.2⟩ dX10_marksAlong_44
        ·
          replace hf := ms_iF c13 hf
          refine lv_aload_n hx hb dX10_marksAlong_17 rfl (lv_at hl 3 rfl) (hp_n (n := 18) rfl ?_)
          refine lv_aload_n hx hb dX10_marksAlong_18 rfl (lv_at hl 0 rfl) (hp_n (n := 19) rfl ?_)
          refine lv_aload_n hx hb dX10_marksAlong_19 rfl (lv_at hl 2 rfl) (hp_n (n := 20) rfl ?_)
          refine lv_aload_n hx hb dX10_marksAlong_20 rfl (lv_at hl 1 rfl) (hp_n (n := 21) rfl ?_)
          refine lv_iload hx hb dX10_marksAlong_21 (lv_at hl 4 rfl) (hp_n (n := 23) rfl ?_)
          obtain ⟨rh14, qh14, hf⟩ := ms_bE hf
          refine d_pi (pc' := 26) Bh11 (hp_runV (As := [.int v4_h11]) (rest := [.ref v2_h11, .ref a0, .ref v3_h11]) C Bh11 (n_X8_firstAt n Γ l αh11 Bh11.2.2.1 v1_h11 (cw_k Bh11.2.2 kv1_h11) v4_h11 rh14 qh14) lb_X8_firstAt lv_X8_firstAt lk_X10_114 (cw_k Bh11.2.2 kv1_h11) rfl (by decide) rfl hl.1 rfl (Nat.le_of_ble_eq_true rfl) dX10_marksAlong_23 ⟨Nat.le_refl _, Nat.le_refl _⟩) rfl (fun Hh14 Lh14 Bh14 => ?_)
          refine lv_aload_n hx hb dX10_marksAlong_26 rfl (lv_at hl 1 rfl) (hp_n (n := 27) rfl ?_)
          refine lv_iload hx hb dX10_marksAlong_27 (lv_at hl 4 rfl) (hp_n (n := 29) rfl ?_)
          obtain ⟨rh15, qh15, hf⟩ := ms_bE hf
          refine d_pi (pc' := 32) Bh14 (hp_runV (As := [.int v4_h11]) (rest := [.int rh14, .ref v2_h11, .ref a0, .ref v3_h11]) C Bh14 (n_X8_manyAt n Γ l αh11 Bh14.2.2.1 v1_h11 (cw_k Bh14.2.2 kv1_h11) v4_h11 rh15 qh15) lb_X8_manyAt lv_X8_manyAt lk_X10_117 (cw_k Bh14.2.2 kv1_h11) rfl (by decide) rfl hl.1 rfl (Nat.le_of_ble_eq_true rfl) dX10_marksAlong_29 ⟨Nat.le_refl _, Nat.le_refl _⟩) rfl (fun Hh15 Lh15 Bh15 => ?_)
          obtain ⟨rh16, αh16, qh16, hf⟩ := hq_cE hf
          refine d_ci (pc' := 35) Bh15 (hp_runV (As := [va_rf (some v2_h11), .int rh14, .int rh15]) (rest := [.ref v3_h11]) C Bh15 (n_X10_treeMark n Γ l αh11 Bh15.2.2.1 a0 (cw_k Bh15.2.2 k0) (some v2_h11) (fun b h => by cases h; exact (cw_k Bh15.2.2 kv2_h11)) rh14 rh15 (rh16, αh16) qh16) lb_X10_treeMark lv_X10_treeMark lk_X10_100 (cw_k Bh15.2.2 k0) rfl (by decide) rfl hl.1 rfl (Nat.le_of_ble_eq_true rfl) dX10_marksAlong_32 ⟨Nat.le_refl _, Nat.le_refl _⟩) (by decide) rfl (fun Hh16 Lh16 Bh16 => ?_)
          obtain ⟨αh17, qh17, hf⟩ := ms_bE hf
          refine d_cv (pc' := 38) Bh16 (hp_runV (As := [.int rh16]) (rest := []) C Bh16 (n_X5_put n Γ l αh16 Bh16.2.2.1 v3_h11 (cw_k Bh16.2.2 kv3_h11) rh16 αh17 qh17) lb_X5_put lv_X5_put lk_X10_104 (cw_k Bh16.2.2 kv3_h11) rfl (by decide) rfl hl.1 rfl (Nat.le_of_ble_eq_true rfl) dX10_marksAlong_35 ⟨Nat.le_refl _, Nat.le_refl _⟩) (by decide) rfl (fun Hh17 Lh17 Bh17 => ?_)
          obtain ⟨x18, ex18⟩ : ∃ y : Int32, y = v4_h11 + 1 := ⟨_, rfl⟩
          replace hf := ms_lE ex18 hf
          refine lv_iinc (v := x18) (lv' := [(4, .int x18), (0, .ref a0), (1, .ref v1_h11), (2, .ref v2_h11), (3, .ref v3_h11)]) hx hb dX10_marksAlong_38 hl (k := 4) rfl (by rw [ex18]; rfl) (by decide) rfl (fun ls hl => hp_n (n := 41) rfl ?_)
          refine lv_goto (tgt := 8) hx hb dX10_marksAlong_41 (by decide) ?_
          exact ih8 αh17 Hh17 Lh17 Bh17 v1_h11 kv1_h11 v2_h11 kv2_h11 v3_h11 kv3_h11 x18 ls (lv_sub hl [1, 2, 3, 4, 0] rfl) hf
    refine lv_istore (lv' := [(4, .int (0 : Int32)), (0, .ref a0), (1, .ref a1), (2, .ref a2), (3, .ref a3)]) hx hb dX10_marksAlong_6 hl (by decide) rfl (fun ls hl => hp_n (n := 8) rfl ?_)
    exact J8 n αh10 Hh10 Lh10 Bh10 a1 k1 a2 ka2 a3 k3 (0 : Int32) ls (lv_sub hl [1, 2, 3, 4, 0] rfl) hf
def f_X10_whyGrown (n : Nat) (α : hp_T) (a0 : Nat) (o1 : Option Nat) (a2 : Int32) (a3 : Int32) (a4 : Int32) (a5 : Int32) : Option (Int32 × hp_T) :=
  hq_m o1 (
    some ((5 : Int32), α)) fun a1 =>
  ms_l (hp_I α 152 a1) fun x1 =>
  if a4 ≤ x1 then
    ms_l (hp_R α 559 a0) fun b3 =>
    ms_b (f_X8_toGrowth n α b3 a2 a4) fun αh4 =>
    ms_l (hp_R αh4 559 a0) fun b5 =>
    ms_l (hp_R αh4 558 a0) fun b6 =>
    ms_b (f_X10_marksAlong n αh4 a0 b5 (some a1) b6) fun αh7 =>
    ms_l (hp_R αh7 559 a0) fun b8 =>
    ms_l (hp_I αh7 550 a0) fun x9 =>
    ms_l (hp_R αh7 558 a0) fun b10 =>
    hq_c (f_X8_whyGrowth n αh7 b8 x9 b10 a2 a3 a4 a5) fun rh11 αh11 =>
    some (rh11, αh11)
  else
    some ((5 : Int32), α)
set_option maxRecDepth 100000 in
set_option maxHeartbeats 4000000 in
theorem n_X10_whyGrown (n : Nat) (Γ : hp_G) (l : Launch) (α : hp_T) (g : GC α) (a0 : Nat) (k0 : hp_K α a0 = 11) (o1 : Option Nat) (k1 : ∀ b, o1 = some b → hp_K α b = 3) (a2 : Int32) (a3 : Int32) (a4 : Int32) (a5 : Int32) (res : (Int32 × hp_T)) (hf : f_X10_whyGrown n α a0 o1 a2 a3 a4 a5 = some res) : Met l yX10_whyGrown (hp_ws yX10_whyGrown cX10_whyGrown 6 (some .int)) (hp_rm 5 0 0) (hp_Pc Γ α [.ref a0, va_rf o1, .int a2, .int a3, .int a4, .int a5]) (hp_Qi Γ (fun r β => r = res.1 ∧ β = res.2 ∧ cw w_X10_whyGrown α β)) 0 0 (hp_A Γ) := by
  unfold f_X10_whyGrown at hf
  refine hp_start (by decide) ?_
  intro p e s m below meth c C hr hlk B0 hnm
  have C : hp_C Γ p m c cX10_whyGrown 6 s ([.ref a0, va_rf o1, .int a2, .int a3, .int a4, .int a5] : List Value).toArray RX10 := C
  have hx := C.1.1
  have hb := C.1.2.1
  have hown := C.1.2.2.2.1
  have hts := C.1.2.2.2.2
  have B : hp_B Γ (cw w_X10_whyGrown) s α α s.heap [] := ⟨B0.1, B0.2.1, cw_rf g⟩
  rcases o1 with _ | a1
  ·
    replace hf := hq_N hf
    have hl := lv_entry ([.ref a0, .null, .int a2, .int a3, .int a4, .int a5]) (n := 6) (Nat.le_of_ble_eq_true rfl)
    show W p l e (hp_rm 5 0 0) s m ([.ref a0, .null, .int a2, .int a3, .int a4, .int a5] : List Value).toArray below meth c s.heap [] 0 0 (MQ below (hp_Qi Γ (fun r β => r = res.1 ∧ β = res.2 ∧ cw w_X10_whyGrown α β)) ([.ref a0, .null, .int a2, .int a3, .int a4, .int a5] : List Value).toArray s 0 0 (hp_A Γ)) (entryFrame m ([.ref a0, .null, .int a2, .int a3, .int a4, .int a5] : List Value).toArray 6)
    rw [lg_entry_eq]
    generalize (lg_sl ([.ref a0, .null, .int a2, .int a3, .int a4, .int a5]) ++ List.replicate (6 - (lg_sl ([.ref a0, .null, .int a2, .int a3, .int a4, .int a5])).length) Slot.unset).toArray = ls at hl ⊢
    have hl : lv_has ls 6 [(0, .ref a0), (1, .null), (2, .int a2), (3, .int a3), (4, .int a4), (5, .int a5)] := hl
    refine lv_aload_nN hx hb dX10_whyGrown_0 rfl (lv_at hl 1 rfl) (hp_n (n := 1) rfl ?_)
    refine lv_ifnullN (tgt := 13) hx hb dX10_whyGrown_1 (by decide) ?_
    refine lv_iconst (v := 5) hx hb dX10_whyGrown_13 (by decide) (hp_n (n := 14) rfl ?_)
    cases hf
    exact q_iret C B hr hlk ⟨rfl, rfl, B.2.2⟩ dX10_whyGrown_14
  ·
    replace hf := hq_S hf
    have ka1 := k1 a1 rfl
    have hl := lv_entry ([.ref a0, .ref a1, .int a2, .int a3, .int a4, .int a5]) (n := 6) (Nat.le_of_ble_eq_true rfl)
    show W p l e (hp_rm 5 0 0) s m ([.ref a0, .ref a1, .int a2, .int a3, .int a4, .int a5] : List Value).toArray below meth c s.heap [] 0 0 (MQ below (hp_Qi Γ (fun r β => r = res.1 ∧ β = res.2 ∧ cw w_X10_whyGrown α β)) ([.ref a0, .ref a1, .int a2, .int a3, .int a4, .int a5] : List Value).toArray s 0 0 (hp_A Γ)) (entryFrame m ([.ref a0, .ref a1, .int a2, .int a3, .int a4, .int a5] : List Value).toArray 6)
    rw [lg_entry_eq]
    generalize (lg_sl ([.ref a0, .ref a1, .int a2, .int a3, .int a4, .int a5]) ++ List.replicate (6 - (lg_sl ([.ref a0, .ref a1, .int a2, .int a3, .int a4, .int a5])).length) Slot.unset).toArray = ls at hl ⊢
    have hl : lv_has ls 6 [(0, .ref a0), (1, .ref a1), (2, .int a2), (3, .int a3), (4, .int a4), (5, .int a5)] := hl
    refine lv_aload_n hx hb dX10_whyGrown_0 rfl (lv_at hl 1 rfl) (hp_n (n := 1) rfl ?_)
    refine lv_ifnull hx hb dX10_whyGrown_1 (hp_n (n := 4) rfl ?_)
    refine lv_iload hx hb dX10_whyGrown_4 (lv_at hl 4 rfl) (hp_n (n := 6) rfl ?_)
    refine lv_aload_n hx hb dX10_whyGrown_6 rfl (lv_at hl 1 rfl) (hp_n (n := 7) rfl ?_)
    refine q_geti (κ := 3) (k := 2) (φ := 152) (pc' := 10) C B (cw_k B.2.2 ka1) fl_X10_68 rfl rfl rfl dX10_whyGrown_7 rfl (fun x1 ex1 => ?_)
    replace hf := ms_lE ex1 hf
    refine lv_icmp_le (tgt := 15) hx hb dX10_whyGrown_10 (by decide) (fun c2 => ?_) (fun c2 => hp_n (n := 13) rfl ?_)
    ·
      replace hf := ms_iT c2 hf
      refine lv_aload_n hx hb dX10_whyGrown_15 rfl (lv_at hl 0 rfl) (hp_n (n := 16) rfl ?_)
      refine q_getr (κ := 11) (k := 9) (φ := 559) (pc' := 19) C B (cw_k B.2.2 k0) fl_X10_57 rfl rfl rfl (cw_r B.2.2 k0 rfl rfl (by decide) (by decide)) dX10_whyGrown_16 rfl (fun b3 eb3 kb3 => ?_)
      replace hf := ms_lE eb3 hf
      refine lv_iload_n hx hb dX10_whyGrown_19 rfl (lv_at hl 2 rfl) (hp_n (n := 20) rfl ?_)
      refine lv_iload hx hb dX10_whyGrown_20 (lv_at hl 4 rfl) (hp_n (n := 22) rfl ?_)
      obtain ⟨αh4, qh4, hf⟩ := ms_bE hf
      refine d_cv (pc' := 25) B (hp_runV (As := [.int a2, .int a4]) (rest := []) C B (n_X8_toGrowth n Γ l α B.2.2.1 b3 (cw_k B.2.2 kb3) a2 a4 αh4 qh4) lb_X8_toGrowth lv_X8_toGrowth lk_X10_151 (cw_k B.2.2 kb3) rfl (by decide) rfl hl.1 rfl (Nat.le_of_ble_eq_true rfl) dX10_whyGrown_22 ⟨Nat.le_refl _, Nat.le_refl _⟩) (by decide) rfl (fun Hh4 Lh4 Bh4 => ?_)
      refine lv_aload_n hx hb dX10_whyGrown_25 rfl (lv_at hl 0 rfl) (hp_n (n := 26) rfl ?_)
      refine lv_aload_n hx hb dX10_whyGrown_26 rfl (lv_at hl 0 rfl) (hp_n (n := 27) rfl ?_)
      refine q_getr (κ := 11) (k := 9) (φ := 559) (pc' := 30) C Bh4 (cw_k Bh4.2.2 k0) fl_X10_57 rfl rfl rfl (cw_r Bh4.2.2 k0 rfl rfl (by decide) (by decide)) dX10_whyGrown_27 rfl (fun b5 eb5 kb5 => ?_)
      replace hf := ms_lE eb5 hf
      refine lv_aload_n hx hb dX10_whyGrown_30 rfl (lv_at hl 1 rfl) (hp_n (n := 31) rfl ?_)
      refine lv_aload_n hx hb dX10_whyGrown_31 rfl (lv_at hl 0 rfl) (hp_n (n := 32) rfl ?_)
      refine q_getr (κ := 11) (k := 8) (φ := 558) (pc' := 35) C Bh4 (cw_k Bh4.2.2 k0) fl_X10_50 rfl rfl rfl (cw_r Bh4.2.2 k0 rfl rfl (by decide) (by decide)) dX10_whyGrown_32 rfl (fun b6 eb6 kb6 => ?_)
      replace hf := ms_lE eb6 hf
      obtain ⟨αh7, qh7, hf⟩ := ms_bE hf
      refine d_cv (pc' := 38) Bh4 (hp_runV (As := [.ref b5, va_rf (some a1), .ref b6]) (rest := []) C Bh4 (n_X10_marksAlong n Γ l αh4 Bh4.2.2.1 a0 (cw_k Bh4.2.2 k0) b5 (cw_k Bh4.2.2 kb5) (some a1) (fun b h => by cases h; exact (cw_k Bh4.2.2 ka1)) b6 (cw_k Bh4.2.2 kb6) αh7 qh7) lb_X10_marksAlong lv_X10_marksAlong lk_X10_155 (cw_k Bh4.2.2 k0) rfl (by decide) rfl hl.1 rfl (Nat.le_of_ble_eq_true rfl) dX10_whyGrown_35 ⟨Nat.le_refl _, Nat.le_refl _⟩) (by decide) rfl (fun Hh7 Lh7 Bh7 => ?_)
      refine lv_aload_n hx hb dX10_whyGrown_38 rfl (lv_at hl 0 rfl) (hp_n (n := 39) rfl ?_)
      refine q_getr (κ := 11) (k := 9) (φ := 559) (pc' := 42) C Bh7 (cw_k Bh7.2.2 k0) fl_X10_57 rfl rfl rfl (cw_r Bh7.2.2 k0 rfl rfl (by decide) (by decide)) dX10_whyGrown_39 rfl (fun b8 eb8 kb8 => ?_)
      replace hf := ms_lE eb8 hf
      refine lv_aload_n hx hb dX10_whyGrown_42 rfl (lv_at hl 0 rfl) (hp_n (n := 43) rfl ?_)
      refine q_geti (κ := 11) (k := 0) (φ := 550) (pc' := 46) C Bh7 (cw_k Bh7.2.2 k0) fl_X10_10 rfl rfl rfl dX10_whyGrown_43 rfl (fun x9 ex9 => ?_)
      replace hf := ms_lE ex9 hf
      refine lv_aload_n hx hb dX10_whyGrown_46 rfl (lv_at hl 0 rfl) (hp_n (n := 47) rfl ?_)
      refine q_getr (κ := 11) (k := 8) (φ := 558) (pc' := 50) C Bh7 (cw_k Bh7.2.2 k0) fl_X10_50 rfl rfl rfl (cw_r Bh7.2.2 k0 rfl rfl (by decide) (by decide)) dX10_whyGrown_47 rfl (fun b10 eb10 kb10 => ?_)
      replace hf := ms_lE eb10 hf
      refine lv_iload_n hx hb dX10_whyGrown_50 rfl (lv_at hl 2 rfl) (hp_n (n := 51) rfl ?_)
      refine lv_iload_n hx hb dX10_whyGrown_51 rfl (lv_at hl 3 rfl) (hp_n (n := 52) rfl ?_)
      refine lv_iload hx hb dX10_whyGrown_52 (lv_at hl 4 rfl) (hp_n (n := 54) rfl ?_)
      refine lv_iload hx hb dX10_whyGrown_54 (lv_at hl 5 rfl) (hp_n (n := 56) rfl ?_)
      obtain ⟨rh11, αh11, qh11, hf⟩ := hq_cE hf
      refine d_ci (pc' := 59) Bh7 (hp_runV (As := [.int x9, .ref b10, .int a2, .int a3, .int a4, .int a5]) (rest := []) C Bh7 (n_X8_whyGrowth n Γ l αh7 Bh7.2.2.1 b8 (cw_k Bh7.2.2 kb8) x9 b10 (cw_k Bh7.2.2 kb10) a2 a3 a4 a5 (rh11, αh11) qh11) lb_X8_whyGrowth lv_X8_whyGrowth lk_X10_159 (cw_k Bh7.2.2 kb8) rfl (by decide) rfl hl.1 rfl (Nat.le_of_ble_eq_true rfl) dX10_whyGrown_56 ⟨Nat.le_refl _, Nat.le_refl _⟩) (by decide) rfl (fun Hh11 Lh11 Bh11 => ?_)
      cases hf
      exact q_iret C Bh11 hr hlk ⟨rfl, rfl, Bh11.2.2⟩ dX10_whyGrown_59
    ·
      replace hf := ms_iF c2 hf
      refine lv_iconst (v := 5) hx hb dX10_whyGrown_13 (by decide) (hp_n (n := 14) rfl ?_)
      cases hf
      exact q_iret C B hr hlk ⟨rfl, rfl, B.2.2⟩ dX10_whyGrown_14
def f_X10_showTos_J88 (n : Nat) (a0 : Nat) (αh5 : hp_T) (v1_h5 : Nat) (v6_h5 : Int32) : Option (Int32 × hp_T) :=
  ms_b (f_X7_hearWhy n αh5 v1_h5 v6_h5) fun αh6 =>
  ms_l (hp_I αh6 402 v1_h5) fun x7 =>
  ms_l (hp_sI αh6 402 v1_h5 (x7 + (1 : Int32))) fun αh8 =>
  ms_l (hp_I αh8 556 a0) fun x9 =>
  ms_l (hp_sI αh8 556 a0 (x9 + (1 : Int32))) fun αh10 =>
  some (v6_h5, αh10)
def f_X10_showTos_J69 (n : Nat) (a0 : Nat) (αh4 : hp_T) (v1_h4 : Nat) (v3_h4 : Int32) (v4_h4 : Int32) (v5_h4 : Int32) (w0_h4 : Int32) : Option (Int32 × hp_T) :=
  if w0_h4 = 0 then
    if v5_h4 = 0 then
      f_X10_showTos_J88 n a0 αh4 v1_h4 w0_h4
    else
      ms_b (f_X7_trust n αh4 v1_h4 v3_h4 v4_h4) fun αh13 =>
      f_X10_showTos_J88 n a0 αh13 v1_h4 w0_h4
  else
    f_X10_showTos_J88 n a0 αh4 v1_h4 w0_h4
def f_X10_showTos_J27 (n : Nat) (a0 : Nat) (αh3 : hp_T) (v1_h3 : Nat) (v2_h3 : Nat) (v3_h3 : Int32) (v4_h3 : Int32) (w0_h3 : Int32) : Option (Int32 × hp_T) :=
  if w0_h3 = 0 then
    ms_l (hp_I αh3 400 v1_h3) fun x15 =>
    ms_l (hp_I αh3 401 v1_h3) fun x16 =>
    hq_c (f_X10_whyGrown n αh3 a0 (some v2_h3) v3_h3 v4_h3 x15 x16) fun rh17 αh17 =>
    f_X10_showTos_J69 n a0 αh17 v1_h3 v3_h3 v4_h3 w0_h3 rh17
  else
    ms_l (hp_I αh3 400 v1_h3) fun x18 =>
    ms_l (hp_I αh3 401 v1_h3) fun x19 =>
    hq_c (f_X10_whyGrown n αh3 a0 (some v2_h3) x18 x19 v3_h3 v4_h3) fun rh20 αh20 =>
    f_X10_showTos_J69 n a0 αh20 v1_h3 v3_h3 v4_h3 w0_h3 rh20
def f_X10_showTo (n : Nat) (α : hp_T) (a0 : Nat) (o1 : Option Nat) (a2 : Nat) (a3 : Int32) : Option (Int32 × hp_T) :=
  hq_m o1 (
    some ((-1 : Int32), α)) fun a1 =>
  hq_c (f_X10_headOf n α a0 (some a2) a3) fun rh1 αh1 =>
  ms_l (hp_I αh1 400 a1) fun x2 =>
  if a3 < x2 then
    f_X10_showTos_J27 n a0 αh1 a1 a2 a3 rh1 (0 : Int32)
  else
    f_X10_showTos_J27 n a0 αh1 a1 a2 a3 rh1 (1 : Int32)
set_option maxRecDepth 100000 in
set_option maxHeartbeats 4000000 in
theorem n_X10_showTo (n : Nat) (Γ : hp_G) (l : Launch) (α : hp_T) (g : GC α) (a0 : Nat) (k0 : hp_K α a0 = 11) (o1 : Option Nat) (k1 : ∀ b, o1 = some b → hp_K α b = 8) (a2 : Nat) (k2 : hp_K α a2 = 3) (a3 : Int32) (res : (Int32 × hp_T)) (hf : f_X10_showTo n α a0 o1 a2 a3 = some res) : Met l yX10_showTo (hp_ws yX10_showTo cX10_showTo 7 (some .int)) (hp_rm 6 0 0) (hp_Pc Γ α [.ref a0, va_rf o1, .ref a2, .int a3]) (hp_Qi Γ (fun r β => r = res.1 ∧ β = res.2 ∧ cw w_X10_showTo α β)) 0 0 (hp_A Γ) := by
  unfold f_X10_showTo at hf
  refine hp_start (by decide) ?_
  intro p e s m below meth c C hr hlk B0 hnm
  have C : hp_C Γ p m c cX10_showTo 7 s ([.ref a0, va_rf o1, .ref a2, .int a3] : List Value).toArray RX10 := C
  have hx := C.1.1
  have hb := C.1.2.1
  have hown := C.1.2.2.2.1
  have hts := C.1.2.2.2.2
  have B : hp_B Γ (cw w_X10_showTo) s α α s.heap [] := ⟨B0.1, B0.2.1, cw_rf g⟩
  rcases o1 with _ | a1
  ·
    replace hf := hq_N hf
    have hl := lv_entry ([.ref a0, .null, .ref a2, .int a3]) (n := 7) (Nat.le_of_ble_eq_true rfl)
    show W p l e (hp_rm 6 0 0) s m ([.ref a0, .null, .ref a2, .int a3] : List Value).toArray below meth c s.heap [] 0 0 (MQ below (hp_Qi Γ (fun r β => r = res.1 ∧ β = res.2 ∧ cw w_X10_showTo α β)) ([.ref a0, .null, .ref a2, .int a3] : List Value).toArray s 0 0 (hp_A Γ)) (entryFrame m ([.ref a0, .null, .ref a2, .int a3] : List Value).toArray 7)
    rw [lg_entry_eq]
    generalize (lg_sl ([.ref a0, .null, .ref a2, .int a3]) ++ List.replicate (7 - (lg_sl ([.ref a0, .null, .ref a2, .int a3])).length) Slot.unset).toArray = ls at hl ⊢
    have hl : lv_has ls 7 [(0, .ref a0), (1, .null), (2, .ref a2), (3, .int a3)] := hl
    refine lv_aload_nN hx hb dX10_showTo_0 rfl (lv_at hl 1 rfl) (hp_n (n := 1) rfl ?_)
    refine lv_ifnonnullN hx hb dX10_showTo_1 (hp_n (n := 4) rfl ?_)
    refine lv_iconst (v := (-1)) hx hb dX10_showTo_4 (by decide) (hp_n (n := 5) rfl ?_)
    cases hf
    exact q_iret C B hr hlk ⟨rfl, rfl, B.2.2⟩ dX10_showTo_5
  ·
    replace hf := hq_S hf
    have ka1 := k1 a1 rfl
    have hl := lv_entry ([.ref a0, .ref a1, .ref a2, .int a3]) (n := 7) (Nat.le_of_ble_eq_true rfl)
    show W p l e (hp_rm 6 0 0) s m ([.ref a0, .ref a1, .ref a2, .int a3] : List Value).toArray below meth c s.heap [] 0 0 (MQ below (hp_Qi Γ (fun r β => r = res.1 ∧ β = res.2 ∧ cw w_X10_showTo α β)) ([.ref a0, .ref a1, .ref a2, .int a3] : List Value).toArray s 0 0 (hp_A Γ)) (entryFrame m ([.ref a0, .ref a1, .ref a2, .int a3] : List Value).toArray 7)
    rw [lg_entry_eq]
    generalize (lg_sl ([.ref a0, .ref a1, .ref a2, .int a3]) ++ List.replicate (7 - (lg_sl ([.ref a0, .ref a1, .ref a2, .int a3])).length) Slot.unset).toArray = ls at hl ⊢
    have hl : lv_has ls 7 [(0, .ref a0), (1, .ref a1), (2, .ref a2), (3, .int a3)] := hl
    refine lv_aload_n hx hb dX10_showTo_0 rfl (lv_at hl 1 rfl) (hp_n (n := 1) rfl ?_)
    refine lv_ifnonnull (tgt := 6) hx hb dX10_showTo_1 (by decide) ?_
    refine lv_aload_n hx hb dX10_showTo_6 rfl (lv_at hl 0 rfl) (hp_n (n := 7) rfl ?_)
    refine lv_aload_n hx hb dX10_showTo_7 rfl (lv_at hl 2 rfl) (hp_n (n := 8) rfl ?_)
    refine lv_iload_n hx hb dX10_showTo_8 rfl (lv_at hl 3 rfl) (hp_n (n := 9) rfl ?_)
    obtain ⟨rh1, αh1, qh1, hf⟩ := hq_cE hf
    refine d_ci (pc' := 12) B (hp_runV (As := [va_rf (some a2), .int a3]) (rest := []) C B (n_X10_headOf n Γ l α B.2.2.1 a0 (cw_k B.2.2 k0) (some a2) (fun b h => by cases h; exact (cw_k B.2.2 k2)) a3 (rh1, αh1) qh1) lb_X10_headOf lv_X10_headOf lk_X10_107 (cw_k B.2.2 k0) rfl (by decide) rfl hl.1 rfl (Nat.le_of_ble_eq_true rfl) dX10_showTo_9 ⟨Nat.le_refl _, Nat.le_refl _⟩) (by decide) rfl (fun Hh1 Lh1 Bh1 => ?_)
    refine lv_istore (lv' := [(4, .int rh1), (0, .ref a0), (1, .ref a1), (2, .ref a2), (3, .int a3)]) hx hb dX10_showTo_12 hl (by decide) rfl (fun ls hl => hp_n (n := 14) rfl ?_)
    refine lv_iload_n hx hb dX10_showTo_14 rfl (lv_at hl 4 rfl) (hp_n (n := 15) rfl ?_)
    refine lv_aload_n hx hb dX10_showTo_15 rfl (lv_at hl 2 rfl) (hp_n (n := 16) rfl ?_)
    refine q_geti (κ := 8) (k := 0) (φ := 400) (pc' := 19) C Bh1 (cw_k Bh1.2.2 ka1) fl_X10_163 rfl rfl rfl dX10_showTo_16 rfl (fun x2 ex2 => ?_)
    replace hf := ms_lE ex2 hf
    have J27 : ∀ (αh3 : hp_T) (Hh3 : Heap) (Lh3 : List Loc) (Bh3 : hp_B Γ (cw w_X10_showTo) s α αh3 Hh3 Lh3) (v1_h3 : Nat) (kv1_h3 : hp_K α v1_h3 = 8) (v2_h3 : Nat) (kv2_h3 : hp_K α v2_h3 = 3) (v3_h3 : Int32) (v4_h3 : Int32) (w0_h3 : Int32) (ls : Array Slot) (hl : lv_has ls 7 [(0, .ref a0), (1, .ref v1_h3), (2, .ref v2_h3), (3, .int v3_h3), (4, .int v4_h3)]) (hf : f_X10_showTos_J27 n a0 αh3 v1_h3 v2_h3 v3_h3 v4_h3 w0_h3 = some res), W p l e (hp_rm 6 0 0) s m ([.ref a0, .ref a1, .ref a2, .int a3] : List Value).toArray below meth c Hh3 Lh3 0 0 (MQ below (hp_Qi Γ (fun r β => r = res.1 ∧ β = res.2 ∧ cw w_X10_showTo α β)) ([.ref a0, .ref a1, .ref a2, .int a3] : List Value).toArray s 0 0 (hp_A Γ)) (F0 m 27 ls [.int w0_h3]) := by
      intro αh3 Hh3 Lh3 Bh3 v1_h3 kv1_h3 v2_h3 kv2_h3 v3_h3 v4_h3 w0_h3 ls hl hf
      unfold f_X10_showTos_J27 at hf
      refine lv_istore (lv' := [(5, .int w0_h3), (0, .ref a0), (1, .ref v1_h3), (2, .ref v2_h3), (3, .int v3_h3), (4, .int v4_h3)]) hx hb dX10_showTo_27 hl (by decide) rfl (fun ls hl => hp_n (n := 29) rfl ?_)
      refine lv_iload hx hb dX10_showTo_29 (lv_at hl 0 rfl) (hp_n (n := 31) rfl ?_)
      have J69 : ∀ (αh4 : hp_T) (Hh4 : Heap) (Lh4 : List Loc) (Bh4 : hp_B Γ (cw w_X10_showTo) s α αh4 Hh4 Lh4) (v1_h4 : Nat) (kv1_h4 : hp_K α v1_h4 = 8) (v3_h4 : Int32) (v4_h4 : Int32) (v5_h4 : Int32) (w0_h4 : Int32) (ls : Array Slot) (hl : lv_has ls 7 [(0, .ref a0), (1, .ref v1_h4), (3, .int v3_h4), (4, .int v4_h4), (5, .int v5_h4)]) (hf : f_X10_showTos_J69 n a0 αh4 v1_h4 v3_h4 v4_h4 v5_h4 w0_h4 = some res), W p l e (hp_rm 6 0 0) s m ([.ref a0, .ref a1, .ref a2, .int a3] : List Value).toArray below meth c Hh4 Lh4 0 0 (MQ below (hp_Qi Γ (fun r β => r = res.1 ∧ β = res.2 ∧ cw w_X10_showTo α β)) ([.ref a0, .ref a1, .ref a2, .int a3] : List Value).toArray s 0 0 (hp_A Γ)) (F0 m 69 ls [.int w0_h4]) := by
        intro αh4 Hh4 Lh4 Bh4 v1_h4 kv1_h4 v3_h4 v4_h4 v5_h4 w0_h4 ls hl hf
        unfold f_X10_showTos_J69 at hf
        refine lv_istore (lv' := [(6, .int w0_h4), (0, .ref a0), (1, .ref v1_h4), (3, .int v3_h4), (4, .int v4_h4), (5, .int v5_h4)]) hx hb dX10_showTo_69 hl (by decide) rfl (fun ls hl => hp_n (n := 71) rfl ?_)
        refine lv_iload hx hb dX10_showTo_71 (lv_at hl 0 rfl) (hp_n (n := 73) rfl ?_)
        have J88 : ∀ (αh5 : hp_T) (Hh5 : Heap) (Lh5 : List Loc) (Bh5 : hp_B Γ (cw w_X10_showTo) s α αh5 Hh5 Lh5) (v1_h5 : Nat) (kv1_h5 : hp_K α v1_h5 = 8) (v6_h5 : Int32) (ls : Array Slot) (hl : lv_has ls 7 [(0, .ref a0), (1, .ref v1_h5), (6, .int v6_h5)]) (hf : f_X10_showTos_J88 n a0 αh5 v1_h5 v6_h5 = some res), W p l e (hp_rm 6 0 0) s m ([.ref a0, .ref a1, .ref a2, .int a3] : List Value).toArray below meth c Hh5 Lh5 0 0 (MQ below (hp_Qi Γ (fun r β => r = res.1 ∧ β = res.2 ∧ cw w_X10_showTo α β)) ([.ref a0, .ref a1, .ref a2, .int a3] : List Value).toArray s 0 0 (hp_A Γ)) (F0 m 88 ls []) := by
          intro αh5 Hh5 Lh5 Bh5 v1_h5 kv1_h5 v6_h5 ls hl hf
          unfold f_X10_showTos_J88 at hf
          refine lv_aload_n hx hb dX10_showTo_88 rfl (lv_at hl 1 rfl) (hp_n (n := 89) rfl ?_)
          refine lv_iload hx hb dX10_showTo_89 (lv_at hl 2 rfl) (hp_n (n := 91) rfl ?_)
          obtain ⟨αh6, qh6, hf⟩ := ms_bE hf
          refine d_cv (pc' := 94) Bh5 (hp_runV (As := [.int v6_h5]) (rest := []) C Bh5 (n_X7_hearWhy n Γ l αh5 Bh5.2.2.1 v1_h5 (cw_k Bh5.2.2 kv1_h5) v6_h5 αh6 qh6) lb_X7_hearWhy lv_X7_hearWhy lk_X10_174 (cw_k Bh5.2.2 kv1_h5) rfl (by decide) rfl hl.1 rfl (Nat.le_of_ble_eq_true rfl) dX10_showTo_91 ⟨Nat.le_refl _, Nat.le_refl _⟩) (by decide) rfl (fun Hh6 Lh6 Bh6 => ?_)
          refine lv_aload_n hx hb dX10_showTo_94 rfl (lv_at hl 1 rfl) (hp_n (n := 95) rfl ?_)
          refine lv_dup hx hb dX10_showTo_95 rfl (hp_n (n := 96) rfl ?_)
          refine q_geti (κ := 8) (k := 2) (φ := 402) (pc' := 99) C Bh6 (cw_k Bh6.2.2 kv1_h5) fl_X10_177 rfl rfl rfl dX10_showTo_96 rfl (fun x7 ex7 => ?_)
          replace hf := ms_lE ex7 hf
          refine lv_iconst (v := 1) hx hb dX10_showTo_99 (by decide) (hp_n (n := 100) rfl ?_)
          refine lv_iadd hx hb dX10_showTo_100 (hp_n (n := 101) rfl ?_)
          refine q_puti (κ := 8) (k := 2) (φ := 402) (pc' := 104) C Bh6 (cw_k Bh6.2.2 kv1_h5) fl_X10_177 rfl rfl rfl rfl rfl rfl (cw_sI Bh6.2.2 (by decide) (fun h => absurd h (by decide))) dX10_showTo_101 rfl (fun αh8 Hh8 Lh8 eh8 Bh8 => ?_)
          replace hf := ms_lE eh8 hf
          refine lv_aload_n hx hb dX10_showTo_104 rfl (lv_at hl 0 rfl) (hp_n (n := 105) rfl ?_)
          refine lv_dup hx hb dX10_showTo_105 rfl (hp_n (n := 106) rfl ?_)
          refine q_geti (κ := 11) (k := 6) (φ := 556) (pc' := 109) C Bh8 (cw_k Bh8.2.2 k0) fl_X10_40 rfl rfl rfl dX10_showTo_106 rfl (fun x9 ex9 => ?_)
          replace hf := ms_lE ex9 hf
          refine lv_iconst (v := 1) hx hb dX10_showTo_109 (by decide) (hp_n (n := 110) rfl ?_)
          refine lv_iadd hx hb dX10_showTo_110 (hp_n (n := 111) rfl ?_)
          refine q_puti (κ := 11) (k := 6) (φ := 556) (pc' := 114) C Bh8 (cw_k Bh8.2.2 k0) fl_X10_40 rfl rfl rfl rfl rfl rfl (cw_sI Bh8.2.2 (by decide) (fun h => absurd h (by decide))) dX10_showTo_111 rfl (fun αh10 Hh10 Lh10 eh10 Bh10 => ?_)
          replace hf := ms_lE eh10 hf
          refine lv_iload hx hb dX10_showTo_114 (lv_at hl 2 rfl) (hp_n (n := 116) rfl ?_)
          cases hf
          exact q_iret C Bh10 hr hlk ⟨rfl, rfl, Bh10.2.2⟩ dX10_showTo_116
        refine lv_if_ne (tgt := 88) hx hb dX10_showTo_73 (by decide) (fun c11 => ?_) (fun c11 => hp_n (n := 76) rfl ?_)
        ·
          replace hf := ms_iF c11 hf
          exact J88 αh4 Hh4 Lh4 Bh4 v1_h4 kv1_h4 w0_h4 ls (lv_sub hl [1, 2, 0] rfl) hf
        ·
          replace hf := ms_iT c11 hf
          refine lv_iload hx hb dX10_showTo_76 (lv_at hl 5 rfl) (hp_n (n := 78) rfl ?_)
          refine lv_if_eq (tgt := 88) hx hb dX10_showTo_78 (by decide) (fun c12 => ?_) (fun c12 => hp_n (n := 81) rfl ?_)
          ·
            replace hf := ms_iT c12 hf
            exact J88 αh4 Hh4 Lh4 Bh4 v1_h4 kv1_h4 w0_h4 ls (lv_sub hl [1, 2, 0] rfl) hf
          ·
            replace hf := ms_iF c12 hf
            refine lv_aload_n hx hb dX10_showTo_81 rfl (lv_at hl 2 rfl) (hp_n (n := 82) rfl ?_)
            refine lv_iload_n hx hb dX10_showTo_82 rfl (lv_at hl 3 rfl) (hp_n (n := 83) rfl ?_)
            refine lv_iload hx hb dX10_showTo_83 (lv_at hl 4 rfl) (hp_n (n := 85) rfl ?_)
            obtain ⟨αh13, qh13, hf⟩ := ms_bE hf
            refine d_cv (pc' := 88) Bh4 (hp_runV (As := [.int v3_h4, .int v4_h4]) (rest := []) C Bh4 (n_X7_trust n Γ l αh4 Bh4.2.2.1 v1_h4 (cw_k Bh4.2.2 kv1_h4) v3_h4 v4_h4 αh13 qh13) lb_X7_trust lv_X7_trust lk_X10_171 (cw_k Bh4.2.2 kv1_h4) rfl (by decide) rfl hl.1 rfl (Nat.le_of_ble_eq_true rfl) dX10_showTo_85 ⟨Nat.le_refl _, Nat.le_refl _⟩) (by decide) rfl (fun Hh13 Lh13 Bh13 => ?_)
            exact J88 αh13 Hh13 Lh13 Bh13 v1_h4 kv1_h4 w0_h4 ls (lv_sub hl [1, 2, 0] rfl) hf
      refine lv_if_eq (tgt := 53) hx hb dX10_showTo_31 (by decide) (fun c14 => ?_) (fun c14 => hp_n (n := 34) rfl ?_)
      ·
        replace hf := ms_iT c14 hf
        refine lv_aload_n hx hb dX10_showTo_53 rfl (lv_at hl 1 rfl) (hp_n (n := 54) rfl ?_)
        refine lv_aload_n hx hb dX10_showTo_54 rfl (lv_at hl 3 rfl) (hp_n (n := 55) rfl ?_)
        refine lv_iload_n hx hb dX10_showTo_55 rfl (lv_at hl 4 rfl) (hp_n (n := 56) rfl ?_)
        refine lv_iload hx hb dX10_showTo_56 (lv_at hl 5 rfl) (hp_n (n := 58) rfl ?_)
        refine lv_aload_n hx hb dX10_showTo_58 rfl (lv_at hl 2 rfl) (hp_n (n := 59) rfl ?_)
        refine q_geti (κ := 8) (k := 0) (φ := 400) (pc' := 62) C Bh3 (cw_k Bh3.2.2 kv1_h3) fl_X10_163 rfl rfl rfl dX10_showTo_59 rfl (fun x15 ex15 => ?_)
        replace hf := ms_lE ex15 hf
        refine lv_aload_n hx hb dX10_showTo_62 rfl (lv_at hl 2 rfl) (hp_n (n := 63) rfl ?_)
        refine q_geti (κ := 8) (k := 1) (φ := 401) (pc' := 66) C Bh3 (cw_k Bh3.2.2 kv1_h3) fl_X10_164 rfl rfl rfl dX10_showTo_63 rfl (fun x16 ex16 => ?_)
        replace hf := ms_lE ex16 hf
        obtain ⟨rh17, αh17, qh17, hf⟩ := hq_cE hf
        refine d_ci (pc' := 69) Bh3 (hp_runV (As := [va_rf (some v2_h3), .int v3_h3, .int v4_h3, .int x15, .int x16]) (rest := []) C Bh3 (n_X10_whyGrown n Γ l αh3 Bh3.2.2.1 a0 (cw_k Bh3.2.2 k0) (some v2_h3) (fun b h => by cases h; exact (cw_k Bh3.2.2 kv2_h3)) v3_h3 v4_h3 x15 x16 (rh17, αh17) qh17) lb_X10_whyGrown lv_X10_whyGrown lk_X10_167 (cw_k Bh3.2.2 k0) rfl (by decide) rfl hl.1 rfl (Nat.le_of_ble_eq_true rfl) dX10_showTo_66 ⟨Nat.le_refl _, Nat.le_refl _⟩) (by decide) rfl (fun Hh17 Lh17 Bh17 => ?_)
        exact J69 αh17 Hh17 Lh17 Bh17 v1_h3 kv1_h3 v3_h3 v4_h3 w0_h3 rh17 ls (lv_sub hl [1, 2, 4, 5, 0] rfl) hf
      ·
        replace hf := ms_iF c14 hf
        refine lv_aload_n hx hb dX10_showTo_34 rfl (lv_at hl 1 rfl) (hp_n (n := 35) rfl ?_)
        refine lv_aload_n hx hb dX10_showTo_35 rfl (lv_at hl 3 rfl) (hp_n (n := 36) rfl ?_)
        refine lv_aload_n hx hb dX10_showTo_36 rfl (lv_at hl 2 rfl) (hp_n (n := 37) rfl ?_)
        refine q_geti (κ := 8) (k := 0) (φ := 400) (pc' := 40) C Bh3 (cw_k Bh3.2.2 kv1_h3) fl_X10_163 rfl rfl rfl dX10_showTo_37 rfl (fun x18 ex18 => ?_)
        replace hf := ms_lE ex18 hf
        refine lv_aload_n hx hb dX10_showTo_40 rfl (lv_at hl 2 rfl) (hp_n (n := 41) rfl ?_)
        refine q_geti (κ := 8) (k := 1) (φ := 401) (pc' := 44) C Bh3 (cw_k Bh3.2.2 kv1_h3) fl_X10_164 rfl rfl rfl dX10_showTo_41 rfl (fun x19 ex19 => ?_)
        replace hf := ms_lE ex19 hf
        refine lv_iload_n hx hb dX10_showTo_44 rfl (lv_at hl 4 rfl) (hp_n (n := 45) rfl ?_)
        refine lv_iload hx hb dX10_showTo_45 (lv_at hl 5 rfl) (hp_n (n := 47) rfl ?_)
        obtain ⟨rh20, αh20, qh20, hf⟩ := hq_cE hf
        refine d_ci (pc' := 50) Bh3 (hp_runV (As := [va_rf (some v2_h3), .int x18, .int x19, .int v3_h3, .int v4_h3]) (rest := []) C Bh3 (n_X10_whyGrown n Γ l αh3 Bh3.2.2.1 a0 (cw_k Bh3.2.2 k0) (some v2_h3) (fun b h => by cases h; exact (cw_k Bh3.2.2 kv2_h3)) x18 x19 v3_h3 v4_h3 (rh20, αh20) qh20) lb_X10_whyGrown lv_X10_whyGrown lk_X10_167 (cw_k Bh3.2.2 k0) rfl (by decide) rfl hl.1 rfl (Nat.le_of_ble_eq_true rfl) dX10_showTo_47 ⟨Nat.le_refl _, Nat.le_refl _⟩) (by decide) rfl (fun Hh20 Lh20 Bh20 => ?_)
        refine lv_goto (tgt := 69) hx hb dX10_showTo_50 (by decide) ?_
        exact J69 αh20 Hh20 Lh20 Bh20 v1_h3 kv1_h3 v3_h3 v4_h3 w0_h3 rh20 ls (lv_sub hl [1, 2, 4, 5, 0] rfl) hf
    refine lv_icmp_lt (tgt := 26) hx hb dX10_showTo_19 (by decide) (fun c21 => ?_) (fun c21 => hp_n (n := 22) rfl ?_)
    ·
      replace hf := ms_iT c21 hf
      refine lv_iconst (v := 0) hx hb dX10_showTo_26 (by decide) (hp_n (n := 27) rfl ?_)
      exact J27 αh1 Hh1 Lh1 Bh1 a1 ka1 a2 k2 a3 rh1 (0 : Int32) ls (lv_sub hl [1, 2, 3, 4, 0] rfl) hf
    ·
      replace hf := ms_iF c21 hf
      refine lv_iconst (v := 1) hx hb dX10_showTo_22 (by decide) (hp_n (n := 23) rfl ?_)
      refine lv_goto (tgt := 27) hx hb dX10_showTo_23 (by decide) ?_
      exact J27 αh1 Hh1 Lh1 Bh1 a1 ka1 a2 k2 a3 rh1 (1 : Int32) ls (lv_sub hl [1, 2, 3, 4, 0] rfl) hf
def f_X2_changeLetter (n : Nat) (α : hp_T) (a0 : Nat) (a1 : Int32) (a2 : Int32) (a3 : Int32) (a4 : Int32) : Option hp_T :=
  ms_b (f_X2_wordAt n α a0 a1) fun rh1 =>
  hq_m rh1 (
    some α) fun bh1 =>
  ms_l (hp_R α 151 a0) fun b2 =>
  if (48 : Int32) ≤ a1 then
    some α
  else
    ms_b (f_X9_change n α bh1 a2 a3) fun αh4 =>
    ms_l (hp_R αh4 151 a0) fun b5 =>
    ms_b (f_X9_markBy n αh4 bh1 a4) fun rh6 =>
    ms_g a1 48 <|
    ms_l (hp_sE αh4 29 b5 (a1).toNatClampNeg rh6) fun αh8 =>
    some αh8
set_option maxRecDepth 100000 in
set_option maxHeartbeats 4000000 in
theorem n_X2_changeLetter (n : Nat) (Γ : hp_G) (l : Launch) (α : hp_T) (g : GC α) (a0 : Nat) (k0 : hp_K α a0 = 3) (a1 : Int32) (a2 : Int32) (a3 : Int32) (a4 : Int32) (res : hp_T) (hf : f_X2_changeLetter n α a0 a1 a2 a3 a4 = some res) : Met l yX2_changeLetter (hp_ws yX2_changeLetter cX2_changeLetter 6 none) (hp_rm 2 0 0) (hp_Pc Γ α [.ref a0, .int a1, .int a2, .int a3, .int a4]) (hp_Qv Γ (fun β => β = res ∧ cw w_X2_changeLetter α β)) 0 0 (hp_A Γ) := by
  unfold f_X2_changeLetter at hf
  refine hp_start (by decide) ?_
  intro p e s m below meth c C hr hlk B0 hnm
  have C : hp_C Γ p m c cX2_changeLetter 6 s ([.ref a0, .int a1, .int a2, .int a3, .int a4] : List Value).toArray RX2 := C
  have hx := C.1.1
  have hb := C.1.2.1
  have hown := C.1.2.2.2.1
  have hts := C.1.2.2.2.2
  have B : hp_B Γ (cw w_X2_changeLetter) s α α s.heap [] := ⟨B0.1, B0.2.1, cw_rf g⟩
  have hl := lv_entry ([.ref a0, .int a1, .int a2, .int a3, .int a4]) (n := 6) (Nat.le_of_ble_eq_true rfl)
  show W p l e (hp_rm 2 0 0) s m ([.ref a0, .int a1, .int a2, .int a3, .int a4] : List Value).toArray below meth c s.heap [] 0 0 (MQ below (hp_Qv Γ (fun β => β = res ∧ cw w_X2_changeLetter α β)) ([.ref a0, .int a1, .int a2, .int a3, .int a4] : List Value).toArray s 0 0 (hp_A Γ)) (entryFrame m ([.ref a0, .int a1, .int a2, .int a3, .int a4] : List Value).toArray 6)
  rw [lg_entry_eq]
  generalize (lg_sl ([.ref a0, .int a1, .int a2, .int a3, .int a4]) ++ List.replicate (6 - (lg_sl ([.ref a0, .int a1, .int a2, .int a3, .int a4])).length) Slot.unset).toArray = ls at hl ⊢
  have hl : lv_has ls 6 [(0, .ref a0), (1, .int a1), (2, .int a2), (3, .int a3), (4, .int a4)] := hl
  refine lv_aload_n hx hb dX2_changeLetter_0 rfl (lv_at hl 0 rfl) (hp_n (n := 1) rfl ?_)
  refine lv_iload_n hx hb dX2_changeLetter_1 rfl (lv_at hl 1 rfl) (hp_n (n := 2) rfl ?_)
  obtain ⟨rh1, qh1, hf⟩ := ms_bE hf
  refine d_pq (pc' := 5) B (hp_runV (As := [.int a1]) (rest := []) C B (n_X2_wordAt n Γ l α B.2.2.1 a0 (cw_k B.2.2 k0) a1 rh1 qh1) lb_X2_wordAt lv_X2_wordAt lk_X2_34 (cw_k B.2.2 k0) rfl (by decide) rfl hl.1 rfl (Nat.le_of_ble_eq_true rfl) dX2_changeLetter_2 ⟨Nat.le_refl _, Nat.le_refl _⟩) rfl (fun Hh1 Lh1 Bh1 kh1 => ?_)
  rcases rh1 with _ | bh1
  ·
    replace hf := hq_N hf
    refine lv_astoreN (lv' := [(5, .null), (0, .ref a0), (1, .int a1), (2, .int a2), (3, .int a3), (4, .int a4)]) hx hb dX2_changeLetter_5 hl (by decide) rfl (fun ls hl => hp_n (n := 7) rfl ?_)
    refine lv_aloadN hx hb dX2_changeLetter_7 (lv_at hl 0 rfl) (hp_n (n := 9) rfl ?_)
    refine lv_ifnullN (tgt := 41) hx hb dX2_changeLetter_9 (by decide) ?_
    cases hf
    exact q_vret C Bh1 hr hlk ⟨rfl, Bh1.2.2⟩ dX2_changeLetter_41
  ·
    replace hf := hq_S hf
    have kbh1 := kh1 bh1 rfl
    refine lv_astore (lv' := [(5, .ref bh1), (0, .ref a0), (1, .int a1), (2, .int a2), (3, .int a3), (4, .int a4)]) hx hb dX2_changeLetter_5 hl (by decide) rfl (fun ls hl => hp_n (n := 7) rfl ?_)
    refine lv_aload hx hb dX2_changeLetter_7 (lv_at hl 0 rfl) (hp_n (n := 9) rfl ?_)
    refine lv_ifnull hx hb dX2_changeLetter_9 (hp_n (n := 12) rfl ?_)
    refine lv_iload_n hx hb dX2_changeLetter_12 rfl (lv_at hl 2 rfl) (hp_n (n := 13) rfl ?_)
    refine lv_aload_n hx hb dX2_changeLetter_13 rfl (lv_at hl 1 rfl) (hp_n (n := 14) rfl ?_)
    refine q_getr (κ := 3) (k := 1) (φ := 151) (pc' := 17) C Bh1 (cw_k Bh1.2.2 k0) fl_X2_17 rfl rfl rfl (cw_r Bh1.2.2 k0 rfl rfl (by decide) (by decide)) dX2_changeLetter_14 rfl (fun b2 eb2 kb2 => ?_)
    replace hf := ms_lE eb2 hf
    refine q_alen (κ := 29) (t := 0) (n := 48) (x := 48) (ty := .int) (pc' := 18) C Bh1 (cw_k Bh1.2.2 kb2) (by decide) rfl rfl rfl dX2_changeLetter_17 rfl ?_
    refine lv_icmp_ge (tgt := 41) hx hb dX2_changeLetter_18 (by decide) (fun c3 => ?_) (fun c3 => hp_n (n := 21) rfl ?_)
    ·
      replace hf := ms_iT c3 hf
      cases hf
      exact q_vret C Bh1 hr hlk ⟨rfl, Bh1.2.2⟩ dX2_changeLetter_41
    ·
      replace hf := ms_iF c3 hf
      refine lv_aload hx hb dX2_changeLetter_21 (lv_at hl 0 rfl) (hp_n (n := 23) rfl ?_)
      refine lv_iload_n hx hb dX2_changeLetter_23 rfl (lv_at hl 3 rfl) (hp_n (n := 24) rfl ?_)
      refine lv_iload_n hx hb dX2_changeLetter_24 rfl (lv_at hl 4 rfl) (hp_n (n := 25) rfl ?_)
      obtain ⟨αh4, qh4, hf⟩ := ms_bE hf
      refine d_cv (pc' := 28) Bh1 (hp_runV (As := [.int a2, .int a3]) (rest := []) C Bh1 (n_X9_change n Γ l α Bh1.2.2.1 bh1 (cw_k Bh1.2.2 kbh1) a2 a3 αh4 qh4) lb_X9_change lv_X9_change lk_X2_38 (cw_k Bh1.2.2 kbh1) rfl (by decide) rfl hl.1 rfl (Nat.le_of_ble_eq_true rfl) dX2_changeLetter_25 ⟨Nat.le_refl _, Nat.le_refl _⟩) (by decide) rfl (fun Hh4 Lh4 Bh4 => ?_)
      refine lv_aload_n hx hb dX2_changeLetter_28 rfl (lv_at hl 1 rfl) (hp_n (n := 29) rfl ?_)
      refine q_getr (κ := 3) (k := 1) (φ := 151) (pc' := 32) C Bh4 (cw_k Bh4.2.2 k0) fl_X2_17 rfl rfl rfl (cw_r Bh4.2.2 k0 rfl rfl (by decide) (by decide)) dX2_changeLetter_29 rfl (fun b5 eb5 kb5 => ?_)
      replace hf := ms_lE eb5 hf
      refine lv_iload_n hx hb dX2_changeLetter_32 rfl (lv_at hl 2 rfl) (hp_n (n := 33) rfl ?_)
      refine lv_aload hx hb dX2_changeLetter_33 (lv_at hl 0 rfl) (hp_n (n := 35) rfl ?_)
      refine lv_iload hx hb dX2_changeLetter_35 (lv_at hl 5 rfl) (hp_n (n := 37) rfl ?_)
      obtain ⟨rh6, qh6, hf⟩ := ms_bE hf
      refine d_pi (pc' := 40) Bh4 (hp_runV (As := [.int a4]) (rest := [.int a1, .ref b5]) C Bh4 (n_X9_markBy n Γ l αh4 Bh4.2.2.1 bh1 (cw_k Bh4.2.2 kbh1) a4 rh6 qh6) lb_X9_markBy lv_X9_markBy lk_X2_30 (cw_k Bh4.2.2 kbh1) rfl (by decide) rfl hl.1 rfl (Nat.le_of_ble_eq_true rfl) dX2_changeLetter_37 ⟨Nat.le_refl _, Nat.le_refl _⟩) rfl (fun Hh6 Lh6 Bh6 => ?_)
      obtain ⟨g7, hf⟩ := ms_gE hf
      refine q_ias (κ := 29) (n := 48) (pc' := 41) C Bh6 (cw_k Bh6.2.2 kb5) (by decide) rfl (vi_of g7.1 g7.2) rfl (cw_sE Bh6.2.2 (by decide)) dX2_changeLetter_40 rfl (fun αh8 Hh8 Lh8 eh8 Bh8 => ?_)
      replace hf := ms_lE eh8 hf
      cases hf
      exact q_vret C Bh8 hr hlk ⟨rfl, Bh8.2.2⟩ dX2_changeLetter_41
def f_X10_spoilLetter (n : Nat) (α : hp_T) (a0 : Nat) (a1 : Nat) (a2 : Int32) (a3 : Int32) (a4 : Int32) : Option hp_T :=
  ms_l (hp_I α 550 a0) fun x1 =>
  ms_b (f_X2_changeLetter n α a1 a2 a3 a4 x1) fun αh2 =>
  ms_l (hp_I αh2 556 a0) fun x3 =>
  ms_l (hp_sI αh2 556 a0 (x3 + (1 : Int32))) fun αh4 =>
  some αh4
set_option maxRecDepth 100000 in
set_option maxHeartbeats 4000000 in
theorem n_X10_spoilLetter (n : Nat) (Γ : hp_G) (l : Launch) (α : hp_T) (g : GC α) (a0 : Nat) (k0 : hp_K α a0 = 11) (a1 : Nat) (k1 : hp_K α a1 = 3) (a2 : Int32) (a3 : Int32) (a4 : Int32) (res : hp_T) (hf : f_X10_spoilLetter n α a0 a1 a2 a3 a4 = some res) : Met l yX10_spoilLetter (hp_ws yX10_spoilLetter cX10_spoilLetter 5 none) (hp_rm 3 0 0) (hp_Pc Γ α [.ref a0, .ref a1, .int a2, .int a3, .int a4]) (hp_Qv Γ (fun β => β = res ∧ cw w_X10_spoilLetter α β)) 0 0 (hp_A Γ) := by
  unfold f_X10_spoilLetter at hf
  refine hp_start (by decide) ?_
  intro p e s m below meth c C hr hlk B0 hnm
  have C : hp_C Γ p m c cX10_spoilLetter 5 s ([.ref a0, .ref a1, .int a2, .int a3, .int a4] : List Value).toArray RX10 := C
  have hx := C.1.1
  have hb := C.1.2.1
  have hown := C.1.2.2.2.1
  have hts := C.1.2.2.2.2
  have B : hp_B Γ (cw w_X10_spoilLetter) s α α s.heap [] := ⟨B0.1, B0.2.1, cw_rf g⟩
  have hl := lv_entry ([.ref a0, .ref a1, .int a2, .int a3, .int a4]) (n := 5) (Nat.le_of_ble_eq_true rfl)
  show W p l e (hp_rm 3 0 0) s m ([.ref a0, .ref a1, .int a2, .int a3, .int a4] : List Value).toArray below meth c s.heap [] 0 0 (MQ below (hp_Qv Γ (fun β => β = res ∧ cw w_X10_spoilLetter α β)) ([.ref a0, .ref a1, .int a2, .int a3, .int a4] : List Value).toArray s 0 0 (hp_A Γ)) (entryFrame m ([.ref a0, .ref a1, .int a2, .int a3, .int a4] : List Value).toArray 5)
  rw [lg_entry_eq]
  generalize (lg_sl ([.ref a0, .ref a1, .int a2, .int a3, .int a4]) ++ List.replicate (5 - (lg_sl ([.ref a0, .ref a1, .int a2, .int a3, .int a4])).length) Slot.unset).toArray = ls at hl ⊢
  have hl : lv_has ls 5 [(0, .ref a0), (1, .ref a1), (2, .int a2), (3, .int a3), (4, .int a4)] := hl
  refine lv_aload_n hx hb dX10_spoilLetter_0 rfl (lv_at hl 1 rfl) (hp_n (n := 1) rfl ?_)
  refine lv_iload_n hx hb dX10_spoilLetter_1 rfl (lv_at hl 2 rfl) (hp_n (n := 2) rfl ?_)
  refine lv_iload_n hx hb dX10_spoilLetter_2 rfl (lv_at hl 3 rfl) (hp_n (n := 3) rfl ?_)
  refine lv_iload hx hb dX10_spoilLetter_3 (lv_at hl 4 rfl) (hp_n (n := 5) rfl ?_)
  refine lv_aload_n hx hb dX10_spoilLetter_5 rfl (lv_at hl 0 rfl) (hp_n (n := 6) rfl ?_)
  refine q_geti (κ := 11) (k := 0) (φ := 550) (pc' := 9) C B (cw_k B.2.2 k0) fl_X10_10 rfl rfl rfl dX10_spoilLetter_6 rfl (fun x1 ex1 => ?_)
  replace hf := ms_lE ex1 hf
  obtain ⟨αh2, qh2, hf⟩ := ms_bE hf
  refine d_cv (pc' := 12) B (hp_runV (As := [.int a2, .int a3, .int a4, .int x1]) (rest := []) C B (n_X2_changeLetter n Γ l α B.2.2.1 a1 (cw_k B.2.2 k1) a2 a3 a4 x1 αh2 qh2) lb_X2_changeLetter lv_X2_changeLetter lk_X10_147 (cw_k B.2.2 k1) rfl (by decide) rfl hl.1 rfl (Nat.le_of_ble_eq_true rfl) dX10_spoilLetter_9 ⟨Nat.le_refl _, Nat.le_refl _⟩) (by decide) rfl (fun Hh2 Lh2 Bh2 => ?_)
  refine lv_aload_n hx hb dX10_spoilLetter_12 rfl (lv_at hl 0 rfl) (hp_n (n := 13) rfl ?_)
  refine lv_dup hx hb dX10_spoilLetter_13 rfl (hp_n (n := 14) rfl ?_)
  refine q_geti (κ := 11) (k := 6) (φ := 556) (pc' := 17) C Bh2 (cw_k Bh2.2.2 k0) fl_X10_40 rfl rfl rfl dX10_spoilLetter_14 rfl (fun x3 ex3 => ?_)
  replace hf := ms_lE ex3 hf
  refine lv_iconst (v := 1) hx hb dX10_spoilLetter_17 (by decide) (hp_n (n := 18) rfl ?_)
  refine lv_iadd hx hb dX10_spoilLetter_18 (hp_n (n := 19) rfl ?_)
  refine q_puti (κ := 11) (k := 6) (φ := 556) (pc' := 22) C Bh2 (cw_k Bh2.2.2 k0) fl_X10_40 rfl rfl rfl rfl rfl rfl (cw_sI Bh2.2.2 (by decide) (fun h => absurd h (by decide))) dX10_spoilLetter_19 rfl (fun αh4 Hh4 Lh4 eh4 Bh4 => ?_)
  replace hf := ms_lE eh4 hf
  cases hf
  exact q_vret C Bh4 hr hlk ⟨rfl, Bh4.2.2⟩ dX10_spoilLetter_22
def f_X10_watcherAt (n : Nat) (α : hp_T) (a0 : Nat) (a1 : Int32) : Option (Option Nat) :=
  if a1 < 0 then
    some none
  else
    ms_l (hp_R α 555 a0) fun b2 =>
    if (4 : Int32) ≤ a1 then
      some none
    else
      ms_l (hp_R α 555 a0) fun b4 =>
      ms_g a1 4 <|
      hq_m (hp_Q α 32 b4 (a1).toNatClampNeg) (
        some none) fun b6 =>
      some (some b6)
set_option maxRecDepth 100000 in
set_option maxHeartbeats 4000000 in
theorem n_X10_watcherAt (n : Nat) (Γ : hp_G) (l : Launch) (α : hp_T) (g : GC α) (a0 : Nat) (k0 : hp_K α a0 = 11) (a1 : Int32) (res : Option Nat) (hf : f_X10_watcherAt n α a0 a1 = some res) : Met l yX10_watcherAt (hp_ws yX10_watcherAt cX10_watcherAt 2 (some (.object "ProvenRecord$Watcher"))) (hp_rm 0 0 0) (hp_Pc Γ α [.ref a0, .int a1]) (hp_Qq Γ (fun r β => (β = α ∧ r = res) ∧ ∀ b, r = some b → hp_K α b = 8)) 0 0 (hp_A Γ) := by
  unfold f_X10_watcherAt at hf
  refine hp_start (by decide) ?_
  intro p e s m below meth c C hr hlk B0 hnm
  have C : hp_C Γ p m c cX10_watcherAt 2 s ([.ref a0, .int a1] : List Value).toArray RX10 := C
  have hx := C.1.1
  have hb := C.1.2.1
  have hown := C.1.2.2.2.1
  have hts := C.1.2.2.2.2
  have B : hp_B Γ (cw w_X10_watcherAt) s α α s.heap [] := ⟨B0.1, B0.2.1, cw_rf g⟩
  have hl := lv_entry ([.ref a0, .int a1]) (n := 2) (Nat.le_of_ble_eq_true rfl)
  show W p l e (hp_rm 0 0 0) s m ([.ref a0, .int a1] : List Value).toArray below meth c s.heap [] 0 0 (MQ below (hp_Qq Γ (fun r β => (β = α ∧ r = res) ∧ ∀ b, r = some b → hp_K α b = 8)) ([.ref a0, .int a1] : List Value).toArray s 0 0 (hp_A Γ)) (entryFrame m ([.ref a0, .int a1] : List Value).toArray 2)
  rw [lg_entry_eq]
  generalize (lg_sl ([.ref a0, .int a1]) ++ List.replicate (2 - (lg_sl ([.ref a0, .int a1])).length) Slot.unset).toArray = ls at hl ⊢
  have hl : lv_has ls 2 [(0, .ref a0), (1, .int a1)] := hl
  refine lv_iload_n hx hb dX10_watcherAt_0 rfl (lv_at hl 1 rfl) (hp_n (n := 1) rfl ?_)
  refine lv_if_lt (tgt := 22) hx hb dX10_watcherAt_1 (by decide) (fun c1 => ?_) (fun c1 => hp_n (n := 4) rfl ?_)
  ·
    replace hf := ms_iT c1 hf
    refine lv_null hx hb dX10_watcherAt_22 (hp_n (n := 23) rfl ?_)
    cases hf
    exact q_aret (x := none) C B hr hlk ⟨⟨rfl, rfl⟩, fun b h => by cases h⟩ dX10_watcherAt_23
  ·
    replace hf := ms_iF c1 hf
    refine lv_iload_n hx hb dX10_watcherAt_4 rfl (lv_at hl 1 rfl) (hp_n (n := 5) rfl ?_)
    refine lv_aload_n hx hb dX10_watcherAt_5 rfl (lv_at hl 0 rfl) (hp_n (n := 6) rfl ?_)
    refine q_getr (κ := 11) (k := 5) (φ := 555) (pc' := 9) C B (cw_k B.2.2 k0) fl_X10_36 rfl rfl rfl (cw_r B.2.2 k0 rfl rfl (by decide) (by decide)) dX10_watcherAt_6 rfl (fun b2 eb2 kb2 => ?_)
    replace hf := ms_lE eb2 hf
    refine q_alen (κ := 32) (t := 6) (n := 4) (x := 4) (ty := .object "ProvenRecord$Watcher") (pc' := 10) C B (cw_k B.2.2 kb2) (by decide) rfl rfl rfl dX10_watcherAt_9 rfl ?_
    refine lv_icmp_ge (tgt := 22) hx hb dX10_watcherAt_10 (by decide) (fun c3 => ?_) (fun c3 => hp_n (n := 13) rfl ?_)
    ·
      replace hf := ms_iT c3 hf
      refine lv_null hx hb dX10_watcherAt_22 (hp_n (n := 23) rfl ?_)
      cases hf
      exact q_aret (x := none) C B hr hlk ⟨⟨rfl, rfl⟩, fun b h => by cases h⟩ dX10_watcherAt_23
    ·
      replace hf := ms_iF c3 hf
      refine lv_aload_n hx hb dX10_watcherAt_13 rfl (lv_at hl 0 rfl) (hp_n (n := 14) rfl ?_)
      refine q_getr (κ := 11) (k := 5) (φ := 555) (pc' := 17) C B (cw_k B.2.2 k0) fl_X10_36 rfl rfl rfl (cw_r B.2.2 k0 rfl rfl (by decide) (by decide)) dX10_watcherAt_14 rfl (fun b4 eb4 kb4 => ?_)
      replace hf := ms_lE eb4 hf
      refine lv_iload_n hx hb dX10_watcherAt_17 rfl (lv_at hl 1 rfl) (hp_n (n := 18) rfl ?_)
      obtain ⟨g5, hf⟩ := ms_gE hf
      refine q_aal (κ := 32) (t := 6) (n := 4) (C0 := "ProvenRecord$Watcher") (pc' := 19) C B (cw_k B.2.2 kb4) (by decide) rfl rfl (by decide) (vi_of g5.1 g5.2) dX10_watcherAt_18 rfl ?_
      rcases hq_E hf with ⟨hqb6, hf⟩ | ⟨b6, hqb6, hf⟩
      ·
        rw [hqb6]
        refine lv_goto (tgt := 23) hx hb dX10_watcherAt_19 (by decide) ?_
        cases hf
        exact q_aret (x := none) C B hr hlk ⟨⟨rfl, rfl⟩, fun b h => by cases h⟩ dX10_watcherAt_23
      ·
        rw [hqb6]
        have kb6 := cw_q B.2.2 kb4 rfl (by decide) hqb6
        refine lv_goto (tgt := 23) hx hb dX10_watcherAt_19 (by decide) ?_
        cases hf
        exact q_aret (x := (some b6)) C B hr hlk ⟨⟨rfl, rfl⟩, fun b h => by cases h; exact kb6⟩ dX10_watcherAt_23
def f_X10_meetBy_J89 (n : Nat) (a0 : Nat) (αh11 : hp_T) (v5_h11 : Nat) (v6_h11 : Nat) (v7_h11 : Int32) : Option (Int32 × hp_T) :=
  ms_b (f_X7_hearWhy n αh11 v5_h11 v7_h11) fun αh12 =>
  ms_b (f_X7_hearWhy n αh12 v6_h11 v7_h11) fun αh13 =>
  ms_l (hp_I αh13 556 a0) fun x14 =>
  ms_l (hp_sI αh13 556 a0 (x14 + (1 : Int32))) fun αh15 =>
  some (v7_h11, αh15)
def f_X10_meetBy_J40 (n : Nat) (a0 : Nat) (αh5 : hp_T) (v3_h5 : Nat) (v5_h5 : Nat) (w0_h5 : Nat) : Option (Int32 × hp_T) :=
  ms_l (hp_I αh5 400 v5_h5) fun x6 =>
  ms_l (hp_I αh5 401 v5_h5) fun x7 =>
  ms_l (hp_I αh5 400 w0_h5) fun x8 =>
  ms_l (hp_I αh5 401 w0_h5) fun x9 =>
  hq_c (f_X10_whyGrown n αh5 a0 (some v3_h5) x6 x7 x8 x9) fun rh10 αh10 =>
  if rh10 = 0 then
    ms_l (hp_I αh10 400 w0_h5) fun x17 =>
    ms_l (hp_I αh10 401 w0_h5) fun x18 =>
    ms_b (f_X7_trust n αh10 v5_h5 x17 x18) fun αh19 =>
    f_X10_meetBy_J89 n a0 αh19 v5_h5 w0_h5 rh10
  else
    f_X10_meetBy_J89 n a0 αh10 v5_h5 w0_h5 rh10
def f_X10_meetBy_J28 (n : Nat) (a0 : Nat) (αh4 : hp_T) (v1_h4 : Nat) (v2_h4 : Nat) (v3_h4 : Nat) (v4_h4 : Int32) (w0_h4 : Nat) : Option (Int32 × hp_T) :=
  if v4_h4 = 0 then
    f_X10_meetBy_J40 n a0 αh4 v3_h4 w0_h4 v1_h4
  else
    f_X10_meetBy_J40 n a0 αh4 v3_h4 w0_h4 v2_h4
def f_X10_meetBy_J16 (n : Nat) (a0 : Nat) (αh3 : hp_T) (v1_h3 : Nat) (v2_h3 : Nat) (v3_h3 : Nat) (w0_h3 : Int32) : Option (Int32 × hp_T) :=
  if w0_h3 = 0 then
    f_X10_meetBy_J28 n a0 αh3 v1_h3 v2_h3 v3_h3 w0_h3 v2_h3
  else
    f_X10_meetBy_J28 n a0 αh3 v1_h3 v2_h3 v3_h3 w0_h3 v1_h3
def f_X10_meetBy (n : Nat) (α : hp_T) (a0 : Nat) (a1 : Nat) (a2 : Nat) (a3 : Nat) : Option (Int32 × hp_T) :=
  ms_l (hp_I α 400 a1) fun x1 =>
  ms_l (hp_I α 400 a2) fun x2 =>
  if x2 < x1 then
    f_X10_meetBy_J16 n a0 α a1 a2 a3 (0 : Int32)
  else
    f_X10_meetBy_J16 n a0 α a1 a2 a3 (1 : Int32)
set_option maxRecDepth 100000 in
set_option maxHeartbeats 4000000 in
theorem n_X10_meetBy (n : Nat) (Γ : hp_G) (l : Launch) (α : hp_T) (g : GC α) (a0 : Nat) (k0 : hp_K α a0 = 11) (a1 : Nat) (k1 : hp_K α a1 = 8) (a2 : Nat) (k2 : hp_K α a2 = 8) (a3 : Nat) (k3 : hp_K α a3 = 3) (res : (Int32 × hp_T)) (hf : f_X10_meetBy n α a0 a1 a2 a3 = some res) : Met l yX10_meetBy (hp_ws yX10_meetBy cX10_meetBy 8 (some .int)) (hp_rm 6 0 0) (hp_Pc Γ α [.ref a0, .ref a1, .ref a2, .ref a3]) (hp_Qi Γ (fun r β => r = res.1 ∧ β = res.2 ∧ cw w_X10_meetBy α β)) 0 0 (hp_A Γ) := by
  unfold f_X10_meetBy at hf
  refine hp_start (by decide) ?_
  intro p e s m below meth c C hr hlk B0 hnm
  have C : hp_C Γ p m c cX10_meetBy 8 s ([.ref a0, .ref a1, .ref a2, .ref a3] : List Value).toArray RX10 := C
  have hx := C.1.1
  have hb := C.1.2.1
  have hown := C.1.2.2.2.1
  have hts := C.1.2.2.2.2
  have B : hp_B Γ (cw w_X10_meetBy) s α α s.heap [] := ⟨B0.1, B0.2.1, cw_rf g⟩
  have hl := lv_entry ([.ref a0, .ref a1, .ref a2, .ref a3]) (n := 8) (Nat.le_of_ble_eq_true rfl)
  show W p l e (hp_rm 6 0 0) s m ([.ref a0, .ref a1, .ref a2, .ref a3] : List Value).toArray below meth c s.heap [] 0 0 (MQ below (hp_Qi Γ (fun r β => r = res.1 ∧ β = res.2 ∧ cw w_X10_meetBy α β)) ([.ref a0, .ref a1, .ref a2, .ref a3] : List Value).toArray s 0 0 (hp_A Γ)) (entryFrame m ([.ref a0, .ref a1, .ref a2, .ref a3] : List Value).toArray 8)
  rw [lg_entry_eq]
  generalize (lg_sl ([.ref a0, .ref a1, .ref a2, .ref a3]) ++ List.replicate (8 - (lg_sl ([.ref a0, .ref a1, .ref a2, .ref a3])).length) Slot.unset).toArray = ls at hl ⊢
  have hl : lv_has ls 8 [(0, .ref a0), (1, .ref a1), (2, .ref a2), (3, .ref a3)] := hl
  refine lv_aload_n hx hb dX10_meetBy_0 rfl (lv_at hl 1 rfl) (hp_n (n := 1) rfl ?_)
  refine q_geti (κ := 8) (k := 0) (φ := 400) (pc' := 4) C B (cw_k B.2.2 k1) fl_X10_163 rfl rfl rfl dX10_meetBy_1 rfl (fun x1 ex1 => ?_)
  replace hf := ms_lE ex1 hf
  refine lv_aload_n hx hb dX10_meetBy_4 rfl (lv_at hl 2 rfl) (hp_n (n := 5) rfl ?_)
  refine q_geti (κ := 8) (k := 0) (φ := 400) (pc' := 8) C B (cw_k B.2.2 k2) fl_X10_163 rfl rfl rfl dX10_meetBy_5 rfl (fun x2 ex2 => ?_)
  replace hf := ms_lE ex2 hf
  have J16 : ∀ (αh3 : hp_T) (Hh3 : Heap) (Lh3 : List Loc) (Bh3 : hp_B Γ (cw w_X10_meetBy) s α αh3 Hh3 Lh3) (v1_h3 : Nat) (kv1_h3 : hp_K α v1_h3 = 8) (v2_h3 : Nat) (kv2_h3 : hp_K α v2_h3 = 8) (v3_h3 : Nat) (kv3_h3 : hp_K α v3_h3 = 3) (w0_h3 : Int32) (ls : Array Slot) (hl : lv_has ls 8 [(0, .ref a0), (1, .ref v1_h3), (2, .ref v2_h3), (3, .ref v3_h3)]) (hf : f_X10_meetBy_J16 n a0 αh3 v1_h3 v2_h3 v3_h3 w0_h3 = some res), W p l e (hp_rm 6 0 0) s m ([.ref a0, .ref a1, .ref a2, .ref a3] : List Value).toArray below meth c Hh3 Lh3 0 0 (MQ below (hp_Qi Γ (fun r β => r = res.1 ∧ β = res.2 ∧ cw w_X10_meetBy α β)) ([.ref a0, .ref a1, .ref a2, .ref a3] : List Value).toArray s 0 0 (hp_A Γ)) (F0 m 16 ls [.int w0_h3]) := by
    intro αh3 Hh3 Lh3 Bh3 v1_h3 kv1_h3 v2_h3 kv2_h3 v3_h3 kv3_h3 w0_h3 ls hl hf
    unfold f_X10_meetBy_J16 at hf
    refine lv_istore (lv' := [(4, .int w0_h3), (0, .ref a0), (1, .ref v1_h3), (2, .ref v2_h3), (3, .ref v3_h3)]) hx hb dX10_meetBy_16 hl (by decide) rfl (fun ls hl => hp_n (n := 18) rfl ?_)
    refine lv_iload hx hb dX10_meetBy_18 (lv_at hl 0 rfl) (hp_n (n := 20) rfl ?_)
    have J28 : ∀ (αh4 : hp_T) (Hh4 : Heap) (Lh4 : List Loc) (Bh4 : hp_B Γ (cw w_X10_meetBy) s α αh4 Hh4 Lh4) (v1_h4 : Nat) (kv1_h4 : hp_K α v1_h4 = 8) (v2_h4 : Nat) (kv2_h4 : hp_K α v2_h4 = 8) (v3_h4 : Nat) (kv3_h4 : hp_K α v3_h4 = 3) (v4_h4 : Int32) (w0_h4 : Nat) (kw0_h4 : hp_K α w0_h4 = 8) (ls : Array Slot) (hl : lv_has ls 8 [(0, .ref a0), (1, .ref v1_h4), (2, .ref v2_h4), (3, .ref v3_h4), (4, .int v4_h4)]) (hf : f_X10_meetBy_J28 n a0 αh4 v1_h4 v2_h4 v3_h4 v4_h4 w0_h4 = some res), W p l e (hp_rm 6 0 0) s m ([.ref a0, .ref a1, .ref a2, .ref a3] : List Value).toArray below meth c Hh4 Lh4 0 0 (MQ below (hp_Qi Γ (fun r β => r = res.1 ∧ β = res.2 ∧ cw w_X10_meetBy α β)) ([.ref a0, .ref a1, .ref a2, .ref a3] : List Value).toArray s 0 0 (hp_A Γ)) (F0 m 28 ls [.ref w0_h4]) := by
      intro αh4 Hh4 Lh4 Bh4 v1_h4 kv1_h4 v2_h4 kv2_h4 v3_h4 kv3_h4 v4_h4 w0_h4 kw0_h4 ls hl hf
      unfold f_X10_meetBy_J28 at hf
      refine lv_astore (lv' := [(5, .ref w0_h4), (0, .ref a0), (1, .ref v1_h4), (2, .ref v2_h4), (3, .ref v3_h4), (4, .int v4_h4)]) hx hb dX10_meetBy_28 hl (by decide) rfl (fun ls hl => hp_n (n := 30) rfl ?_)
      refine lv_iload hx hb dX10_meetBy_30 (lv_at hl 5 rfl) (hp_n (n := 32) rfl ?_)
      have J40 : ∀ (αh5 : hp_T) (Hh5 : Heap) (Lh5 : List Loc) (Bh5 : hp_B Γ (cw w_X10_meetBy) s α αh5 Hh5 Lh5) (v3_h5 : Nat) (kv3_h5 : hp_K α v3_h5 = 3) (v5_h5 : Nat) (kv5_h5 : hp_K α v5_h5 = 8) (w0_h5 : Nat) (kw0_h5 : hp_K α w0_h5 = 8) (ls : Array Slot) (hl : lv_has ls 8 [(0, .ref a0), (3, .ref v3_h5), (5, .ref v5_h5)]) (hf : f_X10_meetBy_J40 n a0 αh5 v3_h5 v5_h5 w0_h5 = some res), W p l e (hp_rm 6 0 0) s m ([.ref a0, .ref a1, .ref a2, .ref a3] : List Value).toArray below meth c Hh5 Lh5 0 0 (MQ below (hp_Qi Γ (fun r β => r = res.1 ∧ β = res.2 ∧ cw w_X10_meetBy α β)) ([.ref a0, .ref a1, .ref a2, .ref a3] : List Value).toArray s 0 0 (hp_A Γ)) (F0 m 40 ls [.ref w0_h5]) := by
        intro αh5 Hh5 Lh5 Bh5 v3_h5 kv3_h5 v5_h5 kv5_h5 w0_h5 kw0_h5 ls hl hf
        unfold f_X10_meetBy_J40 at hf
        refine lv_astore (lv' := [(6, .ref w0_h5), (0, .ref a0), (3, .ref v3_h5), (5, .ref v5_h5)]) hx hb dX10_meetBy_40 hl (by decide) rfl (fun ls hl => hp_n (n := 42) rfl ?_)
        refine lv_aload_n hx hb dX10_meetBy_42 rfl (lv_at hl 1 rfl) (hp_n (n := 43) rfl ?_)
        refine lv_aload_n hx hb dX10_meetBy_43 rfl (lv_at hl 2 rfl) (hp_n (n := 44) rfl ?_)
        refine lv_aload hx hb dX10_meetBy_44 (lv_at hl 3 rfl) (hp_n (n := 46) rfl ?_)
        refine q_geti (κ := 8) (k := 0) (φ := 400) (pc' := 49) C Bh5 (cw_k Bh5.2.2 kv5_h5) fl_X10_163 rfl rfl rfl dX10_meetBy_46 rfl (fun x6 ex6 => ?_)
        replace hf := ms_lE ex6 hf
        refine lv_aload hx hb dX10_meetBy_49 (lv_at hl 3 rfl) (hp_n (n := 51) rfl ?_)
        refine q_geti (κ := 8) (k := 1) (φ := 401) (pc' := 54) C Bh5 (cw_k Bh5.2.2 kv5_h5) fl_X10_164 rfl rfl rfl dX10_meetBy_51 rfl (fun x7 ex7 => ?_)
        replace hf := ms_lE ex7 hf
        refine lv_aload hx hb dX10_meetBy_54 (lv_at hl 0 rfl) (hp_n (n := 56) rfl ?_)
        refine q_geti (κ := 8) (k := 0) (φ := 400) (pc' := 59) C Bh5 (cw_k Bh5.2.2 kw0_h5) fl_X10_163 rfl rfl rfl dX10_meetBy_56 rfl (fun x8 ex8 => ?_)
        replace hf := ms_lE ex8 hf
        refine lv_aload hx hb dX10_meetBy_59 (lv_at hl 0 rfl) (hp_n (n := 61) rfl ?_)
        refine q_geti (κ := 8) (k := 1) (φ := 401) (pc' := 64) C Bh5 (cw_k Bh5.2.2 kw0_h5) fl_X10_164 rfl rfl rfl dX10_meetBy_61 rfl (fun x9 ex9 => ?_)
        replace hf := ms_lE ex9 hf
        obtain ⟨rh10, αh10, qh10, hf⟩ := hq_cE hf
        refine d_ci (pc' := 67) Bh5 (hp_runV (As := [va_rf (some v3_h5), .int x6, .int x7, .int x8, .int x9]) (rest := []) C Bh5 (n_X10_whyGrown n Γ l αh5 Bh5.2.2.1 a0 (cw_k Bh5.2.2 k0) (some v3_h5) (fun b h => by cases h; exact (cw_k Bh5.2.2 kv3_h5)) x6 x7 x8 x9 (rh10, αh10) qh10) lb_X10_whyGrown lv_X10_whyGrown lk_X10_167 (cw_k Bh5.2.2 k0) rfl (by decide) rfl hl.1 rfl (Nat.le_of_ble_eq_true rfl) dX10_meetBy_64 ⟨Nat.le_refl _, Nat.le_refl _⟩) (by decide) rfl (fun Hh10 Lh10 Bh10 => ?_)
        refine lv_istore (lv' := [(7, .int rh10), (6, .ref w0_h5), (0, .ref a0), (3, .ref v3_h5), (5, .ref v5_h5)]) hx hb dX10_meetBy_67 hl (by decide) rfl (fun ls hl => hp_n (n := 69) rfl ?_)
        refine lv_iload hx hb dX10_meetBy_69 (lv_at hl 0 rfl) (hp_n (n := 71) rfl ?_)
        have J89 : ∀ (αh11 : hp_T) (Hh11 : Heap) (Lh11 : List Loc) (Bh11 : hp_B Γ (cw w_X10_meetBy) s α αh11 Hh11 Lh11) (v5_h11 : Nat) (kv5_h11 : hp_K α v5_h11 = 8) (v6_h11 : Nat) (kv6_h11 : hp_K α v6_h11 = 8) (v7_h11 : Int32) (ls : Array Slot) (hl : lv_has ls 8 [(0, .ref a0), (5, .ref v5_h11), (6, .ref v6_h11), (7, .int v7_h11)]) (hf : f_X10_meetBy_J89 n a0 αh11 v5_h11 v6_h11 v7_h11 = some res), W p l e (hp_rm 6 0 0) s m ([.ref a0, .ref a1, .ref a2, .ref a3] : List Value).toArray below meth c Hh11 Lh11 0 0 (MQ below (hp_Qi Γ (fun r β => r = res.1 ∧ β = res.2 ∧ cw w_X10_meetBy α β)) ([.ref a0, .ref a1, .ref a2, .ref a3] : List Value).toArray s 0 0 (hp_A Γ)) (F0 m 89 ls []) := by
          intro αh11 Hh11 Lh11 Bh11 v5_h11 kv5_h11 v6_h11 kv6_h11 v7_h11 ls hl hf
          unfold f_X10_meetBy_J89 at hf
          refine lv_aload hx hb dX10_meetBy_89 (lv_at hl 1 rfl) (hp_n (n := 91) rfl ?_)
          refine lv_iload hx hb dX10_meetBy_91 (lv_at hl 3 rfl) (hp_n (n := 93) rfl ?_)
          obtain ⟨αh12, qh12, hf⟩ := ms_bE hf
          refine d_cv (pc' := 96) Bh11 (hp_runV (As := [.int v7_h11]) (rest := []) C Bh11 (n_X7_hearWhy n Γ l αh11 Bh11.2.2.1 v5_h11 (cw_k Bh11.2.2 kv5_h11) v7_h11 αh12 qh12) lb_X7_hearWhy lv_X7_hearWhy lk_X10_174 (cw_k Bh11.2.2 kv5_h11) rfl (by decide) rfl hl.1 rfl (Nat.le_of_ble_eq_true rfl) dX10_meetBy_93 ⟨Nat.le_refl _, Nat.le_refl _⟩) (by decide) rfl (fun Hh12 Lh12 Bh12 => ?_)
          refine lv_aload hx hb dX10_meetBy_96 (lv_at hl 2 rfl) (hp_n (n := 98) rfl ?_)
          refine lv_iload hx hb dX10_meetBy_98 (lv_at hl 3 rfl) (hp_n (n := 100) rfl ?_)
          obtain ⟨αh13, qh13, hf⟩ := ms_bE hf
          refine d_cv (pc' := 103) Bh12 (hp_runV (As := [.int v7_h11]) (rest := []) C Bh12 (n_X7_hearWhy n Γ l αh12 Bh12.2.2.1 v6_h11 (cw_k Bh12.2.2 kv6_h11) v7_h11 αh13 qh13) lb_X7_hearWhy lv_X7_hearWhy lk_X10_174 (cw_k Bh12.2.2 kv6_h11) rfl (by decide) rfl hl.1 rfl (Nat.le_of_ble_eq_true rfl) dX10_meetBy_100 ⟨Nat.le_refl _, Nat.le_refl _⟩) (by decide) rfl (fun Hh13 Lh13 Bh13 => ?_)
          refine lv_aload_n hx hb dX10_meetBy_103 rfl (lv_at hl 0 rfl) (hp_n (n := 104) rfl ?_)
          refine lv_dup hx hb dX10_meetBy_104 rfl (hp_n (n := 105) rfl ?_)
          refine q_geti (κ := 11) (k := 6) (φ := 556) (pc' := 108) C Bh13 (cw_k Bh13.2.2 k0) fl_X10_40 rfl rfl rfl dX10_meetBy_105 rfl (fun x14 ex14 => ?_)
          replace hf := ms_lE ex14 hf
          refine lv_iconst (v := 1) hx hb dX10_meetBy_108 (by decide) (hp_n (n := 109) rfl ?_)
          refine lv_iadd hx hb dX10_meetBy_109 (hp_n (n := 110) rfl ?_)
          refine q_puti (κ := 11) (k := 6) (φ := 556) (pc' := 113) C Bh13 (cw_k Bh13.2.2 k0) fl_X10_40 rfl rfl rfl rfl rfl rfl (cw_sI Bh13.2.2 (by decide) (fun h => absurd h (by decide))) dX10_meetBy_110 rfl (fun αh15 Hh15 Lh15 eh15 Bh15 => ?_)
          replace hf := ms_lE eh15 hf
          refine lv_iload hx hb dX10_meetBy_113 (lv_at hl 3 rfl) (hp_n (n := 115) rfl ?_)
          cases hf
          exact q_iret C Bh15 hr hlk ⟨rfl, rfl, Bh15.2.2⟩ dX10_meetBy_115
        refine lv_if_ne (tgt := 89) hx hb dX10_meetBy_71 (by decide) (fun c16 => ?_) (fun c16 => hp_n (n := 74) rfl ?_)
        ·
          replace hf := ms_iF c16 hf
          exact J89 αh10 Hh10 Lh10 Bh10 v5_h5 kv5_h5 w0_h5 kw0_h5 rh10 ls (lv_sub hl [2, 4, 1, 0] rfl) hf
        ·
          replace hf := ms_iT c16 hf
          refine lv_aload hx hb dX10_meetBy_74 (lv_at hl 4 rfl) (hp_n (n := 76) rfl ?_)
          refine lv_aload hx hb dX10_meetBy_76 (lv_at hl 1 rfl) (hp_n (n := 78) rfl ?_)
          refine q_geti (κ := 8) (k := 0) (φ := 400) (pc' := 81) C Bh10 (cw_k Bh10.2.2 kw0_h5) fl_X10_163 rfl rfl rfl dX10_meetBy_78 rfl (fun x17 ex17 => ?_)
          replace hf := ms_lE ex17 hf
          refine lv_aload hx hb dX10_meetBy_81 (lv_at hl 1 rfl) (hp_n (n := 83) rfl ?_)
          refine q_geti (κ := 8) (k := 1) (φ := 401) (pc' := 86) C Bh10 (cw_k Bh10.2.2 kw0_h5) fl_X10_164 rfl rfl rfl dX10_meetBy_83 rfl (fun x18 ex18 => ?_)
          replace hf := ms_lE ex18 hf
          obtain ⟨αh19, qh19, hf⟩ := ms_bE hf
          refine d_cv (pc' := 89) Bh10 (hp_runV (As := [.int x17, .int x18]) (rest := []) C Bh10 (n_X7_trust n Γ l αh10 Bh10.2.2.1 v5_h5 (cw_k Bh10.2.2 kv5_h5) x17 x18 αh19 qh19) lb_X7_trust lv_X7_trust lk_X10_171 (cw_k Bh10.2.2 kv5_h5) rfl (by decide) rfl hl.1 rfl (Nat.le_of_ble_eq_true rfl) dX10_meetBy_86 ⟨Nat.le_refl _, Nat.le_refl _⟩) (by decide) rfl (fun Hh19 Lh19 Bh19 => ?_)
          exact J89 αh19 Hh19 Lh19 Bh19 v5_h5 kv5_h5 w0_h5 kw0_h5 rh10 ls (lv_sub hl [2, 4, 1, 0] rfl) hf
      refine lv_if_eq (tgt := 39) hx hb dX10_meetBy_32 (by decide) (fun c20 => ?_) (fun c20 => hp_n (n := 35) rfl ?_)
      ·
        replace hf := ms_iT c20 hf
        refine lv_aload_n hx hb dX10_meetBy_39 rfl (lv_at hl 2 rfl) (hp_n (n := 40) rfl ?_)
        exact J40 αh4 Hh4 Lh4 Bh4 v3_h4 kv3_h4 w0_h4 kw0_h4 v1_h4 kv1_h4 ls (lv_sub hl [1, 4, 0] rfl) hf
      ·
        replace hf := ms_iF c20 hf
        refine lv_aload_n hx hb dX10_meetBy_35 rfl (lv_at hl 3 rfl) (hp_n (n := 36) rfl ?_)
        refine lv_goto (tgt := 40) hx hb dX10_meetBy_36 (by decide) ?_
        exact J40 αh4 Hh4 Lh4 Bh4 v3_h4 kv3_h4 w0_h4 kw0_h4 v2_h4 kv2_h4 ls (lv_sub hl [1, 4, 0] rfl) hf
    refine lv_if_eq (tgt := 27) hx hb dX10_meetBy_20 (by decide) (fun c21 => ?_) (fun c21 => hp_n (n := 23) rfl ?_)
    ·
      replace hf := ms_iT c21 hf
      refine lv_aload_n hx hb dX10_meetBy_27 rfl (lv_at hl 3 rfl) (hp_n (n := 28) rfl ?_)
      exact J28 αh3 Hh3 Lh3 Bh3 v1_h3 kv1_h3 v2_h3 kv2_h3 v3_h3 kv3_h3 w0_h3 v2_h3 kv2_h3 ls (lv_sub hl [1, 2, 3, 4, 0] rfl) hf
    ·
      replace hf := ms_iF c21 hf
      refine lv_aload_n hx hb dX10_meetBy_23 rfl (lv_at hl 2 rfl) (hp_n (n := 24) rfl ?_)
      refine lv_goto (tgt := 28) hx hb dX10_meetBy_24 (by decide) ?_
      exact J28 αh3 Hh3 Lh3 Bh3 v1_h3 kv1_h3 v2_h3 kv2_h3 v3_h3 kv3_h3 w0_h3 v1_h3 kv1_h3 ls (lv_sub hl [1, 2, 3, 4, 0] rfl) hf
  refine lv_icmp_gt (tgt := 15) hx hb dX10_meetBy_8 (by decide) (fun c22 => ?_) (fun c22 => hp_n (n := 11) rfl ?_)
  ·
    replace hf := ms_iT c22 hf
    refine lv_iconst (v := 0) hx hb dX10_meetBy_15 (by decide) (hp_n (n := 16) rfl ?_)
    exact J16 α s.heap [] B a1 k1 a2 k2 a3 k3 (0 : Int32) ls (lv_sub hl [0, 1, 2, 3] rfl) hf
  ·
    replace hf := ms_iF c22 hf
    refine lv_iconst (v := 1) hx hb dX10_meetBy_11 (by decide) (hp_n (n := 12) rfl ?_)
    refine lv_goto (tgt := 16) hx hb dX10_meetBy_12 (by decide) ?_
    exact J16 α s.heap [] B a1 k1 a2 k2 a3 k3 (1 : Int32) ls (lv_sub hl [0, 1, 2, 3] rfl) hf
def f_X10_renew_J57 (n : Nat) (a0 : Nat) (rec38 : hp_T → Int32 → Option hp_T) (αh10 : hp_T) (v2_h10 : Int32) : Option hp_T :=
  ms_l (v2_h10 + 1) fun x11 =>
  rec38 αh10 x11
def f_X10_renew_L38 (n : Nat) (a0 : Nat) : Nat → hp_T → Int32 → Option hp_T
  | 0, _, _ => none
  | k38 + 1, αh7, v2_h7 =>
    if (4 : Int32) ≤ v2_h7 then
      some αh7
    else
      ms_b (f_X10_watcherAt n αh7 a0 v2_h7) fun rh9 =>
      hq_m rh9 (
        f_X10_renew_J57 n a0 (f_X10_renew_L38 n a0 k38) αh7 v2_h7) fun bh9 =>
      ms_b (f_X7_renew n αh7 bh9) fun αh14 =>
      f_X10_renew_J57 n a0 (f_X10_renew_L38 n a0 k38) αh14 v2_h7
def f_X10_renew_J26 (n : Nat) (a0 : Nat) (αh4 : hp_T) : Option hp_T :=
  ms_l (hp_sI αh4 554 a0 (0 : Int32)) fun αh5 =>
  ms_l (hp_sI αh5 556 a0 (0 : Int32)) fun αh6 =>
  f_X10_renew_L38 n a0 n αh6 (0 : Int32)
def f_X10_renew (n : Nat) (α : hp_T) (a0 : Nat) : Option hp_T :=
  ms_l (hp_sI α 550 a0 (65521 : Int32)) fun αh1 =>
  ms_l (hp_sI αh1 552 a0 (1 : Int32)) fun αh2 =>
  ms_b (f_X10_logAt n αh2 a0 (0 : Int32)) fun rh3 =>
  hq_m rh3 (
    f_X10_renew_J26 n a0 αh2) fun bh3 =>
  ms_l (hp_sI αh2 152 bh3 (0 : Int32)) fun αh26 =>
  f_X10_renew_J26 n a0 αh26
set_option maxRecDepth 100000 in
set_option maxHeartbeats 4000000 in
theorem n_X10_renew (n : Nat) (Γ : hp_G) (l : Launch) (α : hp_T) (g : GC α) (a0 : Nat) (k0 : hp_K α a0 = 11) (res : hp_T) (hf : f_X10_renew n α a0 = some res) : Met l yX10_renew (hp_ws yX10_renew cX10_renew 4 none) (hp_rm 2 0 0) (hp_Pc Γ α [.ref a0]) (hp_Qv Γ (fun β => β = res ∧ cw w_X10_renew α β)) 0 0 (hp_A Γ) := by
  unfold f_X10_renew at hf
  refine hp_start (by decide) ?_
  intro p e s m below meth c C hr hlk B0 hnm
  have C : hp_C Γ p m c cX10_renew 4 s ([.ref a0] : List Value).toArray RX10 := C
  have hx := C.1.1
  have hb := C.1.2.1
  have hown := C.1.2.2.2.1
  have hts := C.1.2.2.2.2
  have B : hp_B Γ (cw w_X10_renew) s α α s.heap [] := ⟨B0.1, B0.2.1, cw_rf g⟩
  have hl := lv_entry ([.ref a0]) (n := 4) (Nat.le_of_ble_eq_true rfl)
  show W p l e (hp_rm 2 0 0) s m ([.ref a0] : List Value).toArray below meth c s.heap [] 0 0 (MQ below (hp_Qv Γ (fun β => β = res ∧ cw w_X10_renew α β)) ([.ref a0] : List Value).toArray s 0 0 (hp_A Γ)) (entryFrame m ([.ref a0] : List Value).toArray 4)
  rw [lg_entry_eq]
  generalize (lg_sl ([.ref a0]) ++ List.replicate (4 - (lg_sl ([.ref a0])).length) Slot.unset).toArray = ls at hl ⊢
  have hl : lv_has ls 4 [(0, .ref a0)] := hl
  refine lv_aload_n hx hb dX10_renew_0 rfl (lv_at hl 0 rfl) (hp_n (n := 1) rfl ?_)
  refine lv_ldc hx hb hown (hts _ kc_X10_9) dX10_renew_1 (hp_n (n := 3) rfl ?_)
  refine q_puti (κ := 11) (k := 0) (φ := 550) (pc' := 6) C B (cw_k B.2.2 k0) fl_X10_10 rfl rfl rfl rfl rfl rfl (cw_sI B.2.2 (by decide) (fun h => absurd h (by decide))) dX10_renew_3 rfl (fun αh1 Hh1 Lh1 eh1 Bh1 => ?_)
  replace hf := ms_lE eh1 hf
  refine lv_aload_n hx hb dX10_renew_6 rfl (lv_at hl 0 rfl) (hp_n (n := 7) rfl ?_)
  refine lv_iconst (v := 1) hx hb dX10_renew_7 (by decide) (hp_n (n := 8) rfl ?_)
  refine q_puti (κ := 11) (k := 2) (φ := 552) (pc' := 11) C Bh1 (cw_k Bh1.2.2 k0) fl_X10_22 rfl rfl rfl rfl rfl rfl (cw_sI Bh1.2.2 (by decide) (fun h => absurd h (by decide))) dX10_renew_8 rfl (fun αh2 Hh2 Lh2 eh2 Bh2 => ?_)
  replace hf := ms_lE eh2 hf
  refine lv_aload_n hx hb dX10_renew_11 rfl (lv_at hl 0 rfl) (hp_n (n := 12) rfl ?_)
  refine lv_iconst (v := 0) hx hb dX10_renew_12 (by decide) (hp_n (n := 13) rfl ?_)
  obtain ⟨rh3, qh3, hf⟩ := ms_bE hf
  refine d_pq (pc' := 16) Bh2 (hp_runV (As := [.int (0 : Int32)]) (rest := []) C Bh2 (n_X10_logAt n Γ l αh2 Bh2.2.2.1 a0 (cw_k Bh2.2.2 k0) (0 : Int32) rh3 qh3) lb_X10_logAt lv_X10_logAt lk_X10_64 (cw_k Bh2.2.2 k0) rfl (by decide) rfl hl.1 rfl (Nat.le_of_ble_eq_true rfl) dX10_renew_13 ⟨Nat.le_refl _, Nat.le_refl _⟩) rfl (fun Hh3 Lh3 Bh3 kh3 => ?_)
  rcases rh3 with _ | bh3
  ·
    replace hf := hq_N hf
    refine lv_astore_nN (lv' := [(1, .null), (0, .ref a0)]) hx hb dX10_renew_16 rfl hl (by decide) rfl (fun ls hl => hp_n (n := 17) rfl ?_)
    refine lv_aload_nN hx hb dX10_renew_17 rfl (lv_at hl 0 rfl) (hp_n (n := 18) rfl ?_)
    have J26 : ∀ (αh4 : hp_T) (Hh4 : Heap) (Lh4 : List Loc) (Bh4 : hp_B Γ (cw w_X10_renew) s α αh4 Hh4 Lh4) (ls : Array Slot) (hl : lv_has ls 4 [(0, .ref a0)]) (hf : f_X10_renew_J26 n a0 αh4 = some res), W p l e (hp_rm 2 0 0) s m ([.ref a0] : List Value).toArray below meth c Hh4 Lh4 0 0 (MQ below (hp_Qv Γ (fun β => β = res ∧ cw w_X10_renew α β)) ([.ref a0] : List Value).toArray s 0 0 (hp_A Γ)) (F0 m 26 ls []) := by
      intro αh4 Hh4 Lh4 Bh4 ls hl hf
      unfold f_X10_renew_J26 at hf
      refine lv_aload_n hx hb dX10_renew_26 rfl (lv_at hl 0 rfl) (hp_n (n := 27) rfl ?_)
      refine lv_iconst (v := 0) hx hb dX10_renew_27 (by decide) (hp_n (n := 28) rfl ?_)
      refine q_puti (κ := 11) (k := 4) (φ := 554) (pc' := 31) C Bh4 (cw_k Bh4.2.2 k0) fl_X10_31 rfl rfl rfl rfl rfl rfl (cw_sI Bh4.2.2 (by decide) (fun h => absurd h (by decide))) dX10_renew_28 rfl (fun αh5 Hh5 Lh5 eh5 Bh5 => ?_)
      replace hf := ms_lE eh5 hf
      refine lv_aload_n hx hb dX10_renew_31 rfl (lv_at hl 0 rfl) (hp_n (n := 32) rfl ?_)
      refine lv_iconst (v := 0) hx hb dX10_renew_32 (by decide) (hp_n (n := 33) rfl ?_)
      refine q_puti (κ := 11) (k := 6) (φ := 556) (pc' := 36) C Bh5 (cw_k Bh5.2.2 k0) fl_X10_40 rfl rfl rfl rfl rfl rfl (cw_sI Bh5.2.2 (by decide) (fun h => absurd h (by decide))) dX10_renew_33 rfl (fun αh6 Hh6 Lh6 eh6 Bh6 => ?_)
      replace hf := ms_lE eh6 hf
      refine lv_iconst (v := 0) hx hb dX10_renew_36 (by decide) (hp_n (n := 37) rfl ?_)
      have J38 : ∀ (k38 : Nat) (αh7 : hp_T) (Hh7 : Heap) (Lh7 : List Loc) (Bh7 : hp_B Γ (cw w_X10_renew) s α αh7 Hh7 Lh7) (v2_h7 : Int32) (ls : Array Slot) (hl : lv_has ls 4 [(0, .ref a0), (2, .int v2_h7)]) (hf : f_X10_renew_L38 n a0 k38 αh7 v2_h7 = some res), W p l e (hp_rm 2 0 0) s m ([.ref a0] : List Value).toArray below meth c Hh7 Lh7 0 0 (MQ below (hp_Qv Γ (fun β => β = res ∧ cw w_X10_renew α β)) ([.ref a0] : List Value).toArray s 0 0 (hp_A Γ)) (F0 m 38 ls []) := by
        intro k38
        induction k38 with
        | zero => intro αh7 Hh7 Lh7 Bh7 v2_h7 ls hl hf; rw [f_X10_renew_L38.eq_1] at hf; cases hf
        | succ k38 ih38 =>
          intro αh7 Hh7 Lh7 Bh7 v2_h7 ls hl hf
          rw [f_X10_renew_L38.eq_2] at hf
          refine lv_iload_n hx hb dX10_renew_38 rfl (lv_at hl 1 rfl) (hp_n (n := 39) rfl ?_)
          refine lv_iconst (v := 4) hx hb dX10_renew_39 (by decide) (hp_n (n := 40) rfl ?_)
          refine lv_icmp_ge (tgt := 63) hx hb dX10_renew_40 (by decide) (fun c8 => ?_) (fun c8 => hp_n (n := 43) rfl ?_)
          ·
            replace hf := ms_iT c8 hf
            cases hf
            exact q_vret C Bh7 hr hlk ⟨rfl, Bh7.2.2⟩ dX10_renew_63
          ·
            replace hf := ms_iF c8 hf
            refine lv_aload_n hx hb dX10_renew_43 rfl (lv_at hl 0 rfl) (hp_n (n := 44) rfl ?_)
            refine lv_iload_n hx hb dX10_renew_44 rfl (lv_at hl 1 rfl) (hp_n (n := 45) rfl ?_)
            obtain ⟨rh9, qh9, hf⟩ := ms_bE hf
            refine d_pq (pc' := 48) Bh7 (hp_runV (As := [.int v2_h7]) (rest := []) C Bh7 (n_X10_watcherAt n Γ l αh7 Bh7.2.2.1 a0 (cw_k Bh7.2.2 k0) v2_h7 rh9 qh9) lb_X10_watcherAt lv_X10_watcherAt lk_X10_71 (cw_k Bh7.2.2 k0) rfl (by decide) rfl hl.1 rfl (Nat.le_of_ble_eq_true rfl) dX10_renew_45 ⟨Nat.le_refl _, Nat.le_refl _⟩) rfl (fun Hh9 Lh9 Bh9 kh9 => ?_)
            rcases rh9 with _ | bh9
            ·
              replace hf := hq_N hf
              refine lv_astore_nN (lv' := [(3, .null), (0, .ref a0), (2, .int v2_h7)]) hx hb dX10_renew_48 rfl hl (by decide) rfl (fun ls hl => hp_n (n := 49) rfl ?_)
              refine lv_aload_nN hx hb dX10_renew_49 rfl (lv_at hl 0 rfl) (hp_n (n := 50) rfl ?_)
              have J57 : ∀ (αh10 : hp_T) (Hh10 : Heap) (Lh10 : List Loc) (Bh10 : hp_B Γ (cw w_X10_renew) s α αh10 Hh10 Lh10) (v2_h10 : Int32) (ls : Array Slot) (hl : lv_has ls 4 [(0, .ref a0), (2, .int v2_h10)]) (hf : f_X10_renew_J57 n a0 (f_X10_renew_L38 n a0 k38) αh10 v2_h10 = some res), W p l e (hp_rm 2 0 0) s m ([.ref a0] : List Value).toArray below meth c Hh10 Lh10 0 0 (MQ below (hp_Qv Γ (fun β => β = res ∧ cw w_X10_renew α β)) ([.ref a0] : List Value).toArray s 0 0 (hp_A Γ)) (F0 m 57 ls []) := by
                intro αh10 Hh10 Lh10 Bh10 v2_h10 ls hl hf
                unfold f_X10_renew_J57 at hf
                obtain ⟨x11, ex11⟩ : ∃ y : Int32, y = v2_h10 + 1 := ⟨_, rfl⟩
                replace hf := ms_lE ex11 hf
                refine lv_iinc (v := x11) (lv' := [(2, .int x11), (0, .ref a0)]) hx hb dX10_renew_57 hl (k := 1) rfl (by rw [ex11]; rfl) (by decide) rfl (fun ls hl => hp_n (n := 60) rfl ?_)
                refine lv_goto (tgt := 38) hx hb dX10_renew_60 (by decide) ?_
                exact ih38 αh10 Hh10 Lh10 Bh10 x11 ls (lv_sub hl [1, 0] rfl) hf
              refine lv_ifnullN (tgt := 57) hx hb dX10_renew_50 (by decide) ?_
              exact J57 αh7 Hh9 Lh9 Bh9 v2_h7 ls (lv_sub hl [1, 2] rfl) hf
            ·
              replace hf := hq_S hf
              have kbh9 := kh9 bh9 rfl
              refine lv_astore_n (lv' := [(3, .ref bh9), (0, .ref a0), (2, .int v2_h7)]) hx hb dX10_renew_48 rfl hl (by decide) rfl (fun ls hl => hp_n (n := 49) rfl ?_)
              refine lv_aload_n hx hb dX10_renew_49 rfl (lv_at hl 0 rfl) (hp_n (n := 50) rfl ?_)
              have J57 : ∀ (αh12 : hp_T) (Hh12 : Heap) (Lh12 : List Loc) (Bh12 : hp_B Γ (cw w_X10_renew) s α αh12 Hh12 Lh12) (v2_h12 : Int32) (ls : Array Slot) (hl : lv_has ls 4 [(0, .ref a0), (2, .int v2_h12)]) (hf : f_X10_renew_J57 n a0 (f_X10_renew_L38 n a0 k38) αh12 v2_h12 = some res), W p l e (hp_rm 2 0 0) s m ([.ref a0] : List Value).toArray below meth c Hh12 Lh12 0 0 (MQ below (hp_Qv Γ (fun β => β = res ∧ cw w_X10_renew α β)) ([.ref a0] : List Value).toArray s 0 0 (hp_A Γ)) (F0 m 57 ls []) := by
                intro αh12 Hh12 Lh12 Bh12 v2_h12 ls hl hf
                unfold f_X10_renew_J57 at hf
                obtain ⟨x13, ex13⟩ : ∃ y : Int32, y = v2_h12 + 1 := ⟨_, rfl⟩
                replace hf := ms_lE ex13 hf
                refine lv_iinc (v := x13) (lv' := [(2, .int x13), (0, .ref a0)]) hx hb dX10_renew_57 hl (k := 1) rfl (by rw [ex13]; rfl) (by decide) rfl (fun ls hl => hp_n (n := 60) rfl ?_)
                refine lv_goto (tgt := 38) hx hb dX10_renew_60 (by decide) ?_
                exact ih38 αh12 Hh12 Lh12 Bh12 x13 ls (lv_sub hl [1, 0] rfl) hf
              refine lv_ifnull hx hb dX10_renew_50 (hp_n (n := 53) rfl ?_)
              refine lv_aload_n hx hb dX10_renew_53 rfl (lv_at hl 0 rfl) (hp_n (n := 54) rfl ?_)
              obtain ⟨αh14, qh14, hf⟩ := ms_bE hf
              refine d_cv (pc' := 57) Bh9 (hp_runV (As := []) (rest := []) C Bh9 (n_X7_renew n Γ l αh7 Bh9.2.2.1 bh9 (cw_k Bh9.2.2 kbh9) αh14 qh14) lb_X7_renew lv_X7_renew lk_X10_75 (cw_k Bh9.2.2 kbh9) rfl (by decide) rfl hl.1 rfl (Nat.le_of_ble_eq_true rfl) dX10_renew_54 ⟨Nat.le_refl _, Nat.le_refl _⟩) (by decide) rfl (fun Hh14 Lh14 Bh14 => ?_)
              exact J57 αh14 Hh14 Lh14 Bh14 v2_h7 ls (lv_sub hl [1, 2] rfl) hf
      refine lv_istore_n (lv' := [(2, .int (0 : Int32)), (0, .ref a0)]) hx hb dX10_renew_37 rfl hl (by decide) rfl (fun ls hl => hp_n (n := 38) rfl ?_)
      exact J38 n αh6 Hh6 Lh6 Bh6 (0 : Int32) ls (lv_sub hl [1, 0] rfl) hf
    refine lv_ifnullN (tgt := 26) hx hb dX10_renew_18 (by decide) ?_
    exact J26 αh2 Hh3 Lh3 Bh3 ls (lv_sub hl [1] rfl) hf
  ·
    replace hf := hq_S hf
    have kbh3 := kh3 bh3 rfl
    refine lv_astore_n (lv' := [(1, .ref bh3), (0, .ref a0)]) hx hb dX10_renew_16 rfl hl (by decide) rfl (fun ls hl => hp_n (n := 17) rfl ?_)
    refine lv_aload_n hx hb dX10_renew_17 rfl (lv_at hl 0 rfl) (hp_n (n := 18) rfl ?_)
    have J26 : ∀ (αh15 : hp_T) (Hh15 : Heap) (Lh15 : List Loc) (Bh15 : hp_B Γ (cw w_X10_renew) s α αh15 Hh15 Lh15) (ls : Array Slot) (hl : lv_has ls 4 [(0, .ref a0)]) (hf : f_X10_renew_J26 n a0 αh15 = some res), W p l e (hp_rm 2 0 0) s m ([.ref a0] : List Value).toArray below meth c Hh15 Lh15 0 0 (MQ below (hp_Qv Γ (fun β => β = res ∧ cw w_X10_renew α β)) ([.ref a0] : List Value).toArray s 0 0 (hp_A Γ)) (F0 m 26 ls []) := by
      intro αh15 Hh15 Lh15 Bh15 ls hl hf
      unfold f_X10_renew_J26 at hf
      refine lv_aload_n hx hb dX10_renew_26 rfl (lv_at hl 0 rfl) (hp_n (n := 27) rfl ?_)
      refine lv_iconst (v := 0) hx hb dX10_renew_27 (by decide) (hp_n (n := 28) rfl ?_)
      refine q_puti (κ := 11) (k := 4) (φ := 554) (pc' := 31) C Bh15 (cw_k Bh15.2.2 k0) fl_X10_31 rfl rfl rfl rfl rfl rfl (cw_sI Bh15.2.2 (by decide) (fun h => absurd h (by decide))) dX10_renew_28 rfl (fun αh16 Hh16 Lh16 eh16 Bh16 => ?_)
      replace hf := ms_lE eh16 hf
      refine lv_aload_n hx hb dX10_renew_31 rfl (lv_at hl 0 rfl) (hp_n (n := 32) rfl ?_)
      refine lv_iconst (v := 0) hx hb dX10_renew_32 (by decide) (hp_n (n := 33) rfl ?_)
      refine q_puti (κ := 11) (k := 6) (φ := 556) (pc' := 36) C Bh16 (cw_k Bh16.2.2 k0) fl_X10_40 rfl rfl rfl rfl rfl rfl (cw_sI Bh16.2.2 (by decide) (fun h => absurd h (by decide))) dX10_renew_33 rfl (fun αh17 Hh17 Lh17 eh17 Bh17 => ?_)
      replace hf := ms_lE eh17 hf
      refine lv_iconst (v := 0) hx hb dX10_renew_36 (by decide) (hp_n (n := 37) rfl ?_)
      have J38 : ∀ (k38 : Nat) (αh18 : hp_T) (Hh18 : Heap) (Lh18 : List Loc) (Bh18 : hp_B Γ (cw w_X10_renew) s α αh18 Hh18 Lh18) (v2_h18 : Int32) (ls : Array Slot) (hl : lv_has ls 4 [(0, .ref a0), (2, .int v2_h18)]) (hf : f_X10_renew_L38 n a0 k38 αh18 v2_h18 = some res), W p l e (hp_rm 2 0 0) s m ([.ref a0] : List Value).toArray below meth c Hh18 Lh18 0 0 (MQ below (hp_Qv Γ (fun β => β = res ∧ cw w_X10_renew α β)) ([.ref a0] : List Value).toArray s 0 0 (hp_A Γ)) (F0 m 38 ls []) := by
        intro k38
        induction k38 with
        | zero => intro αh18 Hh18 Lh18 Bh18 v2_h18 ls hl hf; rw [f_X10_renew_L38.eq_1] at hf; cases hf
        | succ k38 ih38 =>
          intro αh18 Hh18 Lh18 Bh18 v2_h18 ls hl hf
          rw [f_X10_renew_L38.eq_2] at hf
          refine lv_iload_n hx hb dX10_renew_38 rfl (lv_at hl 1 rfl) (hp_n (n := 39) rfl ?_)
          refine lv_iconst (v := 4) hx hb dX10_renew_39 (by decide) (hp_n (n := 40) rfl ?_)
          refine lv_icmp_ge (tgt := 63) hx hb dX10_renew_40 (by decide) (fun c19 => ?_) (fun c19 => hp_n (n := 43) rfl ?_)
          ·
            replace hf := ms_iT c19 hf
            cases hf
            exact q_vret C Bh18 hr hlk ⟨rfl, Bh18.2.2⟩ dX10_renew_63
          ·
            replace hf := ms_iF c19 hf
            refine lv_aload_n hx hb dX10_renew_43 rfl (lv_at hl 0 rfl) (hp_n (n := 44) rfl ?_)
            refine lv_iload_n hx hb dX10_renew_44 rfl (lv_at hl 1 rfl) (hp_n (n := 45) rfl ?_)
            obtain ⟨rh20, qh20, hf⟩ := ms_bE hf
            refine d_pq (pc' := 48) Bh18 (hp_runV (As := [.int v2_h18]) (rest := []) C Bh18 (n_X10_watcherAt n Γ l αh18 Bh18.2.2.1 a0 (cw_k Bh18.2.2 k0) v2_h18 rh20 qh20) lb_X10_watcherAt lv_X10_watcherAt lk_X10_71 (cw_k Bh18.2.2 k0) rfl (by decide) rfl hl.1 rfl (Nat.le_of_ble_eq_true rfl) dX10_renew_45 ⟨Nat.le_refl _, Nat.le_refl _⟩) rfl (fun Hh20 Lh20 Bh20 kh20 => ?_)
            rcases rh20 with _ | bh20
            ·
              replace hf := hq_N hf
              refine lv_astore_nN (lv' := [(3, .null), (0, .ref a0), (2, .int v2_h18)]) hx hb dX10_renew_48 rfl hl (by decide) rfl (fun ls hl => hp_n (n := 49) rfl ?_)
              refine lv_aload_nN hx hb dX10_renew_49 rfl (lv_at hl 0 rfl) (hp_n (n := 50) rfl ?_)
              have J57 : ∀ (αh21 : hp_T) (Hh21 : Heap) (Lh21 : List Loc) (Bh21 : hp_B Γ (cw w_X10_renew) s α αh21 Hh21 Lh21) (v2_h21 : Int32) (ls : Array Slot) (hl : lv_has ls 4 [(0, .ref a0), (2, .int v2_h21)]) (hf : f_X10_renew_J57 n a0 (f_X10_renew_L38 n a0 k38) αh21 v2_h21 = some res), W p l e (hp_rm 2 0 0) s m ([.ref a0] : List Value).toArray below meth c Hh21 Lh21 0 0 (MQ below (hp_Qv Γ (fun β => β = res ∧ cw w_X10_renew α β)) ([.ref a0] : List Value).toArray s 0 0 (hp_A Γ)) (F0 m 57 ls []) := by
                intro αh21 Hh21 Lh21 Bh21 v2_h21 ls hl hf
                unfold f_X10_renew_J57 at hf
                obtain ⟨x22, ex22⟩ : ∃ y : Int32, y = v2_h21 + 1 := ⟨_, rfl⟩
                replace hf := ms_lE ex22 hf
                refine lv_iinc (v := x22) (lv' := [(2, .int x22), (0, .ref a0)]) hx hb dX10_renew_57 hl (k := 1) rfl (by rw [ex22]; rfl) (by decide) rfl (fun ls hl => hp_n (n := 60) rfl ?_)
                refine lv_goto (tgt := 38) hx hb dX10_renew_60 (by decide) ?_
                exact ih38 αh21 Hh21 Lh21 Bh21 x22 ls (lv_sub hl [1, 0] rfl) hf
              refine lv_ifnullN (tgt := 57) hx hb dX10_renew_50 (by decide) ?_
              exact J57 αh18 Hh20 Lh20 Bh20 v2_h18 ls (lv_sub hl [1, 2] rfl) hf
            ·
              replace hf := hq_S hf
              have kbh20 := kh20 bh20 rfl
              refine lv_astore_n (lv' := [(3, .ref bh20), (0, .ref a0), (2, .int v2_h18)]) hx hb dX10_renew_48 rfl hl (by decide) rfl (fun ls hl => hp_n (n := 49) rfl ?_)
              refine lv_aload_n hx hb dX10_renew_49 rfl (lv_at hl 0 rfl) (hp_n (n := 50) rfl ?_)
              have J57 : ∀ (αh23 : hp_T) (Hh23 : Heap) (Lh23 : List Loc) (Bh23 : hp_B Γ (cw w_X10_renew) s α αh23 Hh23 Lh23) (v2_h23 : Int32) (ls : Array Slot) (hl : lv_has ls 4 [(0, .ref a0), (2, .int v2_h23)]) (hf : f_X10_renew_J57 n a0 (f_X10_renew_L38 n a0 k38) αh23 v2_h23 = some res), W p l e (hp_rm 2 0 0) s m ([.ref a0] : List Value).toArray below meth c Hh23 Lh23 0 0 (MQ below (hp_Qv Γ (fun β => β = res ∧ cw w_X10_renew α β)) ([.ref a0] : List Value).toArray s 0 0 (hp_A Γ)) (F0 m 57 ls []) := by
                intro αh23 Hh23 Lh23 Bh23 v2_h23 ls hl hf
                unfold f_X10_renew_J57 at hf
                obtain ⟨x24, ex24⟩ : ∃ y : Int32, y = v2_h23 + 1 := ⟨_, rfl⟩
                replace hf := ms_lE ex24 hf
                refine lv_iinc (v := x24) (lv' := [(2, .int x24), (0, .ref a0)]) hx hb dX10_renew_57 hl (k := 1) rfl (by rw [ex24]; rfl) (by decide) rfl (fun ls hl => hp_n (n := 60) rfl ?_)
                refine lv_goto (tgt := 38) hx hb dX10_renew_60 (by decide) ?_
                exact ih38 αh23 Hh23 Lh23 Bh23 x24 ls (lv_sub hl [1, 0] rfl) hf
              refine lv_ifnull hx hb dX10_renew_50 (hp_n (n := 53) rfl ?_)
              refine lv_aload_n hx hb dX10_renew_53 rfl (lv_at hl 0 rfl) (hp_n (n := 54) rfl ?_)
              obtain ⟨αh25, qh25, hf⟩ := ms_bE hf
              refine d_cv (pc' := 57) Bh20 (hp_runV (As := []) (rest := []) C Bh20 (n_X7_renew n Γ l αh18 Bh20.2.2.1 bh20 (cw_k Bh20.2.2 kbh20) αh25 qh25) lb_X7_renew lv_X7_renew lk_X10_75 (cw_k Bh20.2.2 kbh20) rfl (by decide) rfl hl.1 rfl (Nat.le_of_ble_eq_true rfl) dX10_renew_54 ⟨Nat.le_refl _, Nat.le_refl _⟩) (by decide) rfl (fun Hh25 Lh25 Bh25 => ?_)
              exact J57 αh25 Hh25 Lh25 Bh25 v2_h18 ls (lv_sub hl [1, 2] rfl) hf
      refine lv_istore_n (lv' := [(2, .int (0 : Int32)), (0, .ref a0)]) hx hb dX10_renew_37 rfl hl (by decide) rfl (fun ls hl => hp_n (n := 38) rfl ?_)
      exact J38 n αh17 Hh17 Lh17 Bh17 (0 : Int32) ls (lv_sub hl [1, 0] rfl) hf
    refine lv_ifnull hx hb dX10_renew_18 (hp_n (n := 21) rfl ?_)
    refine lv_aload_n hx hb dX10_renew_21 rfl (lv_at hl 0 rfl) (hp_n (n := 22) rfl ?_)
    refine lv_iconst (v := 0) hx hb dX10_renew_22 (by decide) (hp_n (n := 23) rfl ?_)
    refine q_puti (κ := 3) (k := 2) (φ := 152) (pc' := 26) C Bh3 (cw_k Bh3.2.2 kbh3) fl_X10_68 rfl rfl rfl rfl rfl rfl (cw_sI Bh3.2.2 (by decide) (fun h => absurd h (by decide))) dX10_renew_23 rfl (fun αh26 Hh26 Lh26 eh26 Bh26 => ?_)
    replace hf := ms_lE eh26 hf
    exact J26 αh26 Hh26 Lh26 Bh26 ls (lv_sub hl [1] rfl) hf
def f_X11_freeze (n : Nat) (α : hp_T) (a0 : Nat) (a1 : Int32) : Option (Int32 × hp_T) :=
  ms_l (hp_R α 601 a0) fun b1 =>
  ms_b (f_X10_logAt n α b1 a1) fun rh2 =>
  hq_m rh2 (
    hq_c (f_X11_refuse n α a0 (2 : Int32)) fun rh3 αh3 =>
    some (rh3, αh3)) fun bh2 =>
  ms_l (hp_R α 601 a0) fun b4 =>
  ms_l (hp_I α 554 b4) fun x5 =>
  if x5 < (16 : Int32) then
    ms_l (hp_R α 601 a0) fun b7 =>
    hq_c (f_X10_freezeHead n α b7 a1) fun rh8 αh8 =>
    hq_c (f_X11_answer n αh8 a0 rh8) fun rh9 αh9 =>
    some (rh9, αh9)
  else
    hq_c (f_X11_refuse n α a0 (3 : Int32)) fun rh10 αh10 =>
    some (rh10, αh10)
set_option maxRecDepth 100000 in
set_option maxHeartbeats 4000000 in
theorem n_X11_freeze (n : Nat) (Γ : hp_G) (l : Launch) (α : hp_T) (g : GC α) (a0 : Nat) (k0 : hp_K α a0 = 12) (a1 : Int32) (res : (Int32 × hp_T)) (hf : f_X11_freeze n α a0 a1 = some res) : Met l yX11_freeze (hp_ws yX11_freeze cX11_freeze 2 (some .int)) (hp_rm 4 0 0) (hp_Pc Γ α [.ref a0, .int a1]) (hp_Qi Γ (fun r β => r = res.1 ∧ β = res.2 ∧ cw w_X11_freeze α β)) 0 0 (hp_A Γ) := by
  unfold f_X11_freeze at hf
  refine hp_start (by decide) ?_
  intro p e s m below meth c C hr hlk B0 hnm
  have C : hp_C Γ p m c cX11_freeze 2 s ([.ref a0, .int a1] : List Value).toArray RX11 := C
  have hx := C.1.1
  have hb := C.1.2.1
  have hown := C.1.2.2.2.1
  have hts := C.1.2.2.2.2
  have B : hp_B Γ (cw w_X11_freeze) s α α s.heap [] := ⟨B0.1, B0.2.1, cw_rf g⟩
  have hl := lv_entry ([.ref a0, .int a1]) (n := 2) (Nat.le_of_ble_eq_true rfl)
  show W p l e (hp_rm 4 0 0) s m ([.ref a0, .int a1] : List Value).toArray below meth c s.heap [] 0 0 (MQ below (hp_Qi Γ (fun r β => r = res.1 ∧ β = res.2 ∧ cw w_X11_freeze α β)) ([.ref a0, .int a1] : List Value).toArray s 0 0 (hp_A Γ)) (entryFrame m ([.ref a0, .int a1] : List Value).toArray 2)
  rw [lg_entry_eq]
  generalize (lg_sl ([.ref a0, .int a1]) ++ List.replicate (2 - (lg_sl ([.ref a0, .int a1])).length) Slot.unset).toArray = ls at hl ⊢
  have hl : lv_has ls 2 [(0, .ref a0), (1, .int a1)] := hl
  refine lv_aload_n hx hb dX11_freeze_0 rfl (lv_at hl 0 rfl) (hp_n (n := 1) rfl ?_)
  refine q_getr (κ := 12) (k := 1) (φ := 601) (pc' := 4) C B (cw_k B.2.2 k0) fl_X11_16 rfl rfl rfl (cw_r B.2.2 k0 rfl rfl (by decide) (by decide)) dX11_freeze_1 rfl (fun b1 eb1 kb1 => ?_)
  replace hf := ms_lE eb1 hf
  refine lv_iload_n hx hb dX11_freeze_4 rfl (lv_at hl 1 rfl) (hp_n (n := 5) rfl ?_)
  obtain ⟨rh2, qh2, hf⟩ := ms_bE hf
  refine d_pq (pc' := 8) B (hp_runV (As := [.int a1]) (rest := []) C B (n_X10_logAt n Γ l α B.2.2.1 b1 (cw_k B.2.2 kb1) a1 rh2 qh2) lb_X10_logAt lv_X10_logAt lk_X11_163 (cw_k B.2.2 kb1) rfl (by decide) rfl hl.1 rfl (Nat.le_of_ble_eq_true rfl) dX11_freeze_5 ⟨Nat.le_refl _, Nat.le_refl _⟩) rfl (fun Hh2 Lh2 Bh2 kh2 => ?_)
  rcases rh2 with _ | bh2
  ·
    replace hf := hq_N hf
    refine lv_ifnonnullN hx hb dX11_freeze_8 (hp_n (n := 11) rfl ?_)
    refine lv_aload_n hx hb dX11_freeze_11 rfl (lv_at hl 0 rfl) (hp_n (n := 12) rfl ?_)
    refine lv_iconst (v := 2) hx hb dX11_freeze_12 (by decide) (hp_n (n := 13) rfl ?_)
    obtain ⟨rh3, αh3, qh3, hf⟩ := hq_cE hf
    refine d_ci (pc' := 16) Bh2 (hp_runV (As := [.int (2 : Int32)]) (rest := []) C Bh2 (n_X11_refuse n Γ l α Bh2.2.2.1 a0 (cw_k Bh2.2.2 k0) (2 : Int32) (rh3, αh3) qh3) lb_X11_refuse lv_X11_refuse lk_X11_98 (cw_k Bh2.2.2 k0) rfl (by decide) rfl hl.1 rfl (Nat.le_of_ble_eq_true rfl) dX11_freeze_13 ⟨Nat.le_refl _, Nat.le_refl _⟩) (by decide) rfl (fun Hh3 Lh3 Bh3 => ?_)
    cases hf
    exact q_iret C Bh3 hr hlk ⟨rfl, rfl, Bh3.2.2⟩ dX11_freeze_16
  ·
    replace hf := hq_S hf
    have kbh2 := kh2 bh2 rfl
    refine lv_ifnonnull (tgt := 17) hx hb dX11_freeze_8 (by decide) ?_
    refine lv_aload_n hx hb dX11_freeze_17 rfl (lv_at hl 0 rfl) (hp_n (n := 18) rfl ?_)
    refine q_getr (κ := 12) (k := 1) (φ := 601) (pc' := 21) C Bh2 (cw_k Bh2.2.2 k0) fl_X11_16 rfl rfl rfl (cw_r Bh2.2.2 k0 rfl rfl (by decide) (by decide)) dX11_freeze_18 rfl (fun b4 eb4 kb4 => ?_)
    replace hf := ms_lE eb4 hf
    refine q_geti (κ := 11) (k := 4) (φ := 554) (pc' := 24) C Bh2 (cw_k Bh2.2.2 kb4) fl_X11_153 rfl rfl rfl dX11_freeze_21 rfl (fun x5 ex5 => ?_)
    replace hf := ms_lE ex5 hf
    refine lv_bipush (v := 16) hx hb dX11_freeze_24 (by decide) (hp_n (n := 26) rfl ?_)
    refine lv_icmp_lt (tgt := 35) hx hb dX11_freeze_26 (by decide) (fun c6 => ?_) (fun c6 => hp_n (n := 29) rfl ?_)
    ·
      replace hf := ms_iT c6 hf
      refine lv_aload_n hx hb dX11_freeze_35 rfl (lv_at hl 0 rfl) (hp_n (n := 36) rfl ?_)
      refine lv_aload_n hx hb dX11_freeze_36 rfl (lv_at hl 0 rfl) (hp_n (n := 37) rfl ?_)
      refine q_getr (κ := 12) (k := 1) (φ := 601) (pc' := 40) C Bh2 (cw_k Bh2.2.2 k0) fl_X11_16 rfl rfl rfl (cw_r Bh2.2.2 k0 rfl rfl (by decide) (by decide)) dX11_freeze_37 rfl (fun b7 eb7 kb7 => ?_)
      replace hf := ms_lE eb7 hf
      refine lv_iload_n hx hb dX11_freeze_40 rfl (lv_at hl 1 rfl) (hp_n (n := 41) rfl ?_)
      obtain ⟨rh8, αh8, qh8, hf⟩ := hq_cE hf
      refine d_ci (pc' := 44) Bh2 (hp_runV (As := [.int a1]) (rest := [.ref a0]) C Bh2 (n_X10_freezeHead n Γ l α Bh2.2.2.1 b7 (cw_k Bh2.2.2 kb7) a1 (rh8, αh8) qh8) lb_X10_freezeHead lv_X10_freezeHead lk_X11_244 (cw_k Bh2.2.2 kb7) rfl (by decide) rfl hl.1 rfl (Nat.le_of_ble_eq_true rfl) dX11_freeze_41 ⟨Nat.le_refl _, Nat.le_refl _⟩) (by decide) rfl (fun Hh8 Lh8 Bh8 => ?_)
      obtain ⟨rh9, αh9, qh9, hf⟩ := hq_cE hf
      refine d_ci (pc' := 47) Bh8 (hp_runV (As := [.int rh8]) (rest := []) C Bh8 (n_X11_answer n Γ l αh8 Bh8.2.2.1 a0 (cw_k Bh8.2.2 k0) rh8 (rh9, αh9) qh9) lb_X11_answer lv_X11_answer lk_X11_115 (cw_k Bh8.2.2 k0) rfl (by decide) rfl hl.1 rfl (Nat.le_of_ble_eq_true rfl) dX11_freeze_44 ⟨Nat.le_refl _, Nat.le_refl _⟩) (by decide) rfl (fun Hh9 Lh9 Bh9 => ?_)
      cases hf
      exact q_iret C Bh9 hr hlk ⟨rfl, rfl, Bh9.2.2⟩ dX11_freeze_47
    ·
      replace hf := ms_iF c6 hf
      refine lv_aload_n hx hb dX11_freeze_29 rfl (lv_at hl 0 rfl) (hp_n (n := 30) rfl ?_)
      refine lv_iconst (v := 3) hx hb dX11_freeze_30 (by decide) (hp_n (n := 31) rfl ?_)
      obtain ⟨rh10, αh10, qh10, hf⟩ := hq_cE hf
      refine d_ci (pc' := 34) Bh2 (hp_runV (As := [.int (3 : Int32)]) (rest := []) C Bh2 (n_X11_refuse n Γ l α Bh2.2.2.1 a0 (cw_k Bh2.2.2 k0) (3 : Int32) (rh10, αh10) qh10) lb_X11_refuse lv_X11_refuse lk_X11_98 (cw_k Bh2.2.2 k0) rfl (by decide) rfl hl.1 rfl (Nat.le_of_ble_eq_true rfl) dX11_freeze_31 ⟨Nat.le_refl _, Nat.le_refl _⟩) (by decide) rfl (fun Hh10 Lh10 Bh10 => ?_)
      cases hf
      exact q_iret C Bh10 hr hlk ⟨rfl, rfl, Bh10.2.2⟩ dX11_freeze_34
def f_X11_fork (n : Nat) (α : hp_T) (a0 : Nat) (a1 : Int32) (a2 : Int32) : Option (Int32 × hp_T) :=
  if 0 ≤ a2 then
    ms_l (hp_R α 601 a0) fun b2 =>
    ms_b (f_X10_logAt n α b2 a1) fun rh3 =>
    hq_m rh3 (
      hq_c (f_X11_refuse n α a0 (2 : Int32)) fun rh4 αh4 =>
      some (rh4, αh4)) fun bh3 =>
    ms_l (hp_R α 601 a0) fun b5 =>
    ms_l (hp_I α 552 b5) fun x6 =>
    if x6 < (4 : Int32) then
      ms_l (hp_I α 152 bh3) fun x8 =>
      if a2 ≤ x8 then
        ms_l (hp_R α 601 a0) fun b10 =>
        hq_c (f_X10_forkLog n α b10 bh3 a2) fun rh11 αh11 =>
        hq_c (f_X11_answer n αh11 a0 rh11) fun rh12 αh12 =>
        some (rh12, αh12)
      else
        hq_c (f_X11_refuse n α a0 (5 : Int32)) fun rh13 αh13 =>
        some (rh13, αh13)
    else
      hq_c (f_X11_refuse n α a0 (3 : Int32)) fun rh14 αh14 =>
      some (rh14, αh14)
  else
    hq_c (f_X11_refuse n α a0 (1 : Int32)) fun rh15 αh15 =>
    some (rh15, αh15)
set_option maxRecDepth 100000 in
set_option maxHeartbeats 4000000 in
theorem n_X11_fork (n : Nat) (Γ : hp_G) (l : Launch) (α : hp_T) (g : GC α) (a0 : Nat) (k0 : hp_K α a0 = 12) (a1 : Int32) (a2 : Int32) (res : (Int32 × hp_T)) (hf : f_X11_fork n α a0 a1 a2 = some res) : Met l yX11_fork (hp_ws yX11_fork cX11_fork 4 (some .int)) (hp_rm 4 0 0) (hp_Pc Γ α [.ref a0, .int a1, .int a2]) (hp_Qi Γ (fun r β => r = res.1 ∧ β = res.2 ∧ cw w_X11_fork α β)) 0 0 (hp_A Γ) := by
  unfold f_X11_fork at hf
  refine hp_start (by decide) ?_
  intro p e s m below meth c C hr hlk B0 hnm
  have C : hp_C Γ p m c cX11_fork 4 s ([.ref a0, .int a1, .int a2] : List Value).toArray RX11 := C
  have hx := C.1.1
  have hb := C.1.2.1
  have hown := C.1.2.2.2.1
  have hts := C.1.2.2.2.2
  have B : hp_B Γ (cw w_X11_fork) s α α s.heap [] := ⟨B0.1, B0.2.1, cw_rf g⟩
  have hl := lv_entry ([.ref a0, .int a1, .int a2]) (n := 4) (Nat.le_of_ble_eq_true rfl)
  show W p l e (hp_rm 4 0 0) s m ([.ref a0, .int a1, .int a2] : List Value).toArray below meth c s.heap [] 0 0 (MQ below (hp_Qi Γ (fun r β => r = res.1 ∧ β = res.2 ∧ cw w_X11_fork α β)) ([.ref a0, .int a1, .int a2] : List Value).toArray s 0 0 (hp_A Γ)) (entryFrame m ([.ref a0, .int a1, .int a2] : List Value).toArray 4)
  rw [lg_entry_eq]
  generalize (lg_sl ([.ref a0, .int a1, .int a2]) ++ List.replicate (4 - (lg_sl ([.ref a0, .int a1, .int a2])).length) Slot.unset).toArray = ls at hl ⊢
  have hl : lv_has ls 4 [(0, .ref a0), (1, .int a1), (2, .int a2)] := hl
  refine lv_iload_n hx hb dX11_fork_0 rfl (lv_at hl 2 rfl) (hp_n (n := 1) rfl ?_)
  refine lv_if_ge (tgt := 10) hx hb dX11_fork_1 (by decide) (fun c1 => ?_) (fun c1 => hp_n (n := 4) rfl ?_)
  ·
    replace hf := ms_iT c1 hf
    refine lv_aload_n hx hb dX11_fork_10 rfl (lv_at hl 0 rfl) (hp_n (n := 11) rfl ?_)
    refine q_getr (κ := 12) (k := 1) (φ := 601) (pc' := 14) C B (cw_k B.2.2 k0) fl_X11_16 rfl rfl rfl (cw_r B.2.2 k0 rfl rfl (by decide) (by decide)) dX11_fork_11 rfl (fun b2 eb2 kb2 => ?_)
    replace hf := ms_lE eb2 hf
    refine lv_iload_n hx hb dX11_fork_14 rfl (lv_at hl 1 rfl) (hp_n (n := 15) rfl ?_)
    obtain ⟨rh3, qh3, hf⟩ := ms_bE hf
    refine d_pq (pc' := 18) B (hp_runV (As := [.int a1]) (rest := []) C B (n_X10_logAt n Γ l α B.2.2.1 b2 (cw_k B.2.2 kb2) a1 rh3 qh3) lb_X10_logAt lv_X10_logAt lk_X11_163 (cw_k B.2.2 kb2) rfl (by decide) rfl hl.1 rfl (Nat.le_of_ble_eq_true rfl) dX11_fork_15 ⟨Nat.le_refl _, Nat.le_refl _⟩) rfl (fun Hh3 Lh3 Bh3 kh3 => ?_)
    rcases rh3 with _ | bh3
    ·
      replace hf := hq_N hf
      refine lv_astore_nN (lv' := [(3, .null), (0, .ref a0), (1, .int a1), (2, .int a2)]) hx hb dX11_fork_18 rfl hl (by decide) rfl (fun ls hl => hp_n (n := 19) rfl ?_)
      refine lv_aload_nN hx hb dX11_fork_19 rfl (lv_at hl 0 rfl) (hp_n (n := 20) rfl ?_)
      refine lv_ifnonnullN hx hb dX11_fork_20 (hp_n (n := 23) rfl ?_)
      refine lv_aload_n hx hb dX11_fork_23 rfl (lv_at hl 1 rfl) (hp_n (n := 24) rfl ?_)
      refine lv_iconst (v := 2) hx hb dX11_fork_24 (by decide) (hp_n (n := 25) rfl ?_)
      obtain ⟨rh4, αh4, qh4, hf⟩ := hq_cE hf
      refine d_ci (pc' := 28) Bh3 (hp_runV (As := [.int (2 : Int32)]) (rest := []) C Bh3 (n_X11_refuse n Γ l α Bh3.2.2.1 a0 (cw_k Bh3.2.2 k0) (2 : Int32) (rh4, αh4) qh4) lb_X11_refuse lv_X11_refuse lk_X11_98 (cw_k Bh3.2.2 k0) rfl (by decide) rfl hl.1 rfl (Nat.le_of_ble_eq_true rfl) dX11_fork_25 ⟨Nat.le_refl _, Nat.le_refl _⟩) (by decide) rfl (fun Hh4 Lh4 Bh4 => ?_)
      cases hf
      exact q_iret C Bh4 hr hlk ⟨rfl, rfl, Bh4.2.2⟩ dX11_fork_28
    ·
      replace hf := hq_S hf
      have kbh3 := kh3 bh3 rfl
      refine lv_astore_n (lv' := [(3, .ref bh3), (0, .ref a0), (1, .int a1), (2, .int a2)]) hx hb dX11_fork_18 rfl hl (by decide) rfl (fun ls hl => hp_n (n := 19) rfl ?_)
      refine lv_aload_n hx hb dX11_fork_19 rfl (lv_at hl 0 rfl) (hp_n (n := 20) rfl ?_)
      refine lv_ifnonnull (tgt := 29) hx hb dX11_fork_20 (by decide) ?_
      refine lv_aload_n hx hb dX11_fork_29 rfl (lv_at hl 1 rfl) (hp_n (n := 30) rfl ?_)
      refine q_getr (κ := 12) (k := 1) (φ := 601) (pc' := 33) C Bh3 (cw_k Bh3.2.2 k0) fl_X11_16 rfl rfl rfl (cw_r Bh3.2.2 k0 rfl rfl (by decide) (by decide)) dX11_fork_30 rfl (fun b5 eb5 kb5 => ?_)
      replace hf := ms_lE eb5 hf
      refine q_geti (κ := 11) (k := 2) (φ := 552) (pc' := 36) C Bh3 (cw_k Bh3.2.2 kb5) fl_X11_112 rfl rfl rfl dX11_fork_33 rfl (fun x6 ex6 => ?_)
      replace hf := ms_lE ex6 hf
      refine lv_iconst (v := 4) hx hb dX11_fork_36 (by decide) (hp_n (n := 37) rfl ?_)
      refine lv_icmp_lt (tgt := 46) hx hb dX11_fork_37 (by decide) (fun c7 => ?_) (fun c7 => hp_n (n := 40) rfl ?_)
      ·
        replace hf := ms_iT c7 hf
        refine lv_iload_n hx hb dX11_fork_46 rfl (lv_at hl 3 rfl) (hp_n (n := 47) rfl ?_)
        refine lv_aload_n hx hb dX11_fork_47 rfl (lv_at hl 0 rfl) (hp_n (n := 48) rfl ?_)
        refine q_geti (κ := 3) (k := 2) (φ := 152) (pc' := 51) C Bh3 (cw_k Bh3.2.2 kbh3) fl_X11_167 rfl rfl rfl dX11_fork_48 rfl (fun x8 ex8 => ?_)
        replace hf := ms_lE ex8 hf
        refine lv_icmp_le (tgt := 60) hx hb dX11_fork_51 (by decide) (fun c9 => ?_) (fun c9 => hp_n (n := 54) rfl ?_)
        ·
          replace hf := ms_iT c9 hf
          refine lv_aload_n hx hb dX11_fork_60 rfl (lv_at hl 1 rfl) (hp_n (n := 61) rfl ?_)
          refine lv_aload_n hx hb dX11_fork_61 rfl (lv_at hl 1 rfl) (hp_n (n := 62) rfl ?_)
          refine q_getr (κ := 12) (k := 1) (φ := 601) (pc' := 65) C Bh3 (cw_k Bh3.2.2 k0) fl_X11_16 rfl rfl rfl (cw_r Bh3.2.2 k0 rfl rfl (by decide) (by decide)) dX11_fork_62 rfl (fun b10 eb10 kb10 => ?_)
          replace hf := ms_lE eb10 hf
          refine lv_aload_n hx hb dX11_fork_65 rfl (lv_at hl 0 rfl) (hp_n (n := 66) rfl ?_)
          refine lv_iload_n hx hb dX11_fork_66 rfl (lv_at hl 3 rfl) (hp_n (n := 67) rfl ?_)
          obtain ⟨rh11, αh11, qh11, hf⟩ := hq_cE hf
          refine d_ci (pc' := 70) Bh3 (hp_runV (As := [.ref bh3, .int a2]) (rest := [.ref a0]) C Bh3 (n_X10_forkLog n Γ l α Bh3.2.2.1 b10 (cw_k Bh3.2.2 kb10) bh3 (cw_k Bh3.2.2 kbh3) a2 (rh11, αh11) qh11) lb_X10_forkLog lv_X10_forkLog lk_X11_241 (cw_k Bh3.2.2 kb10) rfl (by decide) rfl hl.1 rfl (Nat.le_of_ble_eq_true rfl) dX11_fork_67 ⟨Nat.le_refl _, Nat.le_refl _⟩) (by decide) rfl (fun Hh11 Lh11 Bh11 => ?_)
          obtain ⟨rh12, αh12, qh12, hf⟩ := hq_cE hf
          refine d_ci (pc' := 73) Bh11 (hp_runV (As := [.int rh11]) (rest := []) C Bh11 (n_X11_answer n Γ l αh11 Bh11.2.2.1 a0 (cw_k Bh11.2.2 k0) rh11 (rh12, αh12) qh12) lb_X11_answer lv_X11_answer lk_X11_115 (cw_k Bh11.2.2 k0) rfl (by decide) rfl hl.1 rfl (Nat.le_of_ble_eq_true rfl) dX11_fork_70 ⟨Nat.le_refl _, Nat.le_refl _⟩) (by decide) rfl (fun Hh12 Lh12 Bh12 => ?_)
          cases hf
          exact q_iret C Bh12 hr hlk ⟨rfl, rfl, Bh12.2.2⟩ dX11_fork_73
        ·
          replace hf := ms_iF c9 hf
          refine lv_aload_n hx hb dX11_fork_54 rfl (lv_at hl 1 rfl) (hp_n (n := 55) rfl ?_)
          refine lv_iconst (v := 5) hx hb dX11_fork_55 (by decide) (hp_n (n := 56) rfl ?_)
          obtain ⟨rh13, αh13, qh13, hf⟩ := hq_cE hf
          refine d_ci (pc' := 59) Bh3 (hp_runV (As := [.int (5 : Int32)]) (rest := []) C Bh3 (n_X11_refuse n Γ l α Bh3.2.2.1 a0 (cw_k Bh3.2.2 k0) (5 : Int32) (rh13, αh13) qh13) lb_X11_refuse lv_X11_refuse lk_X11_98 (cw_k Bh3.2.2 k0) rfl (by decide) rfl hl.1 rfl (Nat.le_of_ble_eq_true rfl) dX11_fork_56 ⟨Nat.le_refl _, Nat.le_refl _⟩) (by decide) rfl (fun Hh13 Lh13 Bh13 => ?_)
          cases hf
          exact q_iret C Bh13 hr hlk ⟨rfl, rfl, Bh13.2.2⟩ dX11_fork_59
      ·
        replace hf := ms_iF c7 hf
        refine lv_aload_n hx hb dX11_fork_40 rfl (lv_at hl 1 rfl) (hp_n (n := 41) rfl ?_)
        refine lv_iconst (v := 3) hx hb dX11_fork_41 (by decide) (hp_n (n := 42) rfl ?_)
        obtain ⟨rh14, αh14, qh14, hf⟩ := hq_cE hf
        refine d_ci (pc' := 45) Bh3 (hp_runV (As := [.int (3 : Int32)]) (rest := []) C Bh3 (n_X11_refuse n Γ l α Bh3.2.2.1 a0 (cw_k Bh3.2.2 k0) (3 : Int32) (rh14, αh14) qh14) lb_X11_refuse lv_X11_refuse lk_X11_98 (cw_k Bh3.2.2 k0) rfl (by decide) rfl hl.1 rfl (Nat.le_of_ble_eq_true rfl) dX11_fork_42 ⟨Nat.le_refl _, Nat.le_refl _⟩) (by decide) rfl (fun Hh14 Lh14 Bh14 => ?_)
        cases hf
        exact q_iret C Bh14 hr hlk ⟨rfl, rfl, Bh14.2.2⟩ dX11_fork_45
  ·
    replace hf := ms_iF c1 hf
    refine lv_aload_n hx hb dX11_fork_4 rfl (lv_at hl 0 rfl) (hp_n (n := 5) rfl ?_)
    refine lv_iconst (v := 1) hx hb dX11_fork_5 (by decide) (hp_n (n := 6) rfl ?_)
    obtain ⟨rh15, αh15, qh15, hf⟩ := hq_cE hf
    refine d_ci (pc' := 9) B (hp_runV (As := [.int (1 : Int32)]) (rest := []) C B (n_X11_refuse n Γ l α B.2.2.1 a0 (cw_k B.2.2 k0) (1 : Int32) (rh15, αh15) qh15) lb_X11_refuse lv_X11_refuse lk_X11_98 (cw_k B.2.2 k0) rfl (by decide) rfl hl.1 rfl (Nat.le_of_ble_eq_true rfl) dX11_fork_6 ⟨Nat.le_refl _, Nat.le_refl _⟩) (by decide) rfl (fun Hh15 Lh15 Bh15 => ?_)
    cases hf
    exact q_iret C Bh15 hr hlk ⟨rfl, rfl, Bh15.2.2⟩ dX11_fork_9
def f_X11_show_J40 (n : Nat) (a0 : Nat) (αh6 : hp_T) : Option (Int32 × hp_T) :=
  hq_c (f_X11_refuse n αh6 a0 (2 : Int32)) fun rh7 αh7 =>
  some (rh7, αh7)
def f_X11_show (n : Nat) (α : hp_T) (a0 : Nat) (a1 : Int32) (a2 : Int32) (a3 : Int32) : Option (Int32 × hp_T) :=
  if 0 ≤ a3 then
    ms_l (hp_R α 601 a0) fun b2 =>
    ms_b (f_X10_watcherAt n α b2 a1) fun rh3 =>
    hq_m rh3 (
      ms_l (hp_R α 601 a0) fun b4 =>
      ms_b (f_X10_logAt n α b4 a2) fun rh5 =>
      hq_m rh5 (
        f_X11_show_J40 n a0 α) fun bh5 =>
      f_X11_show_J40 n a0 α) fun bh3 =>
    ms_l (hp_R α 601 a0) fun b10 =>
    ms_b (f_X10_logAt n α b10 a2) fun rh11 =>
    hq_m rh11 (
      f_X11_show_J40 n a0 α) fun bh11 =>
    ms_l (hp_I α 152 bh11) fun x16 =>
    if a3 ≤ x16 then
      ms_l (hp_R α 601 a0) fun b18 =>
      hq_c (f_X10_showTo n α b18 (some bh3) bh11 a3) fun rh19 αh19 =>
      hq_c (f_X11_answer n αh19 a0 rh19) fun rh20 αh20 =>
      some (rh20, αh20)
    else
      hq_c (f_X11_refuse n α a0 (5 : Int32)) fun rh21 αh21 =>
      some (rh21, αh21)
  else
    hq_c (f_X11_refuse n α a0 (1 : Int32)) fun rh22 αh22 =>
    some (rh22, αh22)
set_option maxRecDepth 100000 in
set_option maxHeartbeats 4000000 in
theorem n_X11_show (n : Nat) (Γ : hp_G) (l : Launch) (α : hp_T) (g : GC α) (a0 : Nat) (k0 : hp_K α a0 = 12) (a1 : Int32) (a2 : Int32) (a3 : Int32) (res : (Int32 × hp_T)) (hf : f_X11_show n α a0 a1 a2 a3 = some res) : Met l yX11_show (hp_ws yX11_show cX11_show 6 (some .int)) (hp_rm 7 0 0) (hp_Pc Γ α [.ref a0, .int a1, .int a2, .int a3]) (hp_Qi Γ (fun r β => r = res.1 ∧ β = res.2 ∧ cw w_X11_show α β)) 0 0 (hp_A Γ) := by
  unfold f_X11_show at hf
  refine hp_start (by decide) ?_
  intro p e s m below meth c C hr hlk B0 hnm
  have C : hp_C Γ p m c cX11_show 6 s ([.ref a0, .int a1, .int a2, .int a3] : List Value).toArray RX11 := C
  have hx := C.1.1
  have hb := C.1.2.1
  have hown := C.1.2.2.2.1
  have hts := C.1.2.2.2.2
  have B : hp_B Γ (cw w_X11_show) s α α s.heap [] := ⟨B0.1, B0.2.1, cw_rf g⟩
  have hl := lv_entry ([.ref a0, .int a1, .int a2, .int a3]) (n := 6) (Nat.le_of_ble_eq_true rfl)
  show W p l e (hp_rm 7 0 0) s m ([.ref a0, .int a1, .int a2, .int a3] : List Value).toArray below meth c s.heap [] 0 0 (MQ below (hp_Qi Γ (fun r β => r = res.1 ∧ β = res.2 ∧ cw w_X11_show α β)) ([.ref a0, .int a1, .int a2, .int a3] : List Value).toArray s 0 0 (hp_A Γ)) (entryFrame m ([.ref a0, .int a1, .int a2, .int a3] : List Value).toArray 6)
  rw [lg_entry_eq]
  generalize (lg_sl ([.ref a0, .int a1, .int a2, .int a3]) ++ List.replicate (6 - (lg_sl ([.ref a0, .int a1, .int a2, .int a3])).length) Slot.unset).toArray = ls at hl ⊢
  have hl : lv_has ls 6 [(0, .ref a0), (1, .int a1), (2, .int a2), (3, .int a3)] := hl
  refine lv_iload_n hx hb dX11_show_0 rfl (lv_at hl 3 rfl) (hp_n (n := 1) rfl ?_)
  refine lv_if_ge (tgt := 10) hx hb dX11_show_1 (by decide) (fun c1 => ?_) (fun c1 => hp_n (n := 4) rfl ?_)
  ·
    replace hf := ms_iT c1 hf
    refine lv_aload_n hx hb dX11_show_10 rfl (lv_at hl 0 rfl) (hp_n (n := 11) rfl ?_)
    refine q_getr (κ := 12) (k := 1) (φ := 601) (pc' := 14) C B (cw_k B.2.2 k0) fl_X11_16 rfl rfl rfl (cw_r B.2.2 k0 rfl rfl (by decide) (by decide)) dX11_show_11 rfl (fun b2 eb2 kb2 => ?_)
    replace hf := ms_lE eb2 hf
    refine lv_iload_n hx hb dX11_show_14 rfl (lv_at hl 1 rfl) (hp_n (n := 15) rfl ?_)
    obtain ⟨rh3, qh3, hf⟩ := ms_bE hf
    refine d_pq (pc' := 18) B (hp_runV (As := [.int a1]) (rest := []) C B (n_X10_watcherAt n Γ l α B.2.2.1 b2 (cw_k B.2.2 kb2) a1 rh3 qh3) lb_X10_watcherAt lv_X10_watcherAt lk_X11_220 (cw_k B.2.2 kb2) rfl (by decide) rfl hl.1 rfl (Nat.le_of_ble_eq_true rfl) dX11_show_15 ⟨Nat.le_refl _, Nat.le_refl _⟩) rfl (fun Hh3 Lh3 Bh3 kh3 => ?_)
    rcases rh3 with _ | bh3
    ·
      replace hf := hq_N hf
      refine lv_astoreN (lv' := [(4, .null), (0, .ref a0), (1, .int a1), (2, .int a2), (3, .int a3)]) hx hb dX11_show_18 hl (by decide) rfl (fun ls hl => hp_n (n := 20) rfl ?_)
      refine lv_aload_n hx hb dX11_show_20 rfl (lv_at hl 1 rfl) (hp_n (n := 21) rfl ?_)
      refine q_getr (κ := 12) (k := 1) (φ := 601) (pc' := 24) C Bh3 (cw_k Bh3.2.2 k0) fl_X11_16 rfl rfl rfl (cw_r Bh3.2.2 k0 rfl rfl (by decide) (by decide)) dX11_show_21 rfl (fun b4 eb4 kb4 => ?_)
      replace hf := ms_lE eb4 hf
      refine lv_iload_n hx hb dX11_show_24 rfl (lv_at hl 3 rfl) (hp_n (n := 25) rfl ?_)
      obtain ⟨rh5, qh5, hf⟩ := ms_bE hf
      refine d_pq (pc' := 28) Bh3 (hp_runV (As := [.int a2]) (rest := []) C Bh3 (n_X10_logAt n Γ l α Bh3.2.2.1 b4 (cw_k Bh3.2.2 kb4) a2 rh5 qh5) lb_X10_logAt lv_X10_logAt lk_X11_163 (cw_k Bh3.2.2 kb4) rfl (by decide) rfl hl.1 rfl (Nat.le_of_ble_eq_true rfl) dX11_show_25 ⟨Nat.le_refl _, Nat.le_refl _⟩) rfl (fun Hh5 Lh5 Bh5 kh5 => ?_)
      rcases rh5 with _ | bh5
      ·
        replace hf := hq_N hf
        refine lv_astoreN (lv' := [(5, .null), (4, .null), (0, .ref a0), (1, .int a1), (2, .int a2), (3, .int a3)]) hx hb dX11_show_28 hl (by decide) rfl (fun ls hl => hp_n (n := 30) rfl ?_)
        refine lv_aloadN hx hb dX11_show_30 (lv_at hl 1 rfl) (hp_n (n := 32) rfl ?_)
        have J40 : ∀ (αh6 : hp_T) (Hh6 : Heap) (Lh6 : List Loc) (Bh6 : hp_B Γ (cw w_X11_show) s α αh6 Hh6 Lh6) (ls : Array Slot) (hl : lv_has ls 6 [(0, .ref a0)]) (hf : f_X11_show_J40 n a0 αh6 = some res), W p l e (hp_rm 7 0 0) s m ([.ref a0, .int a1, .int a2, .int a3] : List Value).toArray below meth c Hh6 Lh6 0 0 (MQ below (hp_Qi Γ (fun r β => r = res.1 ∧ β = res.2 ∧ cw w_X11_show α β)) ([.ref a0, .int a1, .int a2, .int a3] : List Value).toArray s 0 0 (hp_A Γ)) (F0 m 40 ls []) := by
          intro αh6 Hh6 Lh6 Bh6 ls hl hf
          unfold f_X11_show_J40 at hf
          refine lv_aload_n hx hb dX11_show_40 rfl (lv_at hl 0 rfl) (hp_n (n := 41) rfl ?_)
          refine lv_iconst (v := 2) hx hb dX11_show_41 (by decide) (hp_n (n := 42) rfl ?_)
          obtain ⟨rh7, αh7, qh7, hf⟩ := hq_cE hf
          refine d_ci (pc' := 45) Bh6 (hp_runV (As := [.int (2 : Int32)]) (rest := []) C Bh6 (n_X11_refuse n Γ l αh6 Bh6.2.2.1 a0 (cw_k Bh6.2.2 k0) (2 : Int32) (rh7, αh7) qh7) lb_X11_refuse lv_X11_refuse lk_X11_98 (cw_k Bh6.2.2 k0) rfl (by decide) rfl hl.1 rfl (Nat.le_of_ble_eq_true rfl) dX11_show_42 ⟨Nat.le_refl _, Nat.le_refl _⟩) (by decide) rfl (fun Hh7 Lh7 Bh7 => ?_)
          cases hf
          exact q_iret C Bh7 hr hlk ⟨rfl, rfl, Bh7.2.2⟩ dX11_show_45
        refine lv_ifnullN (tgt := 40) hx hb dX11_show_32 (by decide) ?_
        exact J40 α Hh5 Lh5 Bh5 ls (lv_sub hl [2] rfl) hf
      ·
        replace hf := hq_S hf
        have kbh5 := kh5 bh5 rfl
        refine lv_astore (lv' := [(5, .ref bh5), (4, .null), (0, .ref a0), (1, .int a1), (2, .int a2), (3, .int a3)]) hx hb dX11_show_28 hl (by decide) rfl (fun ls hl => hp_n (n := 30) rfl ?_)
        refine lv_aloadN hx hb dX11_show_30 (lv_at hl 1 rfl) (hp_n (n := 32) rfl ?_)
        have J40 : ∀ (αh8 : hp_T) (Hh8 : Heap) (Lh8 : List Loc) (Bh8 : hp_B Γ (cw w_X11_show) s α αh8 Hh8 Lh8) (ls : Array Slot) (hl : lv_has ls 6 [(0, .ref a0)]) (hf : f_X11_show_J40 n a0 αh8 = some res), W p l e (hp_rm 7 0 0) s m ([.ref a0, .int a1, .int a2, .int a3] : List Value).toArray below meth c Hh8 Lh8 0 0 (MQ below (hp_Qi Γ (fun r β => r = res.1 ∧ β = res.2 ∧ cw w_X11_show α β)) ([.ref a0, .int a1, .int a2, .int a3] : List Value).toArray s 0 0 (hp_A Γ)) (F0 m 40 ls []) := by
          intro αh8 Hh8 Lh8 Bh8 ls hl hf
          unfold f_X11_show_J40 at hf
          refine lv_aload_n hx hb dX11_show_40 rfl (lv_at hl 0 rfl) (hp_n (n := 41) rfl ?_)
          refine lv_iconst (v := 2) hx hb dX11_show_41 (by decide) (hp_n (n := 42) rfl ?_)
          obtain ⟨rh9, αh9, qh9, hf⟩ := hq_cE hf
          refine d_ci (pc' := 45) Bh8 (hp_runV (As := [.int (2 : Int32)]) (rest := []) C Bh8 (n_X11_refuse n Γ l αh8 Bh8.2.2.1 a0 (cw_k Bh8.2.2 k0) (2 : Int32) (rh9, αh9) qh9) lb_X11_refuse lv_X11_refuse lk_X11_98 (cw_k Bh8.2.2 k0) rfl (by decide) rfl hl.1 rfl (Nat.le_of_ble_eq_true rfl) dX11_show_42 ⟨Nat.le_refl _, Nat.le_refl _⟩) (by decide) rfl (fun Hh9 Lh9 Bh9 => ?_)
          cases hf
          exact q_iret C Bh9 hr hlk ⟨rfl, rfl, Bh9.2.2⟩ dX11_show_45
        refine lv_ifnullN (tgt := 40) hx hb dX11_show_32 (by decide) ?_
        exact J40 α Hh5 Lh5 Bh5 ls (lv_sub hl [2] rfl) hf
    ·
      replace hf := hq_S hf
      have kbh3 := kh3 bh3 rfl
      refine lv_astore (lv' := [(4, .ref bh3), (0, .ref a0), (1, .int a1), (2, .int a2), (3, .int a3)]) hx hb dX11_show_18 hl (by decide) rfl (fun ls hl => hp_n (n := 20) rfl ?_)
      refine lv_aload_n hx hb dX11_show_20 rfl (lv_at hl 1 rfl) (hp_n (n := 21) rfl ?_)
      refine q_getr (κ := 12) (k := 1) (φ := 601) (pc' := 24) C Bh3 (cw_k Bh3.2.2 k0) fl_X11_16 rfl rfl rfl (cw_r Bh3.2.2 k0 rfl rfl (by decide) (by decide)) dX11_show_21 rfl (fun b10 eb10 kb10 => ?_)
      replace hf := ms_lE eb10 hf
      refine lv_iload_n hx hb dX11_show_24 rfl (lv_at hl 3 rfl) (hp_n (n := 25) rfl ?_)
      obtain ⟨rh11, qh11, hf⟩ := ms_bE hf
      refine d_pq (pc' := 28) Bh3 (hp_runV (As := [.int a2]) (rest := []) C Bh3 (n_X10_logAt n Γ l α Bh3.2.2.1 b10 (cw_k Bh3.2.2 kb10) a2 rh11 qh11) lb_X10_logAt lv_X10_logAt lk_X11_163 (cw_k Bh3.2.2 kb10) rfl (by decide) rfl hl.1 rfl (Nat.le_of_ble_eq_true rfl) dX11_show_25 ⟨Nat.le_refl _, Nat.le_refl _⟩) rfl (fun Hh11 Lh11 Bh11 kh11 => ?_)
      rcases rh11 with _ | bh11
      ·
        replace hf := hq_N hf
        refine lv_astoreN (lv' := [(5, .null), (4, .ref bh3), (0, .ref a0), (1, .int a1), (2, .int a2), (3, .int a3)]) hx hb dX11_show_28 hl (by decide) rfl (fun ls hl => hp_n (n := 30) rfl ?_)
        refine lv_aload hx hb dX11_show_30 (lv_at hl 1 rfl) (hp_n (n := 32) rfl ?_)
        have J40 : ∀ (αh12 : hp_T) (Hh12 : Heap) (Lh12 : List Loc) (Bh12 : hp_B Γ (cw w_X11_show) s α αh12 Hh12 Lh12) (ls : Array Slot) (hl : lv_has ls 6 [(0, .ref a0)]) (hf : f_X11_show_J40 n a0 αh12 = some res), W p l e (hp_rm 7 0 0) s m ([.ref a0, .int a1, .int a2, .int a3] : List Value).toArray below meth c Hh12 Lh12 0 0 (MQ below (hp_Qi Γ (fun r β => r = res.1 ∧ β = res.2 ∧ cw w_X11_show α β)) ([.ref a0, .int a1, .int a2, .int a3] : List Value).toArray s 0 0 (hp_A Γ)) (F0 m 40 ls []) := by
          intro αh12 Hh12 Lh12 Bh12 ls hl hf
          unfold f_X11_show_J40 at hf
          refine lv_aload_n hx hb dX11_show_40 rfl (lv_at hl 0 rfl) (hp_n (n := 41) rfl ?_)
          refine lv_iconst (v := 2) hx hb dX11_show_41 (by decide) (hp_n (n := 42) rfl ?_)
          obtain ⟨rh13, αh13, qh13, hf⟩ := hq_cE hf
          refine d_ci (pc' := 45) Bh12 (hp_runV (As := [.int (2 : Int32)]) (rest := []) C Bh12 (n_X11_refuse n Γ l αh12 Bh12.2.2.1 a0 (cw_k Bh12.2.2 k0) (2 : Int32) (rh13, αh13) qh13) lb_X11_refuse lv_X11_refuse lk_X11_98 (cw_k Bh12.2.2 k0) rfl (by decide) rfl hl.1 rfl (Nat.le_of_ble_eq_true rfl) dX11_show_42 ⟨Nat.le_refl _, Nat.le_refl _⟩) (by decide) rfl (fun Hh13 Lh13 Bh13 => ?_)
          cases hf
          exact q_iret C Bh13 hr hlk ⟨rfl, rfl, Bh13.2.2⟩ dX11_show_45
        refine lv_ifnull hx hb dX11_show_32 (hp_n (n := 35) rfl ?_)
        refine lv_aloadN hx hb dX11_show_35 (lv_at hl 0 rfl) (hp_n (n := 37) rfl ?_)
        refine lv_ifnonnullN hx hb dX11_show_37 (hp_n (n := 40) rfl ?_)
        exact J40 α Hh11 Lh11 Bh11 ls (lv_sub hl [2] rfl) hf
      ·
        replace hf := hq_S hf
        have kbh11 := kh11 bh11 rfl
        refine lv_astore (lv' := [(5, .ref bh11), (4, .ref bh3), (0, .ref a0), (1, .int a1), (2, .int a2), (3, .int a3)]) hx hb dX11_show_28 hl (by decide) rfl (fun ls hl => hp_n (n := 30) rfl ?_)
        refine lv_aload hx hb dX11_show_30 (lv_at hl 1 rfl) (hp_n (n := 32) rfl ?_)
        have J40 : ∀ (αh14 : hp_T) (Hh14 : Heap) (Lh14 : List Loc) (Bh14 : hp_B Γ (cw w_X11_show) s α αh14 Hh14 Lh14) (ls : Array Slot) (hl : lv_has ls 6 [(0, .ref a0)]) (hf : f_X11_show_J40 n a0 αh14 = some res), W p l e (hp_rm 7 0 0) s m ([.ref a0, .int a1, .int a2, .int a3] : List Value).toArray below meth c Hh14 Lh14 0 0 (MQ below (hp_Qi Γ (fun r β => r = res.1 ∧ β = res.2 ∧ cw w_X11_show α β)) ([.ref a0, .int a1, .int a2, .int a3] : List Value).toArray s 0 0 (hp_A Γ)) (F0 m 40 ls []) := by
          intro αh14 Hh14 Lh14 Bh14 ls hl hf
          unfold f_X11_show_J40 at hf
          refine lv_aload_n hx hb dX11_show_40 rfl (lv_at hl 0 rfl) (hp_n (n := 41) rfl ?_)
          refine lv_iconst (v := 2) hx hb dX11_show_41 (by decide) (hp_n (n := 42) rfl ?_)
          obtain ⟨rh15, αh15, qh15, hf⟩ := hq_cE hf
          refine d_ci (pc' := 45) Bh14 (hp_runV (As := [.int (2 : Int32)]) (rest := []) C Bh14 (n_X11_refuse n Γ l αh14 Bh14.2.2.1 a0 (cw_k Bh14.2.2 k0) (2 : Int32) (rh15, αh15) qh15) lb_X11_refuse lv_X11_refuse lk_X11_98 (cw_k Bh14.2.2 k0) rfl (by decide) rfl hl.1 rfl (Nat.le_of_ble_eq_true rfl) dX11_show_42 ⟨Nat.le_refl _, Nat.le_refl _⟩) (by decide) rfl (fun Hh15 Lh15 Bh15 => ?_)
          cases hf
          exact q_iret C Bh15 hr hlk ⟨rfl, rfl, Bh15.2.2⟩ dX11_show_45
        refine lv_ifnull hx hb dX11_show_32 (hp_n (n := 35) rfl ?_)
        refine lv_aload hx hb dX11_show_35 (lv_at hl 0 rfl) (hp_n (n := 37) rfl ?_)
        refine lv_ifnonnull (tgt := 46) hx hb dX11_show_37 (by decide) ?_
        refine lv_iload_n hx hb dX11_show_46 rfl (lv_at hl 5 rfl) (hp_n (n := 47) rfl ?_)
        refine lv_aload hx hb dX11_show_47 (lv_at hl 0 rfl) (hp_n (n := 49) rfl ?_)
        refine q_geti (κ := 3) (k := 2) (φ := 152) (pc' := 52) C Bh11 (cw_k Bh11.2.2 kbh11) fl_X11_167 rfl rfl rfl dX11_show_49 rfl (fun x16 ex16 => ?_)
        replace hf := ms_lE ex16 hf
        refine lv_icmp_le (tgt := 61) hx hb dX11_show_52 (by decide) (fun c17 => ?_) (fun c17 => hp_n (n := 55) rfl ?_)
        ·
          replace hf := ms_iT c17 hf
          refine lv_aload_n hx hb dX11_show_61 rfl (lv_at hl 2 rfl) (hp_n (n := 62) rfl ?_)
          refine lv_aload_n hx hb dX11_show_62 rfl (lv_at hl 2 rfl) (hp_n (n := 63) rfl ?_)
          refine q_getr (κ := 12) (k := 1) (φ := 601) (pc' := 66) C Bh11 (cw_k Bh11.2.2 k0) fl_X11_16 rfl rfl rfl (cw_r Bh11.2.2 k0 rfl rfl (by decide) (by decide)) dX11_show_63 rfl (fun b18 eb18 kb18 => ?_)
          replace hf := ms_lE eb18 hf
          refine lv_aload hx hb dX11_show_66 (lv_at hl 1 rfl) (hp_n (n := 68) rfl ?_)
          refine lv_aload hx hb dX11_show_68 (lv_at hl 0 rfl) (hp_n (n := 70) rfl ?_)
          refine lv_iload_n hx hb dX11_show_70 rfl (lv_at hl 5 rfl) (hp_n (n := 71) rfl ?_)
          obtain ⟨rh19, αh19, qh19, hf⟩ := hq_cE hf
          refine d_ci (pc' := 74) Bh11 (hp_runV (As := [va_rf (some bh3), .ref bh11, .int a3]) (rest := [.ref a0]) C Bh11 (n_X10_showTo n Γ l α Bh11.2.2.1 b18 (cw_k Bh11.2.2 kb18) (some bh3) (fun b h => by cases h; exact (cw_k Bh11.2.2 kbh3)) bh11 (cw_k Bh11.2.2 kbh11) a3 (rh19, αh19) qh19) lb_X10_showTo lv_X10_showTo lk_X11_247 (cw_k Bh11.2.2 kb18) rfl (by decide) rfl hl.1 rfl (Nat.le_of_ble_eq_true rfl) dX11_show_71 ⟨Nat.le_refl _, Nat.le_refl _⟩) (by decide) rfl (fun Hh19 Lh19 Bh19 => ?_)
          obtain ⟨rh20, αh20, qh20, hf⟩ := hq_cE hf
          refine d_ci (pc' := 77) Bh19 (hp_runV (As := [.int rh19]) (rest := []) C Bh19 (n_X11_answer n Γ l αh19 Bh19.2.2.1 a0 (cw_k Bh19.2.2 k0) rh19 (rh20, αh20) qh20) lb_X11_answer lv_X11_answer lk_X11_115 (cw_k Bh19.2.2 k0) rfl (by decide) rfl hl.1 rfl (Nat.le_of_ble_eq_true rfl) dX11_show_74 ⟨Nat.le_refl _, Nat.le_refl _⟩) (by decide) rfl (fun Hh20 Lh20 Bh20 => ?_)
          cases hf
          exact q_iret C Bh20 hr hlk ⟨rfl, rfl, Bh20.2.2⟩ dX11_show_77
        ·
          replace hf := ms_iF c17 hf
          refine lv_aload_n hx hb dX11_show_55 rfl (lv_at hl 2 rfl) (hp_n (n := 56) rfl ?_)
          refine lv_iconst (v := 5) hx hb dX11_show_56 (by decide) (hp_n (n := 57) rfl ?_)
          obtain ⟨rh21, αh21, qh21, hf⟩ := hq_cE hf
          refine d_ci (pc' := 60) Bh11 (hp_runV (As := [.int (5 : Int32)]) (rest := []) C Bh11 (n_X11_refuse n Γ l α Bh11.2.2.1 a0 (cw_k Bh11.2.2 k0) (5 : Int32) (rh21, αh21) qh21) lb_X11_refuse lv_X11_refuse lk_X11_98 (cw_k Bh11.2.2 k0) rfl (by decide) rfl hl.1 rfl (Nat.le_of_ble_eq_true rfl) dX11_show_57 ⟨Nat.le_refl _, Nat.le_refl _⟩) (by decide) rfl (fun Hh21 Lh21 Bh21 => ?_)
          cases hf
          exact q_iret C Bh21 hr hlk ⟨rfl, rfl, Bh21.2.2⟩ dX11_show_60
  ·
    replace hf := ms_iF c1 hf
    refine lv_aload_n hx hb dX11_show_4 rfl (lv_at hl 0 rfl) (hp_n (n := 5) rfl ?_)
    refine lv_iconst (v := 1) hx hb dX11_show_5 (by decide) (hp_n (n := 6) rfl ?_)
    obtain ⟨rh22, αh22, qh22, hf⟩ := hq_cE hf
    refine d_ci (pc' := 9) B (hp_runV (As := [.int (1 : Int32)]) (rest := []) C B (n_X11_refuse n Γ l α B.2.2.1 a0 (cw_k B.2.2 k0) (1 : Int32) (rh22, αh22) qh22) lb_X11_refuse lv_X11_refuse lk_X11_98 (cw_k B.2.2 k0) rfl (by decide) rfl hl.1 rfl (Nat.le_of_ble_eq_true rfl) dX11_show_6 ⟨Nat.le_refl _, Nat.le_refl _⟩) (by decide) rfl (fun Hh22 Lh22 Bh22 => ?_)
    cases hf
    exact q_iret C Bh22 hr hlk ⟨rfl, rfl, Bh22.2.2⟩ dX11_show_9
def f_X11_meet_J45 (n : Nat) (a0 : Nat) (αh7 : hp_T) : Option (Int32 × hp_T) :=
  hq_c (f_X11_refuse n αh7 a0 (2 : Int32)) fun rh8 αh8 =>
  some (rh8, αh8)
def f_X11_meet (n : Nat) (α : hp_T) (a0 : Nat) (a1 : Int32) (a2 : Int32) (a3 : Int32) : Option (Int32 × hp_T) :=
  ms_l (hp_R α 601 a0) fun b1 =>
  ms_b (f_X10_watcherAt n α b1 a1) fun rh2 =>
  hq_m rh2 (
    ms_l (hp_R α 601 a0) fun b3 =>
    ms_b (f_X10_watcherAt n α b3 a2) fun rh4 =>
    hq_m rh4 (
      ms_l (hp_R α 601 a0) fun b5 =>
      ms_b (f_X10_logAt n α b5 a3) fun rh6 =>
      hq_m rh6 (
        f_X11_meet_J45 n a0 α) fun bh6 =>
      f_X11_meet_J45 n a0 α) fun bh4 =>
    ms_l (hp_R α 601 a0) fun b11 =>
    ms_b (f_X10_logAt n α b11 a3) fun rh12 =>
    hq_m rh12 (
      f_X11_meet_J45 n a0 α) fun bh12 =>
    f_X11_meet_J45 n a0 α) fun bh2 =>
  ms_l (hp_R α 601 a0) fun b17 =>
  ms_b (f_X10_watcherAt n α b17 a2) fun rh18 =>
  hq_m rh18 (
    ms_l (hp_R α 601 a0) fun b19 =>
    ms_b (f_X10_logAt n α b19 a3) fun rh20 =>
    hq_m rh20 (
      f_X11_meet_J45 n a0 α) fun bh20 =>
    f_X11_meet_J45 n a0 α) fun bh18 =>
  ms_l (hp_R α 601 a0) fun b25 =>
  ms_b (f_X10_logAt n α b25 a3) fun rh26 =>
  hq_m rh26 (
    f_X11_meet_J45 n a0 α) fun bh26 =>
  ms_l (hp_R α 601 a0) fun b31 =>
  hq_c (f_X10_meetBy n α b31 bh2 bh18 bh26) fun rh32 αh32 =>
  hq_c (f_X11_answer n αh32 a0 rh32) fun rh33 αh33 =>
  some (rh33, αh33)
set_option maxRecDepth 100000 in
set_option maxHeartbeats 4000000 in
theorem n_X11_meet (n : Nat) (Γ : hp_G) (l : Launch) (α : hp_T) (g : GC α) (a0 : Nat) (k0 : hp_K α a0 = 12) (a1 : Int32) (a2 : Int32) (a3 : Int32) (res : (Int32 × hp_T)) (hf : f_X11_meet n α a0 a1 a2 a3 = some res) : Met l yX11_meet (hp_ws yX11_meet cX11_meet 7 (some .int)) (hp_rm 7 0 0) (hp_Pc Γ α [.ref a0, .int a1, .int a2, .int a3]) (hp_Qi Γ (fun r β => r = res.1 ∧ β = res.2 ∧ cw w_X11_meet α β)) 0 0 (hp_A Γ) := by
  unfold f_X11_meet at hf
  refine hp_start (by decide) ?_
  intro p e s m below meth c C hr hlk B0 hnm
  have C : hp_C Γ p m c cX11_meet 7 s ([.ref a0, .int a1, .int a2, .int a3] : List Value).toArray RX11 := C
  have hx := C.1.1
  have hb := C.1.2.1
  have hown := C.1.2.2.2.1
  have hts := C.1.2.2.2.2
  have B : hp_B Γ (cw w_X11_meet) s α α s.heap [] := ⟨B0.1, B0.2.1, cw_rf g⟩
  have hl := lv_entry ([.ref a0, .int a1, .int a2, .int a3]) (n := 7) (Nat.le_of_ble_eq_true rfl)
  show W p l e (hp_rm 7 0 0) s m ([.ref a0, .int a1, .int a2, .int a3] : List Value).toArray below meth c s.heap [] 0 0 (MQ below (hp_Qi Γ (fun r β => r = res.1 ∧ β = res.2 ∧ cw w_X11_meet α β)) ([.ref a0, .int a1, .int a2, .int a3] : List Value).toArray s 0 0 (hp_A Γ)) (entryFrame m ([.ref a0, .int a1, .int a2, .int a3] : List Value).toArray 7)
  rw [lg_entry_eq]
  generalize (lg_sl ([.ref a0, .int a1, .int a2, .int a3]) ++ List.replicate (7 - (lg_sl ([.ref a0, .int a1, .int a2, .int a3])).length) Slot.unset).toArray = ls at hl ⊢
  have hl : lv_has ls 7 [(0, .ref a0), (1, .int a1), (2, .int a2), (3, .int a3)] := hl
  refine lv_aload_n hx hb dX11_meet_0 rfl (lv_at hl 0 rfl) (hp_n (n := 1) rfl ?_)
  refine q_getr (κ := 12) (k := 1) (φ := 601) (pc' := 4) C B (cw_k B.2.2 k0) fl_X11_16 rfl rfl rfl (cw_r B.2.2 k0 rfl rfl (by decide) (by decide)) dX11_meet_1 rfl (fun b1 eb1 kb1 => ?_)
  replace hf := ms_lE eb1 hf
  refine lv_iload_n hx hb dX11_meet_4 rfl (lv_at hl 1 rfl) (hp_n (n := 5) rfl ?_)
  obtain ⟨rh2, qh2, hf⟩ := ms_bE hf
  refine d_pq (pc' := 8) B (hp_runV (As := [.int a1]) (rest := []) C B (n_X10_watcherAt n Γ l α B.2.2.1 b1 (cw_k B.2.2 kb1) a1 rh2 qh2) lb_X10_watcherAt lv_X10_watcherAt lk_X11_220 (cw_k B.2.2 kb1) rfl (by decide) rfl hl.1 rfl (Nat.le_of_ble_eq_true rfl) dX11_meet_5 ⟨Nat.le_refl _, Nat.le_refl _⟩) rfl (fun Hh2 Lh2 Bh2 kh2 => ?_)
  rcases rh2 with _ | bh2
  ·
    replace hf := hq_N hf
    refine lv_astoreN (lv' := [(4, .null), (0, .ref a0), (1, .int a1), (2, .int a2), (3, .int a3)]) hx hb dX11_meet_8 hl (by decide) rfl (fun ls hl => hp_n (n := 10) rfl ?_)
    refine lv_aload_n hx hb dX11_meet_10 rfl (lv_at hl 1 rfl) (hp_n (n := 11) rfl ?_)
    refine q_getr (κ := 12) (k := 1) (φ := 601) (pc' := 14) C Bh2 (cw_k Bh2.2.2 k0) fl_X11_16 rfl rfl rfl (cw_r Bh2.2.2 k0 rfl rfl (by decide) (by decide)) dX11_meet_11 rfl (fun b3 eb3 kb3 => ?_)
    replace hf := ms_lE eb3 hf
    refine lv_iload_n hx hb dX11_meet_14 rfl (lv_at hl 3 rfl) (hp_n (n := 15) rfl ?_)
    obtain ⟨rh4, qh4, hf⟩ := ms_bE hf
    refine d_pq (pc' := 18) Bh2 (hp_runV (As := [.int a2]) (rest := []) C Bh2 (n_X10_watcherAt n Γ l α Bh2.2.2.1 b3 (cw_k Bh2.2.2 kb3) a2 rh4 qh4) lb_X10_watcherAt lv_X10_watcherAt lk_X11_220 (cw_k Bh2.2.2 kb3) rfl (by decide) rfl hl.1 rfl (Nat.le_of_ble_eq_true rfl) dX11_meet_15 ⟨Nat.le_refl _, Nat.le_refl _⟩) rfl (fun Hh4 Lh4 Bh4 kh4 => ?_)
    rcases rh4 with _ | bh4
    ·
      replace hf := hq_N hf
      refine lv_astoreN (lv' := [(5, .null), (4, .null), (0, .ref a0), (1, .int a1), (2, .int a2), (3, .int a3)]) hx hb dX11_meet_18 hl (by decide) rfl (fun ls hl => hp_n (n := 20) rfl ?_)
      refine lv_aload_n hx hb dX11_meet_20 rfl (lv_at hl 2 rfl) (hp_n (n := 21) rfl ?_)
      refine q_getr (κ := 12) (k := 1) (φ := 601) (pc' := 24) C Bh4 (cw_k Bh4.2.2 k0) fl_X11_16 rfl rfl rfl (cw_r Bh4.2.2 k0 rfl rfl (by decide) (by decide)) dX11_meet_21 rfl (fun b5 eb5 kb5 => ?_)
      replace hf := ms_lE eb5 hf
      refine lv_iload_n hx hb dX11_meet_24 rfl (lv_at hl 5 rfl) (hp_n (n := 25) rfl ?_)
      obtain ⟨rh6, qh6, hf⟩ := ms_bE hf
      refine d_pq (pc' := 28) Bh4 (hp_runV (As := [.int a3]) (rest := []) C Bh4 (n_X10_logAt n Γ l α Bh4.2.2.1 b5 (cw_k Bh4.2.2 kb5) a3 rh6 qh6) lb_X10_logAt lv_X10_logAt lk_X11_163 (cw_k Bh4.2.2 kb5) rfl (by decide) rfl hl.1 rfl (Nat.le_of_ble_eq_true rfl) dX11_meet_25 ⟨Nat.le_refl _, Nat.le_refl _⟩) rfl (fun Hh6 Lh6 Bh6 kh6 => ?_)
      rcases rh6 with _ | bh6
      ·
        replace hf := hq_N hf
        refine lv_astoreN (lv' := [(6, .null), (5, .null), (4, .null), (0, .ref a0), (1, .int a1), (2, .int a2), (3, .int a3)]) hx hb dX11_meet_28 hl (by decide) rfl (fun ls hl => hp_n (n := 30) rfl ?_)
        refine lv_aloadN hx hb dX11_meet_30 (lv_at hl 2 rfl) (hp_n (n := 32) rfl ?_)
        have J45 : ∀ (αh7 : hp_T) (Hh7 : Heap) (Lh7 : List Loc) (Bh7 : hp_B Γ (cw w_X11_meet) s α αh7 Hh7 Lh7) (ls : Array Slot) (hl : lv_has ls 7 [(0, .ref a0)]) (hf : f_X11_meet_J45 n a0 αh7 = some res), W p l e (hp_rm 7 0 0) s m ([.ref a0, .int a1, .int a2, .int a3] : List Value).toArray below meth c Hh7 Lh7 0 0 (MQ below (hp_Qi Γ (fun r β => r = res.1 ∧ β = res.2 ∧ cw w_X11_meet α β)) ([.ref a0, .int a1, .int a2, .int a3] : List Value).toArray s 0 0 (hp_A Γ)) (F0 m 45 ls []) := by
          intro αh7 Hh7 Lh7 Bh7 ls hl hf
          unfold f_X11_meet_J45 at hf
          refine lv_aload_n hx hb dX11_meet_45 rfl (lv_at hl 0 rfl) (hp_n (n := 46) rfl ?_)
          refine lv_iconst (v := 2) hx hb dX11_meet_46 (by decide) (hp_n (n := 47) rfl ?_)
          obtain ⟨rh8, αh8, qh8, hf⟩ := hq_cE hf
          refine d_ci (pc' := 50) Bh7 (hp_runV (As := [.int (2 : Int32)]) (rest := []) C Bh7 (n_X11_refuse n Γ l αh7 Bh7.2.2.1 a0 (cw_k Bh7.2.2 k0) (2 : Int32) (rh8, αh8) qh8) lb_X11_refuse lv_X11_refuse lk_X11_98 (cw_k Bh7.2.2 k0) rfl (by decide) rfl hl.1 rfl (Nat.le_of_ble_eq_true rfl) dX11_meet_47 ⟨Nat.le_refl _, Nat.le_refl _⟩) (by decide) rfl (fun Hh8 Lh8 Bh8 => ?_)
          cases hf
          exact q_iret C Bh8 hr hlk ⟨rfl, rfl, Bh8.2.2⟩ dX11_meet_50
        refine lv_ifnullN (tgt := 45) hx hb dX11_meet_32 (by decide) ?_
        exact J45 α Hh6 Lh6 Bh6 ls (lv_sub hl [3] rfl) hf
      ·
        replace hf := hq_S hf
        have kbh6 := kh6 bh6 rfl
        refine lv_astore (lv' := [(6, .ref bh6), (5, .null), (4, .null), (0, .ref a0), (1, .int a1), (2, .int a2), (3, .int a3)]) hx hb dX11_meet_28 hl (by decide) rfl (fun ls hl => hp_n (n := 30) rfl ?_)
        refine lv_aloadN hx hb dX11_meet_30 (lv_at hl 2 rfl) (hp_n (n := 32) rfl ?_)
        have J45 : ∀ (αh9 : hp_T) (Hh9 : Heap) (Lh9 : List Loc) (Bh9 : hp_B Γ (cw w_X11_meet) s α αh9 Hh9 Lh9) (ls : Array Slot) (hl : lv_has ls 7 [(0, .ref a0)]) (hf : f_X11_meet_J45 n a0 αh9 = some res), W p l e (hp_rm 7 0 0) s m ([.ref a0, .int a1, .int a2, .int a3] : List Value).toArray below meth c Hh9 Lh9 0 0 (MQ below (hp_Qi Γ (fun r β => r = res.1 ∧ β = res.2 ∧ cw w_X11_meet α β)) ([.ref a0, .int a1, .int a2, .int a3] : List Value).toArray s 0 0 (hp_A Γ)) (F0 m 45 ls []) := by
          intro αh9 Hh9 Lh9 Bh9 ls hl hf
          unfold f_X11_meet_J45 at hf
          refine lv_aload_n hx hb dX11_meet_45 rfl (lv_at hl 0 rfl) (hp_n (n := 46) rfl ?_)
          refine lv_iconst (v := 2) hx hb dX11_meet_46 (by decide) (hp_n (n := 47) rfl ?_)
          obtain ⟨rh10, αh10, qh10, hf⟩ := hq_cE hf
          refine d_ci (pc' := 50) Bh9 (hp_runV (As := [.int (2 : Int32)]) (rest := []) C Bh9 (n_X11_refuse n Γ l αh9 Bh9.2.2.1 a0 (cw_k Bh9.2.2 k0) (2 : Int32) (rh10, αh10) qh10) lb_X11_refuse lv_X11_refuse lk_X11_98 (cw_k Bh9.2.2 k0) rfl (by decide) rfl hl.1 rfl (Nat.le_of_ble_eq_true rfl) dX11_meet_47 ⟨Nat.le_refl _, Nat.le_refl _⟩) (by decide) rfl (fun Hh10 Lh10 Bh10 => ?_)
          cases hf
          exact q_iret C Bh10 hr hlk ⟨rfl, rfl, Bh10.2.2⟩ dX11_meet_50
        refine lv_ifnullN (tgt := 45) hx hb dX11_meet_32 (by decide) ?_
        exact J45 α Hh6 Lh6 Bh6 ls (lv_sub hl [3] rfl) hf
    ·
      replace hf := hq_S hf
      have kbh4 := kh4 bh4 rfl
      refine lv_astore (lv' := [(5, .ref bh4), (4, .null), (0, .ref a0), (1, .int a1), (2, .int a2), (3, .int a3)]) hx hb dX11_meet_18 hl (by decide) rfl (fun ls hl => hp_n (n := 20) rfl ?_)
      refine lv_aload_n hx hb dX11_meet_20 rfl (lv_at hl 2 rfl) (hp_n (n := 21) rfl ?_)
      refine q_getr (κ := 12) (k := 1) (φ := 601) (pc' := 24) C Bh4 (cw_k Bh4.2.2 k0) fl_X11_16 rfl rfl rfl (cw_r Bh4.2.2 k0 rfl rfl (by decide) (by decide)) dX11_meet_21 rfl (fun b11 eb11 kb11 => ?_)
      replace hf := ms_lE eb11 hf
      refine lv_iload_n hx hb dX11_meet_24 rfl (lv_at hl 5 rfl) (hp_n (n := 25) rfl ?_)
      obtain ⟨rh12, qh12, hf⟩ := ms_bE hf
      refine d_pq (pc' := 28) Bh4 (hp_runV (As := [.int a3]) (rest := []) C Bh4 (n_X10_logAt n Γ l α Bh4.2.2.1 b11 (cw_k Bh4.2.2 kb11) a3 rh12 qh12) lb_X10_logAt lv_X10_logAt lk_X11_163 (cw_k Bh4.2.2 kb11) rfl (by decide) rfl hl.1 rfl (Nat.le_of_ble_eq_true rfl) dX11_meet_25 ⟨Nat.le_refl _, Nat.le_refl _⟩) rfl (fun Hh12 Lh12 Bh12 kh12 => ?_)
      rcases rh12 with _ | bh12
      ·
        replace hf := hq_N hf
        refine lv_astoreN (lv' := [(6, .null), (5, .ref bh4), (4, .null), (0, .ref a0), (1, .int a1), (2, .int a2), (3, .int a3)]) hx hb dX11_meet_28 hl (by decide) rfl (fun ls hl => hp_n (n := 30) rfl ?_)
        refine lv_aloadN hx hb dX11_meet_30 (lv_at hl 2 rfl) (hp_n (n := 32) rfl ?_)
        have J45 : ∀ (αh13 : hp_T) (Hh13 : Heap) (Lh13 : List Loc) (Bh13 : hp_B Γ (cw w_X11_meet) s α αh13 Hh13 Lh13) (ls : Array Slot) (hl : lv_has ls 7 [(0, .ref a0)]) (hf : f_X11_meet_J45 n a0 αh13 = some res), W p l e (hp_rm 7 0 0) s m ([.ref a0, .int a1, .int a2, .int a3] : List Value).toArray below meth c Hh13 Lh13 0 0 (MQ below (hp_Qi Γ (fun r β => r = res.1 ∧ β = res.2 ∧ cw w_X11_meet α β)) ([.ref a0, .int a1, .int a2, .int a3] : List Value).toArray s 0 0 (hp_A Γ)) (F0 m 45 ls []) := by
          intro αh13 Hh13 Lh13 Bh13 ls hl hf
          unfold f_X11_meet_J45 at hf
          refine lv_aload_n hx hb dX11_meet_45 rfl (lv_at hl 0 rfl) (hp_n (n := 46) rfl ?_)
          refine lv_iconst (v := 2) hx hb dX11_meet_46 (by decide) (hp_n (n := 47) rfl ?_)
          obtain ⟨rh14, αh14, qh14, hf⟩ := hq_cE hf
          refine d_ci (pc' := 50) Bh13 (hp_runV (As := [.int (2 : Int32)]) (rest := []) C Bh13 (n_X11_refuse n Γ l αh13 Bh13.2.2.1 a0 (cw_k Bh13.2.2 k0) (2 : Int32) (rh14, αh14) qh14) lb_X11_refuse lv_X11_refuse lk_X11_98 (cw_k Bh13.2.2 k0) rfl (by decide) rfl hl.1 rfl (Nat.le_of_ble_eq_true rfl) dX11_meet_47 ⟨Nat.le_refl _, Nat.le_refl _⟩) (by decide) rfl (fun Hh14 Lh14 Bh14 => ?_)
          cases hf
          exact q_iret C Bh14 hr hlk ⟨rfl, rfl, Bh14.2.2⟩ dX11_meet_50
        refine lv_ifnullN (tgt := 45) hx hb dX11_meet_32 (by decide) ?_
        exact J45 α Hh12 Lh12 Bh12 ls (lv_sub hl [3] rfl) hf
      ·
        replace hf := hq_S hf
        have kbh12 := kh12 bh12 rfl
        refine lv_astore (lv' := [(6, .ref bh12), (5, .ref bh4), (4, .null), (0, .ref a0), (1, .int a1), (2, .int a2), (3, .int a3)]) hx hb dX11_meet_28 hl (by decide) rfl (fun ls hl => hp_n (n := 30) rfl ?_)
        refine lv_aloadN hx hb dX11_meet_30 (lv_at hl 2 rfl) (hp_n (n := 32) rfl ?_)
        have J45 : ∀ (αh15 : hp_T) (Hh15 : Heap) (Lh15 : List Loc) (Bh15 : hp_B Γ (cw w_X11_meet) s α αh15 Hh15 Lh15) (ls : Array Slot) (hl : lv_has ls 7 [(0, .ref a0)]) (hf : f_X11_meet_J45 n a0 αh15 = some res), W p l e (hp_rm 7 0 0) s m ([.ref a0, .int a1, .int a2, .int a3] : List Value).toArray below meth c Hh15 Lh15 0 0 (MQ below (hp_Qi Γ (fun r β => r = res.1 ∧ β = res.2 ∧ cw w_X11_meet α β)) ([.ref a0, .int a1, .int a2, .int a3] : List Value).toArray s 0 0 (hp_A Γ)) (F0 m 45 ls []) := by
          intro αh15 Hh15 Lh15 Bh15 ls hl hf
          unfold f_X11_meet_J45 at hf
          refine lv_aload_n hx hb dX11_meet_45 rfl (lv_at hl 0 rfl) (hp_n (n := 46) rfl ?_)
          refine lv_iconst (v := 2) hx hb dX11_meet_46 (by decide) (hp_n (n := 47) rfl ?_)
          obtain ⟨rh16, αh16, qh16, hf⟩ := hq_cE hf
          refine d_ci (pc' := 50) Bh15 (hp_runV (As := [.int (2 : Int32)]) (rest := []) C Bh15 (n_X11_refuse n Γ l αh15 Bh15.2.2.1 a0 (cw_k Bh15.2.2 k0) (2 : Int32) (rh16, αh16) qh16) lb_X11_refuse lv_X11_refuse lk_X11_98 (cw_k Bh15.2.2 k0) rfl (by decide) rfl hl.1 rfl (Nat.le_of_ble_eq_true rfl) dX11_meet_47 ⟨Nat.le_refl _, Nat.le_refl _⟩) (by decide) rfl (fun Hh16 Lh16 Bh16 => ?_)
          cases hf
          exact q_iret C Bh16 hr hlk ⟨rfl, rfl, Bh16.2.2⟩ dX11_meet_50
        refine lv_ifnullN (tgt := 45) hx hb dX11_meet_32 (by decide) ?_
        exact J45 α Hh12 Lh12 Bh12 ls (lv_sub hl [3] rfl) hf
  ·
    replace hf := hq_S hf
    have kbh2 := kh2 bh2 rfl
    refine lv_astore (lv' := [(4, .ref bh2), (0, .ref a0), (1, .int a1), (2, .int a2), (3, .int a3)]) hx hb dX11_meet_8 hl (by decide) rfl (fun ls hl => hp_n (n := 10) rfl ?_)
    refine lv_aload_n hx hb dX11_meet_10 rfl (lv_at hl 1 rfl) (hp_n (n := 11) rfl ?_)
    refine q_getr (κ := 12) (k := 1) (φ := 601) (pc' := 14) C Bh2 (cw_k Bh2.2.2 k0) fl_X11_16 rfl rfl rfl (cw_r Bh2.2.2 k0 rfl rfl (by decide) (by decide)) dX11_meet_11 rfl (fun b17 eb17 kb17 => ?_)
    replace hf := ms_lE eb17 hf
    refine lv_iload_n hx hb dX11_meet_14 rfl (lv_at hl 3 rfl) (hp_n (n := 15) rfl ?_)
    obtain ⟨rh18, qh18, hf⟩ := ms_bE hf
    refine d_pq (pc' := 18) Bh2 (hp_runV (As := [.int a2]) (rest := []) C Bh2 (n_X10_watcherAt n Γ l α Bh2.2.2.1 b17 (cw_k Bh2.2.2 kb17) a2 rh18 qh18) lb_X10_watcherAt lv_X10_watcherAt lk_X11_220 (cw_k Bh2.2.2 kb17) rfl (by decide) rfl hl.1 rfl (Nat.le_of_ble_eq_true rfl) dX11_meet_15 ⟨Nat.le_refl _, Nat.le_refl _⟩) rfl (fun Hh18 Lh18 Bh18 kh18 => ?_)
    rcases rh18 with _ | bh18
    ·
      replace hf := hq_N hf
      refine lv_astoreN (lv' := [(5, .null), (4, .ref bh2), (0, .ref a0), (1, .int a1), (2, .int a2), (3, .int a3)]) hx hb dX11_meet_18 hl (by decide) rfl (fun ls hl => hp_n (n := 20) rfl ?_)
      refine lv_aload_n hx hb dX11_meet_20 rfl (lv_at hl 2 rfl) (hp_n (n := 21) rfl ?_)
      refine q_getr (κ := 12) (k := 1) (φ := 601) (pc' := 24) C Bh18 (cw_k Bh18.2.2 k0) fl_X11_16 rfl rfl rfl (cw_r Bh18.2.2 k0 rfl rfl (by decide) (by decide)) dX11_meet_21 rfl (fun b19 eb19 kb19 => ?_)
      replace hf := ms_lE eb19 hf
      refine lv_iload_n hx hb dX11_meet_24 rfl (lv_at hl 5 rfl) (hp_n (n := 25) rfl ?_)
      obtain ⟨rh20, qh20, hf⟩ := ms_bE hf
      refine d_pq (pc' := 28) Bh18 (hp_runV (As := [.int a3]) (rest := []) C Bh18 (n_X10_logAt n Γ l α Bh18.2.2.1 b19 (cw_k Bh18.2.2 kb19) a3 rh20 qh20) lb_X10_logAt lv_X10_logAt lk_X11_163 (cw_k Bh18.2.2 kb19) rfl (by decide) rfl hl.1 rfl (Nat.le_of_ble_eq_true rfl) dX11_meet_25 ⟨Nat.le_refl _, Nat.le_refl _⟩) rfl (fun Hh20 Lh20 Bh20 kh20 => ?_)
      rcases rh20 with _ | bh20
      ·
        replace hf := hq_N hf
        refine lv_astoreN (lv' := [(6, .null), (5, .null), (4, .ref bh2), (0, .ref a0), (1, .int a1), (2, .int a2), (3, .int a3)]) hx hb dX11_meet_28 hl (by decide) rfl (fun ls hl => hp_n (n := 30) rfl ?_)
        refine lv_aload hx hb dX11_meet_30 (lv_at hl 2 rfl) (hp_n (n := 32) rfl ?_)
        have J45 : ∀ (αh21 : hp_T) (Hh21 : Heap) (Lh21 : List Loc) (Bh21 : hp_B Γ (cw w_X11_meet) s α αh21 Hh21 Lh21) (ls : Array Slot) (hl : lv_has ls 7 [(0, .ref a0)]) (hf : f_X11_meet_J45 n a0 αh21 = some res), W p l e (hp_rm 7 0 0) s m ([.ref a0, .int a1, .int a2, .int a3] : List Value).toArray below meth c Hh21 Lh21 0 0 (MQ below (hp_Qi Γ (fun r β => r = res.1 ∧ β = res.2 ∧ cw w_X11_meet α β)) ([.ref a0, .int a1, .int a2, .int a3] : List Value).toArray s 0 0 (hp_A Γ)) (F0 m 45 ls []) := by
          intro αh21 Hh21 Lh21 Bh21 ls hl hf
          unfold f_X11_meet_J45 at hf
          refine lv_aload_n hx hb dX11_meet_45 rfl (lv_at hl 0 rfl) (hp_n (n := 46) rfl ?_)
          refine lv_iconst (v := 2) hx hb dX11_meet_46 (by decide) (hp_n (n := 47) rfl ?_)
          obtain ⟨rh22, αh22, qh22, hf⟩ := hq_cE hf
          refine d_ci (pc' := 50) Bh21 (hp_runV (As := [.int (2 : Int32)]) (rest := []) C Bh21 (n_X11_refuse n Γ l αh21 Bh21.2.2.1 a0 (cw_k Bh21.2.2 k0) (2 : Int32) (rh22, αh22) qh22) lb_X11_refuse lv_X11_refuse lk_X11_98 (cw_k Bh21.2.2 k0) rfl (by decide) rfl hl.1 rfl (Nat.le_of_ble_eq_true rfl) dX11_meet_47 ⟨Nat.le_refl _, Nat.le_refl _⟩) (by decide) rfl (fun Hh22 Lh22 Bh22 => ?_)
          cases hf
          exact q_iret C Bh22 hr hlk ⟨rfl, rfl, Bh22.2.2⟩ dX11_meet_50
        refine lv_ifnull hx hb dX11_meet_32 (hp_n (n := 35) rfl ?_)
        refine lv_aloadN hx hb dX11_meet_35 (lv_at hl 1 rfl) (hp_n (n := 37) rfl ?_)
        refine lv_ifnullN (tgt := 45) hx hb dX11_meet_37 (by decide) ?_
        exact J45 α Hh20 Lh20 Bh20 ls (lv_sub hl [3] rfl) hf
      ·
        replace hf := hq_S hf
        have kbh20 := kh20 bh20 rfl
        refine lv_astore (lv' := [(6, .ref bh20), (5, .null), (4, .ref bh2), (0, .ref a0), (1, .int a1), (2, .int a2), (3, .int a3)]) hx hb dX11_meet_28 hl (by decide) rfl (fun ls hl => hp_n (n := 30) rfl ?_)
        refine lv_aload hx hb dX11_meet_30 (lv_at hl 2 rfl) (hp_n (n := 32) rfl ?_)
        have J45 : ∀ (αh23 : hp_T) (Hh23 : Heap) (Lh23 : List Loc) (Bh23 : hp_B Γ (cw w_X11_meet) s α αh23 Hh23 Lh23) (ls : Array Slot) (hl : lv_has ls 7 [(0, .ref a0)]) (hf : f_X11_meet_J45 n a0 αh23 = some res), W p l e (hp_rm 7 0 0) s m ([.ref a0, .int a1, .int a2, .int a3] : List Value).toArray below meth c Hh23 Lh23 0 0 (MQ below (hp_Qi Γ (fun r β => r = res.1 ∧ β = res.2 ∧ cw w_X11_meet α β)) ([.ref a0, .int a1, .int a2, .int a3] : List Value).toArray s 0 0 (hp_A Γ)) (F0 m 45 ls []) := by
          intro αh23 Hh23 Lh23 Bh23 ls hl hf
          unfold f_X11_meet_J45 at hf
          refine lv_aload_n hx hb dX11_meet_45 rfl (lv_at hl 0 rfl) (hp_n (n := 46) rfl ?_)
          refine lv_iconst (v := 2) hx hb dX11_meet_46 (by decide) (hp_n (n := 47) rfl ?_)
          obtain ⟨rh24, αh24, qh24, hf⟩ := hq_cE hf
          refine d_ci (pc' := 50) Bh23 (hp_runV (As := [.int (2 : Int32)]) (rest := []) C Bh23 (n_X11_refuse n Γ l αh23 Bh23.2.2.1 a0 (cw_k Bh23.2.2 k0) (2 : Int32) (rh24, αh24) qh24) lb_X11_refuse lv_X11_refuse lk_X11_98 (cw_k Bh23.2.2 k0) rfl (by decide) rfl hl.1 rfl (Nat.le_of_ble_eq_true rfl) dX11_meet_47 ⟨Nat.le_refl _, Nat.le_refl _⟩) (by decide) rfl (fun Hh24 Lh24 Bh24 => ?_)
          cases hf
          exact q_iret C Bh24 hr hlk ⟨rfl, rfl, Bh24.2.2⟩ dX11_meet_50
        refine lv_ifnull hx hb dX11_meet_32 (hp_n (n := 35) rfl ?_)
        refine lv_aloadN hx hb dX11_meet_35 (lv_at hl 1 rfl) (hp_n (n := 37) rfl ?_)
        refine lv_ifnullN (tgt := 45) hx hb dX11_meet_37 (by decide) ?_
        exact J45 α Hh20 Lh20 Bh20 ls (lv_sub hl [3] rfl) hf
    ·
      replace hf := hq_S hf
      have kbh18 := kh18 bh18 rfl
      refine lv_astore (lv' := [(5, .ref bh18), (4, .ref bh2), (0, .ref a0), (1, .int a1), (2, .int a2), (3, .int a3)]) hx hb dX11_meet_18 hl (by decide) rfl (fun ls hl => hp_n (n := 20) rfl ?_)
      refine lv_aload_n hx hb dX11_meet_20 rfl (lv_at hl 2 rfl) (hp_n (n := 21) rfl ?_)
      refine q_getr (κ := 12) (k := 1) (φ := 601) (pc' := 24) C Bh18 (cw_k Bh18.2.2 k0) fl_X11_16 rfl rfl rfl (cw_r Bh18.2.2 k0 rfl rfl (by decide) (by decide)) dX11_meet_21 rfl (fun b25 eb25 kb25 => ?_)
      replace hf := ms_lE eb25 hf
      refine lv_iload_n hx hb dX11_meet_24 rfl (lv_at hl 5 rfl) (hp_n (n := 25) rfl ?_)
      obtain ⟨rh26, qh26, hf⟩ := ms_bE hf
      refine d_pq (pc' := 28) Bh18 (hp_runV (As := [.int a3]) (rest := []) C Bh18 (n_X10_logAt n Γ l α Bh18.2.2.1 b25 (cw_k Bh18.2.2 kb25) a3 rh26 qh26) lb_X10_logAt lv_X10_logAt lk_X11_163 (cw_k Bh18.2.2 kb25) rfl (by decide) rfl hl.1 rfl (Nat.le_of_ble_eq_true rfl) dX11_meet_25 ⟨Nat.le_refl _, Nat.le_refl _⟩) rfl (fun Hh26 Lh26 Bh26 kh26 => ?_)
      rcases rh26 with _ | bh26
      ·
        replace hf := hq_N hf
        refine lv_astoreN (lv' := [(6, .null), (5, .ref bh18), (4, .ref bh2), (0, .ref a0), (1, .int a1), (2, .int a2), (3, .int a3)]) hx hb dX11_meet_28 hl (by decide) rfl (fun ls hl => hp_n (n := 30) rfl ?_)
        refine lv_aload hx hb dX11_meet_30 (lv_at hl 2 rfl) (hp_n (n := 32) rfl ?_)
        have J45 : ∀ (αh27 : hp_T) (Hh27 : Heap) (Lh27 : List Loc) (Bh27 : hp_B Γ (cw w_X11_meet) s α αh27 Hh27 Lh27) (ls : Array Slot) (hl : lv_has ls 7 [(0, .ref a0)]) (hf : f_X11_meet_J45 n a0 αh27 = some res), W p l e (hp_rm 7 0 0) s m ([.ref a0, .int a1, .int a2, .int a3] : List Value).toArray below meth c Hh27 Lh27 0 0 (MQ below (hp_Qi Γ (fun r β => r = res.1 ∧ β = res.2 ∧ cw w_X11_meet α β)) ([.ref a0, .int a1, .int a2, .int a3] : List Value).toArray s 0 0 (hp_A Γ)) (F0 m 45 ls []) := by
          intro αh27 Hh27 Lh27 Bh27 ls hl hf
          unfold f_X11_meet_J45 at hf
          refine lv_aload_n hx hb dX11_meet_45 rfl (lv_at hl 0 rfl) (hp_n (n := 46) rfl ?_)
          refine lv_iconst (v := 2) hx hb dX11_meet_46 (by decide) (hp_n (n := 47) rfl ?_)
          obtain ⟨rh28, αh28, qh28, hf⟩ := hq_cE hf
          refine d_ci (pc' := 50) Bh27 (hp_runV (As := [.int (2 : Int32)]) (rest := []) C Bh27 (n_X11_refuse n Γ l αh27 Bh27.2.2.1 a0 (cw_k Bh27.2.2 k0) (2 : Int32) (rh28, αh28) qh28) lb_X11_refuse lv_X11_refuse lk_X11_98 (cw_k Bh27.2.2 k0) rfl (by decide) rfl hl.1 rfl (Nat.le_of_ble_eq_true rfl) dX11_meet_47 ⟨Nat.le_refl _, Nat.le_refl _⟩) (by decide) rfl (fun Hh28 Lh28 Bh28 => ?_)
          cases hf
          exact q_iret C Bh28 hr hlk ⟨rfl, rfl, Bh28.2.2⟩ dX11_meet_50
        refine lv_ifnull hx hb dX11_meet_32 (hp_n (n := 35) rfl ?_)
        refine lv_aload hx hb dX11_meet_35 (lv_at hl 1 rfl) (hp_n (n := 37) rfl ?_)
        refine lv_ifnull hx hb dX11_meet_37 (hp_n (n := 40) rfl ?_)
        refine lv_aloadN hx hb dX11_meet_40 (lv_at hl 0 rfl) (hp_n (n := 42) rfl ?_)
        refine lv_ifnonnullN hx hb dX11_meet_42 (hp_n (n := 45) rfl ?_)
        exact J45 α Hh26 Lh26 Bh26 ls (lv_sub hl [3] rfl) hf
      ·
        replace hf := hq_S hf
        have kbh26 := kh26 bh26 rfl
        refine lv_astore (lv' := [(6, .ref bh26), (5, .ref bh18), (4, .ref bh2), (0, .ref a0), (1, .int a1), (2, .int a2), (3, .int a3)]) hx hb dX11_meet_28 hl (by decide) rfl (fun ls hl => hp_n (n := 30) rfl ?_)
        refine lv_aload hx hb dX11_meet_30 (lv_at hl 2 rfl) (hp_n (n := 32) rfl ?_)
        have J45 : ∀ (αh29 : hp_T) (Hh29 : Heap) (Lh29 : List Loc) (Bh29 : hp_B Γ (cw w_X11_meet) s α αh29 Hh29 Lh29) (ls : Array Slot) (hl : lv_has ls 7 [(0, .ref a0)]) (hf : f_X11_meet_J45 n a0 αh29 = some res), W p l e (hp_rm 7 0 0) s m ([.ref a0, .int a1, .int a2, .int a3] : List Value).toArray below meth c Hh29 Lh29 0 0 (MQ below (hp_Qi Γ (fun r β => r = res.1 ∧ β = res.2 ∧ cw w_X11_meet α β)) ([.ref a0, .int a1, .int a2, .int a3] : List Value).toArray s 0 0 (hp_A Γ)) (F0 m 45 ls []) := by
          intro αh29 Hh29 Lh29 Bh29 ls hl hf
          unfold f_X11_meet_J45 at hf
          refine lv_aload_n hx hb dX11_meet_45 rfl (lv_at hl 0 rfl) (hp_n (n := 46) rfl ?_)
          refine lv_iconst (v := 2) hx hb dX11_meet_46 (by decide) (hp_n (n := 47) rfl ?_)
          obtain ⟨rh30, αh30, qh30, hf⟩ := hq_cE hf
          refine d_ci (pc' := 50) Bh29 (hp_runV (As := [.int (2 : Int32)]) (rest := []) C Bh29 (n_X11_refuse n Γ l αh29 Bh29.2.2.1 a0 (cw_k Bh29.2.2 k0) (2 : Int32) (rh30, αh30) qh30) lb_X11_refuse lv_X11_refuse lk_X11_98 (cw_k Bh29.2.2 k0) rfl (by decide) rfl hl.1 rfl (Nat.le_of_ble_eq_true rfl) dX11_meet_47 ⟨Nat.le_refl _, Nat.le_refl _⟩) (by decide) rfl (fun Hh30 Lh30 Bh30 => ?_)
          cases hf
          exact q_iret C Bh30 hr hlk ⟨rfl, rfl, Bh30.2.2⟩ dX11_meet_50
        refine lv_ifnull hx hb dX11_meet_32 (hp_n (n := 35) rfl ?_)
        refine lv_aload hx hb dX11_meet_35 (lv_at hl 1 rfl) (hp_n (n := 37) rfl ?_)
        refine lv_ifnull hx hb dX11_meet_37 (hp_n (n := 40) rfl ?_)
        refine lv_aload hx hb dX11_meet_40 (lv_at hl 0 rfl) (hp_n (n := 42) rfl ?_)
        refine lv_ifnonnull (tgt := 51) hx hb dX11_meet_42 (by decide) ?_
        refine lv_aload_n hx hb dX11_meet_51 rfl (lv_at hl 3 rfl) (hp_n (n := 52) rfl ?_)
        refine lv_aload_n hx hb dX11_meet_52 rfl (lv_at hl 3 rfl) (hp_n (n := 53) rfl ?_)
        refine q_getr (κ := 12) (k := 1) (φ := 601) (pc' := 56) C Bh26 (cw_k Bh26.2.2 k0) fl_X11_16 rfl rfl rfl (cw_r Bh26.2.2 k0 rfl rfl (by decide) (by decide)) dX11_meet_53 rfl (fun b31 eb31 kb31 => ?_)
        replace hf := ms_lE eb31 hf
        refine lv_aload hx hb dX11_meet_56 (lv_at hl 2 rfl) (hp_n (n := 58) rfl ?_)
        refine lv_aload hx hb dX11_meet_58 (lv_at hl 1 rfl) (hp_n (n := 60) rfl ?_)
        refine lv_aload hx hb dX11_meet_60 (lv_at hl 0 rfl) (hp_n (n := 62) rfl ?_)
        obtain ⟨rh32, αh32, qh32, hf⟩ := hq_cE hf
        refine d_ci (pc' := 65) Bh26 (hp_runV (As := [.ref bh2, .ref bh18, .ref bh26]) (rest := [.ref a0]) C Bh26 (n_X10_meetBy n Γ l α Bh26.2.2.1 b31 (cw_k Bh26.2.2 kb31) bh2 (cw_k Bh26.2.2 kbh2) bh18 (cw_k Bh26.2.2 kbh18) bh26 (cw_k Bh26.2.2 kbh26) (rh32, αh32) qh32) lb_X10_meetBy lv_X10_meetBy lk_X11_251 (cw_k Bh26.2.2 kb31) rfl (by decide) rfl hl.1 rfl (Nat.le_of_ble_eq_true rfl) dX11_meet_62 ⟨Nat.le_refl _, Nat.le_refl _⟩) (by decide) rfl (fun Hh32 Lh32 Bh32 => ?_)
        obtain ⟨rh33, αh33, qh33, hf⟩ := hq_cE hf
        refine d_ci (pc' := 68) Bh32 (hp_runV (As := [.int rh32]) (rest := []) C Bh32 (n_X11_answer n Γ l αh32 Bh32.2.2.1 a0 (cw_k Bh32.2.2 k0) rh32 (rh33, αh33) qh33) lb_X11_answer lv_X11_answer lk_X11_115 (cw_k Bh32.2.2 k0) rfl (by decide) rfl hl.1 rfl (Nat.le_of_ble_eq_true rfl) dX11_meet_65 ⟨Nat.le_refl _, Nat.le_refl _⟩) (by decide) rfl (fun Hh33 Lh33 Bh33 => ?_)
        cases hf
        exact q_iret C Bh33 hr hlk ⟨rfl, rfl, Bh33.2.2⟩ dX11_meet_68
def f_X11_spoil_J21 (n : Nat) (a0 : Nat) (αh1 : hp_T) : Option (Int32 × hp_T) :=
  hq_c (f_X11_refuse n αh1 a0 (1 : Int32)) fun rh2 αh2 =>
  some (rh2, αh2)
def f_X11_spoil_J81 (n : Nat) (a0 : Nat) (αh11 : hp_T) : Option (Int32 × hp_T) :=
  hq_c (f_X11_refuse n αh11 a0 (5 : Int32)) fun rh12 αh12 =>
  some (rh12, αh12)
def f_X11_spoil (n : Nat) (α : hp_T) (a0 : Nat) (a1 : Int32) (a2 : Int32) (a3 : Int32) (a4 : Int32) : Option (Int32 × hp_T) :=
  if a4 < (1 : Int32) then
    f_X11_spoil_J21 n a0 α
  else
    if (26 : Int32) < a4 then
      f_X11_spoil_J21 n a0 α
    else
      if a2 < 0 then
        f_X11_spoil_J21 n a0 α
      else
        if 0 ≤ a3 then
          ms_l (hp_R α 601 a0) fun b7 =>
          ms_b (f_X10_logAt n α b7 a1) fun rh8 =>
          hq_m rh8 (
            hq_c (f_X11_refuse n α a0 (2 : Int32)) fun rh9 αh9 =>
            some (rh9, αh9)) fun bh8 =>
          ms_b (f_X2_wordAt n α bh8 a2) fun rh10 =>
          hq_m rh10 (
            f_X11_spoil_J81 n a0 α) fun bh10 =>
          ms_l (hp_I α 501 bh10) fun x15 =>
          if x15 ≤ a3 then
            f_X11_spoil_J81 n a0 α
          else
            ms_b (f_X9_letterAt n α bh10 a3) fun rh17 =>
            if rh17 = a4 then
              f_X11_spoil_J81 n a0 α
            else
              ms_b (f_X9_letterAt n α bh10 a3) fun rh19 =>
              ms_l (hp_R α 601 a0) fun b20 =>
              ms_b (f_X10_spoilLetter n α b20 bh8 a2 a3 a4) fun αh21 =>
              hq_c (f_X11_answer n αh21 a0 rh19) fun rh22 αh22 =>
              some (rh22, αh22)
        else
          f_X11_spoil_J21 n a0 α
set_option maxRecDepth 100000 in
set_option maxHeartbeats 4000000 in
theorem n_X11_spoil (n : Nat) (Γ : hp_G) (l : Launch) (α : hp_T) (g : GC α) (a0 : Nat) (k0 : hp_K α a0 = 12) (a1 : Int32) (a2 : Int32) (a3 : Int32) (a4 : Int32) (res : (Int32 × hp_T)) (hf : f_X11_spoil n α a0 a1 a2 a3 a4 = some res) : Met l yX11_spoil (hp_ws yX11_spoil cX11_spoil 8 (some .int)) (hp_rm 4 0 0) (hp_Pc Γ α [.ref a0, .int a1, .int a2, .int a3, .int a4]) (hp_Qi Γ (fun r β => r = res.1 ∧ β = res.2 ∧ cw w_X11_spoil α β)) 0 0 (hp_A Γ) := by
  unfold f_X11_spoil at hf
  refine hp_start (by decide) ?_
  intro p e s m below meth c C hr hlk B0 hnm
  have C : hp_C Γ p m c cX11_spoil 8 s ([.ref a0, .int a1, .int a2, .int a3, .int a4] : List Value).toArray RX11 := C
  have hx := C.1.1
  have hb := C.1.2.1
  have hown := C.1.2.2.2.1
  have hts := C.1.2.2.2.2
  have B : hp_B Γ (cw w_X11_spoil) s α α s.heap [] := ⟨B0.1, B0.2.1, cw_rf g⟩
  have hl := lv_entry ([.ref a0, .int a1, .int a2, .int a3, .int a4]) (n := 8) (Nat.le_of_ble_eq_true rfl)
  show W p l e (hp_rm 4 0 0) s m ([.ref a0, .int a1, .int a2, .int a3, .int a4] : List Value).toArray below meth c s.heap [] 0 0 (MQ below (hp_Qi Γ (fun r β => r = res.1 ∧ β = res.2 ∧ cw w_X11_spoil α β)) ([.ref a0, .int a1, .int a2, .int a3, .int a4] : List Value).toArray s 0 0 (hp_A Γ)) (entryFrame m ([.ref a0, .int a1, .int a2, .int a3, .int a4] : List Value).toArray 8)
  rw [lg_entry_eq]
  generalize (lg_sl ([.ref a0, .int a1, .int a2, .int a3, .int a4]) ++ List.replicate (8 - (lg_sl ([.ref a0, .int a1, .int a2, .int a3, .int a4])).length) Slot.unset).toArray = ls at hl ⊢
  have hl : lv_has ls 8 [(0, .ref a0), (1, .int a1), (2, .int a2), (3, .int a3), (4, .int a4)] := hl
  refine lv_iload hx hb dX11_spoil_0 (lv_at hl 4 rfl) (hp_n (n := 2) rfl ?_)
  refine lv_iconst (v := 1) hx hb dX11_spoil_2 (by decide) (hp_n (n := 3) rfl ?_)
  have J21 : ∀ (αh1 : hp_T) (Hh1 : Heap) (Lh1 : List Loc) (Bh1 : hp_B Γ (cw w_X11_spoil) s α αh1 Hh1 Lh1) (ls : Array Slot) (hl : lv_has ls 8 [(0, .ref a0)]) (hf : f_X11_spoil_J21 n a0 αh1 = some res), W p l e (hp_rm 4 0 0) s m ([.ref a0, .int a1, .int a2, .int a3, .int a4] : List Value).toArray below meth c Hh1 Lh1 0 0 (MQ below (hp_Qi Γ (fun r β => r = res.1 ∧ β = res.2 ∧ cw w_X11_spoil α β)) ([.ref a0, .int a1, .int a2, .int a3, .int a4] : List Value).toArray s 0 0 (hp_A Γ)) (F0 m 21 ls []) := by
    intro αh1 Hh1 Lh1 Bh1 ls hl hf
    unfold f_X11_spoil_J21 at hf
    refine lv_aload_n hx hb dX11_spoil_21 rfl (lv_at hl 0 rfl) (hp_n (n := 22) rfl ?_)
    refine lv_iconst (v := 1) hx hb dX11_spoil_22 (by decide) (hp_n (n := 23) rfl ?_)
    obtain ⟨rh2, αh2, qh2, hf⟩ := hq_cE hf
    refine d_ci (pc' := 26) Bh1 (hp_runV (As := [.int (1 : Int32)]) (rest := []) C Bh1 (n_X11_refuse n Γ l αh1 Bh1.2.2.1 a0 (cw_k Bh1.2.2 k0) (1 : Int32) (rh2, αh2) qh2) lb_X11_refuse lv_X11_refuse lk_X11_98 (cw_k Bh1.2.2 k0) rfl (by decide) rfl hl.1 rfl (Nat.le_of_ble_eq_true rfl) dX11_spoil_23 ⟨Nat.le_refl _, Nat.le_refl _⟩) (by decide) rfl (fun Hh2 Lh2 Bh2 => ?_)
    cases hf
    exact q_iret C Bh2 hr hlk ⟨rfl, rfl, Bh2.2.2⟩ dX11_spoil_26
  refine lv_icmp_lt (tgt := 21) hx hb dX11_spoil_3 (by decide) (fun c3 => ?_) (fun c3 => hp_n (n := 6) rfl ?_)
  ·
    replace hf := ms_iT c3 hf
    exact J21 α s.heap [] B ls (lv_sub hl [0] rfl) hf
  ·
    replace hf := ms_iF c3 hf
    refine lv_iload hx hb dX11_spoil_6 (lv_at hl 4 rfl) (hp_n (n := 8) rfl ?_)
    refine lv_bipush (v := 26) hx hb dX11_spoil_8 (by decide) (hp_n (n := 10) rfl ?_)
    refine lv_icmp_gt (tgt := 21) hx hb dX11_spoil_10 (by decide) (fun c4 => ?_) (fun c4 => hp_n (n := 13) rfl ?_)
    ·
      replace hf := ms_iT c4 hf
      exact J21 α s.heap [] B ls (lv_sub hl [0] rfl) hf
    ·
      replace hf := ms_iF c4 hf
      refine lv_iload_n hx hb dX11_spoil_13 rfl (lv_at hl 2 rfl) (hp_n (n := 14) rfl ?_)
      refine lv_if_lt (tgt := 21) hx hb dX11_spoil_14 (by decide) (fun c5 => ?_) (fun c5 => hp_n (n := 17) rfl ?_)
      ·
        replace hf := ms_iT c5 hf
        exact J21 α s.heap [] B ls (lv_sub hl [0] rfl) hf
      ·
        replace hf := ms_iF c5 hf
        refine lv_iload_n hx hb dX11_spoil_17 rfl (lv_at hl 3 rfl) (hp_n (n := 18) rfl ?_)
        refine lv_if_ge (tgt := 27) hx hb dX11_spoil_18 (by decide) (fun c6 => ?_) (fun c6 => hp_n (n := 21) rfl ?_)
        ·
          replace hf := ms_iT c6 hf
          refine lv_aload_n hx hb dX11_spoil_27 rfl (lv_at hl 0 rfl) (hp_n (n := 28) rfl ?_)
          refine q_getr (κ := 12) (k := 1) (φ := 601) (pc' := 31) C B (cw_k B.2.2 k0) fl_X11_16 rfl rfl rfl (cw_r B.2.2 k0 rfl rfl (by decide) (by decide)) dX11_spoil_28 rfl (fun b7 eb7 kb7 => ?_)
          replace hf := ms_lE eb7 hf
          refine lv_iload_n hx hb dX11_spoil_31 rfl (lv_at hl 1 rfl) (hp_n (n := 32) rfl ?_)
          obtain ⟨rh8, qh8, hf⟩ := ms_bE hf
          refine d_pq (pc' := 35) B (hp_runV (As := [.int a1]) (rest := []) C B (n_X10_logAt n Γ l α B.2.2.1 b7 (cw_k B.2.2 kb7) a1 rh8 qh8) lb_X10_logAt lv_X10_logAt lk_X11_163 (cw_k B.2.2 kb7) rfl (by decide) rfl hl.1 rfl (Nat.le_of_ble_eq_true rfl) dX11_spoil_32 ⟨Nat.le_refl _, Nat.le_refl _⟩) rfl (fun Hh8 Lh8 Bh8 kh8 => ?_)
          rcases rh8 with _ | bh8
          ·
            replace hf := hq_N hf
            refine lv_astoreN (lv' := [(5, .null), (0, .ref a0), (1, .int a1), (2, .int a2), (3, .int a3), (4, .int a4)]) hx hb dX11_spoil_35 hl (by decide) rfl (fun ls hl => hp_n (n := 37) rfl ?_)
            refine lv_aloadN hx hb dX11_spoil_37 (lv_at hl 0 rfl) (hp_n (n := 39) rfl ?_)
            refine lv_ifnonnullN hx hb dX11_spoil_39 (hp_n (n := 42) rfl ?_)
            refine lv_aload_n hx hb dX11_spoil_42 rfl (lv_at hl 1 rfl) (hp_n (n := 43) rfl ?_)
            refine lv_iconst (v := 2) hx hb dX11_spoil_43 (by decide) (hp_n (n := 44) rfl ?_)
            obtain ⟨rh9, αh9, qh9, hf⟩ := hq_cE hf
            refine d_ci (pc' := 47) Bh8 (hp_runV (As := [.int (2 : Int32)]) (rest := []) C Bh8 (n_X11_refuse n Γ l α Bh8.2.2.1 a0 (cw_k Bh8.2.2 k0) (2 : Int32) (rh9, αh9) qh9) lb_X11_refuse lv_X11_refuse lk_X11_98 (cw_k Bh8.2.2 k0) rfl (by decide) rfl hl.1 rfl (Nat.le_of_ble_eq_true rfl) dX11_spoil_44 ⟨Nat.le_refl _, Nat.le_refl _⟩) (by decide) rfl (fun Hh9 Lh9 Bh9 => ?_)
            cases hf
            exact q_iret C Bh9 hr hlk ⟨rfl, rfl, Bh9.2.2⟩ dX11_spoil_47
          ·
            replace hf := hq_S hf
            have kbh8 := kh8 bh8 rfl
            refine lv_astore (lv' := [(5, .ref bh8), (0, .ref a0), (1, .int a1), (2, .int a2), (3, .int a3), (4, .int a4)]) hx hb dX11_spoil_35 hl (by decide) rfl (fun ls hl => hp_n (n := 37) rfl ?_)
            refine lv_aload hx hb dX11_spoil_37 (lv_at hl 0 rfl) (hp_n (n := 39) rfl ?_)
            refine lv_ifnonnull (tgt := 48) hx hb dX11_spoil_39 (by decide) ?_
            refine lv_aload hx hb dX11_spoil_48 (lv_at hl 0 rfl) (hp_n (n := 50) rfl ?_)
            refine lv_iload_n hx hb dX11_spoil_50 rfl (lv_at hl 3 rfl) (hp_n (n := 51) rfl ?_)
            obtain ⟨rh10, qh10, hf⟩ := ms_bE hf
            refine d_pq (pc' := 54) Bh8 (hp_runV (As := [.int a2]) (rest := []) C Bh8 (n_X2_wordAt n Γ l α Bh8.2.2.1 bh8 (cw_k Bh8.2.2 kbh8) a2 rh10 qh10) lb_X2_wordAt lv_X2_wordAt lk_X11_170 (cw_k Bh8.2.2 kbh8) rfl (by decide) rfl hl.1 rfl (Nat.le_of_ble_eq_true rfl) dX11_spoil_51 ⟨Nat.le_refl _, Nat.le_refl _⟩) rfl (fun Hh10 Lh10 Bh10 kh10 => ?_)
            rcases rh10 with _ | bh10
            ·
              replace hf := hq_N hf
              refine lv_astoreN (lv' := [(6, .null), (5, .ref bh8), (0, .ref a0), (1, .int a1), (2, .int a2), (3, .int a3), (4, .int a4)]) hx hb dX11_spoil_54 hl (by decide) rfl (fun ls hl => hp_n (n := 56) rfl ?_)
              refine lv_aloadN hx hb dX11_spoil_56 (lv_at hl 0 rfl) (hp_n (n := 58) rfl ?_)
              have J81 : ∀ (αh11 : hp_T) (Hh11 : Heap) (Lh11 : List Loc) (Bh11 : hp_B Γ (cw w_X11_spoil) s α αh11 Hh11 Lh11) (ls : Array Slot) (hl : lv_has ls 8 [(0, .ref a0)]) (hf : f_X11_spoil_J81 n a0 αh11 = some res), W p l e (hp_rm 4 0 0) s m ([.ref a0, .int a1, .int a2, .int a3, .int a4] : List Value).toArray below meth c Hh11 Lh11 0 0 (MQ below (hp_Qi Γ (fun r β => r = res.1 ∧ β = res.2 ∧ cw w_X11_spoil α β)) ([.ref a0, .int a1, .int a2, .int a3, .int a4] : List Value).toArray s 0 0 (hp_A Γ)) (F0 m 81 ls []) := by
                intro αh11 Hh11 Lh11 Bh11 ls hl hf
                unfold f_X11_spoil_J81 at hf
                refine lv_aload_n hx hb dX11_spoil_81 rfl (lv_at hl 0 rfl) (hp_n (n := 82) rfl ?_)
                refine lv_iconst (v := 5) hx hb dX11_spoil_82 (by decide) (hp_n (n := 83) rfl ?_)
                obtain ⟨rh12, αh12, qh12, hf⟩ := hq_cE hf
                refine d_ci (pc' := 86) Bh11 (hp_runV (As := [.int (5 : Int32)]) (rest := []) C Bh11 (n_X11_refuse n Γ l αh11 Bh11.2.2.1 a0 (cw_k Bh11.2.2 k0) (5 : Int32) (rh12, αh12) qh12) lb_X11_refuse lv_X11_refuse lk_X11_98 (cw_k Bh11.2.2 k0) rfl (by decide) rfl hl.1 rfl (Nat.le_of_ble_eq_true rfl) dX11_spoil_83 ⟨Nat.le_refl _, Nat.le_refl _⟩) (by decide) rfl (fun Hh12 Lh12 Bh12 => ?_)
                cases hf
                exact q_iret C Bh12 hr hlk ⟨rfl, rfl, Bh12.2.2⟩ dX11_spoil_86
              refine lv_ifnullN (tgt := 81) hx hb dX11_spoil_58 (by decide) ?_
              exact J81 α Hh10 Lh10 Bh10 ls (lv_sub hl [2] rfl) hf
            ·
              replace hf := hq_S hf
              have kbh10 := kh10 bh10 rfl
              refine lv_astore (lv' := [(6, .ref bh10), (5, .ref bh8), (0, .ref a0), (1, .int a1), (2, .int a2), (3, .int a3), (4, .int a4)]) hx hb dX11_spoil_54 hl (by decide) rfl (fun ls hl => hp_n (n := 56) rfl ?_)
              refine lv_aload hx hb dX11_spoil_56 (lv_at hl 0 rfl) (hp_n (n := 58) rfl ?_)
              have J81 : ∀ (αh13 : hp_T) (Hh13 : Heap) (Lh13 : List Loc) (Bh13 : hp_B Γ (cw w_X11_spoil) s α αh13 Hh13 Lh13) (ls : Array Slot) (hl : lv_has ls 8 [(0, .ref a0)]) (hf : f_X11_spoil_J81 n a0 αh13 = some res), W p l e (hp_rm 4 0 0) s m ([.ref a0, .int a1, .int a2, .int a3, .int a4] : List Value).toArray below meth c Hh13 Lh13 0 0 (MQ below (hp_Qi Γ (fun r β => r = res.1 ∧ β = res.2 ∧ cw w_X11_spoil α β)) ([.ref a0, .int a1, .int a2, .int a3, .int a4] : List Value).toArray s 0 0 (hp_A Γ)) (F0 m 81 ls []) := by
                intro αh13 Hh13 Lh13 Bh13 ls hl hf
                unfold f_X11_spoil_J81 at hf
                refine lv_aload_n hx hb dX11_spoil_81 rfl (lv_at hl 0 rfl) (hp_n (n := 82) rfl ?_)
                refine lv_iconst (v := 5) hx hb dX11_spoil_82 (by decide) (hp_n (n := 83) rfl ?_)
                obtain ⟨rh14, αh14, qh14, hf⟩ := hq_cE hf
                refine d_ci (pc' := 86) Bh13 (hp_runV (As := [.int (5 : Int32)]) (rest := []) C Bh13 (n_X11_refuse n Γ l αh13 Bh13.2.2.1 a0 (cw_k Bh13.2.2 k0) (5 : Int32) (rh14, αh14) qh14) lb_X11_refuse lv_X11_refuse lk_X11_98 (cw_k Bh13.2.2 k0) rfl (by decide) rfl hl.1 rfl (Nat.le_of_ble_eq_true rfl) dX11_spoil_83 ⟨Nat.le_refl _, Nat.le_refl _⟩) (by decide) rfl (fun Hh14 Lh14 Bh14 => ?_)
                cases hf
                exact q_iret C Bh14 hr hlk ⟨rfl, rfl, Bh14.2.2⟩ dX11_spoil_86
              refine lv_ifnull hx hb dX11_spoil_58 (hp_n (n := 61) rfl ?_)
              refine lv_iload_n hx hb dX11_spoil_61 rfl (lv_at hl 5 rfl) (hp_n (n := 62) rfl ?_)
              refine lv_aload hx hb dX11_spoil_62 (lv_at hl 0 rfl) (hp_n (n := 64) rfl ?_)
              refine q_geti (κ := 10) (k := 1) (φ := 501) (pc' := 67) C Bh10 (cw_k Bh10.2.2 kbh10) fl_X11_150 rfl rfl rfl dX11_spoil_64 rfl (fun x15 ex15 => ?_)
              replace hf := ms_lE ex15 hf
              refine lv_icmp_ge (tgt := 81) hx hb dX11_spoil_67 (by decide) (fun c16 => ?_) (fun c16 => hp_n (n := 70) rfl ?_)
              ·
                replace hf := ms_iT c16 hf
                exact J81 α Hh10 Lh10 Bh10 ls (lv_sub hl [2] rfl) hf
              ·
                replace hf := ms_iF c16 hf
                refine lv_aload hx hb dX11_spoil_70 (lv_at hl 0 rfl) (hp_n (n := 72) rfl ?_)
                refine lv_iload_n hx hb dX11_spoil_72 rfl (lv_at hl 5 rfl) (hp_n (n := 73) rfl ?_)
                obtain ⟨rh17, qh17, hf⟩ := ms_bE hf
                refine d_pi (pc' := 76) Bh10 (hp_runV (As := [.int a3]) (rest := []) C Bh10 (n_X9_letterAt n Γ l α Bh10.2.2.1 bh10 (cw_k Bh10.2.2 kbh10) a3 rh17 qh17) lb_X9_letterAt lv_X9_letterAt lk_X11_177 (cw_k Bh10.2.2 kbh10) rfl (by decide) rfl hl.1 rfl (Nat.le_of_ble_eq_true rfl) dX11_spoil_73 ⟨Nat.le_refl _, Nat.le_refl _⟩) rfl (fun Hh17 Lh17 Bh17 => ?_)
                refine lv_iload hx hb dX11_spoil_76 (lv_at hl 6 rfl) (hp_n (n := 78) rfl ?_)
                refine lv_icmp_ne (tgt := 87) hx hb dX11_spoil_78 (by decide) (fun c18 => ?_) (fun c18 => hp_n (n := 81) rfl ?_)
                ·
                  replace hf := ms_iF c18 hf
                  refine lv_aload hx hb dX11_spoil_87 (lv_at hl 0 rfl) (hp_n (n := 89) rfl ?_)
                  refine lv_iload_n hx hb dX11_spoil_89 rfl (lv_at hl 5 rfl) (hp_n (n := 90) rfl ?_)
                  obtain ⟨rh19, qh19, hf⟩ := ms_bE hf
                  refine d_pi (pc' := 93) Bh17 (hp_runV (As := [.int a3]) (rest := []) C Bh17 (n_X9_letterAt n Γ l α Bh17.2.2.1 bh10 (cw_k Bh17.2.2 kbh10) a3 rh19 qh19) lb_X9_letterAt lv_X9_letterAt lk_X11_177 (cw_k Bh17.2.2 kbh10) rfl (by decide) rfl hl.1 rfl (Nat.le_of_ble_eq_true rfl) dX11_spoil_90 ⟨Nat.le_refl _, Nat.le_refl _⟩) rfl (fun Hh19 Lh19 Bh19 => ?_)
                  refine lv_istore (lv' := [(7, .int rh19), (6, .ref bh10), (5, .ref bh8), (0, .ref a0), (1, .int a1), (2, .int a2), (3, .int a3), (4, .int a4)]) hx hb dX11_spoil_93 hl (by decide) rfl (fun ls hl => hp_n (n := 95) rfl ?_)
                  refine lv_aload_n hx hb dX11_spoil_95 rfl (lv_at hl 3 rfl) (hp_n (n := 96) rfl ?_)
                  refine q_getr (κ := 12) (k := 1) (φ := 601) (pc' := 99) C Bh19 (cw_k Bh19.2.2 k0) fl_X11_16 rfl rfl rfl (cw_r Bh19.2.2 k0 rfl rfl (by decide) (by decide)) dX11_spoil_96 rfl (fun b20 eb20 kb20 => ?_)
                  replace hf := ms_lE eb20 hf
                  refine lv_aload hx hb dX11_spoil_99 (lv_at hl 2 rfl) (hp_n (n := 101) rfl ?_)
                  refine lv_iload_n hx hb dX11_spoil_101 rfl (lv_at hl 5 rfl) (hp_n (n := 102) rfl ?_)
                  refine lv_iload_n hx hb dX11_spoil_102 rfl (lv_at hl 6 rfl) (hp_n (n := 103) rfl ?_)
                  refine lv_iload hx hb dX11_spoil_103 (lv_at hl 7 rfl) (hp_n (n := 105) rfl ?_)
                  obtain ⟨αh21, qh21, hf⟩ := ms_bE hf
                  refine d_cv (pc' := 108) Bh19 (hp_runV (As := [.ref bh8, .int a2, .int a3, .int a4]) (rest := []) C Bh19 (n_X10_spoilLetter n Γ l α Bh19.2.2.1 b20 (cw_k Bh19.2.2 kb20) bh8 (cw_k Bh19.2.2 kbh8) a2 a3 a4 αh21 qh21) lb_X10_spoilLetter lv_X10_spoilLetter lk_X11_255 (cw_k Bh19.2.2 kb20) rfl (by decide) rfl hl.1 rfl (Nat.le_of_ble_eq_true rfl) dX11_spoil_105 ⟨Nat.le_refl _, Nat.le_refl _⟩) (by decide) rfl (fun Hh21 Lh21 Bh21 => ?_)
                  refine lv_aload_n hx hb dX11_spoil_108 rfl (lv_at hl 3 rfl) (hp_n (n := 109) rfl ?_)
                  refine lv_iload hx hb dX11_spoil_109 (lv_at hl 0 rfl) (hp_n (n := 111) rfl ?_)
                  obtain ⟨rh22, αh22, qh22, hf⟩ := hq_cE hf
                  refine d_ci (pc' := 114) Bh21 (hp_runV (As := [.int rh19]) (rest := []) C Bh21 (n_X11_answer n Γ l αh21 Bh21.2.2.1 a0 (cw_k Bh21.2.2 k0) rh19 (rh22, αh22) qh22) lb_X11_answer lv_X11_answer lk_X11_115 (cw_k Bh21.2.2 k0) rfl (by decide) rfl hl.1 rfl (Nat.le_of_ble_eq_true rfl) dX11_spoil_111 ⟨Nat.le_refl _, Nat.le_refl _⟩) (by decide) rfl (fun Hh22 Lh22 Bh22 => ?_)
                  cases hf
                  exact q_iret C Bh22 hr hlk ⟨rfl, rfl, Bh22.2.2⟩ dX11_spoil_114
                ·
                  replace hf := ms_iT c18 hf
                  exact J81 α Hh17 Lh17 Bh17 ls (lv_sub hl [2] rfl) hf
        ·
          replace hf := ms_iF c6 hf
          exact J21 α s.heap [] B ls (lv_sub hl [0] rfl) hf
def f_X11_loadLines_J213 (n : Nat) (a0 : Nat) (rec32 : hp_T → Int32 → Int32 → Option (Int32 × hp_T)) (αh21 : hp_T) (v2_h21 : Int32) (v3_h21 : Int32) : Option (Int32 × hp_T) :=
  ms_l (v3_h21 + 1) fun x22 =>
  rec32 αh21 v2_h21 x22
def f_X11_loadLines_L32 (n : Nat) (a0 : Nat) : Nat → hp_T → Int32 → Int32 → Option (Int32 × hp_T)
  | 0, _, _, _ => none
  | k32 + 1, αh8, v2_h8, v3_h8 =>
    if (900 : Int32) ≤ v3_h8 then
      some ((1 : Int32), αh8)
    else
      ms_l (hp_R αh8 616 a0) fun b10 =>
      ms_b (f_X3_isAtEnd n αh8 b10) fun rh11 =>
      if rh11 = 0 then
        ms_l (hp_R αh8 602 a0) fun b13 =>
        ms_b (f_X10_logAt n αh8 b13 v2_h8) fun rh14 =>
        hq_m rh14 (
          some ((0 : Int32), αh8)) fun bh14 =>
        ms_l (hp_R αh8 616 a0) fun b15 =>
        ms_l (hp_R αh8 602 a0) fun b16 =>
        hq_c (f_X3_readLine n αh8 b15 b16 bh14) fun rh17 αh17 =>
        if rh17 = 0 then
          some ((0 : Int32), αh17)
        else
          ms_l (hp_R αh17 616 a0) fun b19 =>
          ms_l (hp_I αh17 206 b19) fun x20 =>
          if x20 = (0 : Int32) then
            ms_l (hp_R αh17 602 a0) fun b24 =>
            ms_l (hp_R αh17 616 a0) fun b25 =>
            ms_l (hp_R αh17 207 b25) fun b26 =>
            ms_b (f_X10_addWord n αh17 b24 bh14 b26) fun αh27 =>
            f_X11_loadLines_J213 n a0 (f_X11_loadLines_L32 n a0 k32) αh27 v2_h8 v3_h8
          else
          if x20 = (1 : Int32) then
            ms_l (hp_R αh17 616 a0) fun b29 =>
            ms_l (hp_I αh17 209 b29) fun x30 =>
            f_X11_loadLines_J213 n a0 (f_X11_loadLines_L32 n a0 k32) αh17 x30 v3_h8
          else
          if x20 = (2 : Int32) then
            ms_l (hp_R αh17 602 a0) fun b32 =>
            ms_l (hp_R αh17 616 a0) fun b33 =>
            ms_l (hp_I αh17 209 b33) fun x34 =>
            hq_c (f_X10_forkLog n αh17 b32 bh14 x34) fun rh35 αh35 =>
            f_X11_loadLines_J213 n a0 (f_X11_loadLines_L32 n a0 k32) αh35 rh35 v3_h8
          else
          if x20 = (3 : Int32) then
            ms_l (hp_R αh17 602 a0) fun b37 =>
            hq_c (f_X10_freezeHead n αh17 b37 v2_h8) fun rh38 αh38 =>
            f_X11_loadLines_J213 n a0 (f_X11_loadLines_L32 n a0 k32) αh38 v2_h8 v3_h8
          else
          ms_l (hp_R αh17 602 a0) fun b39 =>
          ms_l (hp_R αh17 602 a0) fun b40 =>
          ms_l (hp_R αh17 616 a0) fun b41 =>
          ms_l (hp_I αh17 208 b41) fun x42 =>
          ms_b (f_X10_watcherAt n αh17 b40 x42) fun rh43 =>
          hq_m rh43 (
            ms_l (hp_R αh17 616 a0) fun b44 =>
            ms_l (hp_I αh17 209 b44) fun x45 =>
            hq_c (f_X10_showTo n αh17 b39 none bh14 x45) fun rh46 αh46 =>
            f_X11_loadLines_J213 n a0 (f_X11_loadLines_L32 n a0 k32) αh46 v2_h8 v3_h8) fun bh43 =>
          ms_l (hp_R αh17 616 a0) fun b47 =>
          ms_l (hp_I αh17 209 b47) fun x48 =>
          hq_c (f_X10_showTo n αh17 b39 (some bh43) bh14 x48) fun rh49 αh49 =>
          f_X11_loadLines_J213 n a0 (f_X11_loadLines_L32 n a0 k32) αh49 v2_h8 v3_h8
      else
        some ((1 : Int32), αh8)
def f_X11_loadLines (n : Nat) (α : hp_T) (a0 : Nat) (a1 : Int32) : Option (Int32 × hp_T) :=
  ms_l (hp_R α 616 a0) fun b1 =>
  ms_l (hp_R α 604 a0) fun b2 =>
  ms_b (f_X3_begin n α b1 b2 a1) fun αh3 =>
  ms_l (hp_R αh3 616 a0) fun b4 =>
  ms_l (hp_R αh3 602 a0) fun b5 =>
  hq_c (f_X3_readModulus n αh3 b4 b5) fun rh6 αh6 =>
  if rh6 = 0 then
    some ((0 : Int32), αh6)
  else
    f_X11_loadLines_L32 n a0 n αh6 (0 : Int32) (0 : Int32)
set_option maxRecDepth 100000 in
set_option maxHeartbeats 4000000 in
theorem n_X11_loadLines (n : Nat) (Γ : hp_G) (l : Launch) (α : hp_T) (g : GC α) (a0 : Nat) (k0 : hp_K α a0 = 12) (a1 : Int32) (res : (Int32 × hp_T)) (hf : f_X11_loadLines n α a0 a1 = some res) : Met l yX11_loadLines (hp_ws yX11_loadLines cX11_loadLines 5 (some .boolean)) (hp_rm 7 0 0) (hp_Pc Γ α [.ref a0, .int a1]) (hp_Qi Γ (fun r β => r = res.1 ∧ β = res.2 ∧ cw w_X11_loadLines α β)) 0 0 (hp_A Γ) := by
  unfold f_X11_loadLines at hf
  refine hp_start (by decide) ?_
  intro p e s m below meth c C hr hlk B0 hnm
  have C : hp_C Γ p m c cX11_loadLines 5 s ([.ref a0, .int a1] : List Value).toArray RX11 := C
  have hx := C.1.1
  have hb := C.1.2.1
  have hown := C.1.2.2.2.1
  have hts := C.1.2.2.2.2
  have B : hp_B Γ (cw w_X11_loadLines) s α α s.heap [] := ⟨B0.1, B0.2.1, cw_rf g⟩
  have hl := lv_entry ([.ref a0, .int a1]) (n := 5) (Nat.le_of_ble_eq_true rfl)
  show W p l e (hp_rm 7 0 0) s m ([.ref a0, .int a1] : List Value).toArray below meth c s.heap [] 0 0 (MQ below (hp_Qi Γ (fun r β => r = res.1 ∧ β = res.2 ∧ cw w_X11_loadLines α β)) ([.ref a0, .int a1] : List Value).toArray s 0 0 (hp_A Γ)) (entryFrame m ([.ref a0, .int a1] : List Value).toArray 5)
  rw [lg_entry_eq]
  generalize (lg_sl ([.ref a0, .int a1]) ++ List.replicate (5 - (lg_sl ([.ref a0, .int a1])).length) Slot.unset).toArray = ls at hl ⊢
  have hl : lv_has ls 5 [(0, .ref a0), (1, .int a1)] := hl
  refine lv_aload_n hx hb dX11_loadLines_0 rfl (lv_at hl 0 rfl) (hp_n (n := 1) rfl ?_)
  refine q_getr (κ := 12) (k := 16) (φ := 616) (pc' := 4) C B (cw_k B.2.2 k0) fl_X11_82 rfl rfl rfl (cw_r B.2.2 k0 rfl rfl (by decide) (by decide)) dX11_loadLines_1 rfl (fun b1 eb1 kb1 => ?_)
  replace hf := ms_lE eb1 hf
  refine lv_aload_n hx hb dX11_loadLines_4 rfl (lv_at hl 0 rfl) (hp_n (n := 5) rfl ?_)
  refine q_getr (κ := 12) (k := 4) (φ := 604) (pc' := 8) C B (cw_k B.2.2 k0) fl_X11_30 rfl rfl rfl (cw_r B.2.2 k0 rfl rfl (by decide) (by decide)) dX11_loadLines_5 rfl (fun b2 eb2 kb2 => ?_)
  replace hf := ms_lE eb2 hf
  refine lv_iload_n hx hb dX11_loadLines_8 rfl (lv_at hl 1 rfl) (hp_n (n := 9) rfl ?_)
  obtain ⟨αh3, qh3, hf⟩ := ms_bE hf
  refine d_cv (pc' := 12) B (hp_runV (As := [.ref b2, .int a1]) (rest := []) C B (n_X3_begin n Γ l α B.2.2.1 b1 (cw_k B.2.2 kb1) b2 (cw_k B.2.2 kb2) a1 αh3 qh3) lb_X3_begin lv_X3_begin lk_X11_118 (cw_k B.2.2 kb1) rfl (by decide) rfl hl.1 rfl (Nat.le_of_ble_eq_true rfl) dX11_loadLines_9 ⟨Nat.le_refl _, Nat.le_refl _⟩) (by decide) rfl (fun Hh3 Lh3 Bh3 => ?_)
  refine lv_aload_n hx hb dX11_loadLines_12 rfl (lv_at hl 0 rfl) (hp_n (n := 13) rfl ?_)
  refine q_getr (κ := 12) (k := 16) (φ := 616) (pc' := 16) C Bh3 (cw_k Bh3.2.2 k0) fl_X11_82 rfl rfl rfl (cw_r Bh3.2.2 k0 rfl rfl (by decide) (by decide)) dX11_loadLines_13 rfl (fun b4 eb4 kb4 => ?_)
  replace hf := ms_lE eb4 hf
  refine lv_aload_n hx hb dX11_loadLines_16 rfl (lv_at hl 0 rfl) (hp_n (n := 17) rfl ?_)
  refine q_getr (κ := 12) (k := 2) (φ := 602) (pc' := 20) C Bh3 (cw_k Bh3.2.2 k0) fl_X11_20 rfl rfl rfl (cw_r Bh3.2.2 k0 rfl rfl (by decide) (by decide)) dX11_loadLines_17 rfl (fun b5 eb5 kb5 => ?_)
  replace hf := ms_lE eb5 hf
  obtain ⟨rh6, αh6, qh6, hf⟩ := hq_cE hf
  refine d_ci (pc' := 23) Bh3 (hp_runV (As := [.ref b5]) (rest := []) C Bh3 (n_X3_readModulus n Γ l αh3 Bh3.2.2.1 b4 (cw_k Bh3.2.2 kb4) b5 (cw_k Bh3.2.2 kb5) (rh6, αh6) qh6) lb_X3_readModulus lv_X3_readModulus lk_X11_439 (cw_k Bh3.2.2 kb4) rfl (by decide) rfl hl.1 rfl (Nat.le_of_ble_eq_true rfl) dX11_loadLines_20 ⟨Nat.le_refl _, Nat.le_refl _⟩) (by decide) rfl (fun Hh6 Lh6 Bh6 => ?_)
  refine lv_if_ne (tgt := 28) hx hb dX11_loadLines_23 (by decide) (fun c7 => ?_) (fun c7 => hp_n (n := 26) rfl ?_)
  ·
    replace hf := ms_iF c7 hf
    refine lv_iconst (v := 0) hx hb dX11_loadLines_28 (by decide) (hp_n (n := 29) rfl ?_)
    refine lv_istore_n (lv' := [(2, .int (0 : Int32)), (0, .ref a0), (1, .int a1)]) hx hb dX11_loadLines_29 rfl hl (by decide) rfl (fun ls hl => hp_n (n := 30) rfl ?_)
    refine lv_iconst (v := 0) hx hb dX11_loadLines_30 (by decide) (hp_n (n := 31) rfl ?_)
    have J32 : ∀ (k32 : Nat) (αh8 : hp_T) (Hh8 : Heap) (Lh8 : List Loc) (Bh8 : hp_B Γ (cw w_X11_loadLines) s α αh8 Hh8 Lh8) (v2_h8 : Int32) (v3_h8 : Int32) (ls : Array Slot) (hl : lv_has ls 5 [(0, .ref a0), (2, .int v2_h8), (3, .int v3_h8)]) (hf : f_X11_loadLines_L32 n a0 k32 αh8 v2_h8 v3_h8 = some res), W p l e (hp_rm 7 0 0) s m ([.ref a0, .int a1] : List Value).toArray below meth c Hh8 Lh8 0 0 (MQ below (hp_Qi Γ (fun r β => r = res.1 ∧ β = res.2 ∧ cw w_X11_loadLines α β)) ([.ref a0, .int a1] : List Value).toArray s 0 0 (hp_A Γ)) (F0 m 32 ls []) := by
      intro k32
      induction k32 with
      | zero => intro αh8 Hh8 Lh8 Bh8 v2_h8 v3_h8 ls hl hf; rw [f_X11_loadLines_L32.eq_1] at hf; cases hf
      | succ k32 ih32 =>
        intro αh8 Hh8 Lh8 Bh8 v2_h8 v3_h8 ls hl hf
        rw [f_X11_loadLines_L32.eq_2] at hf
        refine lv_iload_n hx hb dX11_loadLines_32 rfl (lv_at hl 2 rfl) (hp_n (n := 33) rfl ?_)
        refine lv_sipush (v := 900) hx hb dX11_loadLines_33 (by decide) (hp_n (n := 36) rfl ?_)
        refine lv_icmp_ge (tgt := 219) hx hb dX11_loadLines_36 (by decide) (fun c9 => ?_) (fun c9 => hp_n (n := 39) rfl ?_)
        ·
          replace hf := ms_iT c9 hf
          refine lv_iconst (v := 1) hx hb dX11_loadLines_219 (by decide) (hp_n (n := 220) rfl ?_)
          cases hf
          exact q_zret C Bh8 hr hlk (by decide) ⟨rfl, rfl, Bh8.2.2⟩ dX11_loadLines_220
        ·
          replace hf := ms_iF c9 hf
          refine lv_aload_n hx hb dX11_loadLines_39 rfl (lv_at hl 0 rfl) (hp_n (n := 40) rfl ?_)
          refine q_getr (κ := 12) (k := 16) (φ := 616) (pc' := 43) C Bh8 (cw_k Bh8.2.2 k0) fl_X11_82 rfl rfl rfl (cw_r Bh8.2.2 k0 rfl rfl (by decide) (by decide)) dX11_loadLines_40 rfl (fun b10 eb10 kb10 => ?_)
          replace hf := ms_lE eb10 hf
          obtain ⟨rh11, qh11, hf⟩ := ms_bE hf
          refine d_pi (pc' := 46) Bh8 (hp_runV (As := []) (rest := []) C Bh8 (n_X3_isAtEnd n Γ l αh8 Bh8.2.2.1 b10 (cw_k Bh8.2.2 kb10) rh11 qh11) lb_X3_isAtEnd lv_X3_isAtEnd lk_X11_443 (cw_k Bh8.2.2 kb10) rfl (by decide) rfl hl.1 rfl (Nat.le_of_ble_eq_true rfl) dX11_loadLines_43 ⟨Nat.le_refl _, Nat.le_refl _⟩) rfl (fun Hh11 Lh11 Bh11 => ?_)
          refine lv_if_ne (tgt := 219) hx hb dX11_loadLines_46 (by decide) (fun c12 => ?_) (fun c12 => hp_n (n := 49) rfl ?_)
          ·
            replace hf := ms_iF c12 hf
            refine lv_iconst (v := 1) hx hb dX11_loadLines_219 (by decide) (hp_n (n := 220) rfl ?_)
            cases hf
            exact q_zret C Bh11 hr hlk (by decide) ⟨rfl, rfl, Bh11.2.2⟩ dX11_loadLines_220
          ·
            replace hf := ms_iT c12 hf
            refine lv_aload_n hx hb dX11_loadLines_49 rfl (lv_at hl 0 rfl) (hp_n (n := 50) rfl ?_)
            refine q_getr (κ := 12) (k := 2) (φ := 602) (pc' := 53) C Bh11 (cw_k Bh11.2.2 k0) fl_X11_20 rfl rfl rfl (cw_r Bh11.2.2 k0 rfl rfl (by decide) (by decide)) dX11_loadLines_50 rfl (fun b13 eb13 kb13 => ?_)
            replace hf := ms_lE eb13 hf
            refine lv_iload_n hx hb dX11_loadLines_53 rfl (lv_at hl 1 rfl) (hp_n (n := 54) rfl ?_)
            obtain ⟨rh14, qh14, hf⟩ := ms_bE hf
            refine d_pq (pc' := 57) Bh11 (hp_runV (As := [.int v2_h8]) (rest := []) C Bh11 (n_X10_logAt n Γ l αh8 Bh11.2.2.1 b13 (cw_k Bh11.2.2 kb13) v2_h8 rh14 qh14) lb_X10_logAt lv_X10_logAt lk_X11_163 (cw_k Bh11.2.2 kb13) rfl (by decide) rfl hl.1 rfl (Nat.le_of_ble_eq_true rfl) dX11_loadLines_54 ⟨Nat.le_refl _, Nat.le_refl _⟩) rfl (fun Hh14 Lh14 Bh14 kh14 => ?_)
            rcases rh14 with _ | bh14
            ·
              replace hf := hq_N hf
              refine lv_astoreN (lv' := [(4, .null), (0, .ref a0), (2, .int v2_h8), (3, .int v3_h8)]) hx hb dX11_loadLines_57 hl (by decide) rfl (fun ls hl => hp_n (n := 59) rfl ?_)
              refine lv_aloadN hx hb dX11_loadLines_59 (lv_at hl 0 rfl) (hp_n (n := 61) rfl ?_)
              refine lv_ifnullN (tgt := 80) hx hb dX11_loadLines_61 (by decide) ?_
              refine lv_iconst (v := 0) hx hb dX11_loadLines_80 (by decide) (hp_n (n := 81) rfl ?_)
              cases hf
              exact q_zret C Bh14 hr hlk (by decide) ⟨rfl, rfl, Bh14.2.2⟩ dX11_loadLines_81
            ·
              replace hf := hq_S hf
              have kbh14 := kh14 bh14 rfl
              refine lv_astore (lv' := [(4, .ref bh14), (0, .ref a0), (2, .int v2_h8), (3, .int v3_h8)]) hx hb dX11_loadLines_57 hl (by decide) rfl (fun ls hl => hp_n (n := 59) rfl ?_)
              refine lv_aload hx hb dX11_loadLines_59 (lv_at hl 0 rfl) (hp_n (n := 61) rfl ?_)
              refine lv_ifnull hx hb dX11_loadLines_61 (hp_n (n := 64) rfl ?_)
              refine lv_aload_n hx hb dX11_loadLines_64 rfl (lv_at hl 1 rfl) (hp_n (n := 65) rfl ?_)
              refine q_getr (κ := 12) (k := 16) (φ := 616) (pc' := 68) C Bh14 (cw_k Bh14.2.2 k0) fl_X11_82 rfl rfl rfl (cw_r Bh14.2.2 k0 rfl rfl (by decide) (by decide)) dX11_loadLines_65 rfl (fun b15 eb15 kb15 => ?_)
              replace hf := ms_lE eb15 hf
              refine lv_aload_n hx hb dX11_loadLines_68 rfl (lv_at hl 1 rfl) (hp_n (n := 69) rfl ?_)
              refine q_getr (κ := 12) (k := 2) (φ := 602) (pc' := 72) C Bh14 (cw_k Bh14.2.2 k0) fl_X11_20 rfl rfl rfl (cw_r Bh14.2.2 k0 rfl rfl (by decide) (by decide)) dX11_loadLines_69 rfl (fun b16 eb16 kb16 => ?_)
              replace hf := ms_lE eb16 hf
              refine lv_aload hx hb dX11_loadLines_72 (lv_at hl 0 rfl) (hp_n (n := 74) rfl ?_)
              obtain ⟨rh17, αh17, qh17, hf⟩ := hq_cE hf
              refine d_ci (pc' := 77) Bh14 (hp_runV (As := [.ref b16, .ref bh14]) (rest := []) C Bh14 (n_X3_readLine n Γ l αh8 Bh14.2.2.1 b15 (cw_k Bh14.2.2 kb15) b16 (cw_k Bh14.2.2 kb16) bh14 (cw_k Bh14.2.2 kbh14) (rh17, αh17) qh17) lb_X3_readLine lv_X3_readLine lk_X11_447 (cw_k Bh14.2.2 kb15) rfl (by decide) rfl hl.1 rfl (Nat.le_of_ble_eq_true rfl) dX11_loadLines_74 ⟨Nat.le_refl _, Nat.le_refl _⟩) (by decide) rfl (fun Hh17 Lh17 Bh17 => ?_)
              refine lv_if_ne (tgt := 82) hx hb dX11_loadLines_77 (by decide) (fun c18 => ?_) (fun c18 => hp_n (n := 80) rfl ?_)
              ·
                replace hf := ms_iF c18 hf
                refine lv_aload_n hx hb dX11_loadLines_82 rfl (lv_at hl 1 rfl) (hp_n (n := 83) rfl ?_)
                refine q_getr (κ := 12) (k := 16) (φ := 616) (pc' := 86) C Bh17 (cw_k Bh17.2.2 k0) fl_X11_82 rfl rfl rfl (cw_r Bh17.2.2 k0 rfl rfl (by decide) (by decide)) dX11_loadLines_83 rfl (fun b19 eb19 kb19 => ?_)
                replace hf := ms_lE eb19 hf
                refine q_geti (κ := 4) (k := 6) (φ := 206) (pc' := 89) C Bh17 (cw_k Bh17.2.2 kb19) fl_X11_451 rfl rfl rfl dX11_loadLines_86 rfl (fun x20 ex20 => ?_)
                replace hf := ms_lE ex20 hf
                have J213 : ∀ (αh21 : hp_T) (Hh21 : Heap) (Lh21 : List Loc) (Bh21 : hp_B Γ (cw w_X11_loadLines) s α αh21 Hh21 Lh21) (v2_h21 : Int32) (v3_h21 : Int32) (ls : Array Slot) (hl : lv_has ls 5 [(0, .ref a0), (2, .int v2_h21), (3, .int v3_h21)]) (hf : f_X11_loadLines_J213 n a0 (f_X11_loadLines_L32 n a0 k32) αh21 v2_h21 v3_h21 = some res), W p l e (hp_rm 7 0 0) s m ([.ref a0, .int a1] : List Value).toArray below meth c Hh21 Lh21 0 0 (MQ below (hp_Qi Γ (fun r β => r = res.1 ∧ β = res.2 ∧ cw w_X11_loadLines α β)) ([.ref a0, .int a1] : List Value).toArray s 0 0 (hp_A Γ)) (F0 m 213 ls []) := by
                  intro αh21 Hh21 Lh21 Bh21 v2_h21 v3_h21 ls hl hf
                  unfold f_X11_loadLines_J213 at hf
                  obtain ⟨x22, ex22⟩ : ∃ y : Int32, y = v3_h21 + 1 := ⟨_, rfl⟩
                  replace hf := ms_lE ex22 hf
                  refine lv_iinc (v := x22) (lv' := [(3, .int x22), (0, .ref a0), (2, .int v2_h21)]) hx hb dX11_loadLines_213 hl (k := 2) rfl (by rw [ex22]; rfl) (by decide) rfl (fun ls hl => hp_n (n := 216) rfl ?_)
                  refine lv_goto (tgt := 32) hx hb dX11_loadLines_216 (by decide) ?_
                  exact ih32 αh21 Hh21 Lh21 Bh21 v2_h21 x22 ls (lv_sub hl [1, 2, 0] rfl) hf
                by_cases c23 : x20 = (0 : Int32)
                ·
                  replace hf := ms_iT c23 hf
                  refine lv_tableIn (off := 31) (tgt := 120) hx hb dX11_loadLines_89 (by rw [c23]; decide) (by rw [c23]; decide) (by rw [c23]; rfl) (by decide) ?_
                  refine lv_aload_n hx hb dX11_loadLines_120 rfl (lv_at hl 1 rfl) (hp_n (n := 121) rfl ?_)
                  refine q_getr (κ := 12) (k := 2) (φ := 602) (pc' := 124) C Bh17 (cw_k Bh17.2.2 k0) fl_X11_20 rfl rfl rfl (cw_r Bh17.2.2 k0 rfl rfl (by decide) (by decide)) dX11_loadLines_121 rfl (fun b24 eb24 kb24 => ?_)
                  replace hf := ms_lE eb24 hf
                  refine lv_aload hx hb dX11_loadLines_124 (lv_at hl 0 rfl) (hp_n (n := 126) rfl ?_)
                  refine lv_aload_n hx hb dX11_loadLines_126 rfl (lv_at hl 1 rfl) (hp_n (n := 127) rfl ?_)
                  refine q_getr (κ := 12) (k := 16) (φ := 616) (pc' := 130) C Bh17 (cw_k Bh17.2.2 k0) fl_X11_82 rfl rfl rfl (cw_r Bh17.2.2 k0 rfl rfl (by decide) (by decide)) dX11_loadLines_127 rfl (fun b25 eb25 kb25 => ?_)
                  replace hf := ms_lE eb25 hf
                  refine q_getr (κ := 4) (k := 7) (φ := 207) (pc' := 133) C Bh17 (cw_k Bh17.2.2 kb25) fl_X11_454 rfl rfl rfl (cw_r Bh17.2.2 kb25 rfl rfl (by decide) (by decide)) dX11_loadLines_130 rfl (fun b26 eb26 kb26 => ?_)
                  replace hf := ms_lE eb26 hf
                  obtain ⟨αh27, qh27, hf⟩ := ms_bE hf
                  refine d_cv (pc' := 136) Bh17 (hp_runV (As := [.ref bh14, .ref b26]) (rest := []) C Bh17 (n_X10_addWord n Γ l αh17 Bh17.2.2.1 b24 (cw_k Bh17.2.2 kb24) bh14 (cw_k Bh17.2.2 kbh14) b26 (cw_k Bh17.2.2 kb26) αh27 qh27) lb_X10_addWord lv_X10_addWord lk_X11_237 (cw_k Bh17.2.2 kb24) rfl (by decide) rfl hl.1 rfl (Nat.le_of_ble_eq_true rfl) dX11_loadLines_133 ⟨Nat.le_refl _, Nat.le_refl _⟩) (by decide) rfl (fun Hh27 Lh27 Bh27 => ?_)
                  refine lv_goto (tgt := 213) hx hb dX11_loadLines_136 (by decide) ?_
                  exact J213 αh27 Hh27 Lh27 Bh27 v2_h8 v3_h8 ls (lv_sub hl [1, 2, 3] rfl) hf
                replace hf := ms_iF c23 hf
                by_cases c28 : x20 = (1 : Int32)
                ·
                  replace hf := ms_iT c28 hf
                  refine lv_tableIn (off := 50) (tgt := 139) hx hb dX11_loadLines_89 (by rw [c28]; decide) (by rw [c28]; decide) (by rw [c28]; rfl) (by decide) ?_
                  refine lv_aload_n hx hb dX11_loadLines_139 rfl (lv_at hl 1 rfl) (hp_n (n := 140) rfl ?_)
                  refine q_getr (κ := 12) (k := 16) (φ := 616) (pc' := 143) C Bh17 (cw_k Bh17.2.2 k0) fl_X11_82 rfl rfl rfl (cw_r Bh17.2.2 k0 rfl rfl (by decide) (by decide)) dX11_loadLines_140 rfl (fun b29 eb29 kb29 => ?_)
                  replace hf := ms_lE eb29 hf
                  refine q_geti (κ := 4) (k := 9) (φ := 209) (pc' := 146) C Bh17 (cw_k Bh17.2.2 kb29) fl_X11_457 rfl rfl rfl dX11_loadLines_143 rfl (fun x30 ex30 => ?_)
                  replace hf := ms_lE ex30 hf
                  refine lv_istore_n (lv' := [(2, .int x30), (4, .ref bh14), (0, .ref a0), (3, .int v3_h8)]) hx hb dX11_loadLines_146 rfl hl (by decide) rfl (fun ls hl => hp_n (n := 147) rfl ?_)
                  refine lv_goto (tgt := 213) hx hb dX11_loadLines_147 (by decide) ?_
                  exact J213 αh17 Hh17 Lh17 Bh17 x30 v3_h8 ls (lv_sub hl [2, 0, 3] rfl) hf
                replace hf := ms_iF c28 hf
                by_cases c31 : x20 = (2 : Int32)
                ·
                  replace hf := ms_iT c31 hf
                  refine lv_tableIn (off := 61) (tgt := 150) hx hb dX11_loadLines_89 (by rw [c31]; decide) (by rw [c31]; decide) (by rw [c31]; rfl) (by decide) ?_
                  refine lv_aload_n hx hb dX11_loadLines_150 rfl (lv_at hl 1 rfl) (hp_n (n := 151) rfl ?_)
                  refine q_getr (κ := 12) (k := 2) (φ := 602) (pc' := 154) C Bh17 (cw_k Bh17.2.2 k0) fl_X11_20 rfl rfl rfl (cw_r Bh17.2.2 k0 rfl rfl (by decide) (by decide)) dX11_loadLines_151 rfl (fun b32 eb32 kb32 => ?_)
                  replace hf := ms_lE eb32 hf
                  refine lv_aload hx hb dX11_loadLines_154 (lv_at hl 0 rfl) (hp_n (n := 156) rfl ?_)
                  refine lv_aload_n hx hb dX11_loadLines_156 rfl (lv_at hl 1 rfl) (hp_n (n := 157) rfl ?_)
                  refine q_getr (κ := 12) (k := 16) (φ := 616) (pc' := 160) C Bh17 (cw_k Bh17.2.2 k0) fl_X11_82 rfl rfl rfl (cw_r Bh17.2.2 k0 rfl rfl (by decide) (by decide)) dX11_loadLines_157 rfl (fun b33 eb33 kb33 => ?_)
                  replace hf := ms_lE eb33 hf
                  refine q_geti (κ := 4) (k := 9) (φ := 209) (pc' := 163) C Bh17 (cw_k Bh17.2.2 kb33) fl_X11_457 rfl rfl rfl dX11_loadLines_160 rfl (fun x34 ex34 => ?_)
                  replace hf := ms_lE ex34 hf
                  obtain ⟨rh35, αh35, qh35, hf⟩ := hq_cE hf
                  refine d_ci (pc' := 166) Bh17 (hp_runV (As := [.ref bh14, .int x34]) (rest := []) C Bh17 (n_X10_forkLog n Γ l αh17 Bh17.2.2.1 b32 (cw_k Bh17.2.2 kb32) bh14 (cw_k Bh17.2.2 kbh14) x34 (rh35, αh35) qh35) lb_X10_forkLog lv_X10_forkLog lk_X11_241 (cw_k Bh17.2.2 kb32) rfl (by decide) rfl hl.1 rfl (Nat.le_of_ble_eq_true rfl) dX11_loadLines_163 ⟨Nat.le_refl _, Nat.le_refl _⟩) (by decide) rfl (fun Hh35 Lh35 Bh35 => ?_)
                  refine lv_istore_n (lv' := [(2, .int rh35), (4, .ref bh14), (0, .ref a0), (3, .int v3_h8)]) hx hb dX11_loadLines_166 rfl hl (by decide) rfl (fun ls hl => hp_n (n := 167) rfl ?_)
                  refine lv_goto (tgt := 213) hx hb dX11_loadLines_167 (by decide) ?_
                  exact J213 αh35 Hh35 Lh35 Bh35 rh35 v3_h8 ls (lv_sub hl [2, 0, 3] rfl) hf
                replace hf := ms_iF c31 hf
                by_cases c36 : x20 = (3 : Int32)
                ·
                  replace hf := ms_iT c36 hf
                  refine lv_tableIn (off := 81) (tgt := 170) hx hb dX11_loadLines_89 (by rw [c36]; decide) (by rw [c36]; decide) (by rw [c36]; rfl) (by decide) ?_
                  refine lv_aload_n hx hb dX11_loadLines_170 rfl (lv_at hl 1 rfl) (hp_n (n := 171) rfl ?_)
                  refine q_getr (κ := 12) (k := 2) (φ := 602) (pc' := 174) C Bh17 (cw_k Bh17.2.2 k0) fl_X11_20 rfl rfl rfl (cw_r Bh17.2.2 k0 rfl rfl (by decide) (by decide)) dX11_loadLines_171 rfl (fun b37 eb37 kb37 => ?_)
                  replace hf := ms_lE eb37 hf
                  refine lv_iload_n hx hb dX11_loadLines_174 rfl (lv_at hl 2 rfl) (hp_n (n := 175) rfl ?_)
                  obtain ⟨rh38, αh38, qh38, hf⟩ := hq_cE hf
                  refine d_ci (pc' := 178) Bh17 (hp_runV (As := [.int v2_h8]) (rest := []) C Bh17 (n_X10_freezeHead n Γ l αh17 Bh17.2.2.1 b37 (cw_k Bh17.2.2 kb37) v2_h8 (rh38, αh38) qh38) lb_X10_freezeHead lv_X10_freezeHead lk_X11_244 (cw_k Bh17.2.2 kb37) rfl (by decide) rfl hl.1 rfl (Nat.le_of_ble_eq_true rfl) dX11_loadLines_175 ⟨Nat.le_refl _, Nat.le_refl _⟩) (by decide) rfl (fun Hh38 Lh38 Bh38 => ?_)
                  refine lv_pop hx hb dX11_loadLines_178 rfl (hp_n (n := 179) rfl ?_)
                  refine lv_goto (tgt := 213) hx hb dX11_loadLines_179 (by decide) ?_
                  exact J213 αh38 Hh38 Lh38 Bh38 v2_h8 v3_h8 ls (lv_sub hl [1, 2, 3] rfl) hf
                replace hf := ms_iF c36 hf
                have jc23 := il_ne c23
                rw [show (0 : Int32).toInt = 0 by decide] at jc23
                have jc28 := il_ne c28
                rw [show (1 : Int32).toInt = 1 by decide] at jc28
                have jc31 := il_ne c31
                rw [show (2 : Int32).toInt = 2 by decide] at jc31
                have jc36 := il_ne c36
                rw [show (3 : Int32).toInt = 3 by decide] at jc36
                refine lv_tableOut (tgt := 182) hx hb dX11_loadLines_89 (by omega) (by decide) ?_
                refine lv_aload_n hx hb dX11_loadLines_182 rfl (lv_at hl 1 rfl) (hp_n (n := 183) rfl ?_)
                refine q_getr (κ := 12) (k := 2) (φ := 602) (pc' := 186) C Bh17 (cw_k Bh17.2.2 k0) fl_X11_20 rfl rfl rfl (cw_r Bh17.2.2 k0 rfl rfl (by decide) (by decide)) dX11_loadLines_183 rfl (fun b39 eb39 kb39 => ?_)
                replace hf := ms_lE eb39 hf
                refine lv_aload_n hx hb dX11_loadLines_186 rfl (lv_at hl 1 rfl) (hp_n (n := 187) rfl ?_)
                refine q_getr (κ := 12) (k := 2) (φ := 602) (pc' := 190) C Bh17 (cw_k Bh17.2.2 k0) fl_X11_20 rfl rfl rfl (cw_r Bh17.2.2 k0 rfl rfl (by decide) (by decide)) dX11_loadLines_187 rfl (fun b40 eb40 kb40 => ?_)
                replace hf := ms_lE eb40 hf
                refine lv_aload_n hx hb dX11_loadLines_190 rfl (lv_at hl 1 rfl) (hp_n (n := 191) rfl ?_)
                refine q_getr (κ := 12) (k := 16) (φ := 616) (pc' := 194) C Bh17 (cw_k Bh17.2.2 k0) fl_X11_82 rfl rfl rfl (cw_r Bh17.2.2 k0 rfl rfl (by decide) (by decide)) dX11_loadLines_191 rfl (fun b41 eb41 kb41 => ?_)
                replace hf := ms_lE eb41 hf
                refine q_geti (κ := 4) (k := 8) (φ := 208) (pc' := 197) C Bh17 (cw_k Bh17.2.2 kb41) fl_X11_460 rfl rfl rfl dX11_loadLines_194 rfl (fun x42 ex42 => ?_)
                replace hf := ms_lE ex42 hf
                obtain ⟨rh43, qh43, hf⟩ := ms_bE hf
                refine d_pq (pc' := 200) Bh17 (hp_runV (As := [.int x42]) (rest := [.ref b39]) C Bh17 (n_X10_watcherAt n Γ l αh17 Bh17.2.2.1 b40 (cw_k Bh17.2.2 kb40) x42 rh43 qh43) lb_X10_watcherAt lv_X10_watcherAt lk_X11_220 (cw_k Bh17.2.2 kb40) rfl (by decide) rfl hl.1 rfl (Nat.le_of_ble_eq_true rfl) dX11_loadLines_197 ⟨Nat.le_refl _, Nat.le_refl _⟩) rfl (fun Hh43 Lh43 Bh43 kh43 => ?_)
                rcases rh43 with _ | bh43
                ·
                  replace hf := hq_N hf
                  refine lv_aload hx hb dX11_loadLines_200 (lv_at hl 0 rfl) (hp_n (n := 202) rfl ?_)
                  refine lv_aload_n hx hb dX11_loadLines_202 rfl (lv_at hl 1 rfl) (hp_n (n := 203) rfl ?_)
                  refine q_getr (κ := 12) (k := 16) (φ := 616) (pc' := 206) C Bh43 (cw_k Bh43.2.2 k0) fl_X11_82 rfl rfl rfl (cw_r Bh43.2.2 k0 rfl rfl (by decide) (by decide)) dX11_loadLines_203 rfl (fun b44 eb44 kb44 => ?_)
                  replace hf := ms_lE eb44 hf
                  refine q_geti (κ := 4) (k := 9) (φ := 209) (pc' := 209) C Bh43 (cw_k Bh43.2.2 kb44) fl_X11_457 rfl rfl rfl dX11_loadLines_206 rfl (fun x45 ex45 => ?_)
                  replace hf := ms_lE ex45 hf
                  obtain ⟨rh46, αh46, qh46, hf⟩ := hq_cE hf
                  refine d_ci (pc' := 212) Bh43 (hp_runV (As := [va_rf none, .ref bh14, .int x45]) (rest := []) C Bh43 (n_X10_showTo n Γ l αh17 Bh43.2.2.1 b39 (cw_k Bh43.2.2 kb39) none (fun b h => by cases h) bh14 (cw_k Bh43.2.2 kbh14) x45 (rh46, αh46) qh46) lb_X10_showTo lv_X10_showTo lk_X11_247 (cw_k Bh43.2.2 kb39) rfl (by decide) rfl hl.1 rfl (Nat.le_of_ble_eq_true rfl) dX11_loadLines_209 ⟨Nat.le_refl _, Nat.le_refl _⟩) (by decide) rfl (fun Hh46 Lh46 Bh46 => ?_)
                  refine lv_pop hx hb dX11_loadLines_212 rfl (hp_n (n := 213) rfl ?_)
                  exact J213 αh46 Hh46 Lh46 Bh46 v2_h8 v3_h8 ls (lv_sub hl [1, 2, 3] rfl) hf
                ·
                  replace hf := hq_S hf
                  have kbh43 := kh43 bh43 rfl
                  refine lv_aload hx hb dX11_loadLines_200 (lv_at hl 0 rfl) (hp_n (n := 202) rfl ?_)
                  refine lv_aload_n hx hb dX11_loadLines_202 rfl (lv_at hl 1 rfl) (hp_n (n := 203) rfl ?_)
                  refine q_getr (κ := 12) (k := 16) (φ := 616) (pc' := 206) C Bh43 (cw_k Bh43.2.2 k0) fl_X11_82 rfl rfl rfl (cw_r Bh43.2.2 k0 rfl rfl (by decide) (by decide)) dX11_loadLines_203 rfl (fun b47 eb47 kb47 => ?_)
                  replace hf := ms_lE eb47 hf
                  refine q_geti (κ := 4) (k := 9) (φ := 209) (pc' := 209) C Bh43 (cw_k Bh43.2.2 kb47) fl_X11_457 rfl rfl rfl dX11_loadLines_206 rfl (fun x48 ex48 => ?_)
                  replace hf := ms_lE ex48 hf
                  obtain ⟨rh49, αh49, qh49, hf⟩ := hq_cE hf
                  refine d_ci (pc' := 212) Bh43 (hp_runV (As := [va_rf (some bh43), .ref bh14, .int x48]) (rest := []) C Bh43 (n_X10_showTo n Γ l αh17 Bh43.2.2.1 b39 (cw_k Bh43.2.2 kb39) (some bh43) (fun b h => by cases h; exact (cw_k Bh43.2.2 kbh43)) bh14 (cw_k Bh43.2.2 kbh14) x48 (rh49, αh49) qh49) lb_X10_showTo lv_X10_showTo lk_X11_247 (cw_k Bh43.2.2 kb39) rfl (by decide) rfl hl.1 rfl (Nat.le_of_ble_eq_true rfl) dX11_loadLines_209 ⟨Nat.le_refl _, Nat.le_refl _⟩) (by decide) rfl (fun Hh49 Lh49 Bh49 => ?_)
                  refine lv_pop hx hb dX11_loadLines_212 rfl (hp_n (n := 213) rfl ?_)
                  exact J213 αh49 Hh49 Lh49 Bh49 v2_h8 v3_h8 ls (lv_sub hl [1, 2, 3] rfl) hf
              ·
                replace hf := ms_iT c18 hf
                refine lv_iconst (v := 0) hx hb dX11_loadLines_80 (by decide) (hp_n (n := 81) rfl ?_)
                cases hf
                exact q_zret C Bh17 hr hlk (by decide) ⟨rfl, rfl, Bh17.2.2⟩ dX11_loadLines_81
    refine lv_istore_n (lv' := [(3, .int (0 : Int32)), (2, .int (0 : Int32)), (0, .ref a0), (1, .int a1)]) hx hb dX11_loadLines_31 rfl hl (by decide) rfl (fun ls hl => hp_n (n := 32) rfl ?_)
    exact J32 n αh6 Hh6 Lh6 Bh6 (0 : Int32) (0 : Int32) ls (lv_sub hl [2, 1, 0] rfl) hf
  ·
    replace hf := ms_iT c7 hf
    refine lv_iconst (v := 0) hx hb dX11_loadLines_26 (by decide) (hp_n (n := 27) rfl ?_)
    cases hf
    exact q_zret C Bh6 hr hlk (by decide) ⟨rfl, rfl, Bh6.2.2⟩ dX11_loadLines_27
def f_X11_load_J12 (n : Nat) (a0 : Nat) (αh1 : hp_T) : Option (Int32 × hp_T) :=
  hq_c (f_X11_refuse n αh1 a0 (1 : Int32)) fun rh2 αh2 =>
  some (rh2, αh2)
def f_X11_load (n : Nat) (α : hp_T) (a0 : Nat) (a1 : Int32) : Option (Int32 × hp_T) :=
  if a1 < 0 then
    f_X11_load_J12 n a0 α
  else
    ms_l (hp_I α 605 a0) fun x4 =>
    if a1 ≤ x4 then
      ms_l (hp_R α 602 a0) fun b6 =>
      ms_b (f_X10_renew n α b6) fun αh7 =>
      hq_c (f_X11_loadLines n αh7 a0 a1) fun rh8 αh8 =>
      ms_l (hp_sI αh8 605 a0 (0 : Int32)) fun αh9 =>
      if rh8 = 0 then
        hq_c (f_X11_refuse n αh9 a0 (9 : Int32)) fun rh20 αh20 =>
        some (rh20, αh20)
      else
        ms_l (hp_R αh9 601 a0) fun b11 =>
        ms_l (hp_R αh9 602 a0) fun b12 =>
        ms_l (hp_sR αh9 601 a0 b12) fun αh13 =>
        ms_l (hp_sR αh13 602 a0 b11) fun αh14 =>
        ms_l (hp_R αh14 603 a0) fun b15 =>
        ms_b (f_X5_shorten n αh14 b15 (0 : Int32)) fun αh16 =>
        ms_l (hp_R αh16 601 a0) fun b17 =>
        ms_l (hp_I αh16 552 b17) fun x18 =>
        hq_c (f_X11_answer n αh16 a0 x18) fun rh19 αh19 =>
        some (rh19, αh19)
    else
      f_X11_load_J12 n a0 α
set_option maxRecDepth 100000 in
set_option maxHeartbeats 4000000 in
theorem n_X11_load (n : Nat) (Γ : hp_G) (l : Launch) (α : hp_T) (g : GC α) (a0 : Nat) (k0 : hp_K α a0 = 12) (a1 : Int32) (res : (Int32 × hp_T)) (hf : f_X11_load n α a0 a1 = some res) : Met l yX11_load (hp_ws yX11_load cX11_load 4 (some .int)) (hp_rm 8 0 0) (hp_Pc Γ α [.ref a0, .int a1]) (hp_Qi Γ (fun r β => r = res.1 ∧ β = res.2 ∧ cw w_X11_load α β)) 0 0 (hp_A Γ) := by
  unfold f_X11_load at hf
  refine hp_start (by decide) ?_
  intro p e s m below meth c C hr hlk B0 hnm
  have C : hp_C Γ p m c cX11_load 4 s ([.ref a0, .int a1] : List Value).toArray RX11 := C
  have hx := C.1.1
  have hb := C.1.2.1
  have hown := C.1.2.2.2.1
  have hts := C.1.2.2.2.2
  have B : hp_B Γ (cw w_X11_load) s α α s.heap [] := ⟨B0.1, B0.2.1, cw_rf g⟩
  have hl := lv_entry ([.ref a0, .int a1]) (n := 4) (Nat.le_of_ble_eq_true rfl)
  show W p l e (hp_rm 8 0 0) s m ([.ref a0, .int a1] : List Value).toArray below meth c s.heap [] 0 0 (MQ below (hp_Qi Γ (fun r β => r = res.1 ∧ β = res.2 ∧ cw w_X11_load α β)) ([.ref a0, .int a1] : List Value).toArray s 0 0 (hp_A Γ)) (entryFrame m ([.ref a0, .int a1] : List Value).toArray 4)
  rw [lg_entry_eq]
  generalize (lg_sl ([.ref a0, .int a1]) ++ List.replicate (4 - (lg_sl ([.ref a0, .int a1])).length) Slot.unset).toArray = ls at hl ⊢
  have hl : lv_has ls 4 [(0, .ref a0), (1, .int a1)] := hl
  refine lv_iload_n hx hb dX11_load_0 rfl (lv_at hl 1 rfl) (hp_n (n := 1) rfl ?_)
  have J12 : ∀ (αh1 : hp_T) (Hh1 : Heap) (Lh1 : List Loc) (Bh1 : hp_B Γ (cw w_X11_load) s α αh1 Hh1 Lh1) (ls : Array Slot) (hl : lv_has ls 4 [(0, .ref a0)]) (hf : f_X11_load_J12 n a0 αh1 = some res), W p l e (hp_rm 8 0 0) s m ([.ref a0, .int a1] : List Value).toArray below meth c Hh1 Lh1 0 0 (MQ below (hp_Qi Γ (fun r β => r = res.1 ∧ β = res.2 ∧ cw w_X11_load α β)) ([.ref a0, .int a1] : List Value).toArray s 0 0 (hp_A Γ)) (F0 m 12 ls []) := by
    intro αh1 Hh1 Lh1 Bh1 ls hl hf
    unfold f_X11_load_J12 at hf
    refine lv_aload_n hx hb dX11_load_12 rfl (lv_at hl 0 rfl) (hp_n (n := 13) rfl ?_)
    refine lv_iconst (v := 1) hx hb dX11_load_13 (by decide) (hp_n (n := 14) rfl ?_)
    obtain ⟨rh2, αh2, qh2, hf⟩ := hq_cE hf
    refine d_ci (pc' := 17) Bh1 (hp_runV (As := [.int (1 : Int32)]) (rest := []) C Bh1 (n_X11_refuse n Γ l αh1 Bh1.2.2.1 a0 (cw_k Bh1.2.2 k0) (1 : Int32) (rh2, αh2) qh2) lb_X11_refuse lv_X11_refuse lk_X11_98 (cw_k Bh1.2.2 k0) rfl (by decide) rfl hl.1 rfl (Nat.le_of_ble_eq_true rfl) dX11_load_14 ⟨Nat.le_refl _, Nat.le_refl _⟩) (by decide) rfl (fun Hh2 Lh2 Bh2 => ?_)
    cases hf
    exact q_iret C Bh2 hr hlk ⟨rfl, rfl, Bh2.2.2⟩ dX11_load_17
  refine lv_if_lt (tgt := 12) hx hb dX11_load_1 (by decide) (fun c3 => ?_) (fun c3 => hp_n (n := 4) rfl ?_)
  ·
    replace hf := ms_iT c3 hf
    exact J12 α s.heap [] B ls (lv_sub hl [0] rfl) hf
  ·
    replace hf := ms_iF c3 hf
    refine lv_iload_n hx hb dX11_load_4 rfl (lv_at hl 1 rfl) (hp_n (n := 5) rfl ?_)
    refine lv_aload_n hx hb dX11_load_5 rfl (lv_at hl 0 rfl) (hp_n (n := 6) rfl ?_)
    refine q_geti (κ := 12) (k := 5) (φ := 605) (pc' := 9) C B (cw_k B.2.2 k0) fl_X11_34 rfl rfl rfl dX11_load_6 rfl (fun x4 ex4 => ?_)
    replace hf := ms_lE ex4 hf
    refine lv_icmp_le (tgt := 18) hx hb dX11_load_9 (by decide) (fun c5 => ?_) (fun c5 => hp_n (n := 12) rfl ?_)
    ·
      replace hf := ms_iT c5 hf
      refine lv_aload_n hx hb dX11_load_18 rfl (lv_at hl 0 rfl) (hp_n (n := 19) rfl ?_)
      refine q_getr (κ := 12) (k := 2) (φ := 602) (pc' := 22) C B (cw_k B.2.2 k0) fl_X11_20 rfl rfl rfl (cw_r B.2.2 k0 rfl rfl (by decide) (by decide)) dX11_load_19 rfl (fun b6 eb6 kb6 => ?_)
      replace hf := ms_lE eb6 hf
      obtain ⟨αh7, qh7, hf⟩ := ms_bE hf
      refine d_cv (pc' := 25) B (hp_runV (As := []) (rest := []) C B (n_X10_renew n Γ l α B.2.2.1 b6 (cw_k B.2.2 kb6) αh7 qh7) lb_X10_renew lv_X10_renew lk_X11_102 (cw_k B.2.2 kb6) rfl (by decide) rfl hl.1 rfl (Nat.le_of_ble_eq_true rfl) dX11_load_22 ⟨Nat.le_refl _, Nat.le_refl _⟩) (by decide) rfl (fun Hh7 Lh7 Bh7 => ?_)
      refine lv_aload_n hx hb dX11_load_25 rfl (lv_at hl 0 rfl) (hp_n (n := 26) rfl ?_)
      refine lv_iload_n hx hb dX11_load_26 rfl (lv_at hl 1 rfl) (hp_n (n := 27) rfl ?_)
      obtain ⟨rh8, αh8, qh8, hf⟩ := hq_cE hf
      refine d_ci (pc' := 30) Bh7 (hp_runV (As := [.int a1]) (rest := []) C Bh7 (n_X11_loadLines n Γ l αh7 Bh7.2.2.1 a0 (cw_k Bh7.2.2 k0) a1 (rh8, αh8) qh8) lb_X11_loadLines lv_X11_loadLines lk_X11_105 (cw_k Bh7.2.2 k0) rfl (by decide) rfl hl.1 rfl (Nat.le_of_ble_eq_true rfl) dX11_load_27 ⟨Nat.le_refl _, Nat.le_refl _⟩) (by decide) rfl (fun Hh8 Lh8 Bh8 => ?_)
      refine lv_istore_n (lv' := [(2, .int rh8), (0, .ref a0), (1, .int a1)]) hx hb dX11_load_30 rfl hl (by decide) rfl (fun ls hl => hp_n (n := 31) rfl ?_)
      refine lv_aload_n hx hb dX11_load_31 rfl (lv_at hl 1 rfl) (hp_n (n := 32) rfl ?_)
      refine lv_iconst (v := 0) hx hb dX11_load_32 (by decide) (hp_n (n := 33) rfl ?_)
      refine q_puti (κ := 12) (k := 5) (φ := 605) (pc' := 36) C Bh8 (cw_k Bh8.2.2 k0) fl_X11_34 rfl rfl rfl rfl rfl rfl (cw_sI Bh8.2.2 (by decide) (fun h => absurd h (by decide))) dX11_load_33 rfl (fun αh9 Hh9 Lh9 eh9 Bh9 => ?_)
      replace hf := ms_lE eh9 hf
      refine lv_iload_n hx hb dX11_load_36 rfl (lv_at hl 0 rfl) (hp_n (n := 37) rfl ?_)
      refine lv_if_ne (tgt := 47) hx hb dX11_load_37 (by decide) (fun c10 => ?_) (fun c10 => hp_n (n := 40) rfl ?_)
      ·
        replace hf := ms_iF c10 hf
        refine lv_aload_n hx hb dX11_load_47 rfl (lv_at hl 1 rfl) (hp_n (n := 48) rfl ?_)
        refine q_getr (κ := 12) (k := 1) (φ := 601) (pc' := 51) C Bh9 (cw_k Bh9.2.2 k0) fl_X11_16 rfl rfl rfl (cw_r Bh9.2.2 k0 rfl rfl (by decide) (by decide)) dX11_load_48 rfl (fun b11 eb11 kb11 => ?_)
        replace hf := ms_lE eb11 hf
        refine lv_astore_n (lv' := [(3, .ref b11), (2, .int rh8), (0, .ref a0), (1, .int a1)]) hx hb dX11_load_51 rfl hl (by decide) rfl (fun ls hl => hp_n (n := 52) rfl ?_)
        refine lv_aload_n hx hb dX11_load_52 rfl (lv_at hl 2 rfl) (hp_n (n := 53) rfl ?_)
        refine lv_aload_n hx hb dX11_load_53 rfl (lv_at hl 2 rfl) (hp_n (n := 54) rfl ?_)
        refine q_getr (κ := 12) (k := 2) (φ := 602) (pc' := 57) C Bh9 (cw_k Bh9.2.2 k0) fl_X11_20 rfl rfl rfl (cw_r Bh9.2.2 k0 rfl rfl (by decide) (by decide)) dX11_load_54 rfl (fun b12 eb12 kb12 => ?_)
        replace hf := ms_lE eb12 hf
        refine q_putr (κ := 12) (k := 1) (φ := 601) (pc' := 60) C Bh9 (cw_k Bh9.2.2 k0) fl_X11_16 rfl rfl rfl rfl rfl rfl (cw_sR Bh9.2.2 (by decide) (Or.inl kb12)) dX11_load_57 rfl (fun αh13 Hh13 Lh13 eh13 Bh13 => ?_)
        replace hf := ms_lE eh13 hf
        refine lv_aload_n hx hb dX11_load_60 rfl (lv_at hl 2 rfl) (hp_n (n := 61) rfl ?_)
        refine lv_aload_n hx hb dX11_load_61 rfl (lv_at hl 0 rfl) (hp_n (n := 62) rfl ?_)
        refine q_putr (κ := 12) (k := 2) (φ := 602) (pc' := 65) C Bh13 (cw_k Bh13.2.2 k0) fl_X11_20 rfl rfl rfl rfl rfl rfl (cw_sR Bh13.2.2 (by decide) (Or.inl kb11)) dX11_load_62 rfl (fun αh14 Hh14 Lh14 eh14 Bh14 => ?_)
        replace hf := ms_lE eh14 hf
        refine lv_aload_n hx hb dX11_load_65 rfl (lv_at hl 2 rfl) (hp_n (n := 66) rfl ?_)
        refine q_getr (κ := 12) (k := 3) (φ := 603) (pc' := 69) C Bh14 (cw_k Bh14.2.2 k0) fl_X11_26 rfl rfl rfl (cw_r Bh14.2.2 k0 rfl rfl (by decide) (by decide)) dX11_load_66 rfl (fun b15 eb15 kb15 => ?_)
        replace hf := ms_lE eb15 hf
        refine lv_iconst (v := 0) hx hb dX11_load_69 (by decide) (hp_n (n := 70) rfl ?_)
        obtain ⟨αh16, qh16, hf⟩ := ms_bE hf
        refine d_cv (pc' := 73) Bh14 (hp_runV (As := [.int (0 : Int32)]) (rest := []) C Bh14 (n_X5_shorten n Γ l αh14 Bh14.2.2.1 b15 (cw_k Bh14.2.2 kb15) (0 : Int32) αh16 qh16) lb_X5_shorten lv_X5_shorten lk_X11_109 (cw_k Bh14.2.2 kb15) rfl (by decide) rfl hl.1 rfl (Nat.le_of_ble_eq_true rfl) dX11_load_70 ⟨Nat.le_refl _, Nat.le_refl _⟩) (by decide) rfl (fun Hh16 Lh16 Bh16 => ?_)
        refine lv_aload_n hx hb dX11_load_73 rfl (lv_at hl 2 rfl) (hp_n (n := 74) rfl ?_)
        refine lv_aload_n hx hb dX11_load_74 rfl (lv_at hl 2 rfl) (hp_n (n := 75) rfl ?_)
        refine q_getr (κ := 12) (k := 1) (φ := 601) (pc' := 78) C Bh16 (cw_k Bh16.2.2 k0) fl_X11_16 rfl rfl rfl (cw_r Bh16.2.2 k0 rfl rfl (by decide) (by decide)) dX11_load_75 rfl (fun b17 eb17 kb17 => ?_)
        replace hf := ms_lE eb17 hf
        refine q_geti (κ := 11) (k := 2) (φ := 552) (pc' := 81) C Bh16 (cw_k Bh16.2.2 kb17) fl_X11_112 rfl rfl rfl dX11_load_78 rfl (fun x18 ex18 => ?_)
        replace hf := ms_lE ex18 hf
        obtain ⟨rh19, αh19, qh19, hf⟩ := hq_cE hf
        refine d_ci (pc' := 84) Bh16 (hp_runV (As := [.int x18]) (rest := []) C Bh16 (n_X11_answer n Γ l αh16 Bh16.2.2.1 a0 (cw_k Bh16.2.2 k0) x18 (rh19, αh19) qh19) lb_X11_answer lv_X11_answer lk_X11_115 (cw_k Bh16.2.2 k0) rfl (by decide) rfl hl.1 rfl (Nat.le_of_ble_eq_true rfl) dX11_load_81 ⟨Nat.le_refl _, Nat.le_refl _⟩) (by decide) rfl (fun Hh19 Lh19 Bh19 => ?_)
        cases hf
        exact q_iret C Bh19 hr hlk ⟨rfl, rfl, Bh19.2.2⟩ dX11_load_84
      ·
        replace hf := ms_iT c10 hf
        refine lv_aload_n hx hb dX11_load_40 rfl (lv_at hl 1 rfl) (hp_n (n := 41) rfl ?_)
        refine lv_bipush (v := 9) hx hb dX11_load_41 (by decide) (hp_n (n := 43) rfl ?_)
        obtain ⟨rh20, αh20, qh20, hf⟩ := hq_cE hf
        refine d_ci (pc' := 46) Bh9 (hp_runV (As := [.int (9 : Int32)]) (rest := []) C Bh9 (n_X11_refuse n Γ l αh9 Bh9.2.2.1 a0 (cw_k Bh9.2.2 k0) (9 : Int32) (rh20, αh20) qh20) lb_X11_refuse lv_X11_refuse lk_X11_98 (cw_k Bh9.2.2 k0) rfl (by decide) rfl hl.1 rfl (Nat.le_of_ble_eq_true rfl) dX11_load_43 ⟨Nat.le_refl _, Nat.le_refl _⟩) (by decide) rfl (fun Hh20 Lh20 Bh20 => ?_)
        cases hf
        exact q_iret C Bh20 hr hlk ⟨rfl, rfl, Bh20.2.2⟩ dX11_load_46
    ·
      replace hf := ms_iF c5 hf
      exact J12 α s.heap [] B ls (lv_sub hl [0] rfl) hf
def f_X11_putOnTape_J49 (n : Nat) (a0 : Nat) (rec3 : hp_T → Int32 → Int32 → Option hp_T) (αh4 : hp_T) (v1_h4 : Int32) (v2_h4 : Int32) : Option hp_T :=
  ms_l (v2_h4 + (-8)) fun x5 =>
  rec3 αh4 v1_h4 x5
def f_X11_putOnTape_L3 (n : Nat) (a0 : Nat) : Nat → hp_T → Int32 → Int32 → Option hp_T
  | 0, _, _, _ => none
  | k3 + 1, αh1, v1_h1, v2_h1 =>
    if v2_h1 < 0 then
      some αh1
    else
      ms_l (hp_I αh1 605 a0) fun x3 =>
      if x3 < 0 then
        f_X11_putOnTape_J49 n a0 (f_X11_putOnTape_L3 n a0 k3) αh1 v1_h1 v2_h1
      else
        ms_l (hp_I αh1 605 a0) fun x7 =>
        ms_l (hp_R αh1 604 a0) fun b8 =>
        if (900 : Int32) ≤ x7 then
          f_X11_putOnTape_J49 n a0 (f_X11_putOnTape_L3 n a0 k3) αh1 v1_h1 v2_h1
        else
          ms_l (hp_R αh1 604 a0) fun b10 =>
          ms_l (hp_I αh1 605 a0) fun x11 =>
          ms_g x11 900 <|
          ms_l (hp_sE αh1 24 b10 (x11).toNatClampNeg ((((v1_h1).toUInt32 >>> ((v2_h1).toUInt32 &&& Int32.toUInt32 31)).toInt32).toInt8.toInt32).toInt8.toInt32) fun αh13 =>
          ms_l (hp_I αh13 605 a0) fun x14 =>
          ms_l (hp_sI αh13 605 a0 (x14 + (1 : Int32))) fun αh15 =>
          f_X11_putOnTape_J49 n a0 (f_X11_putOnTape_L3 n a0 k3) αh15 v1_h1 v2_h1
def f_X11_putOnTape (n : Nat) (α : hp_T) (a0 : Nat) (a1 : Int32) : Option hp_T :=
  f_X11_putOnTape_L3 n a0 n α a1 (24 : Int32)
set_option maxRecDepth 100000 in
set_option maxHeartbeats 4000000 in
theorem n_X11_putOnTape (n : Nat) (Γ : hp_G) (l : Launch) (α : hp_T) (g : GC α) (a0 : Nat) (k0 : hp_K α a0 = 12) (a1 : Int32) (res : hp_T) (hf : f_X11_putOnTape n α a0 a1 = some res) : Met l yX11_putOnTape (hp_ws yX11_putOnTape cX11_putOnTape 3 none) (hp_rm 0 0 0) (hp_Pc Γ α [.ref a0, .int a1]) (hp_Qv Γ (fun β => β = res ∧ cw w_X11_putOnTape α β)) 0 0 (hp_A Γ) := by
  unfold f_X11_putOnTape at hf
  refine hp_start (by decide) ?_
  intro p e s m below meth c C hr hlk B0 hnm
  have C : hp_C Γ p m c cX11_putOnTape 3 s ([.ref a0, .int a1] : List Value).toArray RX11 := C
  have hx := C.1.1
  have hb := C.1.2.1
  have hown := C.1.2.2.2.1
  have hts := C.1.2.2.2.2
  have B : hp_B Γ (cw w_X11_putOnTape) s α α s.heap [] := ⟨B0.1, B0.2.1, cw_rf g⟩
  have hl := lv_entry ([.ref a0, .int a1]) (n := 3) (Nat.le_of_ble_eq_true rfl)
  show W p l e (hp_rm 0 0 0) s m ([.ref a0, .int a1] : List Value).toArray below meth c s.heap [] 0 0 (MQ below (hp_Qv Γ (fun β => β = res ∧ cw w_X11_putOnTape α β)) ([.ref a0, .int a1] : List Value).toArray s 0 0 (hp_A Γ)) (entryFrame m ([.ref a0, .int a1] : List Value).toArray 3)
  rw [lg_entry_eq]
  generalize (lg_sl ([.ref a0, .int a1]) ++ List.replicate (3 - (lg_sl ([.ref a0, .int a1])).length) Slot.unset).toArray = ls at hl ⊢
  have hl : lv_has ls 3 [(0, .ref a0), (1, .int a1)] := hl
  refine lv_bipush (v := 24) hx hb dX11_putOnTape_0 (by decide) (hp_n (n := 2) rfl ?_)
  have J3 : ∀ (k3 : Nat) (αh1 : hp_T) (Hh1 : Heap) (Lh1 : List Loc) (Bh1 : hp_B Γ (cw w_X11_putOnTape) s α αh1 Hh1 Lh1) (v1_h1 : Int32) (v2_h1 : Int32) (ls : Array Slot) (hl : lv_has ls 3 [(0, .ref a0), (1, .int v1_h1), (2, .int v2_h1)]) (hf : f_X11_putOnTape_L3 n a0 k3 αh1 v1_h1 v2_h1 = some res), W p l e (hp_rm 0 0 0) s m ([.ref a0, .int a1] : List Value).toArray below meth c Hh1 Lh1 0 0 (MQ below (hp_Qv Γ (fun β => β = res ∧ cw w_X11_putOnTape α β)) ([.ref a0, .int a1] : List Value).toArray s 0 0 (hp_A Γ)) (F0 m 3 ls []) := by
    intro k3
    induction k3 with
    | zero => intro αh1 Hh1 Lh1 Bh1 v1_h1 v2_h1 ls hl hf; rw [f_X11_putOnTape_L3.eq_1] at hf; cases hf
    | succ k3 ih3 =>
      intro αh1 Hh1 Lh1 Bh1 v1_h1 v2_h1 ls hl hf
      rw [f_X11_putOnTape_L3.eq_2] at hf
      refine lv_iload_n hx hb dX11_putOnTape_3 rfl (lv_at hl 2 rfl) (hp_n (n := 4) rfl ?_)
      refine lv_if_lt (tgt := 55) hx hb dX11_putOnTape_4 (by decide) (fun c2 => ?_) (fun c2 => hp_n (n := 7) rfl ?_)
      ·
        replace hf := ms_iT c2 hf
        cases hf
        exact q_vret C Bh1 hr hlk ⟨rfl, Bh1.2.2⟩ dX11_putOnTape_55
      ·
        replace hf := ms_iF c2 hf
        refine lv_aload_n hx hb dX11_putOnTape_7 rfl (lv_at hl 0 rfl) (hp_n (n := 8) rfl ?_)
        refine q_geti (κ := 12) (k := 5) (φ := 605) (pc' := 11) C Bh1 (cw_k Bh1.2.2 k0) fl_X11_34 rfl rfl rfl dX11_putOnTape_8 rfl (fun x3 ex3 => ?_)
        replace hf := ms_lE ex3 hf
        have J49 : ∀ (αh4 : hp_T) (Hh4 : Heap) (Lh4 : List Loc) (Bh4 : hp_B Γ (cw w_X11_putOnTape) s α αh4 Hh4 Lh4) (v1_h4 : Int32) (v2_h4 : Int32) (ls : Array Slot) (hl : lv_has ls 3 [(0, .ref a0), (1, .int v1_h4), (2, .int v2_h4)]) (hf : f_X11_putOnTape_J49 n a0 (f_X11_putOnTape_L3 n a0 k3) αh4 v1_h4 v2_h4 = some res), W p l e (hp_rm 0 0 0) s m ([.ref a0, .int a1] : List Value).toArray below meth c Hh4 Lh4 0 0 (MQ below (hp_Qv Γ (fun β => β = res ∧ cw w_X11_putOnTape α β)) ([.ref a0, .int a1] : List Value).toArray s 0 0 (hp_A Γ)) (F0 m 49 ls []) := by
          intro αh4 Hh4 Lh4 Bh4 v1_h4 v2_h4 ls hl hf
          unfold f_X11_putOnTape_J49 at hf
          obtain ⟨x5, ex5⟩ : ∃ y : Int32, y = v2_h4 + (-8) := ⟨_, rfl⟩
          replace hf := ms_lE ex5 hf
          refine lv_iinc (v := x5) (lv' := [(2, .int x5), (0, .ref a0), (1, .int v1_h4)]) hx hb dX11_putOnTape_49 hl (k := 2) rfl (by rw [ex5]; rfl) (by decide) rfl (fun ls hl => hp_n (n := 52) rfl ?_)
          refine lv_goto (tgt := 3) hx hb dX11_putOnTape_52 (by decide) ?_
          exact ih3 αh4 Hh4 Lh4 Bh4 v1_h4 x5 ls (lv_sub hl [1, 2, 0] rfl) hf
        refine lv_if_lt (tgt := 49) hx hb dX11_putOnTape_11 (by decide) (fun c6 => ?_) (fun c6 => hp_n (n := 14) rfl ?_)
        ·
          replace hf := ms_iT c6 hf
          exact J49 αh1 Hh1 Lh1 Bh1 v1_h1 v2_h1 ls (lv_sub hl [0, 1, 2] rfl) hf
        ·
          replace hf := ms_iF c6 hf
          refine lv_aload_n hx hb dX11_putOnTape_14 rfl (lv_at hl 0 rfl) (hp_n (n := 15) rfl ?_)
          refine q_geti (κ := 12) (k := 5) (φ := 605) (pc' := 18) C Bh1 (cw_k Bh1.2.2 k0) fl_X11_34 rfl rfl rfl dX11_putOnTape_15 rfl (fun x7 ex7 => ?_)
          replace hf := ms_lE ex7 hf
          refine lv_aload_n hx hb dX11_putOnTape_18 rfl (lv_at hl 0 rfl) (hp_n (n := 19) rfl ?_)
          refine q_getr (κ := 12) (k := 4) (φ := 604) (pc' := 22) C Bh1 (cw_k Bh1.2.2 k0) fl_X11_30 rfl rfl rfl (cw_r Bh1.2.2 k0 rfl rfl (by decide) (by decide)) dX11_putOnTape_19 rfl (fun b8 eb8 kb8 => ?_)
          replace hf := ms_lE eb8 hf
          refine q_alen (κ := 24) (t := 1) (n := 900) (x := 900) (ty := .byte) (pc' := 23) C Bh1 (cw_k Bh1.2.2 kb8) (by decide) rfl rfl rfl dX11_putOnTape_22 rfl ?_
          refine lv_icmp_ge (tgt := 49) hx hb dX11_putOnTape_23 (by decide) (fun c9 => ?_) (fun c9 => hp_n (n := 26) rfl ?_)
          ·
            replace hf := ms_iT c9 hf
            exact J49 αh1 Hh1 Lh1 Bh1 v1_h1 v2_h1 ls (lv_sub hl [0, 1, 2] rfl) hf
          ·
            replace hf := ms_iF c9 hf
            refine lv_aload_n hx hb dX11_putOnTape_26 rfl (lv_at hl 0 rfl) (hp_n (n := 27) rfl ?_)
            refine q_getr (κ := 12) (k := 4) (φ := 604) (pc' := 30) C Bh1 (cw_k Bh1.2.2 k0) fl_X11_30 rfl rfl rfl (cw_r Bh1.2.2 k0 rfl rfl (by decide) (by decide)) dX11_putOnTape_27 rfl (fun b10 eb10 kb10 => ?_)
            replace hf := ms_lE eb10 hf
            refine lv_aload_n hx hb dX11_putOnTape_30 rfl (lv_at hl 0 rfl) (hp_n (n := 31) rfl ?_)
            refine q_geti (κ := 12) (k := 5) (φ := 605) (pc' := 34) C Bh1 (cw_k Bh1.2.2 k0) fl_X11_34 rfl rfl rfl dX11_putOnTape_31 rfl (fun x11 ex11 => ?_)
            replace hf := ms_lE ex11 hf
            refine lv_iload_n hx hb dX11_putOnTape_34 rfl (lv_at hl 1 rfl) (hp_n (n := 35) rfl ?_)
            refine lv_iload_n hx hb dX11_putOnTape_35 rfl (lv_at hl 2 rfl) (hp_n (n := 36) rfl ?_)
            refine lv_iushr hx hb dX11_putOnTape_36 rfl (hp_n (n := 37) rfl ?_)
            refine lv_i2b hx hb dX11_putOnTape_37 rfl (hp_n (n := 38) rfl ?_)
            obtain ⟨g12, hf⟩ := ms_gE hf
            refine q_bas (κ := 24) (n := 900) (pc' := 39) (y := ((((v1_h1).toUInt32 >>> ((v2_h1).toUInt32 &&& Int32.toUInt32 31)).toInt32).toInt8.toInt32).toInt8.toInt32) C Bh1 (cw_k Bh1.2.2 kb10) (by decide) rfl (vi_of g12.1 g12.2) rfl rfl (cw_sE Bh1.2.2 (by decide)) dX11_putOnTape_38 rfl (fun αh13 Hh13 Lh13 eh13 Bh13 => ?_)
            replace hf := ms_lE eh13 hf
            refine lv_aload_n hx hb dX11_putOnTape_39 rfl (lv_at hl 0 rfl) (hp_n (n := 40) rfl ?_)
            refine lv_dup hx hb dX11_putOnTape_40 rfl (hp_n (n := 41) rfl ?_)
            refine q_geti (κ := 12) (k := 5) (φ := 605) (pc' := 44) C Bh13 (cw_k Bh13.2.2 k0) fl_X11_34 rfl rfl rfl dX11_putOnTape_41 rfl (fun x14 ex14 => ?_)
            replace hf := ms_lE ex14 hf
            refine lv_iconst (v := 1) hx hb dX11_putOnTape_44 (by decide) (hp_n (n := 45) rfl ?_)
            refine lv_iadd hx hb dX11_putOnTape_45 (hp_n (n := 46) rfl ?_)
            refine q_puti (κ := 12) (k := 5) (φ := 605) (pc' := 49) C Bh13 (cw_k Bh13.2.2 k0) fl_X11_34 rfl rfl rfl rfl rfl rfl (cw_sI Bh13.2.2 (by decide) (fun h => absurd h (by decide))) dX11_putOnTape_46 rfl (fun αh15 Hh15 Lh15 eh15 Bh15 => ?_)
            replace hf := ms_lE eh15 hf
            exact J49 αh15 Hh15 Lh15 Bh15 v1_h1 v2_h1 ls (lv_sub hl [0, 1, 2] rfl) hf
  refine lv_istore_n (lv' := [(2, .int (24 : Int32)), (0, .ref a0), (1, .int a1)]) hx hb dX11_putOnTape_2 rfl hl (by decide) rfl (fun ls hl => hp_n (n := 3) rfl ?_)
  exact J3 n α s.heap [] B a1 (24 : Int32) ls (lv_sub hl [1, 2, 0] rfl) hf
def f_X11_feed (n : Nat) (α : hp_T) (a0 : Nat) (a1 : Int32) (a2 : Int32) (a3 : Int32) (a4 : Int32) (a5 : Int32) : Option (Int32 × hp_T) :=
  ms_l (hp_I α 605 a0) fun x1 =>
  if (x1 + (20 : Int32)) ≤ (900 : Int32) then
    ms_b (f_X11_putOnTape n α a0 a1) fun αh3 =>
    ms_b (f_X11_putOnTape n αh3 a0 a2) fun αh4 =>
    ms_b (f_X11_putOnTape n αh4 a0 a3) fun αh5 =>
    ms_b (f_X11_putOnTape n αh5 a0 a4) fun αh6 =>
    ms_b (f_X11_putOnTape n αh6 a0 a5) fun αh7 =>
    ms_l (hp_I αh7 605 a0) fun x8 =>
    some (x8, αh7)
  else
    some ((-1 : Int32), α)
set_option maxRecDepth 100000 in
set_option maxHeartbeats 4000000 in
theorem n_X11_feed (n : Nat) (Γ : hp_G) (l : Launch) (α : hp_T) (g : GC α) (a0 : Nat) (k0 : hp_K α a0 = 12) (a1 : Int32) (a2 : Int32) (a3 : Int32) (a4 : Int32) (a5 : Int32) (res : (Int32 × hp_T)) (hf : f_X11_feed n α a0 a1 a2 a3 a4 a5 = some res) : Met l yX11_feed (hp_ws yX11_feed cX11_feed 6 (some .int)) (hp_rm 1 0 0) (hp_Pc Γ α [.ref a0, .int a1, .int a2, .int a3, .int a4, .int a5]) (hp_Qi Γ (fun r β => r = res.1 ∧ β = res.2 ∧ cw w_X11_feed α β)) 0 0 (hp_A Γ) := by
  unfold f_X11_feed at hf
  refine hp_start (by decide) ?_
  intro p e s m below meth c C hr hlk B0 hnm
  have C : hp_C Γ p m c cX11_feed 6 s ([.ref a0, .int a1, .int a2, .int a3, .int a4, .int a5] : List Value).toArray RX11 := C
  have hx := C.1.1
  have hb := C.1.2.1
  have hown := C.1.2.2.2.1
  have hts := C.1.2.2.2.2
  have B : hp_B Γ (cw w_X11_feed) s α α s.heap [] := ⟨B0.1, B0.2.1, cw_rf g⟩
  have hl := lv_entry ([.ref a0, .int a1, .int a2, .int a3, .int a4, .int a5]) (n := 6) (Nat.le_of_ble_eq_true rfl)
  show W p l e (hp_rm 1 0 0) s m ([.ref a0, .int a1, .int a2, .int a3, .int a4, .int a5] : List Value).toArray below meth c s.heap [] 0 0 (MQ below (hp_Qi Γ (fun r β => r = res.1 ∧ β = res.2 ∧ cw w_X11_feed α β)) ([.ref a0, .int a1, .int a2, .int a3, .int a4, .int a5] : List Value).toArray s 0 0 (hp_A Γ)) (entryFrame m ([.ref a0, .int a1, .int a2, .int a3, .int a4, .int a5] : List Value).toArray 6)
  rw [lg_entry_eq]
  generalize (lg_sl ([.ref a0, .int a1, .int a2, .int a3, .int a4, .int a5]) ++ List.replicate (6 - (lg_sl ([.ref a0, .int a1, .int a2, .int a3, .int a4, .int a5])).length) Slot.unset).toArray = ls at hl ⊢
  have hl : lv_has ls 6 [(0, .ref a0), (1, .int a1), (2, .int a2), (3, .int a3), (4, .int a4), (5, .int a5)] := hl
  refine lv_aload_n hx hb dX11_feed_0 rfl (lv_at hl 0 rfl) (hp_n (n := 1) rfl ?_)
  refine q_geti (κ := 12) (k := 5) (φ := 605) (pc' := 4) C B (cw_k B.2.2 k0) fl_X11_34 rfl rfl rfl dX11_feed_1 rfl (fun x1 ex1 => ?_)
  replace hf := ms_lE ex1 hf
  refine lv_bipush (v := 20) hx hb dX11_feed_4 (by decide) (hp_n (n := 6) rfl ?_)
  refine lv_iadd hx hb dX11_feed_6 (hp_n (n := 7) rfl ?_)
  refine lv_sipush (v := 900) hx hb dX11_feed_7 (by decide) (hp_n (n := 10) rfl ?_)
  refine lv_icmp_le (tgt := 15) hx hb dX11_feed_10 (by decide) (fun c2 => ?_) (fun c2 => hp_n (n := 13) rfl ?_)
  ·
    replace hf := ms_iT c2 hf
    refine lv_aload_n hx hb dX11_feed_15 rfl (lv_at hl 0 rfl) (hp_n (n := 16) rfl ?_)
    refine lv_iload_n hx hb dX11_feed_16 rfl (lv_at hl 1 rfl) (hp_n (n := 17) rfl ?_)
    obtain ⟨αh3, qh3, hf⟩ := ms_bE hf
    refine d_cv (pc' := 20) B (hp_runV (As := [.int a1]) (rest := []) C B (n_X11_putOnTape n Γ l α B.2.2.1 a0 (cw_k B.2.2 k0) a1 αh3 qh3) lb_X11_putOnTape lv_X11_putOnTape lk_X11_94 (cw_k B.2.2 k0) rfl (by decide) rfl hl.1 rfl (Nat.le_of_ble_eq_true rfl) dX11_feed_17 ⟨Nat.le_refl _, Nat.le_refl _⟩) (by decide) rfl (fun Hh3 Lh3 Bh3 => ?_)
    refine lv_aload_n hx hb dX11_feed_20 rfl (lv_at hl 0 rfl) (hp_n (n := 21) rfl ?_)
    refine lv_iload_n hx hb dX11_feed_21 rfl (lv_at hl 2 rfl) (hp_n (n := 22) rfl ?_)
    obtain ⟨αh4, qh4, hf⟩ := ms_bE hf
    refine d_cv (pc' := 25) Bh3 (hp_runV (As := [.int a2]) (rest := []) C Bh3 (n_X11_putOnTape n Γ l αh3 Bh3.2.2.1 a0 (cw_k Bh3.2.2 k0) a2 αh4 qh4) lb_X11_putOnTape lv_X11_putOnTape lk_X11_94 (cw_k Bh3.2.2 k0) rfl (by decide) rfl hl.1 rfl (Nat.le_of_ble_eq_true rfl) dX11_feed_22 ⟨Nat.le_refl _, Nat.le_refl _⟩) (by decide) rfl (fun Hh4 Lh4 Bh4 => ?_)
    refine lv_aload_n hx hb dX11_feed_25 rfl (lv_at hl 0 rfl) (hp_n (n := 26) rfl ?_)
    refine lv_iload_n hx hb dX11_feed_26 rfl (lv_at hl 3 rfl) (hp_n (n := 27) rfl ?_)
    obtain ⟨αh5, qh5, hf⟩ := ms_bE hf
    refine d_cv (pc' := 30) Bh4 (hp_runV (As := [.int a3]) (rest := []) C Bh4 (n_X11_putOnTape n Γ l αh4 Bh4.2.2.1 a0 (cw_k Bh4.2.2 k0) a3 αh5 qh5) lb_X11_putOnTape lv_X11_putOnTape lk_X11_94 (cw_k Bh4.2.2 k0) rfl (by decide) rfl hl.1 rfl (Nat.le_of_ble_eq_true rfl) dX11_feed_27 ⟨Nat.le_refl _, Nat.le_refl _⟩) (by decide) rfl (fun Hh5 Lh5 Bh5 => ?_)
    refine lv_aload_n hx hb dX11_feed_30 rfl (lv_at hl 0 rfl) (hp_n (n := 31) rfl ?_)
    refine lv_iload hx hb dX11_feed_31 (lv_at hl 4 rfl) (hp_n (n := 33) rfl ?_)
    obtain ⟨αh6, qh6, hf⟩ := ms_bE hf
    refine d_cv (pc' := 36) Bh5 (hp_runV (As := [.int a4]) (rest := []) C Bh5 (n_X11_putOnTape n Γ l αh5 Bh5.2.2.1 a0 (cw_k Bh5.2.2 k0) a4 αh6 qh6) lb_X11_putOnTape lv_X11_putOnTape lk_X11_94 (cw_k Bh5.2.2 k0) rfl (by decide) rfl hl.1 rfl (Nat.le_of_ble_eq_true rfl) dX11_feed_33 ⟨Nat.le_refl _, Nat.le_refl _⟩) (by decide) rfl (fun Hh6 Lh6 Bh6 => ?_)
    refine lv_aload_n hx hb dX11_feed_36 rfl (lv_at hl 0 rfl) (hp_n (n := 37) rfl ?_)
    refine lv_iload hx hb dX11_feed_37 (lv_at hl 5 rfl) (hp_n (n := 39) rfl ?_)
    obtain ⟨αh7, qh7, hf⟩ := ms_bE hf
    refine d_cv (pc' := 42) Bh6 (hp_runV (As := [.int a5]) (rest := []) C Bh6 (n_X11_putOnTape n Γ l αh6 Bh6.2.2.1 a0 (cw_k Bh6.2.2 k0) a5 αh7 qh7) lb_X11_putOnTape lv_X11_putOnTape lk_X11_94 (cw_k Bh6.2.2 k0) rfl (by decide) rfl hl.1 rfl (Nat.le_of_ble_eq_true rfl) dX11_feed_39 ⟨Nat.le_refl _, Nat.le_refl _⟩) (by decide) rfl (fun Hh7 Lh7 Bh7 => ?_)
    refine lv_aload_n hx hb dX11_feed_42 rfl (lv_at hl 0 rfl) (hp_n (n := 43) rfl ?_)
    refine q_geti (κ := 12) (k := 5) (φ := 605) (pc' := 46) C Bh7 (cw_k Bh7.2.2 k0) fl_X11_34 rfl rfl rfl dX11_feed_43 rfl (fun x8 ex8 => ?_)
    replace hf := ms_lE ex8 hf
    cases hf
    exact q_iret C Bh7 hr hlk ⟨rfl, rfl, Bh7.2.2⟩ dX11_feed_46
  ·
    replace hf := ms_iF c2 hf
    refine lv_iconst (v := (-1)) hx hb dX11_feed_13 (by decide) (hp_n (n := 14) rfl ?_)
    cases hf
    exact q_iret C B hr hlk ⟨rfl, rfl, B.2.2⟩ dX11_feed_14
end JN8_1
section JN8_2
/-! ===== what holds of whatever comes out ===== -/
def pr {R : Type} (o : Option R) (P : R → Prop) : Prop := ∀ r, o = some r → P r
section PR
variable {A S R : Type} {P Q : R → Prop} {i j : Int32} {n : Nat} {k : Option R}
theorem pr_0 : pr (none : Option R) P := fun _ h => by cases h
theorem pr_s {r : R} (h : P r) : pr (some r) P := fun r' e => by cases e; exact h
theorem pr_m {o : Option R} (h : pr o P) (g : ∀ r, P r → Q r) : pr o Q := fun r e => g r (h r e)
theorem pr_g (h : 0 ≤ i.toInt → i.toInt < (n : Int) → pr k P) : pr (ms_g i n k) P := fun r e => by
  obtain ⟨⟨h0, h1⟩, e⟩ := ms_gE e
  exact h h0 h1 r e
theorem pr_n (h : ¬ i = 0 → pr k P) : pr (ms_n i k) P := fun r e => h (ms_nE e).1 r (ms_nE e).2
theorem pr_nl {i : Int64} (h : ¬ i = 0 → pr k P) : pr (ms_nl i k) P := fun r e => h (ms_nlE e).1 r (ms_nlE e).2
theorem pr_q (h : 0 ≤ i.toInt → i.toInt < j.toInt → pr k P) : pr (ms_q i j k) P := fun r e => h (ms_qE e).1.1 (ms_qE e).1.2 r (ms_qE e).2
theorem pr_l {v : A} {k : A → Option R} (h : pr (k v) P) : pr (ms_l v k) P := h
theorem pr_ln {v : A} {k : A → Option R} (h : ∀ x, x = v → pr (k x) P) : pr (ms_l v k) P := h v rfl
theorem pr_b {x : Option A} {k : A → Option R} {T : A → Prop} (h : pr x T) (g : ∀ a, T a → pr (k a) P) : pr (ms_b x k) P := fun r e => by
  obtain ⟨a, e1, e2⟩ := ms_bE e
  exact g a (h a e1) r e2
theorem pr_c {x : Option (A × ms_T)} {k : A → ms_T → Option R} {T : A × ms_T → Prop} (h : pr x T) (g : ∀ a τ, T (a, τ) → pr (k a τ) P) : pr (ms_c x k) P := fun r e => by
  obtain ⟨a, τ, e1, e2⟩ := ms_cE e
  exact g a τ (h _ e1) r e2
theorem pr_i {c : Prop} [Decidable c] {a b : Option R} (h : c → pr a P) (g : ¬ c → pr b P) : pr (if c then a else b) P := by
  by_cases e : c
  · rw [if_pos e]; exact h e
  · rw [if_neg e]; exact g e
theorem pr_lt {a b : Option R} (h : i.toInt < j.toInt → pr a P) (g : j.toInt ≤ i.toInt → pr b P) : pr (if i < j then a else b) P := pr_i (fun e => h (il_lt e)) (fun e => g (il_nlt e))
theorem pr_le {a b : Option R} (h : i.toInt ≤ j.toInt → pr a P) (g : j.toInt < i.toInt → pr b P) : pr (if i ≤ j then a else b) P := pr_i (fun e => h (il_le e)) (fun e => g (il_nle e))
theorem pr_e {a b : Option R} (h : i = j → pr a P) (g : ¬ i.toInt = j.toInt → pr b P) : pr (if i = j then a else b) P := pr_i h (fun e => g (il_ne e))
theorem ws_pr {o : Option R} (h : ws o P) (g : pr o Q) : ws o (fun r => P r ∧ Q r) := by
  obtain ⟨r, e, p⟩ := h
  exact ⟨r, e, p, g r e⟩
theorem ws_hc {x : Option (A × S)} {k : A → S → Option R} {T : A × S → Prop} (h : ws x T) (g : ∀ a τ, T (a, τ) → ws (k a τ) P) : ws (hq_c x k) P := by
  obtain ⟨⟨a, τ⟩, rfl, q⟩ := h
  exact g a τ q
end PR
theorem hI_sI {α : hp_T} {φ a ψ b : Nat} {v : Int32} : hp_I (hp_sI α φ a v) ψ b = if ψ = φ ∧ b = a then v else hp_I α ψ b := rfl
theorem hI_sE {α : hp_T} {κ a j ψ b : Nat} {v : Int32} : hp_I (hp_sE α κ a j v) ψ b = hp_I α ψ b := rfl
theorem hE_sI {α : hp_T} {φ a κ b j : Nat} {v : Int32} : hp_E (hp_sI α φ a v) κ b j = hp_E α κ b j := rfl
theorem hE_sE {α : hp_T} {κ a i κ' b j : Nat} {v : Int32} : hp_E (hp_sE α κ a i v) κ' b j = if κ' = κ ∧ b = a ∧ j = i then v else hp_E α κ' b j := rfl
theorem hR_sI {α : hp_T} {φ a ψ b : Nat} {v : Int32} : hp_R (hp_sI α φ a v) ψ b = hp_R α ψ b := rfl
theorem hR_sE {α : hp_T} {κ a j ψ b : Nat} {v : Int32} : hp_R (hp_sE α κ a j v) ψ b = hp_R α ψ b := rfl
theorem hR_sR {α : hp_T} {φ a x ψ b : Nat} : hp_R (hp_sR α φ a x) ψ b = if ψ = φ ∧ b = a then x else hp_R α ψ b := rfl
theorem i_ofN {v : Int32} {k : Nat} (h : v.toInt = (k : Int)) : v = Int32.ofNat k := by
  rw [← Int32.toInt_inj, h, Int32.toInt_ofNat_of_lt]
  have := ib_hi v
  omega
end JN8_2
section JN8_3
def p0 (m : Nat) : Nat := 2 ^ Nat.log2 (m - 1)
theorem p0_lt {m : Nat} (h : 2 ≤ m) : p0 m < m := by
  have := Nat.log2_self_le (n := m - 1) (by omega)
  unfold p0; omega
theorem p0_le {m : Nat} : m ≤ 2 * p0 m := by
  have := Nat.lt_log2_self (n := m - 1)
  unfold p0; rw [Nat.pow_succ] at this; omega
theorem p0_pos (m : Nat) : 1 ≤ p0 m := Nat.one_le_two_pow
theorem p0_un {m e : Nat} (h1 : 2 ^ e < m) (h2 : m ≤ 2 * 2 ^ e) : p0 m = 2 ^ e := by
  unfold p0
  have h3 := Nat.log2_self_le (n := m - 1) (by omega)
  have h4 := Nat.lt_log2_self (n := m - 1)
  have h5 : ¬ Nat.log2 (m - 1) < e := fun h => by
    have : 2 ^ (Nat.log2 (m - 1) + 1) ≤ 2 ^ e := Nat.pow_le_pow_right (by decide) h
    omega
  have h6 : ¬ e < Nat.log2 (m - 1) := fun h => by
    have : 2 ^ (e + 1) ≤ 2 ^ Nat.log2 (m - 1) := Nat.pow_le_pow_right (by decide) h
    rw [Nat.pow_succ] at this
    omega
  rw [show Nat.log2 (m - 1) = e by omega]
theorem p0_dn {m e : Nat} (h : 2 ≤ m) (h2 : m ≤ 2 ^ (e + 1)) : p0 m ≤ 2 ^ e := by
  have h3 := p0_lt h
  unfold p0 at *
  apply Nat.pow_le_pow_right (by decide)
  have h6 : ¬ e < Nat.log2 (m - 1) := fun h => by
    have : 2 ^ (e + 1) ≤ 2 ^ Nat.log2 (m - 1) := Nat.pow_le_pow_right (by decide) h
    omega
  omega
def Lz (x : Nat) (C r : Int) : Prop := ∃ e : Nat, r = C - e ∧ 2 ^ e ≤ x ∧ x < 2 * 2 ^ e
theorem Lz_1 {x : Nat} {C r : Int} (h0 : 1 ≤ x) (h1 : x < 4) (hr : r = C - (x / 2 : Nat)) : Lz x C r := by
  refine ⟨x / 2, hr, ?_⟩
  have : x = 1 ∨ x = 2 ∨ x = 3 := by omega
  rcases this with rfl | rfl | rfl <;> decide
theorem Lz_s {x d s : Nat} {C r : Int} (hd : d = 2 ^ s) (h : Lz (x / d) (C - s) r) : Lz x C r := by
  obtain ⟨e, h1, h2, h3⟩ := h
  subst hd
  have hp : 0 < 2 ^ s := Nat.two_pow_pos s
  refine ⟨e + s, by omega, ?_, ?_⟩
  · rw [Nat.pow_add]; exact (Nat.le_div_iff_mul_le hp).mp h2
  · rw [Nat.pow_add]
    have := (Nat.div_lt_iff_lt_mul hp).mp h3
    rw [Nat.mul_assoc] at this; exact this
theorem and_hb {a e : Nat} (h1 : 2 ^ e ≤ a) (h2 : a < 2 * 2 ^ e) : a &&& 2 ^ e = 2 ^ e := by
  have h3 : a / 2 ^ e = 1 := Nat.div_eq_of_lt_le (by omega) (by omega)
  have t : a.testBit e = true := by rw [Nat.testBit_eq_decide_div_mod_eq, h3]; decide
  apply Nat.eq_of_testBit_eq
  intro i
  rw [Nat.testBit_and, Nat.testBit_two_pow]
  by_cases hi : e = i
  · subst hi; simp [t]
  · simp [hi]
theorem hb_sh : ∀ j : Nat, j < 31 → (((-2147483648 : Int32)).toUInt32 >>> ((Int32.ofNat (31 - j)).toUInt32 &&& Int32.toUInt32 31)).toInt32.toBitVec.toNat = 2 ^ j := by decide
/-- of growth: below the whole the last tree of the older things is asked, too -/
def wyG : Nat → Nat → Nat → Nat → Bool → List (Nat × Nat × Bool)
  | 0, _, _, _, _ => []
  | d + 1, i, f, m, w => if i = m then (if w then [] else [(f, m, false)]) else if i ≤ p0 m then (f + p0 m, m - p0 m, false) :: wyG d i f (p0 m) w else (f, p0 m, true) :: wyG d (i - p0 m) (f + p0 m) (m - p0 m) false
theorem wyG_len : ∀ (d i f m : Nat) (w : Bool), (wyG d i f m w).length ≤ d := by
  intro d
  induction d with
  | zero => intro i f m w; exact Nat.le_refl _
  | succ d ih =>
    intro i f m w
    rw [wyG]
    split
    · split
      · exact Nat.zero_le _
      · exact Nat.succ_le_succ (Nat.zero_le _)
    · split
      · exact Nat.succ_le_succ (ih _ _ _ _)
      · exact Nat.succ_le_succ (ih _ _ _ _)
end JN8_3
section JN8_4
/-! ===== the greatest power of two below; ways: the reference's and the class's ===== -/
theorem v_part0_L (n : Nat) : ∀ (k : Nat) (v p : Int32) (e : Nat), p.toInt = ((2 ^ e : Nat) : Int) → p.toInt < v.toInt → pr (f_X12_part0_L2 n k v p) (fun r => r.toInt = (p0 v.toInt.toNat : Int)) := by
  intro k
  induction k with
  | zero => intro v p e h1 h2; rw [f_X12_part0_L2.eq_1]; exact pr_0
  | succ k ih =>
    intro v p e h1 h2
    have hp : 1 ≤ 2 ^ e := Nat.one_le_two_pow
    have hv := ib_hi v
    have hs : (v - p).toInt = v.toInt - p.toInt := ii_sub (by omega) (by omega)
    rw [f_X12_part0_L2.eq_2]
    refine pr_le (fun h => pr_s ?_) (fun h => pr_l (ih _ _ (e + 1) ?_ ?_))
    · rw [p0_un (m := v.toInt.toNat) (e := e) (by omega) (by omega), h1]
    · rw [ii_add (by omega) (by omega), Nat.pow_succ]; omega
    · rw [ii_add (by omega) (by omega)]; omega
theorem v_part0 (n : Nat) (v : Int32) (h : 2 ≤ v.toInt) : pr (f_X12_part0 n v) (fun r => r.toInt = (p0 v.toInt.toNat : Int)) :=
  v_part0_L n n v 1 0 (by decide) (by rw [lt1]; omega)
theorem tI_N (x : Int32) (h : x.toBitVec.toNat < 2147483648) : x.toInt = (x.toBitVec.toNat : Int) := by
  show BitVec.toInt _ = _
  rw [BitVec.toInt_eq_toNat_cond, if_pos (by omega)]
theorem t_m2 : (-2 : Int32).toInt = -2 := by decide
theorem t_m4 : (-4 : Int32).toInt = -4 := by decide
theorem t_m8 : (-8 : Int32).toInt = -8 := by decide
theorem k_nlz73 (n : Nat) (v c : Int32) (h0 : 1 ≤ v.toInt) (h1 : v.toInt < 4) (c0 : 1 ≤ c.toInt) (c1 : c.toInt ≤ 31) : ws (f_J6_numberOfLeadingZeros_0f7a4_J73 n v c) (fun r => Lz v.toInt.toNat c.toInt r.toInt) := by
  unfold f_J6_numberOfLeadingZeros_0f7a4_J73
  obtain ⟨b1, b2⟩ := bN v (by omega)
  have e1 := n_sh1 v
  have e2 := tI_N _ (by rw [e1]; omega)
  rw [e1] at e2
  exact ws_s (Lz_1 (by omega) (by omega) (by rw [ii_sub (by rw [e2]; omega) (by rw [e2]; omega), e2]; omega))
theorem k_nlz61 (n : Nat) (v c : Int32) (h0 : 1 ≤ v.toInt) (h1 : v.toInt < 16) (c0 : 3 ≤ c.toInt) (c1 : c.toInt ≤ 31) : ws (f_J6_numberOfLeadingZeros_0f7a4_J61 n v c) (fun r => Lz v.toInt.toNat c.toInt r.toInt) := by
  unfold f_J6_numberOfLeadingZeros_0f7a4_J61
  have L4 := t_4
  have L16 := t_16
  refine ws_lt (fun h => k_nlz73 n v c h0 (by omega) (by omega) c1) (fun h => ?_)
  obtain ⟨b1, b2⟩ := bN v (by omega)
  have e1 := n_sh2 v
  have e2 := tI_N _ (by rw [e1]; omega)
  rw [e1] at e2
  have e3 : (c + (-2)).toInt = c.toInt - 2 := by rw [ii_add (by rw [t_m2]; omega) (by rw [t_m2]; omega), t_m2]; omega
  refine ws_l (ws_l (ws_m (k_nlz73 n _ _ (by rw [e2]; omega) (by rw [e2]; omega) (by omega) (by omega)) (fun r hr => ?_)))
  rw [e2, e3] at hr
  refine Lz_s (d := 4) (s := 2) rfl ?_
  rw [show v.toInt.toNat / 4 = ((v.toBitVec.toNat / 4 : Nat) : Int).toNat by omega]
  exact hr
theorem k_nlz48 (n : Nat) (v c : Int32) (h0 : 1 ≤ v.toInt) (h1 : v.toInt < 256) (c0 : 7 ≤ c.toInt) (c1 : c.toInt ≤ 31) : ws (f_J6_numberOfLeadingZeros_0f7a4_J48 n v c) (fun r => Lz v.toInt.toNat c.toInt r.toInt) := by
  unfold f_J6_numberOfLeadingZeros_0f7a4_J48
  have L4 := t_4
  have L16 := t_16
  refine ws_lt (fun h => k_nlz61 n v c h0 (by omega) (by omega) c1) (fun h => ?_)
  obtain ⟨b1, b2⟩ := bN v (by omega)
  have e1 := n_sh4 v
  have e2 := tI_N _ (by rw [e1]; omega)
  rw [e1] at e2
  have e3 : (c + (-4)).toInt = c.toInt - 4 := by rw [ii_add (by rw [t_m4]; omega) (by rw [t_m4]; omega), t_m4]; omega
  refine ws_l (ws_l (ws_m (k_nlz61 n _ _ (by rw [e2]; omega) (by rw [e2]; omega) (by omega) (by omega)) (fun r hr => ?_)))
  rw [e2, e3] at hr
  refine Lz_s (d := 16) (s := 4) rfl ?_
  rw [show v.toInt.toNat / 16 = ((v.toBitVec.toNat / 16 : Nat) : Int).toNat by omega]
  exact hr
theorem k_nlz33 (n : Nat) (v c : Int32) (h0 : 1 ≤ v.toInt) (h1 : v.toInt < 65536) (c0 : 15 ≤ c.toInt) (c1 : c.toInt ≤ 31) : ws (f_J6_numberOfLeadingZeros_0f7a4_J33 n v c) (fun r => Lz v.toInt.toNat c.toInt r.toInt) := by
  unfold f_J6_numberOfLeadingZeros_0f7a4_J33
  have t256 : (256 : Int32).toInt = 256 := by decide
  refine ws_lt (fun h => k_nlz48 n v c h0 (by omega) (by omega) c1) (fun h => ?_)
  obtain ⟨b1, b2⟩ := bN v (by omega)
  have e1 := n_sh8 v
  have e2 := tI_N _ (by rw [e1]; omega)
  rw [e1] at e2
  have e3 : (c + (-8)).toInt = c.toInt - 8 := by rw [ii_add (by rw [t_m8]; omega) (by rw [t_m8]; omega), t_m8]; omega
  refine ws_l (ws_l (ws_m (k_nlz48 n _ _ (by rw [e2]; omega) (by rw [e2]; omega) (by omega) (by omega)) (fun r hr => ?_)))
  rw [e2, e3] at hr
  refine Lz_s (d := 256) (s := 8) rfl ?_
  rw [show v.toInt.toNat / 256 = ((v.toBitVec.toNat / 256 : Nat) : Int).toNat by omega]
  exact hr
theorem k_nlz (n : Nat) (v : Int32) (h0 : 1 ≤ v.toInt) : ws (f_J6_numberOfLeadingZeros_0f7a4 n v) (fun r => Lz v.toInt.toNat 31 r.toInt) := by
  unfold f_J6_numberOfLeadingZeros_0f7a4
  have L := lits
  have t6 : (65536 : Int32).toInt = 65536 := by decide
  have t31 : (31 : Int32).toInt = 31 := by decide
  refine ws_lt (fun _ => ws_lt (fun h => ?_) (fun h => ?_)) (fun h => by omega)
  · have := k_nlz33 n v 31 h0 (by omega) (by decide) (by decide)
    rw [t31] at this
    exact this
  · obtain ⟨b1, b2⟩ := bN v (by omega)
    have e1 := n_sh16 v
    have e2 := tI_N _ (by rw [e1]; omega)
    rw [e1] at e2
    refine ws_l (ws_l (ws_m (k_nlz33 n _ _ (by rw [e2]; omega) (by rw [e2]; omega) (by decide) (by decide)) (fun r hr => ?_)))
    rw [e2, show ((31 : Int32) + (-16)).toInt = 15 by decide] at hr
    refine Lz_s (d := 65536) (s := 16) rfl ?_
    rw [show v.toInt.toNat / 65536 = ((v.toBitVec.toNat / 65536 : Nat) : Int).toNat by omega]
    exact hr
theorem k_hob (n : Nat) (v : Int32) (h0 : 1 ≤ v.toInt) : ws (f_J6_highestOneBit_0f7a4 n v) (fun r => r.toInt = (p0 (v.toInt.toNat + 1) : Int)) := by
  unfold f_J6_highestOneBit_0f7a4
  refine ws_b (k_nlz n v h0) (fun r hr => ws_s ?_)
  obtain ⟨e, h1, h2, h3⟩ := hr
  obtain ⟨b1, b2⟩ := bN v (by omega)
  have he : e < 31 := by
    refine Nat.lt_of_not_le (fun h => ?_)
    have : 2 ^ 31 ≤ 2 ^ e := Nat.pow_le_pow_right (by decide) h
    omega
  have hr2 : r = Int32.ofNat (31 - e) := i_ofN (by omega)
  have e1 := n_and v ((((-2147483648 : Int32)).toUInt32 >>> ((r).toUInt32 &&& Int32.toUInt32 31)).toInt32)
  rw [hr2, hb_sh e he, and_hb (by omega) (by omega)] at e1
  rw [hr2, tI_N _ (by rw [e1]; omega), e1, p0_un (m := v.toInt.toNat + 1) (e := e) (by omega) (by omega)]
theorem k_first (n : Nat) (v : Int32) (h : 2 ≤ v.toInt) : ws (f_X11_firstPartOf n v) (fun r => r.toInt = (p0 v.toInt.toNat : Int)) := by
  unfold f_X11_firstPartOf
  have L := lits
  have hv := ib_hi v
  have e1 : (v - 1).toInt = v.toInt - 1 := by rw [ii_sub (by rw [lt1]; omega) (by rw [lt1]; omega), lt1]
  refine ws_le (fun _ => ws_b (k_hob n (v - 1) (by omega)) (fun r hr => ws_s ?_)) (fun _ => by omega)
  rw [hr, e1, show (v.toInt - 1).toNat + 1 = v.toInt.toNat by omega]
def WS (σ : ms_T) (l : List (Nat × Nat × Bool)) : Prop := (ms_I σ 657).toInt = (l.length : Int) ∧ ∀ (k : Nat) (q : Nat × Nat × Bool), l[k]? = some q → (ms_E σ 42 k).toInt = (q.1 : Int) ∧ (ms_E σ 43 k).toInt = (q.2.1 : Int)
theorem ap_get {A : Type} {l : List A} {a q : A} {k : Nat} (h : (l ++ [a])[k]? = some q) : (k < l.length ∧ l[k]? = some q) ∨ (k = l.length ∧ q = a) := by
  by_cases hk : k < l.length
  · rw [List.getElem?_append_left hk] at h; exact Or.inl ⟨hk, h⟩
  · rw [List.getElem?_append_right (by omega)] at h
    have : k - l.length < [a].length := (List.getElem?_eq_some_iff.mp h).1
    have h1 : k - l.length = 0 := by simp at this; omega
    rw [h1] at h
    exact Or.inr ⟨by omega, (Option.some.inj h).symm⟩
theorem v_asks (n : Nat) {σ : ms_T} {l : List (Nat × Nat × Bool)} (h : WS σ l) (a b : Int32) (q : Nat × Nat × Bool) (ha : a.toInt = (q.1 : Int)) (hb : b.toInt = (q.2.1 : Int)) : pr (f_X12_asks n σ a b) (fun τ => WS τ (l ++ [q])) := by
  unfold f_X12_asks
  refine pr_g (fun g0 g1 => pr_l (pr_g (fun _ _ => pr_l (pr_l (pr_s ⟨?_, ?_⟩)))))
  · rw [mI_sI, if_pos rfl]
    show (ms_I σ 657 + 1).toInt = _
    rw [ii_add (by rw [lt1]; omega) (by rw [lt1]; omega), h.1, lt1, List.length_append]
    rfl
  · intro k r hk
    have hc : (ms_I σ 657).toNatClampNeg = l.length := cl_n h.1
    have hc2 : ∀ u, (ms_I (ms_sE σ 42 l.length u) 657).toNatClampNeg = l.length := fun _ => hc
    rw [mE_sI, mE_sI, hc, hc2, mE_sE, mE_sE, mE_sE, mE_sE]
    rcases ap_get hk with ⟨h1, h2⟩ | ⟨h1, h2⟩
    · have hne : ¬ k = l.length := by omega
      simpa [hne] using h.2 k r h2
    · subst h1; subst h2
      simpa using ⟨ha, hb⟩
theorem v_growsIn (n : Nat) : ∀ (d e : Nat) (σ : ms_T) (l : List (Nat × Nat × Bool)) (f i m : Nat) (fI iI mI wI : Int32) (w : Bool), WS σ l → fI.toInt = (f : Int) → iI.toInt = (i : Int) → mI.toInt = (m : Int) → 1 ≤ i → i ≤ m → m ≤ 2 ^ e → f + m ≤ 2147483647 → wI = (if w then 1 else 0) → pr (f_X12_growsIn n d σ fI iI mI wI) (fun τ => WS τ (l ++ (wyG (e + 1) i f m w).reverse)) := by
  intro d
  induction d with
  | zero => intro e σ l f i m fI iI mI wI w hW hf hi hm hi1 him hme hfm hw; rw [f_X12_growsIn.eq_1]; exact pr_0
  | succ d ih =>
    intro e σ l f i m fI iI mI wI w hW hf hi hm hi1 him hme hfm hw
    rw [f_X12_growsIn.eq_2, wyG]
    refine pr_e (fun h1 => ?_) (fun h1 => ?_)
    · have : i = m := by rw [h1] at hi; omega
      rw [if_pos this]
      cases w with
      | true =>
        subst hw
        refine pr_i (fun h => absurd h (by decide)) (fun _ => pr_s ?_)
        simpa using hW
      | false =>
        subst hw
        refine pr_i (fun _ => pr_b (v_asks n hW fI mI (f, m, false) hf hm) (fun υ hυ => pr_s ?_)) (fun h => absurd rfl h)
        simpa using hυ
    · rw [hi, hm] at h1
      rw [if_neg (by omega)]
      have hm2 : 2 ≤ m := by omega
      cases e with
      | zero => simp at hme; omega
      | succ e =>
      have hp1 := p0_lt hm2
      have hp2 := p0_le (m := m)
      have hp3 := p0_pos m
      have hp4 := p0_dn hm2 hme
      refine pr_b (v_part0 n mI (by omega)) (fun r hr => ?_)
      rw [hm, Int.toNat_natCast] at hr
      refine pr_lt (fun h2 => ?_) (fun h2 => ?_)
      · rw [if_neg (by omega)]
        refine pr_b (ih e σ l (f + p0 m) (i - p0 m) (m - p0 m) _ _ _ 0 false hW (by rw [ii_add (by omega) (by omega)]; omega) (by rw [ii_sub (by omega) (by omega)]; omega) (by rw [ii_sub (by omega) (by omega)]; omega) (by omega) (by omega) (by omega) (by omega) rfl) (fun τ hτ => pr_b (v_asks n hτ _ _ (f, p0 m, true) hf hr) (fun υ hυ => pr_s ?_))
        rw [List.reverse_cons, ← List.append_assoc]
        exact hυ
      · rw [if_pos (by omega)]
        refine pr_b (ih e σ l f i (p0 m) _ _ _ wI w hW hf hi hr (by omega) (by omega) hp4 (by omega) hw) (fun τ hτ => pr_b (v_asks n hτ _ _ (f + p0 m, m - p0 m, false) (by show _ = ((f + p0 m : Nat) : Int); rw [ii_add (by omega) (by omega)]; omega) (by show _ = ((m - p0 m : Nat) : Int); rw [ii_sub (by omega) (by omega)]; omega)) (fun υ hυ => pr_s ?_))
        rw [List.reverse_cons, ← List.append_assoc]
        exact hυ
/-- a growth's way: none from nothing, none to itself -/
def wyH (i m : Nat) : List (Nat × Nat × Bool) := if i = 0 then [] else wyG 32 i 0 m true
theorem v_growth (n : Nat) (σ : ms_T) (i m : Int32) (h0 : 0 ≤ i.toInt) (h1 : i.toInt ≤ m.toInt) : pr (f_X12_growth n σ i m) (fun τ => WS τ (wyH i.toInt.toNat m.toInt.toNat).reverse) := by
  have hm := ib_hi m
  have L := lits
  have hz : WS (ms_sI σ 657 0) [] := ⟨by rw [mI_sI, if_pos rfl]; rfl, fun k q h => by simp at h⟩
  unfold f_X12_growth wyH
  refine pr_l (pr_le (fun h => pr_s ?_) (fun h => pr_le (fun g => pr_s ?_) (fun g => ?_)))
  · rw [if_pos (by omega)]; exact hz
  · rw [if_neg (by omega), wyG, if_pos (by omega)]; exact hz
  · rw [if_neg (by omega)]
    refine pr_b (v_growsIn n 40 31 _ [] 0 i.toInt.toNat m.toInt.toNat 0 i m 1 true hz rfl (by omega) (by omega) (by omega) (by omega) (by omega) (by omega) rfl) (fun τ hτ => pr_s ?_)
    simpa using hτ
end JN8_4
section JN8_5
/-! ===== the class's ways ===== -/
def WC (α : hp_T) (a : Nat) (l : List (Nat × Nat × Bool)) : Prop := (hp_I α 453 a).toInt = (l.length : Int) ∧ ∀ (k : Nat) (q : Nat × Nat × Bool), l[k]? = some q → (hp_E α 21 (hp_R α 450 a) k).toInt = (q.1 : Int) ∧ (hp_E α 22 (hp_R α 451 a) k).toInt = (q.2.1 : Int) ∧ hp_E α 23 (hp_R α 452 a) k = if q.2.2 then 1 else 0
/-- what a way's own methods leave as it is -/
def wf (a : Nat) (α β : hp_T) : Prop := hp_R β = hp_R α ∧ hp_K β = hp_K α ∧ hp_Q β = hp_Q α ∧ hp_N β = hp_N α ∧ (∀ φ b, ¬ (b = a ∧ (φ = 453 ∨ φ = 454)) → hp_I β φ b = hp_I α φ b) ∧ ∀ κ b j, ¬ ((κ = 21 ∧ b = hp_R α 450 a) ∨ (κ = 22 ∧ b = hp_R α 451 a) ∨ (κ = 23 ∧ b = hp_R α 452 a)) → hp_E β κ b j = hp_E α κ b j
theorem wf_rf {a : Nat} {α : hp_T} : wf a α α := ⟨rfl, rfl, rfl, rfl, fun _ _ _ => rfl, fun _ _ _ _ => rfl⟩
theorem wf_tr {a : Nat} {α β γ : hp_T} (h : wf a α β) (g : wf a β γ) : wf a α γ := by
  obtain ⟨h1, h2, h3, h4, h5, h6⟩ := h
  obtain ⟨g1, g2, g3, g4, g5, g6⟩ := g
  rw [h1] at g6
  exact ⟨g1.trans h1, g2.trans h2, g3.trans h3, g4.trans h4, fun φ b q => (g5 φ b q).trans (h5 φ b q), fun κ b j q => (g6 κ b j q).trans (h6 κ b j q)⟩
theorem wf_sI {a φ : Nat} {α : hp_T} {v : Int32} (h : φ = 453 ∨ φ = 454) : wf a α (hp_sI α φ a v) :=
  ⟨rfl, rfl, rfl, rfl, fun ψ b q => by rw [hI_sI, if_neg (fun (e : ψ = φ ∧ b = a) => q ⟨e.2, by rw [e.1]; exact h⟩)], fun _ _ _ _ => rfl⟩
theorem wf_sE {a κ b j : Nat} {α : hp_T} {v : Int32} (h : (κ = 21 ∧ b = hp_R α 450 a) ∨ (κ = 22 ∧ b = hp_R α 451 a) ∨ (κ = 23 ∧ b = hp_R α 452 a)) : wf a α (hp_sE α κ b j v) :=
  ⟨rfl, rfl, rfl, rfl, fun _ _ _ => rfl, fun κ' b' j' q => by rw [hE_sE, if_neg (fun e => q (by rw [e.1, e.2.1]; exact h))]⟩
theorem k_put8 (n : Nat) (α : hp_T) (a : Nat) (l : List (Nat × Nat × Bool)) (h : WC α a l) (hl : l.length < 64) (q : Nat × Nat × Bool) (f m b : Int32) (hf : f.toInt = (q.1 : Int)) (hm : m.toInt = (q.2.1 : Int)) (hb : b = if q.2.2 then 1 else 0) : ws (f_X8_put n α a f m b) (fun β => WC β a (l ++ [q]) ∧ wf a α β) := by
  have L64 := t_64
  unfold f_X8_put
  obtain ⟨h1, h2⟩ := h
  have hc : (hp_I α 453 a).toNatClampNeg = l.length := cl_n h1
  refine ws_l (ws_lt (fun e => by rw [lt0] at e; omega) (fun _ => ws_l (ws_le (fun e => by omega) (fun _ => ws_l (ws_l (ws_g (by omega) (by omega) (ws_l (ws_l (ws_l (ws_g (by show 0 ≤ (hp_I α 453 a).toInt; omega) (by show (hp_I α 453 a).toInt < _; omega) (ws_l (ws_l (ws_l (ws_g (by show 0 ≤ (hp_I α 453 a).toInt; omega) (by show (hp_I α 453 a).toInt < _; omega) (ws_l (ws_l ?_))))))))))))))))
  have e5 : (hp_I α 453 a + 1).toInt = (l.length : Int) + 1 := by rw [ii_add (by rw [lt1]; omega) (by rw [lt1]; omega), h1, lt1]
  refine ws_g (by show 0 ≤ (hp_I α 453 a + 1).toInt; omega) (by show (hp_I α 453 a + 1).toInt < _; omega) (ws_l (ws_s ⟨⟨?_, fun k r hk => ?_⟩, ?_⟩))
  · rw [hI_sI, if_pos ⟨rfl, rfl⟩]
    show (hp_I α 453 a + 1).toInt = _
    rw [e5, List.length_append]; rfl
  · simp only [hI_sE, hc, hE_sI, hR_sI, hR_sE, hE_sE]
    have hb1 : b &&& 1 = b := by subst hb; split <;> rfl
    rw [hb1]
    rcases ap_get hk with ⟨g1, g2⟩ | ⟨g1, g2⟩
    · have hne : ¬ k = l.length := by omega
      simpa [hne] using h2 k r g2
    · subst g1; subst g2
      simpa using ⟨hf, hm, hb⟩
  · exact wf_tr (wf_tr (wf_tr (wf_sE (Or.inl ⟨rfl, rfl⟩)) (wf_sE (Or.inr (Or.inl ⟨rfl, rfl⟩)))) (wf_sE (Or.inr (Or.inr ⟨rfl, rfl⟩)))) (wf_sI (Or.inl rfl))
def sw (L v k : Nat) : Nat := if k < v ∨ L - v ≤ k then L - 1 - k else k
theorem sw_step {A : Type} (g : Nat → A) {L v k : Nat} (h : 2 * v + 1 < L) (hk : k < L) : (if k = L - 1 - v then g (sw L v v) else if k = v then g (sw L v (L - 1 - v)) else g (sw L v k)) = g (sw L (v + 1) k) := by
  unfold sw
  split
  · rw [if_neg (by omega), if_pos (by omega)]; congr 1; omega
  · split
    · rw [if_neg (by omega), if_pos (by omega)]; congr 1; omega
    · by_cases hq : k < v ∨ L - v ≤ k
      · rw [if_pos hq, if_pos (by omega)]
      · rw [if_neg hq, if_neg (by omega)]
theorem k_turn_L (n : Nat) (a : Nat) (α : hp_T) (l : List (Nat × Nat × Bool)) (h : WC α a l) (hl : l.length ≤ 64) : ∀ (k : Nat) (β : hp_T) (v : Nat) (vI : Int32), vI.toInt = (v : Int) → v ≤ 32 → 33 - v ≤ k → wf a α β → (hp_I β 453 a).toInt = (l.length : Int) → (∀ j, j < l.length → hp_E β 21 (hp_R α 450 a) j = hp_E α 21 (hp_R α 450 a) (sw l.length v j) ∧ hp_E β 22 (hp_R α 451 a) j = hp_E α 22 (hp_R α 451 a) (sw l.length v j) ∧ hp_E β 23 (hp_R α 452 a) j = hp_E α 23 (hp_R α 452 a) (sw l.length v j)) → ws (f_X8_turnRound_L2 n a k β vI) (fun β => WC β a l.reverse ∧ wf a α β) := by
  intro k
  induction k with
  | zero => intro β v vI h1 h2 h3; omega
  | succ k ih =>
    intro β v vI h1 h2 h3 hw hc he
    rw [f_X8_turnRound_L2.eq_2]
    have L2 := t_2
    have L64 := t_64
    have hR : hp_R β = hp_R α := hw.1
    have h01 : ∀ j, j < l.length → (hp_E α 23 (hp_R α 452 a) j) &&& 1 = hp_E α 23 (hp_R α 452 a) j := by
      intro j hj
      rw [(h.2 j l[j] (List.getElem?_eq_getElem hj)).2.2]
      split <;> rfl
    refine ws_l (ws_le (fun hd => ?_) (fun hd => ?_))
    · rw [ii_div (by omega) (by decide), hc, L2] at hd
      refine ws_s ⟨⟨by rw [hc, List.length_reverse], fun j q hj => ?_⟩, hw⟩
      have hj2 : j < l.length := by
        have := (List.getElem?_eq_some_iff.mp hj).1
        rwa [List.length_reverse] at this
      rw [List.getElem?_reverse hj2] at hj
      have := h.2 _ q hj
      rw [hR, (he j hj2).1, (he j hj2).2.1, (he j hj2).2.2]
      have es : sw l.length v j = l.length - 1 - j := by unfold sw; split <;> omega
      rw [es]
      exact this
    · rw [ii_div (by omega) (by decide), hc, L2] at hd
      have hvl : 2 * v + 1 < l.length := by omega
      have e1 : (hp_I β 453 a - 1).toInt = (l.length : Int) - 1 := by rw [ii_sub (by rw [lt1]; omega) (by rw [lt1]; omega), hc, lt1]
      have e2 : ((hp_I β 453 a - 1) - vI).toInt = ((l.length - 1 - v : Nat) : Int) := by rw [ii_sub (by omega) (by omega), e1]; omega
      obtain ⟨eI, hE⟩ : ∃ eI, eI = (hp_I β 453 a - 1) - vI := ⟨_, rfl⟩
      rw [← hE] at e2
      refine ws_l (ws_l ?_)
      rw [← hE]
      have g1 : 0 ≤ eI.toInt := by omega
      have g2 : eI.toInt < ((64 : Nat) : Int) := by omega
      have g3 : 0 ≤ vI.toInt := by omega
      have g4 : vI.toInt < ((64 : Nat) : Int) := by omega
      have cE : eI.toNatClampNeg = l.length - 1 - v := cl_n e2
      have cV : vI.toNatClampNeg = v := cl_n h1
      refine ws_lt (fun e => by rw [lt0] at e; omega) (fun _ => ws_le (fun e => by omega) (fun _ => ws_lt (fun _ => ?_) (fun e => by omega)))
      refine ws_l (ws_g g3 g4 (ws_l (ws_l (ws_l (ws_g g1 g2 (ws_g g3 g4 (ws_l (ws_l (ws_g g1 g2 (ws_l ?_))))))))))
      refine ws_l (ws_g g3 g4 (ws_l (ws_l (ws_l (ws_g g1 g2 (ws_g g3 g4 (ws_l (ws_l (ws_g g1 g2 (ws_l ?_))))))))))
      refine ws_l (ws_g g3 g4 (ws_l (ws_l (ws_l (ws_g g1 g2 (ws_g g3 g4 (ws_l (ws_l (ws_g g1 g2 (ws_l (ws_l ?_)))))))))))
      refine ih _ (v + 1) _ ?_ (by omega) (by omega) ?_ ?_ ?_
      · rw [ii_add (by rw [lt1]; omega) (by rw [lt1]; omega), h1, lt1]; omega
      · refine wf_tr hw ?_
        exact wf_tr (wf_tr (wf_tr (wf_tr (wf_tr (wf_sE (Or.inl ⟨rfl, rfl⟩)) (wf_sE (Or.inl ⟨rfl, rfl⟩))) (wf_sE (Or.inr (Or.inl ⟨rfl, rfl⟩)))) (wf_sE (Or.inr (Or.inl ⟨rfl, rfl⟩)))) (wf_sE (Or.inr (Or.inr ⟨rfl, rfl⟩)))) (wf_sE (Or.inr (Or.inr ⟨rfl, rfl⟩)))
      · exact hc
      · intro j hj
        have n1 : ¬ v = l.length - 1 - v := by omega
        have n2 : ¬ l.length - 1 - v = v := by omega
        simp only [hR_sE, hE_sE, hR, cE, cV, n1, n2, Nat.reduceEqDiff, false_and, true_and, and_true, and_false, if_false, if_true, reduceIte]
        have hv1 := he v (by omega)
        have hv2 := he (l.length - 1 - v) (by omega)
        have hj1 := he j hj
        rw [hv1.1, hv1.2.1, hv1.2.2, hv2.1, hv2.2.1, hv2.2.2, hj1.1, hj1.2.1, hj1.2.2]
        have hs1 : sw l.length v v < l.length := by unfold sw; split <;> omega
        have hs2 : sw l.length v (l.length - 1 - v) < l.length := by unfold sw; split <;> omega
        rw [h01 _ hs1, h01 _ hs2]
        exact ⟨sw_step (fun k => hp_E α 21 (hp_R α 450 a) k) hvl hj, sw_step (fun k => hp_E α 22 (hp_R α 451 a) k) hvl hj, sw_step (fun k => hp_E α 23 (hp_R α 452 a) k) hvl hj⟩
theorem k_turn (n : Nat) (hn : 70000 ≤ n) (a : Nat) (α : hp_T) (l : List (Nat × Nat × Bool)) (h : WC α a l) (hl : l.length ≤ 64) : ws (f_X8_turnRound n α a) (fun β => WC β a l.reverse ∧ wf a α β) := by
  unfold f_X8_turnRound
  refine k_turn_L n a α l h hl n α 0 0 rfl (by omega) (by omega) wf_rf h.1 (fun j hj => ?_)
  have : sw l.length 0 j = j := by unfold sw; rw [if_neg (by omega)]
  rw [this]
  exact ⟨rfl, rfl, rfl⟩
theorem k_clear (n : Nat) (α : hp_T) (a : Nat) : ws (f_X8_clear n α a) (fun β => WC β a [] ∧ wf a α β) := by
  unfold f_X8_clear
  refine ws_l (ws_l (ws_s ⟨⟨?_, fun k q h => by simp at h⟩, wf_tr (wf_sI (Or.inl rfl)) (wf_sI (Or.inr rfl))⟩))
  rw [hI_sI, if_neg (fun h => absurd h.1 (by decide)), hI_sI, if_pos ⟨rfl, rfl⟩]
  rfl
theorem k_toGrowth_J (n : Nat) (hn : 70000 ≤ n) (a : Nat) (α0 α : hp_T) (l : List (Nat × Nat × Bool)) (hw : wf a α0 α) (hW : WC α a l) (hl : l.length < 64) (f m : Nat) (fI mI wI : Int32) (w : Bool) (hf : fI.toInt = (f : Int)) (hm : mI.toInt = (m : Int)) (hwI : wI = if w then 1 else 0) : ws (f_X8_toGrowth_J100 n a α fI mI wI) (fun β => WC β a (l ++ (if w then [] else [(f, m, false)])).reverse ∧ wf a α0 β) := by
  unfold f_X8_toGrowth_J100 f_X8_toGrowth_J118
  cases w with
  | true =>
    subst hwI
    refine ws_i (fun h => absurd h (by decide)) (fun _ => ?_)
    exact ws_b (k_turn n hn a α l hW (by omega)) (fun β hβ => ws_s ⟨by simpa using hβ.1, wf_tr hw hβ.2⟩)
  | false =>
    subst hwI
    refine ws_i (fun _ => ?_) (fun h => absurd rfl h)
    refine ws_b (k_put8 n α a l hW hl (f, m, false) fI mI 0 hf hm rfl) (fun β hβ => ws_l ?_)
    have hW2 : WC (hp_sI β 454 a 1) a (l ++ [(f, m, false)]) := ⟨by rw [hI_sI, if_neg (fun h => absurd h.1 (by decide))]; exact hβ.1.1, hβ.1.2⟩
    exact ws_b (k_turn n hn a _ _ hW2 (by rw [List.length_append]; simp; omega)) (fun γ hγ => ws_s ⟨by simpa using hγ.1, wf_tr hw (wf_tr hβ.2 (wf_tr (wf_sI (Or.inr rfl)) hγ.2))⟩)
theorem k_toGrowth_L (n : Nat) (hn : 70000 ≤ n) (a : Nat) (α0 : hp_T) : ∀ (k e : Nat) (α : hp_T) (l : List (Nat × Nat × Bool)) (f i m : Nat) (iI fI mI wI dI : Int32) (w : Bool), wf a α0 α → WC α a l → l.length + e < 64 → 0 ≤ dI.toInt → dI.toInt + e < 40 → e + 1 ≤ k → fI.toInt = (f : Int) → iI.toInt = (f : Int) + i → mI.toInt = (m : Int) → 1 ≤ i → i ≤ m → m ≤ 2 ^ e → f + m ≤ 2147483647 → wI = (if w then 1 else 0) → ws (f_X8_toGrowth_L20 n a k α iI fI mI wI dI) (fun β => WC β a (l ++ wyG (e + 1) i f m w).reverse ∧ wf a α0 β) := by
  intro k
  induction k with
  | zero => intro e α l f i m iI fI mI wI dI w hw hW hl hd0 hd hk hf hi hm hi1 him hme hfm hwI; omega
  | succ k ih =>
    intro e α l f i m iI fI mI wI dI w hw hW hl hd0 hd hk hf hi hm hi1 him hme hfm hwI
    rw [f_X8_toGrowth_L20.eq_2]
    have L40 : (40 : Int32).toInt = 40 := by decide
    have hif : (iI - fI).toInt = (i : Int) := by rw [ii_sub (by omega) (by omega)]; omega
    refine ws_le (fun h => by omega) (fun _ => ws_e (fun h => ?_) (fun h => ?_))
    · have hq : i = m := by rw [h, hm] at hif; omega
      have e0 : wyG (e + 1) i f m w = (if w then [] else [(f, m, false)]) := by rw [wyG, if_pos hq]
      rw [e0]
      exact k_toGrowth_J n hn a α0 α l hw hW (by omega) f m fI mI wI w hf hm hwI
    · rw [hif, hm] at h
      have hm2 : 2 ≤ m := by omega
      cases e with
      | zero => simp at hme; omega
      | succ e =>
      have hp1 := p0_lt hm2
      have hp2 := p0_le (m := m)
      have hp3 := p0_pos m
      have hp4 := p0_dn hm2 hme
      have e1 : wyG (e + 1 + 1) i f m w = if i ≤ p0 m then (f + p0 m, m - p0 m, false) :: wyG (e + 1) i f (p0 m) w else (f, p0 m, true) :: wyG (e + 1) (i - p0 m) (f + p0 m) (m - p0 m) false := by rw [wyG, if_neg (by omega)]
      rw [e1]
      have hdI : (dI + 1).toInt = dI.toInt + 1 := by rw [ii_add (by rw [lt1]; omega) (by rw [lt1]; omega), lt1]
      refine ws_b (k_first n mI (by omega)) (fun r hr => ?_)
      rw [hm, Int.toNat_natCast] at hr
      refine ws_lt (fun h2 => ?_) (fun h2 => ?_)
      · rw [if_neg (by omega)]
        refine ws_b (k_put8 n α a l hW (by omega) (f, p0 m, true) fI r 1 hf hr rfl) (fun β hβ => ws_l (ws_l ?_))
        unfold f_X8_toGrowth_J94
        have := ih e β (l ++ [(f, p0 m, true)]) (f + p0 m) (i - p0 m) (m - p0 m) iI (fI + r) (mI - r) 0 (dI + 1) false (wf_tr hw hβ.2) hβ.1 (by rw [List.length_append]; simp; omega) (by omega) (by omega) (by omega) (by rw [ii_add (by omega) (by omega)]; omega) (by omega) (by rw [ii_sub (by omega) (by omega)]; omega) (by omega) (by omega) (by omega) (by omega) rfl
        rw [List.append_assoc, List.singleton_append] at this
        exact ws_l this
      · rw [if_pos (by omega)]
        refine ws_b (k_put8 n α a l hW (by omega) (f + p0 m, m - p0 m, false) (fI + r) (mI - r) 0 (by show _ = ((f + p0 m : Nat) : Int); rw [ii_add (by omega) (by omega)]; omega) (by show _ = ((m - p0 m : Nat) : Int); rw [ii_sub (by omega) (by omega)]; omega) rfl) (fun β hβ => ?_)
        unfold f_X8_toGrowth_J94
        have := ih e β (l ++ [(f + p0 m, m - p0 m, false)]) f i (p0 m) iI fI r wI (dI + 1) w (wf_tr hw hβ.2) hβ.1 (by rw [List.length_append]; simp; omega) (by omega) (by omega) (by omega) hf hi hr hi1 (by omega) hp4 (by omega) hwI
        rw [List.append_assoc, List.singleton_append] at this
        exact ws_l this
theorem k_toGrowth (n : Nat) (hn : 70000 ≤ n) (α : hp_T) (a : Nat) (i m : Int32) (h0 : 0 ≤ i.toInt) (h1 : i.toInt ≤ m.toInt) : ws (f_X8_toGrowth n α a i m) (fun β => WC β a (wyH i.toInt.toNat m.toInt.toNat).reverse ∧ wf a α β) := by
  have hm := ib_hi m
  unfold f_X8_toGrowth wyH
  refine ws_b (k_clear n α a) (fun β hβ => ws_e (fun h => ?_) (fun h => ?_))
  · rw [if_pos (by rw [h]; rfl)]
    exact ws_s hβ
  · rw [lt0] at h
    rw [if_neg (by omega)]
    have := k_toGrowth_L n hn a α n 31 β [] 0 i.toInt.toNat m.toInt.toNat i 0 m 1 0 true hβ.2 hβ.1 (by decide) (by decide) (by decide) (by omega) rfl (by omega) (by omega) (by omega) (by omega) (by omega) (by omega) rfl
    rw [List.nil_append] at this
    exact this
end JN8_5
section JN8_6
/-! ===== steps, climbs, span, rise, longest: what they answer ===== -/
theorem pr_w {R : Type} {o : Option R} {P : R → Prop} (h : ws o P) : pr o P := by
  obtain ⟨r, e, p⟩ := h
  intro r' e'
  rw [e] at e'
  cases e'
  exact p
theorem k_answer (n : Nat) (α : hp_T) (a : Nat) (v : Int32) : ws (f_X11_answer n α a v) (fun res => res.1 = v ∧ res.2 = hp_sI α 600 a 0) := by
  unfold f_X11_answer
  exact ws_l (ws_s ⟨rfl, rfl⟩)
theorem k_refuse (n : Nat) (α : hp_T) (a : Nat) (v : Int32) : ws (f_X11_refuse n α a v) (fun res => res.1 = -1 ∧ res.2 = hp_sI α 600 a v) := by
  unfold f_X11_refuse
  exact ws_l (ws_s ⟨rfl, rfl⟩)
theorem v_isIn (n : Nat) (a b c : Int32) : pr (f_X12_isIn n a b c) (fun r => bo r (b.toInt ≤ a.toInt ∧ a.toInt ≤ c.toInt)) := pr_w (s_isIn n a b c)
section BO
variable {R : Type} {P : Prop} {Q : R → Prop} {a b : Option R}
theorem wk_bo {x : Option Int32} (h : ws x (fun r => bo r P)) (h0 : ¬ P → ws a Q) (h1 : P → ws b Q) : ws (ms_b x fun r => if r = 0 then a else b) Q :=
  ws_b h (fun r hr => ws_e (fun e => h0 (bo_0 hr e)) (fun e => h1 (bo_1 hr e)))
theorem pr_bo {x : Option Int32} (h : pr x (fun r => bo r P)) (h0 : ¬ P → pr a Q) (h1 : P → pr b Q) : pr (ms_b x fun r => if r = 0 then a else b) Q :=
  pr_b h (fun r hr => pr_e (fun e => h0 (bo_0 hr e)) (fun e => h1 (bo_1 hr e)))
end BO
theorem wyH_len (i m : Nat) : (wyH i m).length ≤ 32 := by
  unfold wyH
  split
  · exact Nat.zero_le _
  · exact wyG_len _ _ _ _ _
end JN8_6
section JN8_7
/-! ===== constructors, to the letter: where each new thing lies ===== -/
theorem zzk {a b c k d e : Nat} (h : a = b + d) (z : b = c + k) (q : k + d = e) : a = c + e := by omega
section HPZ2
variable {p : Program} {l : Launch} {e : Env} {R : Room} {s : State} {m : MethodId} {args : Array Value} {below : List Frame} {meth : Method} {c : Code} {H : Heap} {locs : List Loc} {cells slots : Nat} {Q : State → Prop} {cc : ByteArray} {nL : Nat} {own : String} {Γ : hp_G} {α0 α α' : hp_T} {Iv : hp_T → hp_T → Prop} {pc pc' : Nat} {ls : Array Slot} {rest : List Value} {a κ k t index φ n d mc ms N : Nat} {v : Value} {i x : Int32}
theorem q_putZ (C : hp_C Γ p m c cc nL s args own) (B : hp_B Γ Iv s α0 α H locs) (hk : hp_K α a = κ) (hF : hp_F own index (hp_b κ) k) (hc : hp_isC κ = true) (ht : (hp_tg κ)[k]? = some t) (hfin : ((hp_q (hp_b κ)).2.1 k).2.2.2 = false) (hn : narrow (hp_ty (hp_b κ) k) v = v) (hfit : fits (hp_ty (hp_b κ) k) v = true)
    (hK' : hp_K α' = hp_K α) (hv : hp_v α' a t (50 * hp_b κ + k) = v) (hv' : ∀ t φ, φ ≠ 50 * hp_b κ + k → hp_v α' a t φ = hp_v α a t φ) (hb' : ∀ b, b ≠ a → ∀ κ, hp_ce Γ.2.2.2.1 α' κ b = hp_ce Γ.2.2.2.1 α κ b) (hiv : Iv α0 α')
    (hdg : decode cc pc = .ok (.putfield index, 3)) (hpc : pc + 3 = pc')
    (kk : ∀ (H1 : Heap) (locs1 : List Loc), H1.size = H.size → hp_B Γ Iv s α0 α' H1 locs1 → W p l e R s m args below meth c H1 locs1 cells slots Q (F0 m pc' ls rest)) : W p l e R s m args below meth c H locs cells slots Q (F0 m pc ls (v :: .ref a :: rest)) := by
  obtain ⟨⟨hx, hb, hml, hown, hts⟩, hK, -⟩ := C
  obtain ⟨hq, hkN, hin, hty, hnm, hlk⟩ := hF
  obtain ⟨hbase, hat⟩ := B.at hk hc
  subst hpc
  have h0 : hp_K α a ≠ 0 := by rw [hk]; intro h; rw [h] at hc; cases hc
  have hap := va_apart (own := own) hts hin (hp_ty (hp_b κ)) hty hnm hK hq
  obtain ⟨r, h1, cell, q1, q2, q3, q4⟩ := hat
  have hr : r = hp_q (hp_b κ) := Option.some.inj (h1.symm.trans hq)
  subst hr
  obtain ⟨hS, hfc, kC, hkC, hkind⟩ := hK.1 _ _ hq
  obtain ⟨cf, kf, fi, f, hi, hsl⟩ := hS k hkN
  have hlay := hts _ (hin _ (u_in_lay hkN))
  unfold u_lay at hlay
  rw [if_neg (by rw [hfin]; decide)] at hlay
  have hst := (u_facts hfc hkC (u_lays hts hin hkN) hi).1
  have h6 := u_store hfc hkC hkind hlay hi (hty k hkN) hn hfit
  refine W.putK hx hb (f := f) ⟨hown, hts _ hlk, ⟨_, _, _, hi⟩, hst⟩ (by rw [q2]; exact h6) q1 q3 (by rw [hsl]; exact k2_hasslot (q4 k hkN)) rfl rfl hdg fun H' e1 e2 e3 => ?_
  rw [hsl] at e1 ⊢
  refine kk H' _ e2 ⟨B.1.upd e2 e3 h0 ?_ hK' hb', B.2.1.put e2 e3 hbase, hiv⟩
  rw [hk, hp_ce_c hc]
  have hl : k < (hp_fv α a (hp_tg κ) (50 * hp_b κ)).length := by rw [hp_fv_len]; exact (List.getElem?_eq_some_iff.mp ht).1
  refine ⟨_, hq, t_OB.to (V := updV (vp_V (hp_fv α a (hp_tg κ) (50 * hp_b κ))) k v) ⟨_, e1, q2, q3, t_set q4 hap hkN v⟩ (fun j _ => ?_)⟩
  rw [vp_updV_set hl v j, hp_fv_set (hp_tg κ) k (50 * hp_b κ) ht hv hv']
theorem q_putiZ {x : Int32} {φ : Nat} (C : hp_C Γ p m c cc nL s args own) (B : hp_B Γ Iv s α0 α H locs) (hk : hp_K α a = κ) (hF : hp_F own index (hp_b κ) k) (hc : hp_isC κ = true) (ht : (hp_tg κ)[k]? = some 0) (hfin : ((hp_q (hp_b κ)).2.1 k).2.2.2 = false) (hn : narrow (hp_ty (hp_b κ) k) (.int x) = .int x) (hfit : fits (hp_ty (hp_b κ) k) (.int x) = true) (hφ : 50 * hp_b κ + k = φ) (hiv : Iv α0 (hp_sI α φ a x))
    (hdg : decode cc pc = .ok (.putfield index, 3)) (hpc : pc + 3 = pc')
    (kk : ∀ (β : hp_T) (H1 : Heap) (locs1 : List Loc), β = hp_sI α φ a x → H1.size = H.size → hp_B Γ Iv s α0 β H1 locs1 → W p l e R s m args below meth c H1 locs1 cells slots Q (F0 m pc' ls rest)) : W p l e R s m args below meth c H locs cells slots Q (F0 m pc ls (.int x :: .ref a :: rest)) := by
  subst hφ
  refine q_putZ C B hk hF hc ht hfin hn hfit (α' := hp_sI α (50 * hp_b κ + k) a x) rfl ?_ ?_ (fun b hb => hp_ce_ne (fun t φ => ?_) ⟨rfl, rfl, rfl⟩) hiv hdg hpc (fun H1 locs1 z1 B1 => kk _ H1 locs1 rfl z1 B1)
  · simp [hp_v, hp_I, hp_sI, hp_up]
  · intro t φ h; simp [hp_v, hp_I, hp_R, hp_J, hp_N, hp_sI, hp_up, h]
  · simp [hp_v, hp_I, hp_R, hp_J, hp_N, hp_sI, hp_up, hb]
theorem q_putnZ {x : Nat} {φ : Nat} (C : hp_C Γ p m c cc nL s args own) (B : hp_B Γ Iv s α0 α H locs) (hk : hp_K α a = κ) (hF : hp_F own index (hp_b κ) k) (hc : hp_isC κ = true) (ht : (hp_tg κ)[k]? = some 3) (hfin : ((hp_q (hp_b κ)).2.1 k).2.2.2 = false) (hn : narrow (hp_ty (hp_b κ) k) (.ref x) = .ref x) (hfit : fits (hp_ty (hp_b κ) k) (.ref x) = true) (hφ : 50 * hp_b κ + k = φ) (hiv : Iv α0 (hp_sN α φ a (some x)))
    (hdg : decode cc pc = .ok (.putfield index, 3)) (hpc : pc + 3 = pc')
    (kk : ∀ (β : hp_T) (H1 : Heap) (locs1 : List Loc), β = hp_sN α φ a (some x) → H1.size = H.size → hp_B Γ Iv s α0 β H1 locs1 → W p l e R s m args below meth c H1 locs1 cells slots Q (F0 m pc' ls rest)) : W p l e R s m args below meth c H locs cells slots Q (F0 m pc ls (.ref x :: .ref a :: rest)) := by
  subst hφ
  refine q_putZ C B hk hF hc ht hfin hn hfit (α' := hp_sN α (50 * hp_b κ + k) a (some x)) rfl ?_ ?_ (fun b hb => hp_ce_ne (fun t φ => ?_) ⟨rfl, rfl, rfl⟩) hiv hdg hpc (fun H1 locs1 z1 B1 => kk _ H1 locs1 rfl z1 B1)
  · simp [hp_v, hp_N, hp_sN, hp_up, va_rf]
  · intro t φ h; simp [hp_v, hp_I, hp_R, hp_J, hp_N, hp_sN, hp_up, h]
  · simp [hp_v, hp_I, hp_R, hp_J, hp_N, hp_sN, hp_up, hb]
theorem q_putFZ (C : hp_C Γ p m c cc nL s args own) (B : hp_B Γ Iv s α0 α H locs) (hk : hp_K α a = κ) (hF : hp_F own index (hp_b κ) k) (hc : hp_isC κ = true) (ht : (hp_tg κ)[k]? = some t) (hfin : ((hp_q (hp_b κ)).2.1 k).2.2.2 = true) (hin2 : meth.name = "<init>") (hdecl : ((hp_q (hp_b κ)).2.1 k).1 = own) (hn : narrow (hp_ty (hp_b κ) k) v = v) (hfit : fits (hp_ty (hp_b κ) k) v = true)
    (hK' : hp_K α' = hp_K α) (hv : hp_v α' a t (50 * hp_b κ + k) = v) (hv' : ∀ t φ, φ ≠ 50 * hp_b κ + k → hp_v α' a t φ = hp_v α a t φ) (hb' : ∀ b, b ≠ a → ∀ κ, hp_ce Γ.2.2.2.1 α' κ b = hp_ce Γ.2.2.2.1 α κ b) (hiv : Iv α0 α')
    (hdg : decode cc pc = .ok (.putfield index, 3)) (hpc : pc + 3 = pc')
    (kk : ∀ (H1 : Heap) (locs1 : List Loc), H1.size = H.size → hp_B Γ Iv s α0 α' H1 locs1 → W p l e R s m args below meth c H1 locs1 cells slots Q (F0 m pc' ls rest)) : W p l e R s m args below meth c H locs cells slots Q (F0 m pc ls (v :: .ref a :: rest)) := by
  obtain ⟨⟨hx, hb, hml, hown, hts⟩, hK, -⟩ := C
  obtain ⟨hq, hkN, hin, hty, hnm, hlk⟩ := hF
  obtain ⟨hbase, hat⟩ := B.at hk hc
  subst hpc
  have h0 : hp_K α a ≠ 0 := by rw [hk]; intro h; rw [h] at hc; cases hc
  have hap := va_apart (own := own) hts hin (hp_ty (hp_b κ)) hty hnm hK hq
  obtain ⟨r, h1, cell, q1, q2, q3, q4⟩ := hat
  have hr : r = hp_q (hp_b κ) := Option.some.inj (h1.symm.trans hq)
  subst hr
  obtain ⟨hS, hfc, kC, hkC, hkind⟩ := hK.1 _ _ hq
  obtain ⟨cf, kf, fi, f, hi, hsl⟩ := hS k hkN
  have hlay := hts _ (hin _ (u_in_lay hkN))
  unfold u_lay at hlay
  rw [if_pos hfin] at hlay
  have hst := (u_facts hfc hkC (u_lays hts hin hkN) hi).1
  have hcf : m.cls = cf := by
    obtain ⟨_, _, c', _, _, _, -, -, hf', -, -, -, hown2, -⟩ := Cond.laysFinal_spec hlay
    have e1 : c' = cf := by have := hi.symm.trans hf'; simp at this; exact this.1.symm
    rw [hdecl] at hown2
    rw [← e1]; exact Option.some.inj (hown.symm.trans hown2)
  have h6 := u_fits hfc hkC hkind (Or.inr hlay) hi (hty k hkN) hn hfit
  refine W.putFinK hx hb hown (hts _ hlk) hi hst hcf hin2 (by rw [q2]; exact h6) q1 q3 (by rw [hsl]; exact k2_hasslot (q4 k hkN)) rfl rfl hdg fun H' e1 e2 e3 => ?_
  rw [hsl] at e1 ⊢
  refine kk H' _ e2 ⟨B.1.upd e2 e3 h0 ?_ hK' hb', B.2.1.put e2 e3 hbase, hiv⟩
  rw [hk, hp_ce_c hc]
  refine ⟨_, hq, t_OB.to (V := updV (vp_V (hp_fv α a (hp_tg κ) (50 * hp_b κ))) k v) ⟨_, e1, q2, q3, t_set q4 hap hkN v⟩ (fun j _ => ?_)⟩
  have hl : k < (hp_fv α a (hp_tg κ) (50 * hp_b κ)).length := by rw [hp_fv_len]; exact (List.getElem?_eq_some_iff.mp ht).1
  rw [vp_updV_set hl v j, hp_fv_set (hp_tg κ) k (50 * hp_b κ) ht hv hv']
theorem q_putnFZ {x φ : Nat} (C : hp_C Γ p m c cc nL s args own) (B : hp_B Γ Iv s α0 α H locs) (hk : hp_K α a = κ) (hF : hp_F own index (hp_b κ) k) (hc : hp_isC κ = true) (ht : (hp_tg κ)[k]? = some 3) (hfin : ((hp_q (hp_b κ)).2.1 k).2.2.2 = true) (hin2 : meth.name = "<init>") (hdecl : ((hp_q (hp_b κ)).2.1 k).1 = own) (hn : narrow (hp_ty (hp_b κ) k) (.ref x) = .ref x) (hfit : fits (hp_ty (hp_b κ) k) (.ref x) = true) (hφ : 50 * hp_b κ + k = φ) (hiv : Iv α0 (hp_sN α φ a (some x)))
    (hdg : decode cc pc = .ok (.putfield index, 3)) (hpc : pc + 3 = pc')
    (kk : ∀ (β : hp_T) (H1 : Heap) (locs1 : List Loc), β = hp_sN α φ a (some x) → H1.size = H.size → hp_B Γ Iv s α0 β H1 locs1 → W p l e R s m args below meth c H1 locs1 cells slots Q (F0 m pc' ls rest)) : W p l e R s m args below meth c H locs cells slots Q (F0 m pc ls (.ref x :: .ref a :: rest)) := by
  subst hφ
  refine q_putFZ C B hk hF hc ht hfin hin2 hdecl hn hfit (α' := hp_sN α (50 * hp_b κ + k) a (some x)) rfl ?_ ?_ (fun b hb => hp_ce_ne (fun t φ => ?_) ⟨rfl, rfl, rfl⟩) hiv hdg hpc (fun H1 locs1 z1 B1 => kk _ H1 locs1 rfl z1 B1)
  · simp [hp_v, hp_N, hp_sN, hp_up, va_rf]
  · intro t φ h; simp [hp_v, hp_I, hp_R, hp_J, hp_N, hp_sN, hp_up, h]
  · simp [hp_v, hp_I, hp_R, hp_J, hp_N, hp_sN, hp_up, hb]
theorem q_put0Z {φ : Nat} (C : hp_C Γ p m c cc nL s args own) (B : hp_B Γ Iv s α0 α H locs) (hk : hp_K α a = κ) (hF : hp_F own index (hp_b κ) k) (hc : hp_isC κ = true) (ht : (hp_tg κ)[k]? = some 3) (hfin : ((hp_q (hp_b κ)).2.1 k).2.2.2 = false) (hn : narrow (hp_ty (hp_b κ) k) .null = .null) (hfit : fits (hp_ty (hp_b κ) k) .null = true) (hφ : 50 * hp_b κ + k = φ) (hiv : Iv α0 (hp_sN α φ a none))
    (hdg : decode cc pc = .ok (.putfield index, 3)) (hpc : pc + 3 = pc')
    (kk : ∀ (β : hp_T) (H1 : Heap) (locs1 : List Loc), β = hp_sN α φ a none → H1.size = H.size → hp_B Γ Iv s α0 β H1 locs1 → W p l e R s m args below meth c H1 locs1 cells slots Q (F0 m pc' ls rest)) : W p l e R s m args below meth c H locs cells slots Q (F0 m pc ls (.null :: .ref a :: rest)) := by
  subst hφ
  refine q_putZ C B hk hF hc ht hfin hn hfit (α' := hp_sN α (50 * hp_b κ + k) a none) rfl ?_ ?_ (fun b hb => hp_ce_ne (fun t φ => ?_) ⟨rfl, rfl, rfl⟩) hiv hdg hpc (fun H1 locs1 z1 B1 => kk _ H1 locs1 rfl z1 B1)
  · simp [hp_v, hp_N, hp_sN, hp_up, va_rf]
  · intro t φ h; simp [hp_v, hp_I, hp_R, hp_J, hp_N, hp_sN, hp_up, h]
  · simp [hp_v, hp_I, hp_R, hp_J, hp_N, hp_sN, hp_up, hb]
theorem q_aasZ {κv : Nat} {w : Nat} {j : Nat} {r : vw_C} (C : hp_C Γ p m c cc nL s args own) (B : hp_B Γ Iv s α0 α H locs) (hk : hp_K α a = κ) (hκ : 20 ≤ κ ∧ κ < 60) (har : hp_ar κ = (t, n)) (ht4 : 4 ≤ t) (hkv : hp_K α w = κv) (hcv : hp_isC κv = true) (hr : vwCl[hp_b κv - 1]? = some r) (htt : (hp_tys Γ.2.2.2.1)[t]? = some (Γ.2.2.2.1 t, .object r.1)) (hin : vp_in i n) (hj : i.toNatClampNeg = j) (hiv : Iv α0 (hp_sQ α κ a j (some w))) (hdg : decode cc pc = .ok (.aastore, 1)) (hpc : pc + 1 = pc')
    (kk : ∀ (β : hp_T) (H1 : Heap) (locs1 : List Loc), β = hp_sQ α κ a j (some w) → H1.size = H.size → hp_B Γ Iv s α0 β H1 locs1 → W p l e R s m args below meth c H1 locs1 cells slots Q (F0 m pc' ls rest)) : W p l e R s m args below meth c H locs cells slots Q (F0 m pc ls (.ref w :: .int i :: .ref a :: rest)) := by
  subst hpc; subst hj
  have hlt : i.toNatClampNeg < n := Nat.not_le.mp fun q => hin (Or.inr q)
  have h0 : ¬ i < 0 := fun q => hin (Or.inl q)
  obtain ⟨hbase, hat⟩ := B.ar hk hκ har
  have hcx : hp_cx α κ a t = .inr (.inr (.inr (.inr (hp_Q α κ a)))) := by unfold hp_cx; rw [if_neg (by omega), if_neg (by omega)]
  rw [hcx] at hat
  obtain ⟨r', hr', cellV, g1, g2, g3, -⟩ := (B.at hkv hcv).2
  have hcls := (C.2.1.1 _ r hr).2
  obtain ⟨kA, comp, k1, k2, k3, -⟩ := (C.2.1.2 t _ htt).2
  have hcomp : comp = Γ.2.1 (hp_b κv - 1) := Option.some.inj (k3.symm.trans hcls.1)
  subst hcomp
  obtain ⟨kC, hkC, -⟩ := hcls.2
  refine W.aast C.1.1 C.1.2.1 hat (fun q h => by cases h) (fun h => by cases h) k1 k2 rfl hkC ⟨h0, by show _ < (arrV _ _ _).slots.size; rw [arrV_size]; exact hlt⟩ g1 (fun q h => by rw [g3] at h; cases h) (by rw [g2]; exact hkC) (by rw [g2]; exact va_assign hcls) rfl rfl hdg fun H1 e z oq => ?_
  refine kk _ H1 _ rfl z ⟨B.1.upd z oq (by rw [hk]; omega) ?_ rfl (fun b hb => hp_ce_neE (fun t φ => rfl) (fun κ' => ⟨rfl, rfl, hp_sQ_ne hb⟩)), B.2.1.put z oq hbase, hiv⟩
  rw [hk, hp_ce_a hκ har]
  show H1[a]? = some (vp_cell _ _)
  rw [show hp_cx (hp_sQ α κ a i.toNatClampNeg (some w)) κ a t = .inr (.inr (.inr (.inr (hp_Q (hp_sQ α κ a i.toNatClampNeg (some w)) κ a)))) by unfold hp_cx; rw [if_neg (by omega), if_neg (by omega)], hp_sQ_at, e, vp_cell_q, vp_cell_q, arrV_store]
  congr 2
  funext q
  by_cases hq : q = i.toNatClampNeg
  · subst hq
    simp [updV, va_up, va_rf]
  · simp [updV, va_up, hq]
theorem q_newZ (C : hp_C Γ p m c cc nL s args own) (B : hp_B Γ Iv s α0 α H locs) (hcl : Cond.classLink own index (hp_q κ).1 ∈ lw_u) (hit : Cond.instantiable (hp_q κ).1 (hp_q κ).2.2 ∈ lw_u) (hiz : Cond.initialized (hp_q κ).1 ∈ lw_u) (hq : vwCl[κ - 1]? = some (hp_q κ)) (hin : ∀ w ∈ u_ws (hp_q κ).1 (hp_q κ).2.1 (hp_q κ).2.2, w ∈ lw_u) (hty : ∀ j, j < (hp_q κ).2.2 → parseFieldDescriptor ((hp_q κ).2.1 j).2.2.1 = some (hp_ty κ j)) (hdf : ∀ j, j < (hp_q κ).2.2 → defaultValue (hp_ty κ j) = vp_V ((hp_tg (100 + κ)).map hp_dv) j) (hκ : 1 ≤ κ) (hic : hp_isC (100 + κ) = true) (hN : (hp_q κ).2.2 = N) (hR : R = hp_rm d mc ms) (hcc : cells + 1 ≤ mc) (hss : slots + N ≤ ms) (hdg : decode cc pc = .ok (.new index, 3)) (hpc : pc + 3 = pc') (hiv : ∀ h, hp_K α h = 0 → Iv α0 (hp_nw α h (100 + κ)))
    (kk : ∀ (β : hp_T) (h : Nat) (H1 : Heap), hp_K α h = 0 → h = H.size → H1.size = H.size + 1 → β = hp_nw α h (100 + κ) → hp_B Γ Iv s α0 β H1 locs → W p l e R s m args below meth c H1 locs (cells + 1) (slots + N) Q (F0 m pc' ls (.ref h :: rest))) : W p l e R s m args below meth c H locs cells slots Q (F0 m pc ls rest) := by
  obtain ⟨⟨hx, hb, hml, hown, hts⟩, hK, -⟩ := C
  subst hpc; subst hN
  have hKn := hK.1 _ _ hq
  refine W.newcK hx hb hown (hts _ hcl) (hts _ hit) (hts _ hiz) rfl hdg (by rw [hR]; exact hcc) (by rw [hR]; exact hss) hKn.2.1 rfl fun H1 kC hkC e1 z1 o1 => ?_
  refine kk _ H.size H1 B.1.fresh rfl z1 rfl ⟨B.1.nw z1 o1 ?_, B.2.1.grow z1 o1, hiv _ B.1.fresh⟩
  rw [hp_ce_c hic, hp_b_100, nw_fv _ _ (tg_no1 hκ)]
  exact ⟨_, hq, (u_born (hp_ty κ) hts hin hKn hkC e1 hty).to hdf⟩
theorem q_newaZ {atype : ArrayType} {ty : FieldType} {dv : Value} (C : hp_C Γ p m c cc nL s args own) (B : hp_B Γ Iv s α0 α H locs) (hac : Cond.arrayClass (newarray.typeOf atype) ∈ lw_u) (hty : newarray.typeOf atype = ty) (hκ : 20 ≤ κ ∧ κ < 60) (har : hp_ar κ = (t, n)) (htt : (hp_tys Γ.2.2.2.1)[t]? = some (Γ.2.2.2.1 t, ty)) (hRA : ∀ (U : State) (cA : ClassId), va_RA U cA ty → U.vm.findClass ("[" ++ ty.toString) = some cA) (hdv : defaultValue ty = dv) (hcl : ∀ (h : Nat) (cA : ClassId), vp_cell cA (n, hp_cx (hp_nw α h κ) κ h t) = arrV cA n (fun _ => dv)) (hx0 : ¬ x < 0) (hxn : x.toNatClampNeg = n) (hby : n * componentBytes (newarray.typeOf atype) ≤ 536870912) (hR : R = hp_rm d mc ms) (hcc : cells + 1 ≤ mc) (hss : slots + n ≤ ms) (hdg : decode cc pc = .ok (.newarray atype, 2)) (hpc : pc + 2 = pc') (hiv : ∀ h, hp_K α h = 0 → Iv α0 (hp_nw α h κ))
    (kk : ∀ (β : hp_T) (h : Nat) (H1 : Heap), hp_K α h = 0 → h = H.size → H1.size = H.size + 1 → β = hp_nw α h κ → hp_B Γ Iv s α0 β H1 locs → W p l e R s m args below meth c H1 locs (cells + 1) (slots + n) Q (F0 m pc' ls (.ref h :: rest))) : W p l e R s m args below meth c H locs cells slots Q (F0 m pc ls (.int x :: rest)) := by
  obtain ⟨⟨hx, hb, hml, hown, hts⟩, hK, -⟩ := C
  subst hpc; subst hty
  refine va_newaK (atype := atype) hx hb (hts _ hac) rfl hdg rfl hx0 hxn hby (by rw [hR]; exact hcc) (by rw [hR]; exact hss) rfl fun H1 cA e1 z1 o1 hAr hNm => ?_
  have hcA : cA = Γ.2.2.2.1 t := Option.some.inj (hNm.symm.trans (hRA _ _ (hK.2 t _ htt).2))
  subst hcA
  refine kk _ H.size H1 B.1.fresh rfl z1 rfl ⟨B.1.nw z1 o1 ?_, B.2.1.grow z1 o1, hiv _ B.1.fresh⟩
  rw [hp_ce_a hκ har]
  show H1[H.size]? = some (vp_cell _ _)
  rw [hcl, ← hdv]
  exact e1
theorem q_anewZ {Cn : String} (C : hp_C Γ p m c cc nL s args own) (B : hp_B Γ Iv s α0 α H locs) (hcl : Cond.classLink own index Cn ∈ lw_u) (hao : Cond.arrayOver (.object Cn) ∈ hp_nest) (hκ : 20 ≤ κ ∧ κ < 60) (har : hp_ar κ = (t, n)) (ht4 : 4 ≤ t) (htt : (hp_tys Γ.2.2.2.1)[t]? = some (Γ.2.2.2.1 t, .object Cn)) (hx0 : ¬ x < 0) (hxn : x.toNatClampNeg = n) (hby : n * 4 ≤ 536870912) (hR : R = hp_rm d mc ms) (hcc : cells + 1 ≤ mc) (hss : slots + n ≤ ms) (hdg : decode cc pc = .ok (.anewarray index, 3)) (hpc : pc + 3 = pc') (hiv : ∀ h, hp_K α h = 0 → Iv α0 (hp_nw α h κ))
    (kk : ∀ (β : hp_T) (h : Nat) (H1 : Heap), hp_K α h = 0 → h = H.size → H1.size = H.size + 1 → β = hp_nw α h κ → hp_B Γ Iv s α0 β H1 locs → W p l e R s m args below meth c H1 locs (cells + 1) (slots + n) Q (F0 m pc' ls (.ref h :: rest))) : W p l e R s m args below meth c H locs cells slots Q (F0 m pc ls (.int x :: rest)) := by
  obtain ⟨⟨hx, hb, hml, hown, hts⟩, hK, hNe, -⟩ := C
  subst hpc; subst hxn
  refine W.anew hx hb hown (hts _ hcl) (va_AO.use (hNe _ hao)) rfl hdg rfl hx0 hby (by rw [hR]; exact hcc) (by rw [hR]; exact hss) fun cA kA comp f1 f2 f3 f4 => ?_
  obtain ⟨kA', comp', -, -, -, hNm⟩ := (hK.2 t _ htt).2
  have hcA : cA = Γ.2.2.2.1 t := Option.some.inj (f1.symm.trans hNm)
  subst hcA
  generalize hH1 : H.push ({ cls := Γ.2.2.2.1 t, slots := Array.replicate x.toNatClampNeg .null, vm := .none } : Cell) = H1
  have z1 : H1.size = H.size + 1 := by rw [← hH1, Array.size_push]
  have e1 : H1[H.size]? = some (arrV (Γ.2.2.2.1 t) x.toNatClampNeg (fun _ => .null)) := by rw [← hH1, Array.getElem?_push_size, ← arrV_new]
  have o1 : ∀ q : Nat, q < H.size → H1[q]? = H[q]? := fun q hq => by rw [← hH1, Array.getElem?_push, if_neg (Nat.ne_of_lt hq)]
  refine kk _ H.size H1 B.1.fresh rfl z1 rfl ⟨B.1.nw z1 o1 ?_, B.2.1.grow z1 o1, hiv _ B.1.fresh⟩
  rw [hp_ce_a hκ har]
  show H1[H.size]? = some (vp_cell _ _)
  rw [nw_cq ht4]
  exact e1
variable {bytes : ByteArray} {maxL d' mc' ms' : Nat} {st : List Value} {b : Nat} {y : MethodName} {As : List Value}
theorem hp_runIZ {Qc : Array Value → State → Outcome → State → Prop} (C : hp_C Γ p m c cc nL s args own) (B : hp_B Γ Iv s α0 α H locs) (hM : Met l y (hp_ws y bytes maxL none) (hp_rm d' mc ms) (hp_PcH Γ α H (.ref b :: As)) Qc mc ms (hp_A Γ)) (hB : hp_LB y bytes maxL none n) (hy : y.name = "<init>") (hI : Cond.instanceMethod y ∈ lw_u) (hL : hp_LK own index y) (hR : R = hp_rm d mc' ms') (hd : d' < d) (hlen : As.length = n) (hsz : ls.size = nL) (hst : st = As.reverse ++ .ref b :: rest) (hcat : (rest.map fun v => v.category).sum ≤ 8) (hdg : decode cc pc = .ok (.invokespecial index, 3)) (hf : cells + mc ≤ mc' ∧ slots + ms ≤ ms') :
    va_Run p l e R s m args below meth c H locs cells slots mc ms (F0 m pc ls st) rest (Qc (Value.ref b :: As).toArray) (hp_A Γ) := by
  obtain ⟨h1, h2, h3, h4⟩ := hB
  have hts := C.1.2.2.2.2
  have hp : PreS s H (hp_PcH Γ α H (.ref b :: As)) (.ref b :: As) := ⟨hp_blindH Γ α H _, fun U hU hW => ⟨rfl, hU, by rw [hU]; exact B.1, C.2.warm hW⟩⟩
  have hRR : (hp_rm d' mc ms).frames + 1 ≤ R.frames ∧ 8 + (maxL + 11) + (hp_rm d' mc ms).locals ≤ R.locals := by
    rw [hR]; show d' + 1 ≤ d ∧ 8 + (maxL + 11) + 45 * d' ≤ 45 * d; omega
  have hff : cells + mc ≤ R.cells ∧ slots + ms ≤ R.slots := by rw [hR]; exact hf
  rcases hL with hL | ⟨host, hL⟩
  · exact va_runI (As := As) (rest := rest) (n := n) C.1 hM ⟨callB_of n hts (hp_gs h1) rfl rfl rfl (hts _ h2) (hts _ hL) h4 hRR, hy, hts _ hI⟩ hp rfl hlen hsz hst (lv_room (m := m) (pc := pc) (ls := ls) (rest := st) hcat) hdg hff
  · exact va_runIN (As := As) (rest := rest) (n := n) C.1 hM ⟨va_cnB n hts (hp_gs h1) rfl rfl rfl (C.2.2.1 _ hL) (hts _ h2) h4 hRR, hy, hts _ hI⟩ hp rfl hlen hsz hst (lv_room (m := m) (pc := pc) (ls := ls) (rest := st) hcat) hdg hff
def hp_QZ (Γ : hp_G) (N : Nat) (post : hp_T → Prop) : Array Value → State → Outcome → State → Prop := va_Qv post (fun β t => hp_Rep Γ β t.heap ∧ t.heap.size = N) (hp_A Γ)
theorem q_cvZ {post : hp_T → Prop} {N : Nat} {aa : Array Value} (B : hp_B Γ Iv s α0 α H locs) (hr : va_Run p l e R s m args below meth c H locs cells slots mc ms (F0 m pc ls st) rest (hp_QZ Γ N post aa) (hp_A Γ)) (hi : ∀ β, post β → Iv α0 β) (hpc : pc + 3 = pc')
    (kk : ∀ (β : hp_T) (H1 : Heap) (locs1 : List Loc), H1.size = N → post β → hp_B Γ Iv s α0 β H1 locs1 → W p l e R s m args below meth c H1 locs1 (cells + mc) (slots + ms) Q (F0 m pc' ls rest)) : W p l e R s m args below meth c H locs cells slots Q (F0 m pc ls st) := by
  subst hpc
  exact va_callv hr B.2.1 (fun _ _ h => h) (fun _ h => h) (fun u t H1 locs1 ht _ hw hB _ _ hS => kk u H1 locs1 (by rw [← ht]; exact hB.2) hw ⟨by rw [← ht]; exact hB.1, hS, hi u hw⟩)
theorem q_vretZ {post : hp_T → Prop} {N : Nat} (C : hp_C Γ p m c cc nL s args own) (B : hp_B Γ Iv s α0 α H locs) (hN : H.size = N) (hr : meth.sig.returnType = none) (hl : meth.locks = false) (hp : post α) (hdg : decode cc pc = .ok (.return_, 1)) : W p l e R s m args below meth c H locs cells slots (MQ below (hp_QZ Γ N post) args s cells slots (hp_A Γ)) (F0 m pc ls []) :=
  W.vret C.1.1 C.1.2.1 hr (fun _ ht _ => ⟨⟨α, rfl, hp, by dsimp only; rw [ht]; exact ⟨B.1, hN⟩⟩, B.2.1.F ht⟩) B.2.1.2.2 hdg hl
end HPZ2
theorem hp_startZ {l : Launch} {Γ : hp_G} {α : hp_T} {Hs : Heap} {bytes : ByteArray} {maxL d mc ms : Nat} {ret : Option FieldType} {y : MethodName} {Qc : Array Value → State → Outcome → State → Prop} {av : List Value} (hy : plainName y.cls = true)
    (body : ∀ p e s m below meth c, hp_C Γ p m c bytes maxL s av.toArray y.cls → meth.sig.returnType = ret → meth.locks = false → hp_B Γ (fun _ _ => True) s α α s.heap [] → meth.name = y.name → s.heap = Hs →
      W p l e (hp_rm d mc ms) s m av.toArray below meth c s.heap [] 0 0 (MQ below Qc av.toArray s mc ms (hp_A Γ)) (entryFrame m av.toArray maxL)) : Met l y (hp_ws y bytes maxL ret) (hp_rm d mc ms) (hp_PcH Γ α Hs av) Qc mc ms (hp_A Γ) := by
  refine Met.ofW (cc := bytes) (maxL := maxL) (ret := ret) hy rfl ?_
  intro p e s m args below meth c s₁ B hml hv
  obtain ⟨rfl, hz, hR, hK⟩ := hv
  have hts := atoms_spec (ws := hp_ws y bytes maxL ret) B.pre
  exact body p e s m below meth c ⟨⟨B.exec, B.bytes, hml, findClass_of_methodNamed B.named, fun w hw => hts w (List.mem_cons_of_mem _ hw)⟩, hK⟩ B.returns B.notSynchronized ⟨hR, va_S.rf, trivial⟩ (name_of_methodNamed B.named B.method).1 hz
end JN8_7
