def f_X11_wrongGrowth (n : Nat) (α : hp_T) (o0 : Option Nat) (a1 : Int32) (a2 : Int32) : Option Int32 :=
  hq_m o0 (
    if a1 < 0 then
      some (1 : Int32)
    else
      if a1 ≤ a2 then
        some (2 : Int32)
      else
        some (1 : Int32)) fun a0 =>
  if a1 < 0 then
    some (1 : Int32)
  else
    if a1 ≤ a2 then
      ms_l (hp_I α 152 a0) fun x5 =>
      if a2 ≤ x5 then
        some (0 : Int32)
      else
        some (5 : Int32)
    else
      some (1 : Int32)
set_option maxRecDepth 100000 in
set_option maxHeartbeats 4000000 in
theorem n_X11_wrongGrowth (n : Nat) (Γ : hp_G) (l : Launch) (α : hp_T) (g : GC α) (o0 : Option Nat) (k0 : ∀ b, o0 = some b → hp_K α b = 3) (a1 : Int32) (a2 : Int32) (res : Int32) (hf : f_X11_wrongGrowth n α o0 a1 a2 = some res) : Met l yX11_wrongGrowth (hp_ws yX11_wrongGrowth cX11_wrongGrowth 3 (some .int)) (hp_rm 0 0 0) (hp_Pc Γ α [va_rf o0, .int a1, .int a2]) (hp_Qi Γ (fun r β => β = α ∧ r = res)) 0 0 (hp_A Γ) := by
  unfold f_X11_wrongGrowth at hf
  refine hp_start (by decide) ?_
  intro p e s m below meth c C hr hlk B0 hnm
  have C : hp_C Γ p m c cX11_wrongGrowth 3 s ([va_rf o0, .int a1, .int a2] : List Value).toArray RX11 := C
  have hx := C.1.1
  have hb := C.1.2.1
  have hown := C.1.2.2.2.1
  have hts := C.1.2.2.2.2
  have B : hp_B Γ (cw w_X11_wrongGrowth) s α α s.heap [] := ⟨B0.1, B0.2.1, cw_rf g⟩
  rcases o0 with _ | a0
  ·
    replace hf := hq_N hf
    have hl := lv_entry ([.null, .int a1, .int a2]) (n := 3) (Nat.le_of_ble_eq_true rfl)
    show W p l e (hp_rm 0 0 0) s m ([.null, .int a1, .int a2] : List Value).toArray below meth c s.heap [] 0 0 (MQ below (hp_Qi Γ (fun r β => β = α ∧ r = res)) ([.null, .int a1, .int a2] : List Value).toArray s 0 0 (hp_A Γ)) (entryFrame m ([.null, .int a1, .int a2] : List Value).toArray 3)
    rw [lg_entry_eq]
    generalize (lg_sl ([.null, .int a1, .int a2]) ++ List.replicate (3 - (lg_sl ([.null, .int a1, .int a2])).length) Slot.unset).toArray = ls at hl ⊢
    have hl : lv_has ls 3 [(0, .null), (1, .int a1), (2, .int a2)] := hl
    refine lv_iload_n hx hb dX11_wrongGrowth_0 rfl (lv_at hl 1 rfl) (hp_n (n := 1) rfl ?_)
    refine lv_if_lt (tgt := 9) hx hb dX11_wrongGrowth_1 (by decide) (fun c1 => ?_) (fun c1 => hp_n (n := 4) rfl ?_)
    ·
      replace hf := ms_iT c1 hf
      refine lv_iconst (v := 1) hx hb dX11_wrongGrowth_9 (by decide) (hp_n (n := 10) rfl ?_)
      cases hf
      exact q_iret C B hr hlk ⟨rfl, rfl⟩ dX11_wrongGrowth_10
    ·
      replace hf := ms_iF c1 hf
      refine lv_iload_n hx hb dX11_wrongGrowth_4 rfl (lv_at hl 1 rfl) (hp_n (n := 5) rfl ?_)
      refine lv_iload_n hx hb dX11_wrongGrowth_5 rfl (lv_at hl 2 rfl) (hp_n (n := 6) rfl ?_)
      refine lv_icmp_le (tgt := 11) hx hb dX11_wrongGrowth_6 (by decide) (fun c2 => ?_) (fun c2 => hp_n (n := 9) rfl ?_)
      ·
        replace hf := ms_iT c2 hf
        refine lv_aload_nN hx hb dX11_wrongGrowth_11 rfl (lv_at hl 0 rfl) (hp_n (n := 12) rfl ?_)
        refine lv_ifnonnullN hx hb dX11_wrongGrowth_12 (hp_n (n := 15) rfl ?_)
        refine lv_iconst (v := 2) hx hb dX11_wrongGrowth_15 (by decide) (hp_n (n := 16) rfl ?_)
        cases hf
        exact q_iret C B hr hlk ⟨rfl, rfl⟩ dX11_wrongGrowth_16
      ·
        replace hf := ms_iF c2 hf
        refine lv_iconst (v := 1) hx hb dX11_wrongGrowth_9 (by decide) (hp_n (n := 10) rfl ?_)
        cases hf
        exact q_iret C B hr hlk ⟨rfl, rfl⟩ dX11_wrongGrowth_10
  ·
    replace hf := hq_S hf
    have ka0 := k0 a0 rfl
    have hl := lv_entry ([.ref a0, .int a1, .int a2]) (n := 3) (Nat.le_of_ble_eq_true rfl)
    show W p l e (hp_rm 0 0 0) s m ([.ref a0, .int a1, .int a2] : List Value).toArray below meth c s.heap [] 0 0 (MQ below (hp_Qi Γ (fun r β => β = α ∧ r = res)) ([.ref a0, .int a1, .int a2] : List Value).toArray s 0 0 (hp_A Γ)) (entryFrame m ([.ref a0, .int a1, .int a2] : List Value).toArray 3)
    rw [lg_entry_eq]
    generalize (lg_sl ([.ref a0, .int a1, .int a2]) ++ List.replicate (3 - (lg_sl ([.ref a0, .int a1, .int a2])).length) Slot.unset).toArray = ls at hl ⊢
    have hl : lv_has ls 3 [(0, .ref a0), (1, .int a1), (2, .int a2)] := hl
    refine lv_iload_n hx hb dX11_wrongGrowth_0 rfl (lv_at hl 1 rfl) (hp_n (n := 1) rfl ?_)
    refine lv_if_lt (tgt := 9) hx hb dX11_wrongGrowth_1 (by decide) (fun c3 => ?_) (fun c3 => hp_n (n := 4) rfl ?_)
    ·
      replace hf := ms_iT c3 hf
      refine lv_iconst (v := 1) hx hb dX11_wrongGrowth_9 (by decide) (hp_n (n := 10) rfl ?_)
      cases hf
      exact q_iret C B hr hlk ⟨rfl, rfl⟩ dX11_wrongGrowth_10
    ·
      replace hf := ms_iF c3 hf
      refine lv_iload_n hx hb dX11_wrongGrowth_4 rfl (lv_at hl 1 rfl) (hp_n (n := 5) rfl ?_)
      refine lv_iload_n hx hb dX11_wrongGrowth_5 rfl (lv_at hl 2 rfl) (hp_n (n := 6) rfl ?_)
      refine lv_icmp_le (tgt := 11) hx hb dX11_wrongGrowth_6 (by decide) (fun c4 => ?_) (fun c4 => hp_n (n := 9) rfl ?_)
      ·
        replace hf := ms_iT c4 hf
        refine lv_aload_n hx hb dX11_wrongGrowth_11 rfl (lv_at hl 0 rfl) (hp_n (n := 12) rfl ?_)
        refine lv_ifnonnull (tgt := 17) hx hb dX11_wrongGrowth_12 (by decide) ?_
        refine lv_iload_n hx hb dX11_wrongGrowth_17 rfl (lv_at hl 2 rfl) (hp_n (n := 18) rfl ?_)
        refine lv_aload_n hx hb dX11_wrongGrowth_18 rfl (lv_at hl 0 rfl) (hp_n (n := 19) rfl ?_)
        refine q_geti (κ := 3) (k := 2) (φ := 152) (pc' := 22) C B (cw_k B.2.2 ka0) fl_X11_167 rfl rfl rfl dX11_wrongGrowth_19 rfl (fun x5 ex5 => ?_)
        replace hf := ms_lE ex5 hf
        refine lv_icmp_le (tgt := 29) hx hb dX11_wrongGrowth_22 (by decide) (fun c6 => ?_) (fun c6 => hp_n (n := 25) rfl ?_)
        ·
          replace hf := ms_iT c6 hf
          refine lv_iconst (v := 0) hx hb dX11_wrongGrowth_29 (by decide) (hp_n (n := 30) rfl ?_)
          cases hf
          exact q_iret C B hr hlk ⟨rfl, rfl⟩ dX11_wrongGrowth_30
        ·
          replace hf := ms_iF c6 hf
          refine lv_iconst (v := 5) hx hb dX11_wrongGrowth_25 (by decide) (hp_n (n := 26) rfl ?_)
          refine lv_goto (tgt := 30) hx hb dX11_wrongGrowth_26 (by decide) ?_
          cases hf
          exact q_iret C B hr hlk ⟨rfl, rfl⟩ dX11_wrongGrowth_30
      ·
        replace hf := ms_iF c4 hf
        refine lv_iconst (v := 1) hx hb dX11_wrongGrowth_9 (by decide) (hp_n (n := 10) rfl ?_)
        cases hf
        exact q_iret C B hr hlk ⟨rfl, rfl⟩ dX11_wrongGrowth_10
def f_X11_wrongInclusions_J29 (n : Nat) (α : hp_T) : Option Int32 :=
  some (5 : Int32)
def f_X11_wrongInclusion (n : Nat) (α : hp_T) (o0 : Option Nat) (a1 : Int32) (a2 : Int32) : Option Int32 :=
  hq_m o0 (
    if a1 < 0 then
      some (1 : Int32)
    else
      if 0 ≤ a2 then
        some (2 : Int32)
      else
        some (1 : Int32)) fun a0 =>
  if a1 < 0 then
    some (1 : Int32)
  else
    if 0 ≤ a2 then
      ms_l (hp_I α 152 a0) fun x5 =>
      if x5 < a2 then
        f_X11_wrongInclusions_J29 n α 
      else
        if a1 < a2 then
          some (0 : Int32)
        else
          f_X11_wrongInclusions_J29 n α 
    else
      some (1 : Int32)
set_option maxRecDepth 100000 in
set_option maxHeartbeats 4000000 in
theorem n_X11_wrongInclusion (n : Nat) (Γ : hp_G) (l : Launch) (α : hp_T) (g : GC α) (o0 : Option Nat) (k0 : ∀ b, o0 = some b → hp_K α b = 3) (a1 : Int32) (a2 : Int32) (res : Int32) (hf : f_X11_wrongInclusion n α o0 a1 a2 = some res) : Met l yX11_wrongInclusion (hp_ws yX11_wrongInclusion cX11_wrongInclusion 3 (some .int)) (hp_rm 0 0 0) (hp_Pc Γ α [va_rf o0, .int a1, .int a2]) (hp_Qi Γ (fun r β => β = α ∧ r = res)) 0 0 (hp_A Γ) := by
  unfold f_X11_wrongInclusion at hf
  refine hp_start (by decide) ?_
  intro p e s m below meth c C hr hlk B0 hnm
  have C : hp_C Γ p m c cX11_wrongInclusion 3 s ([va_rf o0, .int a1, .int a2] : List Value).toArray RX11 := C
  have hx := C.1.1
  have hb := C.1.2.1
  have hown := C.1.2.2.2.1
  have hts := C.1.2.2.2.2
  have B : hp_B Γ (cw w_X11_wrongInclusion) s α α s.heap [] := ⟨B0.1, B0.2.1, cw_rf g⟩
  rcases o0 with _ | a0
  ·
    replace hf := hq_N hf
    have hl := lv_entry ([.null, .int a1, .int a2]) (n := 3) (Nat.le_of_ble_eq_true rfl)
    show W p l e (hp_rm 0 0 0) s m ([.null, .int a1, .int a2] : List Value).toArray below meth c s.heap [] 0 0 (MQ below (hp_Qi Γ (fun r β => β = α ∧ r = res)) ([.null, .int a1, .int a2] : List Value).toArray s 0 0 (hp_A Γ)) (entryFrame m ([.null, .int a1, .int a2] : List Value).toArray 3)
    rw [lg_entry_eq]
    generalize (lg_sl ([.null, .int a1, .int a2]) ++ List.replicate (3 - (lg_sl ([.null, .int a1, .int a2])).length) Slot.unset).toArray = ls at hl ⊢
    have hl : lv_has ls 3 [(0, .null), (1, .int a1), (2, .int a2)] := hl
    refine lv_iload_n hx hb dX11_wrongInclusion_0 rfl (lv_at hl 1 rfl) (hp_n (n := 1) rfl ?_)
    refine lv_if_lt (tgt := 8) hx hb dX11_wrongInclusion_1 (by decide) (fun c1 => ?_) (fun c1 => hp_n (n := 4) rfl ?_)
    ·
      replace hf := ms_iT c1 hf
      refine lv_iconst (v := 1) hx hb dX11_wrongInclusion_8 (by decide) (hp_n (n := 9) rfl ?_)
      cases hf
      exact q_iret C B hr hlk ⟨rfl, rfl⟩ dX11_wrongInclusion_9
    ·
      replace hf := ms_iF c1 hf
      refine lv_iload_n hx hb dX11_wrongInclusion_4 rfl (lv_at hl 2 rfl) (hp_n (n := 5) rfl ?_)
      refine lv_if_ge (tgt := 10) hx hb dX11_wrongInclusion_5 (by decide) (fun c2 => ?_) (fun c2 => hp_n (n := 8) rfl ?_)
      ·
        replace hf := ms_iT c2 hf
        refine lv_aload_nN hx hb dX11_wrongInclusion_10 rfl (lv_at hl 0 rfl) (hp_n (n := 11) rfl ?_)
        refine lv_ifnonnullN hx hb dX11_wrongInclusion_11 (hp_n (n := 14) rfl ?_)
        refine lv_iconst (v := 2) hx hb dX11_wrongInclusion_14 (by decide) (hp_n (n := 15) rfl ?_)
        cases hf
        exact q_iret C B hr hlk ⟨rfl, rfl⟩ dX11_wrongInclusion_15
      ·
        replace hf := ms_iF c2 hf
        refine lv_iconst (v := 1) hx hb dX11_wrongInclusion_8 (by decide) (hp_n (n := 9) rfl ?_)
        cases hf
        exact q_iret C B hr hlk ⟨rfl, rfl⟩ dX11_wrongInclusion_9
  ·
    replace hf := hq_S hf
    have ka0 := k0 a0 rfl
    have hl := lv_entry ([.ref a0, .int a1, .int a2]) (n := 3) (Nat.le_of_ble_eq_true rfl)
    show W p l e (hp_rm 0 0 0) s m ([.ref a0, .int a1, .int a2] : List Value).toArray below meth c s.heap [] 0 0 (MQ below (hp_Qi Γ (fun r β => β = α ∧ r = res)) ([.ref a0, .int a1, .int a2] : List Value).toArray s 0 0 (hp_A Γ)) (entryFrame m ([.ref a0, .int a1, .int a2] : List Value).toArray 3)
    rw [lg_entry_eq]
    generalize (lg_sl ([.ref a0, .int a1, .int a2]) ++ List.replicate (3 - (lg_sl ([.ref a0, .int a1, .int a2])).length) Slot.unset).toArray = ls at hl ⊢
    have hl : lv_has ls 3 [(0, .ref a0), (1, .int a1), (2, .int a2)] := hl
    refine lv_iload_n hx hb dX11_wrongInclusion_0 rfl (lv_at hl 1 rfl) (hp_n (n := 1) rfl ?_)
    refine lv_if_lt (tgt := 8) hx hb dX11_wrongInclusion_1 (by decide) (fun c3 => ?_) (fun c3 => hp_n (n := 4) rfl ?_)
    ·
      replace hf := ms_iT c3 hf
      refine lv_iconst (v := 1) hx hb dX11_wrongInclusion_8 (by decide) (hp_n (n := 9) rfl ?_)
      cases hf
      exact q_iret C B hr hlk ⟨rfl, rfl⟩ dX11_wrongInclusion_9
    ·
      replace hf := ms_iF c3 hf
      refine lv_iload_n hx hb dX11_wrongInclusion_4 rfl (lv_at hl 2 rfl) (hp_n (n := 5) rfl ?_)
      refine lv_if_ge (tgt := 10) hx hb dX11_wrongInclusion_5 (by decide) (fun c4 => ?_) (fun c4 => hp_n (n := 8) rfl ?_)
      ·
        replace hf := ms_iT c4 hf
        refine lv_aload_n hx hb dX11_wrongInclusion_10 rfl (lv_at hl 0 rfl) (hp_n (n := 11) rfl ?_)
        refine lv_ifnonnull (tgt := 16) hx hb dX11_wrongInclusion_11 (by decide) ?_
        refine lv_iload_n hx hb dX11_wrongInclusion_16 rfl (lv_at hl 2 rfl) (hp_n (n := 17) rfl ?_)
        refine lv_aload_n hx hb dX11_wrongInclusion_17 rfl (lv_at hl 0 rfl) (hp_n (n := 18) rfl ?_)
        refine q_geti (κ := 3) (k := 2) (φ := 152) (pc' := 21) C B (cw_k B.2.2 ka0) fl_X11_167 rfl rfl rfl dX11_wrongInclusion_18 rfl (fun x5 ex5 => ?_)
        replace hf := ms_lE ex5 hf
        have J29 : ∀ (Hh6 : Heap) (Lh6 : List Loc) (Bh6 : hp_B Γ (cw w_X11_wrongInclusion) s α α Hh6 Lh6) (ls : Array Slot) (hl : lv_has ls 3 []) (hf : f_X11_wrongInclusions_J29 n α  = some res), W p l e (hp_rm 0 0 0) s m ([.ref a0, .int a1, .int a2] : List Value).toArray below meth c Hh6 Lh6 0 0 (MQ below (hp_Qi Γ (fun r β => β = α ∧ r = res)) ([.ref a0, .int a1, .int a2] : List Value).toArray s 0 0 (hp_A Γ)) (F0 m 29 ls []) := by
          intro Hh6 Lh6 Bh6 ls hl hf
          unfold f_X11_wrongInclusions_J29 at hf
          refine lv_iconst (v := 5) hx hb dX11_wrongInclusion_29 (by decide) (hp_n (n := 30) rfl ?_)
          refine lv_goto (tgt := 34) hx hb dX11_wrongInclusion_30 (by decide) ?_
          cases hf
          exact q_iret C Bh6 hr hlk ⟨rfl, rfl⟩ dX11_wrongInclusion_34
        refine lv_icmp_gt (tgt := 29) hx hb dX11_wrongInclusion_21 (by decide) (fun c7 => ?_) (fun c7 => hp_n (n := 24) rfl ?_)
        ·
          replace hf := ms_iT c7 hf
          exact J29 s.heap [] B ls (lv_sub hl [] rfl) hf
        ·
          replace hf := ms_iF c7 hf
          refine lv_iload_n hx hb dX11_wrongInclusion_24 rfl (lv_at hl 1 rfl) (hp_n (n := 25) rfl ?_)
          refine lv_iload_n hx hb dX11_wrongInclusion_25 rfl (lv_at hl 2 rfl) (hp_n (n := 26) rfl ?_)
          refine lv_icmp_lt (tgt := 33) hx hb dX11_wrongInclusion_26 (by decide) (fun c8 => ?_) (fun c8 => hp_n (n := 29) rfl ?_)
          ·
            replace hf := ms_iT c8 hf
            refine lv_iconst (v := 0) hx hb dX11_wrongInclusion_33 (by decide) (hp_n (n := 34) rfl ?_)
            cases hf
            exact q_iret C B hr hlk ⟨rfl, rfl⟩ dX11_wrongInclusion_34
          ·
            replace hf := ms_iF c8 hf
            exact J29 s.heap [] B ls (lv_sub hl [] rfl) hf
      ·
        replace hf := ms_iF c4 hf
        refine lv_iconst (v := 1) hx hb dX11_wrongInclusion_8 (by decide) (hp_n (n := 9) rfl ?_)
        cases hf
        exact q_iret C B hr hlk ⟨rfl, rfl⟩ dX11_wrongInclusion_9
def f_X11_tellByte (n : Nat) (α : hp_T) (a0 : Nat) (a1 : Int32) : Option hp_T :=
  ms_l (hp_I α 611 a0) fun x1 =>
  if x1 < 0 then
    some α
  else
    ms_l (hp_I α 611 a0) fun x3 =>
    ms_l (hp_R α 610 a0) fun b4 =>
    if (256 : Int32) ≤ x3 then
      some α
    else
      ms_l (hp_R α 610 a0) fun b6 =>
      ms_l (hp_I α 611 a0) fun x7 =>
      ms_g x7 256 <|
      ms_l (hp_sE α 25 b6 (x7).toNatClampNeg ((a1).toInt8.toInt32).toInt8.toInt32) fun αh9 =>
      ms_l (hp_I αh9 611 a0) fun x10 =>
      ms_l (hp_sI αh9 611 a0 (x10 + (1 : Int32))) fun αh11 =>
      some αh11
set_option maxRecDepth 100000 in
set_option maxHeartbeats 4000000 in
theorem n_X11_tellByte (n : Nat) (Γ : hp_G) (l : Launch) (α : hp_T) (g : GC α) (a0 : Nat) (k0 : hp_K α a0 = 12) (a1 : Int32) (res : hp_T) (hf : f_X11_tellByte n α a0 a1 = some res) : Met l yX11_tellByte (hp_ws yX11_tellByte cX11_tellByte 2 none) (hp_rm 0 0 0) (hp_Pc Γ α [.ref a0, .int a1]) (hp_Qv Γ (fun β => β = res ∧ cw w_X11_tellByte α β)) 0 0 (hp_A Γ) := by
  unfold f_X11_tellByte at hf
  refine hp_start (by decide) ?_
  intro p e s m below meth c C hr hlk B0 hnm
  have C : hp_C Γ p m c cX11_tellByte 2 s ([.ref a0, .int a1] : List Value).toArray RX11 := C
  have hx := C.1.1
  have hb := C.1.2.1
  have hown := C.1.2.2.2.1
  have hts := C.1.2.2.2.2
  have B : hp_B Γ (cw w_X11_tellByte) s α α s.heap [] := ⟨B0.1, B0.2.1, cw_rf g⟩
  have hl := lv_entry ([.ref a0, .int a1]) (n := 2) (Nat.le_of_ble_eq_true rfl)
  show W p l e (hp_rm 0 0 0) s m ([.ref a0, .int a1] : List Value).toArray below meth c s.heap [] 0 0 (MQ below (hp_Qv Γ (fun β => β = res ∧ cw w_X11_tellByte α β)) ([.ref a0, .int a1] : List Value).toArray s 0 0 (hp_A Γ)) (entryFrame m ([.ref a0, .int a1] : List Value).toArray 2)
  rw [lg_entry_eq]
  generalize (lg_sl ([.ref a0, .int a1]) ++ List.replicate (2 - (lg_sl ([.ref a0, .int a1])).length) Slot.unset).toArray = ls at hl ⊢
  have hl : lv_has ls 2 [(0, .ref a0), (1, .int a1)] := hl
  refine lv_aload_n hx hb dX11_tellByte_0 rfl (lv_at hl 0 rfl) (hp_n (n := 1) rfl ?_)
  refine q_geti (κ := 12) (k := 11) (φ := 611) (pc' := 4) C B (cw_k B.2.2 k0) fl_X11_56 rfl rfl rfl dX11_tellByte_1 rfl (fun x1 ex1 => ?_)
  replace hf := ms_lE ex1 hf
  refine lv_if_lt (tgt := 40) hx hb dX11_tellByte_4 (by decide) (fun c2 => ?_) (fun c2 => hp_n (n := 7) rfl ?_)
  ·
    replace hf := ms_iT c2 hf
    cases hf
    exact q_vret C B hr hlk ⟨rfl, B.2.2⟩ dX11_tellByte_40
  ·
    replace hf := ms_iF c2 hf
    refine lv_aload_n hx hb dX11_tellByte_7 rfl (lv_at hl 0 rfl) (hp_n (n := 8) rfl ?_)
    refine q_geti (κ := 12) (k := 11) (φ := 611) (pc' := 11) C B (cw_k B.2.2 k0) fl_X11_56 rfl rfl rfl dX11_tellByte_8 rfl (fun x3 ex3 => ?_)
    replace hf := ms_lE ex3 hf
    refine lv_aload_n hx hb dX11_tellByte_11 rfl (lv_at hl 0 rfl) (hp_n (n := 12) rfl ?_)
    refine q_getr (κ := 12) (k := 10) (φ := 610) (pc' := 15) C B (cw_k B.2.2 k0) fl_X11_53 rfl rfl rfl (cw_r B.2.2 k0 rfl rfl (by decide) (by decide)) dX11_tellByte_12 rfl (fun b4 eb4 kb4 => ?_)
    replace hf := ms_lE eb4 hf
    refine q_alen (κ := 25) (t := 1) (n := 256) (x := 256) (ty := .byte) (pc' := 16) C B (cw_k B.2.2 kb4) (by decide) rfl rfl rfl dX11_tellByte_15 rfl ?_
    refine lv_icmp_ge (tgt := 40) hx hb dX11_tellByte_16 (by decide) (fun c5 => ?_) (fun c5 => hp_n (n := 19) rfl ?_)
    ·
      replace hf := ms_iT c5 hf
      cases hf
      exact q_vret C B hr hlk ⟨rfl, B.2.2⟩ dX11_tellByte_40
    ·
      replace hf := ms_iF c5 hf
      refine lv_aload_n hx hb dX11_tellByte_19 rfl (lv_at hl 0 rfl) (hp_n (n := 20) rfl ?_)
      refine q_getr (κ := 12) (k := 10) (φ := 610) (pc' := 23) C B (cw_k B.2.2 k0) fl_X11_53 rfl rfl rfl (cw_r B.2.2 k0 rfl rfl (by decide) (by decide)) dX11_tellByte_20 rfl (fun b6 eb6 kb6 => ?_)
      replace hf := ms_lE eb6 hf
      refine lv_aload_n hx hb dX11_tellByte_23 rfl (lv_at hl 0 rfl) (hp_n (n := 24) rfl ?_)
      refine q_geti (κ := 12) (k := 11) (φ := 611) (pc' := 27) C B (cw_k B.2.2 k0) fl_X11_56 rfl rfl rfl dX11_tellByte_24 rfl (fun x7 ex7 => ?_)
      replace hf := ms_lE ex7 hf
      refine lv_iload_n hx hb dX11_tellByte_27 rfl (lv_at hl 1 rfl) (hp_n (n := 28) rfl ?_)
      refine lv_i2b hx hb dX11_tellByte_28 rfl (hp_n (n := 29) rfl ?_)
      obtain ⟨g8, hf⟩ := ms_gE hf
      refine q_bas (κ := 25) (n := 256) (pc' := 30) (y := ((a1).toInt8.toInt32).toInt8.toInt32) C B (cw_k B.2.2 kb6) (by decide) rfl (vi_of g8.1 g8.2) rfl rfl (cw_sE B.2.2 (by decide)) dX11_tellByte_29 rfl (fun αh9 Hh9 Lh9 eh9 Bh9 => ?_)
      replace hf := ms_lE eh9 hf
      refine lv_aload_n hx hb dX11_tellByte_30 rfl (lv_at hl 0 rfl) (hp_n (n := 31) rfl ?_)
      refine lv_dup hx hb dX11_tellByte_31 rfl (hp_n (n := 32) rfl ?_)
      refine q_geti (κ := 12) (k := 11) (φ := 611) (pc' := 35) C Bh9 (cw_k Bh9.2.2 k0) fl_X11_56 rfl rfl rfl dX11_tellByte_32 rfl (fun x10 ex10 => ?_)
      replace hf := ms_lE ex10 hf
      refine lv_iconst (v := 1) hx hb dX11_tellByte_35 (by decide) (hp_n (n := 36) rfl ?_)
      refine lv_iadd hx hb dX11_tellByte_36 (hp_n (n := 37) rfl ?_)
      refine q_puti (κ := 12) (k := 11) (φ := 611) (pc' := 40) C Bh9 (cw_k Bh9.2.2 k0) fl_X11_56 rfl rfl rfl rfl rfl rfl (cw_sI Bh9.2.2 (by decide) (fun h => absurd h (by decide))) dX11_tellByte_37 rfl (fun αh11 Hh11 Lh11 eh11 Bh11 => ?_)
      replace hf := ms_lE eh11 hf
      cases hf
      exact q_vret C Bh11 hr hlk ⟨rfl, Bh11.2.2⟩ dX11_tellByte_40
def f_X11_tellText_L2 (n : Nat) (a0 : Nat) (i1 : Nat) : Nat → hp_T → Int32 → Option hp_T
  | 0, _, _ => none
  | k2 + 1, αh1, v2_h1 =>
    if (hp_len i1) ≤ v2_h1 then
      some αh1
    else
      ms_q v2_h1 (hp_len i1) <|
      ms_b (f_X11_tellByte n αh1 a0 (hp_ch i1 (v2_h1).toNatClampNeg)) fun αh6 =>
      ms_l (v2_h1 + 1) fun x7 =>
      (f_X11_tellText_L2 n a0 i1 k2) αh6 x7
def f_X11_tellText (n : Nat) (α : hp_T) (a0 : Nat) (i1 : Nat) : Option hp_T :=
  f_X11_tellText_L2 n a0 i1 n α (0 : Int32)
set_option maxRecDepth 100000 in
set_option maxHeartbeats 4000000 in
theorem n_X11_tellText (n : Nat) (Γ : hp_G) (l : Launch) (α : hp_T) (g : GC α) (a0 : Nat) (k0 : hp_K α a0 = 12) (i1 : Nat) (h1 : i1 < 21) (res : hp_T) (hf : f_X11_tellText n α a0 i1 = some res) : Met l yX11_tellText (hp_ws yX11_tellText cX11_tellText 3 none) (hp_rm 4 0 0) (hp_Pc Γ α [.ref a0, .ref (Γ.2.2.2.2.1 i1)]) (hp_Qv Γ (fun β => β = res ∧ cw w_X11_tellText α β)) 0 0 (hp_A Γ) := by
  unfold f_X11_tellText at hf
  refine hp_start (by decide) ?_
  intro p e s m below meth c C hr hlk B0 hnm
  have C : hp_C Γ p m c cX11_tellText 3 s ([.ref a0, .ref (Γ.2.2.2.2.1 i1)] : List Value).toArray RX11 := C
  have hx := C.1.1
  have hb := C.1.2.1
  have hown := C.1.2.2.2.1
  have hts := C.1.2.2.2.2
  have B : hp_B Γ (cw w_X11_tellText) s α α s.heap [] := ⟨B0.1, B0.2.1, cw_rf g⟩
  have hl := lv_entry ([.ref a0, .ref (Γ.2.2.2.2.1 i1)]) (n := 3) (Nat.le_of_ble_eq_true rfl)
  show W p l e (hp_rm 4 0 0) s m ([.ref a0, .ref (Γ.2.2.2.2.1 i1)] : List Value).toArray below meth c s.heap [] 0 0 (MQ below (hp_Qv Γ (fun β => β = res ∧ cw w_X11_tellText α β)) ([.ref a0, .ref (Γ.2.2.2.2.1 i1)] : List Value).toArray s 0 0 (hp_A Γ)) (entryFrame m ([.ref a0, .ref (Γ.2.2.2.2.1 i1)] : List Value).toArray 3)
  rw [lg_entry_eq]
  generalize (lg_sl ([.ref a0, .ref (Γ.2.2.2.2.1 i1)]) ++ List.replicate (3 - (lg_sl ([.ref a0, .ref (Γ.2.2.2.2.1 i1)])).length) Slot.unset).toArray = ls at hl ⊢
  have hl : lv_has ls 3 [(0, .ref a0), (1, .ref (Γ.2.2.2.2.1 i1))] := hl
  refine lv_iconst (v := 0) hx hb dX11_tellText_0 (by decide) (hp_n (n := 1) rfl ?_)
  have J2 : ∀ (k2 : Nat) (αh1 : hp_T) (Hh1 : Heap) (Lh1 : List Loc) (Bh1 : hp_B Γ (cw w_X11_tellText) s α αh1 Hh1 Lh1) (v2_h1 : Int32) (ls : Array Slot) (hl : lv_has ls 3 [(0, .ref a0), (1, .ref (Γ.2.2.2.2.1 i1)), (2, .int v2_h1)]) (hf : f_X11_tellText_L2 n a0 i1 k2 αh1 v2_h1 = some res), W p l e (hp_rm 4 0 0) s m ([.ref a0, .ref (Γ.2.2.2.2.1 i1)] : List Value).toArray below meth c Hh1 Lh1 0 0 (MQ below (hp_Qv Γ (fun β => β = res ∧ cw w_X11_tellText α β)) ([.ref a0, .ref (Γ.2.2.2.2.1 i1)] : List Value).toArray s 0 0 (hp_A Γ)) (F0 m 2 ls []) := by
    intro k2
    induction k2 with
    | zero => intro αh1 Hh1 Lh1 Bh1 v2_h1 ls hl hf; rw [f_X11_tellText_L2.eq_1] at hf; cases hf
    | succ k2 ih2 =>
      intro αh1 Hh1 Lh1 Bh1 v2_h1 ls hl hf
      rw [f_X11_tellText_L2.eq_2] at hf
      refine lv_iload_n hx hb dX11_tellText_2 rfl (lv_at hl 2 rfl) (hp_n (n := 3) rfl ?_)
      refine lv_aload_n hx hb dX11_tellText_3 rfl (lv_at hl 1 rfl) (hp_n (n := 4) rfl ?_)
      refine d_pi (pc' := 7) Bh1 (hp_runT (i := i1) (As := []) (rest := [.int v2_h1]) C B0.1 Bh1 h1 (t_J0_length_8abf5 Γ l αh1 i1 h1) lb_J0_length_8abf5 li_J0_length_8abf5 sx_J0_length_8abf5 rfl lk_X11_485 rfl (by decide) rfl hl.1 rfl (Nat.le_of_ble_eq_true rfl) dX11_tellText_4 ⟨Nat.le_refl _, Nat.le_refl _⟩) rfl (fun Hh2 Lh2 Bh2 => ?_)
      refine lv_icmp_ge (tgt := 25) hx hb dX11_tellText_7 (by decide) (fun c3 => ?_) (fun c3 => hp_n (n := 10) rfl ?_)
      ·
        replace hf := ms_iT c3 hf
        cases hf
        exact q_vret C Bh2 hr hlk ⟨rfl, Bh2.2.2⟩ dX11_tellText_25
      ·
        replace hf := ms_iF c3 hf
        refine lv_aload_n hx hb dX11_tellText_10 rfl (lv_at hl 0 rfl) (hp_n (n := 11) rfl ?_)
        refine lv_aload_n hx hb dX11_tellText_11 rfl (lv_at hl 1 rfl) (hp_n (n := 12) rfl ?_)
        refine lv_iload_n hx hb dX11_tellText_12 rfl (lv_at hl 2 rfl) (hp_n (n := 13) rfl ?_)
        obtain ⟨g5, hf⟩ := ms_qE hf
        refine d_pi (pc' := 16) Bh2 (hp_runT (i := i1) (As := [.int v2_h1]) (rest := [.ref a0]) C B0.1 Bh2 h1 (t_J0_charAt_5068e Γ l αh1 i1 h1 v2_h1 g5.1 g5.2) lb_J0_charAt_5068e li_J0_charAt_5068e sx_J0_charAt_5068e rfl lk_X11_489 rfl (by decide) rfl hl.1 rfl (Nat.le_of_ble_eq_true rfl) dX11_tellText_13 ⟨Nat.le_refl _, Nat.le_refl _⟩) rfl (fun Hh4 Lh4 Bh4 => ?_)
        obtain ⟨αh6, qh6, hf⟩ := ms_bE hf
        refine d_cv (pc' := 19) Bh4 (hp_runV (As := [.int (hp_ch i1 (v2_h1).toNatClampNeg)]) (rest := []) C Bh4 (n_X11_tellByte n Γ l αh1 Bh4.2.2.1 a0 (cw_k Bh4.2.2 k0) (hp_ch i1 (v2_h1).toNatClampNeg) αh6 qh6) lb_X11_tellByte lv_X11_tellByte lk_X11_493 (cw_k Bh4.2.2 k0) rfl (by decide) rfl hl.1 rfl (Nat.le_of_ble_eq_true rfl) dX11_tellText_16 ⟨Nat.le_refl _, Nat.le_refl _⟩) (by decide) rfl (fun Hh6 Lh6 Bh6 => ?_)
        obtain ⟨x7, ex7⟩ : ∃ y : Int32, y = v2_h1 + 1 := ⟨_, rfl⟩
        replace hf := ms_lE ex7 hf
        refine lv_iinc (v := x7) (lv' := [(2, .int x7), (0, .ref a0), (1, .ref (Γ.2.2.2.2.1 i1))]) hx hb dX11_tellText_19 hl (k := 2) rfl (by rw [ex7]; rfl) (by decide) rfl (fun ls hl => hp_n (n := 22) rfl ?_)
        refine lv_goto (tgt := 2) hx hb dX11_tellText_22 (by decide) ?_
        exact ih2 αh6 Hh6 Lh6 Bh6 x7 ls (lv_sub hl [1, 2, 0] rfl) hf
  refine lv_istore_n (lv' := [(2, .int (0 : Int32)), (0, .ref a0), (1, .ref (Γ.2.2.2.2.1 i1))]) hx hb dX11_tellText_1 rfl hl (by decide) rfl (fun ls hl => hp_n (n := 2) rfl ?_)
  exact J2 n α s.heap [] B (0 : Int32) ls (lv_sub hl [1, 2, 0] rfl) hf
def f_X11_tellNumber_L29 (n : Nat) (a0 : Nat) : Nat → hp_T → Int32 → Int32 → Option hp_T
  | 0, _, _, _ => none
  | k29 + 1, αh2, v1_h2, v2_h2 =>
    if v2_h2 ≤ 0 then
      some αh2
    else
      ms_n v2_h2 <|
      ms_b (f_X11_tellByte n αh2 a0 ((48 : Int32) + ((v1_h2 / v2_h2) - (v1_h2 / v2_h2) / (10 : Int32) * (10 : Int32)))) fun αh5 =>
      ms_l ((v2_h2 / (10 : Int32))) fun x6 =>
      (f_X11_tellNumber_L29 n a0 k29) αh5 v1_h2 x6
def f_X11_tellNumber_L4 (n : Nat) (a0 : Nat) : Nat → hp_T → Int32 → Int32 → Int32 → Option hp_T
  | 0, _, _, _, _ => none
  | k4 + 1, αh1, v1_h1, v2_h1, v3_h1 =>
    if (8 : Int32) ≤ v3_h1 then
      f_X11_tellNumber_L29 n a0 n αh1 v1_h1 v2_h1
    else
      if (v1_h1 / (10 : Int32)) < v2_h1 then
        f_X11_tellNumber_L29 n a0 n αh1 v1_h1 v2_h1
      else
        ms_l ((v2_h1 * (10 : Int32))) fun x9 =>
        ms_l (v3_h1 + 1) fun x10 =>
        (f_X11_tellNumber_L4 n a0 k4) αh1 v1_h1 x9 x10
def f_X11_tellNumber (n : Nat) (α : hp_T) (a0 : Nat) (a1 : Int32) : Option hp_T :=
  f_X11_tellNumber_L4 n a0 n α a1 (1 : Int32) (0 : Int32)
set_option maxRecDepth 100000 in
set_option maxHeartbeats 4000000 in
theorem n_X11_tellNumber (n : Nat) (Γ : hp_G) (l : Launch) (α : hp_T) (g : GC α) (a0 : Nat) (k0 : hp_K α a0 = 12) (a1 : Int32) (res : hp_T) (hf : f_X11_tellNumber n α a0 a1 = some res) : Met l yX11_tellNumber (hp_ws yX11_tellNumber cX11_tellNumber 4 none) (hp_rm 1 0 0) (hp_Pc Γ α [.ref a0, .int a1]) (hp_Qv Γ (fun β => β = res ∧ cw w_X11_tellNumber α β)) 0 0 (hp_A Γ) := by
  unfold f_X11_tellNumber at hf
  refine hp_start (by decide) ?_
  intro p e s m below meth c C hr hlk B0 hnm
  have C : hp_C Γ p m c cX11_tellNumber 4 s ([.ref a0, .int a1] : List Value).toArray RX11 := C
  have hx := C.1.1
  have hb := C.1.2.1
  have hown := C.1.2.2.2.1
  have hts := C.1.2.2.2.2
  have B : hp_B Γ (cw w_X11_tellNumber) s α α s.heap [] := ⟨B0.1, B0.2.1, cw_rf g⟩
  have hl := lv_entry ([.ref a0, .int a1]) (n := 4) (Nat.le_of_ble_eq_true rfl)
  show W p l e (hp_rm 1 0 0) s m ([.ref a0, .int a1] : List Value).toArray below meth c s.heap [] 0 0 (MQ below (hp_Qv Γ (fun β => β = res ∧ cw w_X11_tellNumber α β)) ([.ref a0, .int a1] : List Value).toArray s 0 0 (hp_A Γ)) (entryFrame m ([.ref a0, .int a1] : List Value).toArray 4)
  rw [lg_entry_eq]
  generalize (lg_sl ([.ref a0, .int a1]) ++ List.replicate (4 - (lg_sl ([.ref a0, .int a1])).length) Slot.unset).toArray = ls at hl ⊢
  have hl : lv_has ls 4 [(0, .ref a0), (1, .int a1)] := hl
  refine lv_iconst (v := 1) hx hb dX11_tellNumber_0 (by decide) (hp_n (n := 1) rfl ?_)
  refine lv_istore_n (lv' := [(2, .int (1 : Int32)), (0, .ref a0), (1, .int a1)]) hx hb dX11_tellNumber_1 rfl hl (by decide) rfl (fun ls hl => hp_n (n := 2) rfl ?_)
  refine lv_iconst (v := 0) hx hb dX11_tellNumber_2 (by decide) (hp_n (n := 3) rfl ?_)
  have J4 : ∀ (k4 : Nat) (αh1 : hp_T) (Hh1 : Heap) (Lh1 : List Loc) (Bh1 : hp_B Γ (cw w_X11_tellNumber) s α αh1 Hh1 Lh1) (v1_h1 : Int32) (v2_h1 : Int32) (v3_h1 : Int32) (ls : Array Slot) (hl : lv_has ls 4 [(0, .ref a0), (1, .int v1_h1), (2, .int v2_h1), (3, .int v3_h1)]) (hf : f_X11_tellNumber_L4 n a0 k4 αh1 v1_h1 v2_h1 v3_h1 = some res), W p l e (hp_rm 1 0 0) s m ([.ref a0, .int a1] : List Value).toArray below meth c Hh1 Lh1 0 0 (MQ below (hp_Qv Γ (fun β => β = res ∧ cw w_X11_tellNumber α β)) ([.ref a0, .int a1] : List Value).toArray s 0 0 (hp_A Γ)) (F0 m 4 ls []) := by
    intro k4
    induction k4 with
    | zero => intro αh1 Hh1 Lh1 Bh1 v1_h1 v2_h1 v3_h1 ls hl hf; rw [f_X11_tellNumber_L4.eq_1] at hf; cases hf
    | succ k4 ih4 =>
      intro αh1 Hh1 Lh1 Bh1 v1_h1 v2_h1 v3_h1 ls hl hf
      rw [f_X11_tellNumber_L4.eq_2] at hf
      refine lv_iload_n hx hb dX11_tellNumber_4 rfl (lv_at hl 3 rfl) (hp_n (n := 5) rfl ?_)
      refine lv_bipush (v := 8) hx hb dX11_tellNumber_5 (by decide) (hp_n (n := 7) rfl ?_)
      have J29 : ∀ (k29 : Nat) (αh2 : hp_T) (Hh2 : Heap) (Lh2 : List Loc) (Bh2 : hp_B Γ (cw w_X11_tellNumber) s α αh2 Hh2 Lh2) (v1_h2 : Int32) (v2_h2 : Int32) (ls : Array Slot) (hl : lv_has ls 4 [(0, .ref a0), (1, .int v1_h2), (2, .int v2_h2)]) (hf : f_X11_tellNumber_L29 n a0 k29 αh2 v1_h2 v2_h2 = some res), W p l e (hp_rm 1 0 0) s m ([.ref a0, .int a1] : List Value).toArray below meth c Hh2 Lh2 0 0 (MQ below (hp_Qv Γ (fun β => β = res ∧ cw w_X11_tellNumber α β)) ([.ref a0, .int a1] : List Value).toArray s 0 0 (hp_A Γ)) (F0 m 29 ls []) := by
        intro k29
        induction k29 with
        | zero => intro αh2 Hh2 Lh2 Bh2 v1_h2 v2_h2 ls hl hf; rw [f_X11_tellNumber_L29.eq_1] at hf; cases hf
        | succ k29 ih29 =>
          intro αh2 Hh2 Lh2 Bh2 v1_h2 v2_h2 ls hl hf
          rw [f_X11_tellNumber_L29.eq_2] at hf
          refine lv_iload_n hx hb dX11_tellNumber_29 rfl (lv_at hl 2 rfl) (hp_n (n := 30) rfl ?_)
          refine lv_if_le (tgt := 54) hx hb dX11_tellNumber_30 (by decide) (fun c3 => ?_) (fun c3 => hp_n (n := 33) rfl ?_)
          ·
            replace hf := ms_iT c3 hf
            cases hf
            exact q_vret C Bh2 hr hlk ⟨rfl, Bh2.2.2⟩ dX11_tellNumber_54
          ·
            replace hf := ms_iF c3 hf
            refine lv_aload_n hx hb dX11_tellNumber_33 rfl (lv_at hl 0 rfl) (hp_n (n := 34) rfl ?_)
            refine lv_bipush (v := 48) hx hb dX11_tellNumber_34 (by decide) (hp_n (n := 36) rfl ?_)
            refine lv_iload_n hx hb dX11_tellNumber_36 rfl (lv_at hl 1 rfl) (hp_n (n := 37) rfl ?_)
            refine lv_iload_n hx hb dX11_tellNumber_37 rfl (lv_at hl 2 rfl) (hp_n (n := 38) rfl ?_)
            obtain ⟨g4, hf⟩ := ms_nE hf
            refine lv_idiv hx hb dX11_tellNumber_38 g4 (hp_n (n := 39) rfl ?_)
            refine lv_bipush (v := 10) hx hb dX11_tellNumber_39 (by decide) (hp_n (n := 41) rfl ?_)
            refine lv_irem hx hb dX11_tellNumber_41 (by decide) (hp_n (n := 42) rfl ?_)
            refine lv_iadd hx hb dX11_tellNumber_42 (hp_n (n := 43) rfl ?_)
            obtain ⟨αh5, qh5, hf⟩ := ms_bE hf
            refine d_cv (pc' := 46) Bh2 (hp_runV (As := [.int ((48 : Int32) + ((v1_h2 / v2_h2) - (v1_h2 / v2_h2) / (10 : Int32) * (10 : Int32)))]) (rest := []) C Bh2 (n_X11_tellByte n Γ l αh2 Bh2.2.2.1 a0 (cw_k Bh2.2.2 k0) ((48 : Int32) + ((v1_h2 / v2_h2) - (v1_h2 / v2_h2) / (10 : Int32) * (10 : Int32))) αh5 qh5) lb_X11_tellByte lv_X11_tellByte lk_X11_493 (cw_k Bh2.2.2 k0) rfl (by decide) rfl hl.1 rfl (Nat.le_of_ble_eq_true rfl) dX11_tellNumber_43 ⟨Nat.le_refl _, Nat.le_refl _⟩) (by decide) rfl (fun Hh5 Lh5 Bh5 => ?_)
            refine lv_iload_n hx hb dX11_tellNumber_46 rfl (lv_at hl 2 rfl) (hp_n (n := 47) rfl ?_)
            refine lv_bipush (v := 10) hx hb dX11_tellNumber_47 (by decide) (hp_n (n := 49) rfl ?_)
            refine lv_idiv hx hb dX11_tellNumber_49 (by decide) (hp_n (n := 50) rfl ?_)
            refine lv_topi (fun x6 ex6 => ?_)
            replace hf := ms_lE ex6 hf
            refine lv_istore_n (lv' := [(2, .int x6), (0, .ref a0), (1, .int v1_h2)]) hx hb dX11_tellNumber_50 rfl hl (by decide) rfl (fun ls hl => hp_n (n := 51) rfl ?_)
            refine lv_goto (tgt := 29) hx hb dX11_tellNumber_51 (by decide) ?_
            exact ih29 αh5 Hh5 Lh5 Bh5 v1_h2 x6 ls (lv_sub hl [1, 2, 0] rfl) hf
      refine lv_icmp_ge (tgt := 29) hx hb dX11_tellNumber_7 (by decide) (fun c7 => ?_) (fun c7 => hp_n (n := 10) rfl ?_)
      ·
        replace hf := ms_iT c7 hf
        exact J29 n αh1 Hh1 Lh1 Bh1 v1_h1 v2_h1 ls (lv_sub hl [0, 1, 2] rfl) hf
      ·
        replace hf := ms_iF c7 hf
        refine lv_iload_n hx hb dX11_tellNumber_10 rfl (lv_at hl 1 rfl) (hp_n (n := 11) rfl ?_)
        refine lv_bipush (v := 10) hx hb dX11_tellNumber_11 (by decide) (hp_n (n := 13) rfl ?_)
        refine lv_idiv hx hb dX11_tellNumber_13 (by decide) (hp_n (n := 14) rfl ?_)
        refine lv_iload_n hx hb dX11_tellNumber_14 rfl (lv_at hl 2 rfl) (hp_n (n := 15) rfl ?_)
        refine lv_icmp_lt (tgt := 29) hx hb dX11_tellNumber_15 (by decide) (fun c8 => ?_) (fun c8 => hp_n (n := 18) rfl ?_)
        ·
          replace hf := ms_iT c8 hf
          exact J29 n αh1 Hh1 Lh1 Bh1 v1_h1 v2_h1 ls (lv_sub hl [0, 1, 2] rfl) hf
        ·
          replace hf := ms_iF c8 hf
          refine lv_iload_n hx hb dX11_tellNumber_18 rfl (lv_at hl 2 rfl) (hp_n (n := 19) rfl ?_)
          refine lv_bipush (v := 10) hx hb dX11_tellNumber_19 (by decide) (hp_n (n := 21) rfl ?_)
          refine lv_imul hx hb dX11_tellNumber_21 (hp_n (n := 22) rfl ?_)
          refine lv_topi (fun x9 ex9 => ?_)
          replace hf := ms_lE ex9 hf
          refine lv_istore_n (lv' := [(2, .int x9), (0, .ref a0), (1, .int v1_h1), (3, .int v3_h1)]) hx hb dX11_tellNumber_22 rfl hl (by decide) rfl (fun ls hl => hp_n (n := 23) rfl ?_)
          obtain ⟨x10, ex10⟩ : ∃ y : Int32, y = v3_h1 + 1 := ⟨_, rfl⟩
          replace hf := ms_lE ex10 hf
          refine lv_iinc (v := x10) (lv' := [(3, .int x10), (2, .int x9), (0, .ref a0), (1, .int v1_h1)]) hx hb dX11_tellNumber_23 hl (k := 3) rfl (by rw [ex10]; rfl) (by decide) rfl (fun ls hl => hp_n (n := 26) rfl ?_)
          refine lv_goto (tgt := 4) hx hb dX11_tellNumber_26 (by decide) ?_
          exact ih4 αh1 Hh1 Lh1 Bh1 v1_h1 x9 x10 ls (lv_sub hl [2, 3, 1, 0] rfl) hf
  refine lv_istore_n (lv' := [(3, .int (0 : Int32)), (2, .int (1 : Int32)), (0, .ref a0), (1, .int a1)]) hx hb dX11_tellNumber_3 rfl hl (by decide) rfl (fun ls hl => hp_n (n := 4) rfl ?_)
  exact J4 n α s.heap [] B a1 (1 : Int32) (0 : Int32) ls (lv_sub hl [2, 3, 1, 0] rfl) hf
def f_X11_tellProof_L9 (n : Nat) (a0 : Nat) : Nat → hp_T → Int32 → Option hp_T
  | 0, _, _ => none
  | k9 + 1, αh2, v1_h2 =>
    ms_l (hp_R αh2 614 a0) fun b3 =>
    ms_l (hp_I αh2 301 b3) fun x4 =>
    if x4 ≤ v1_h2 then
      ms_b (f_X11_tellText n αh2 a0 6) fun αh6 =>
      some αh6
    else
      ms_b (f_X11_tellText n αh2 a0 0) fun αh7 =>
      ms_l (hp_R αh7 614 a0) fun b8 =>
      ms_b (f_X5_at n αh7 b8 v1_h2) fun rh9 =>
      ms_b (f_X11_tellNumber n αh7 a0 rh9) fun αh10 =>
      ms_l (v1_h2 + 1) fun x11 =>
      (f_X11_tellProof_L9 n a0 k9) αh10 x11
def f_X11_tellProof (n : Nat) (α : hp_T) (a0 : Nat) : Option hp_T :=
  ms_b (f_X11_tellText n α a0 1) fun αh1 =>
  f_X11_tellProof_L9 n a0 n αh1 (0 : Int32)
set_option maxRecDepth 100000 in
set_option maxHeartbeats 4000000 in
theorem n_X11_tellProof (n : Nat) (Γ : hp_G) (l : Launch) (α : hp_T) (g : GC α) (a0 : Nat) (k0 : hp_K α a0 = 12) (res : hp_T) (hf : f_X11_tellProof n α a0 = some res) : Met l yX11_tellProof (hp_ws yX11_tellProof cX11_tellProof 2 none) (hp_rm 5 0 0) (hp_Pc Γ α [.ref a0]) (hp_Qv Γ (fun β => β = res ∧ cw w_X11_tellProof α β)) 0 0 (hp_A Γ) := by
  unfold f_X11_tellProof at hf
  refine hp_start (by decide) ?_
  intro p e s m below meth c C hr hlk B0 hnm
  have C : hp_C Γ p m c cX11_tellProof 2 s ([.ref a0] : List Value).toArray RX11 := C
  have hx := C.1.1
  have hb := C.1.2.1
  have hown := C.1.2.2.2.1
  have hts := C.1.2.2.2.2
  have B : hp_B Γ (cw w_X11_tellProof) s α α s.heap [] := ⟨B0.1, B0.2.1, cw_rf g⟩
  have hl := lv_entry ([.ref a0]) (n := 2) (Nat.le_of_ble_eq_true rfl)
  show W p l e (hp_rm 5 0 0) s m ([.ref a0] : List Value).toArray below meth c s.heap [] 0 0 (MQ below (hp_Qv Γ (fun β => β = res ∧ cw w_X11_tellProof α β)) ([.ref a0] : List Value).toArray s 0 0 (hp_A Γ)) (entryFrame m ([.ref a0] : List Value).toArray 2)
  rw [lg_entry_eq]
  generalize (lg_sl ([.ref a0]) ++ List.replicate (2 - (lg_sl ([.ref a0])).length) Slot.unset).toArray = ls at hl ⊢
  have hl : lv_has ls 2 [(0, .ref a0)] := hl
  refine lv_aload_n hx hb dX11_tellProof_0 rfl (lv_at hl 0 rfl) (hp_n (n := 1) rfl ?_)
  refine st_ldcw hx hb hown (sr_X11_496 C.2) dX11_tellProof_1 (hp_n (n := 4) rfl ?_)
  obtain ⟨αh1, qh1, hf⟩ := ms_bE hf
  refine d_cv (pc' := 7) B (hp_runV (As := [.ref (Γ.2.2.2.2.1 1)]) (rest := []) C B (n_X11_tellText n Γ l α B.2.2.1 a0 (cw_k B.2.2 k0) 1 (by decide) αh1 qh1) lb_X11_tellText lv_X11_tellText lk_X11_411 (cw_k B.2.2 k0) rfl (by decide) rfl hl.1 rfl (Nat.le_of_ble_eq_true rfl) dX11_tellProof_4 ⟨Nat.le_refl _, Nat.le_refl _⟩) (by decide) rfl (fun Hh1 Lh1 Bh1 => ?_)
  refine lv_iconst (v := 0) hx hb dX11_tellProof_7 (by decide) (hp_n (n := 8) rfl ?_)
  have J9 : ∀ (k9 : Nat) (αh2 : hp_T) (Hh2 : Heap) (Lh2 : List Loc) (Bh2 : hp_B Γ (cw w_X11_tellProof) s α αh2 Hh2 Lh2) (v1_h2 : Int32) (ls : Array Slot) (hl : lv_has ls 2 [(0, .ref a0), (1, .int v1_h2)]) (hf : f_X11_tellProof_L9 n a0 k9 αh2 v1_h2 = some res), W p l e (hp_rm 5 0 0) s m ([.ref a0] : List Value).toArray below meth c Hh2 Lh2 0 0 (MQ below (hp_Qv Γ (fun β => β = res ∧ cw w_X11_tellProof α β)) ([.ref a0] : List Value).toArray s 0 0 (hp_A Γ)) (F0 m 9 ls []) := by
    intro k9
    induction k9 with
    | zero => intro αh2 Hh2 Lh2 Bh2 v1_h2 ls hl hf; rw [f_X11_tellProof_L9.eq_1] at hf; cases hf
    | succ k9 ih9 =>
      intro αh2 Hh2 Lh2 Bh2 v1_h2 ls hl hf
      rw [f_X11_tellProof_L9.eq_2] at hf
      refine lv_iload_n hx hb dX11_tellProof_9 rfl (lv_at hl 1 rfl) (hp_n (n := 10) rfl ?_)
      refine lv_aload_n hx hb dX11_tellProof_10 rfl (lv_at hl 0 rfl) (hp_n (n := 11) rfl ?_)
      refine q_getr (κ := 12) (k := 14) (φ := 614) (pc' := 14) C Bh2 (cw_k Bh2.2.2 k0) fl_X11_69 rfl rfl rfl (cw_r Bh2.2.2 k0 rfl rfl (by decide) (by decide)) dX11_tellProof_11 rfl (fun b3 eb3 kb3 => ?_)
      replace hf := ms_lE eb3 hf
      refine q_geti (κ := 6) (k := 1) (φ := 301) (pc' := 17) C Bh2 (cw_k Bh2.2.2 kb3) fl_X11_132 rfl rfl rfl dX11_tellProof_14 rfl (fun x4 ex4 => ?_)
      replace hf := ms_lE ex4 hf
      refine lv_icmp_ge (tgt := 45) hx hb dX11_tellProof_17 (by decide) (fun c5 => ?_) (fun c5 => hp_n (n := 20) rfl ?_)
      ·
        replace hf := ms_iT c5 hf
        refine lv_aload_n hx hb dX11_tellProof_45 rfl (lv_at hl 0 rfl) (hp_n (n := 46) rfl ?_)
        refine st_ldcw hx hb hown (sr_X11_500 C.2) dX11_tellProof_46 (hp_n (n := 49) rfl ?_)
        obtain ⟨αh6, qh6, hf⟩ := ms_bE hf
        refine d_cv (pc' := 52) Bh2 (hp_runV (As := [.ref (Γ.2.2.2.2.1 6)]) (rest := []) C Bh2 (n_X11_tellText n Γ l αh2 Bh2.2.2.1 a0 (cw_k Bh2.2.2 k0) 6 (by decide) αh6 qh6) lb_X11_tellText lv_X11_tellText lk_X11_411 (cw_k Bh2.2.2 k0) rfl (by decide) rfl hl.1 rfl (Nat.le_of_ble_eq_true rfl) dX11_tellProof_49 ⟨Nat.le_refl _, Nat.le_refl _⟩) (by decide) rfl (fun Hh6 Lh6 Bh6 => ?_)
        cases hf
        exact q_vret C Bh6 hr hlk ⟨rfl, Bh6.2.2⟩ dX11_tellProof_52
      ·
        replace hf := ms_iF c5 hf
        refine lv_aload_n hx hb dX11_tellProof_20 rfl (lv_at hl 0 rfl) (hp_n (n := 21) rfl ?_)
        refine st_ldcw hx hb hown (sr_X11_498 C.2) dX11_tellProof_21 (hp_n (n := 24) rfl ?_)
        obtain ⟨αh7, qh7, hf⟩ := ms_bE hf
        refine d_cv (pc' := 27) Bh2 (hp_runV (As := [.ref (Γ.2.2.2.2.1 0)]) (rest := []) C Bh2 (n_X11_tellText n Γ l αh2 Bh2.2.2.1 a0 (cw_k Bh2.2.2 k0) 0 (by decide) αh7 qh7) lb_X11_tellText lv_X11_tellText lk_X11_411 (cw_k Bh2.2.2 k0) rfl (by decide) rfl hl.1 rfl (Nat.le_of_ble_eq_true rfl) dX11_tellProof_24 ⟨Nat.le_refl _, Nat.le_refl _⟩) (by decide) rfl (fun Hh7 Lh7 Bh7 => ?_)
        refine lv_aload_n hx hb dX11_tellProof_27 rfl (lv_at hl 0 rfl) (hp_n (n := 28) rfl ?_)
        refine lv_aload_n hx hb dX11_tellProof_28 rfl (lv_at hl 0 rfl) (hp_n (n := 29) rfl ?_)
        refine q_getr (κ := 12) (k := 14) (φ := 614) (pc' := 32) C Bh7 (cw_k Bh7.2.2 k0) fl_X11_69 rfl rfl rfl (cw_r Bh7.2.2 k0 rfl rfl (by decide) (by decide)) dX11_tellProof_29 rfl (fun b8 eb8 kb8 => ?_)
        replace hf := ms_lE eb8 hf
        refine lv_iload_n hx hb dX11_tellProof_32 rfl (lv_at hl 1 rfl) (hp_n (n := 33) rfl ?_)
        obtain ⟨rh9, qh9, hf⟩ := ms_bE hf
        refine d_pi (pc' := 36) Bh7 (hp_runV (As := [.int v1_h2]) (rest := [.ref a0]) C Bh7 (n_X5_at n Γ l αh7 Bh7.2.2.1 b8 (cw_k Bh7.2.2 kb8) v1_h2 rh9 qh9) lb_X5_at lv_X5_at lk_X11_135 (cw_k Bh7.2.2 kb8) rfl (by decide) rfl hl.1 rfl (Nat.le_of_ble_eq_true rfl) dX11_tellProof_33 ⟨Nat.le_refl _, Nat.le_refl _⟩) rfl (fun Hh9 Lh9 Bh9 => ?_)
        obtain ⟨αh10, qh10, hf⟩ := ms_bE hf
        refine d_cv (pc' := 39) Bh9 (hp_runV (As := [.int rh9]) (rest := []) C Bh9 (n_X11_tellNumber n Γ l αh7 Bh9.2.2.1 a0 (cw_k Bh9.2.2 k0) rh9 αh10 qh10) lb_X11_tellNumber lv_X11_tellNumber lk_X11_415 (cw_k Bh9.2.2 k0) rfl (by decide) rfl hl.1 rfl (Nat.le_of_ble_eq_true rfl) dX11_tellProof_36 ⟨Nat.le_refl _, Nat.le_refl _⟩) (by decide) rfl (fun Hh10 Lh10 Bh10 => ?_)
        obtain ⟨x11, ex11⟩ : ∃ y : Int32, y = v1_h2 + 1 := ⟨_, rfl⟩
        replace hf := ms_lE ex11 hf
        refine lv_iinc (v := x11) (lv' := [(1, .int x11), (0, .ref a0)]) hx hb dX11_tellProof_39 hl (k := 1) rfl (by rw [ex11]; rfl) (by decide) rfl (fun ls hl => hp_n (n := 42) rfl ?_)
        refine lv_goto (tgt := 9) hx hb dX11_tellProof_42 (by decide) ?_
        exact ih9 αh10 Hh10 Lh10 Bh10 x11 ls (lv_sub hl [1, 0] rfl) hf
  refine lv_istore_n (lv' := [(1, .int (0 : Int32)), (0, .ref a0)]) hx hb dX11_tellProof_8 rfl hl (by decide) rfl (fun ls hl => hp_n (n := 9) rfl ?_)
  exact J9 n αh1 Hh1 Lh1 Bh1 (0 : Int32) ls (lv_sub hl [1, 0] rfl) hf
def f_X11_tell_J29 (n : Nat) (a0 : Nat) (αh4 : hp_T) (v5_h4 : Int32) : Option (Int32 × hp_T) :=
  hq_c (f_X11_refuse n αh4 a0 v5_h4) fun rh5 αh5 =>
  some (rh5, αh5)
def f_X11_tell (n : Nat) (α : hp_T) (a0 : Nat) (a1 : Int32) (a2 : Int32) (a3 : Int32) : Option (Int32 × hp_T) :=
  ms_l (hp_R α 601 a0) fun b1 =>
  ms_b (f_X10_logAt n α b1 a1) fun rh2 =>
  hq_m rh2 (
    ms_b (f_X11_wrongInclusion n α none a2 a3) fun rh3 =>
    if rh3 = 0 then
      f_X11_tell_J29 n a0 α rh3
    else
      f_X11_tell_J29 n a0 α rh3) fun bh2 =>
  ms_b (f_X11_wrongInclusion n α (some bh2) a2 a3) fun rh7 =>
  if rh7 = 0 then
    ms_l (hp_R α 612 a0) fun b11 =>
    ms_b (f_X8_toThing n α b11 a2 a3) fun αh12 =>
    ms_l (hp_R αh12 601 a0) fun b13 =>
    ms_l (hp_R αh12 612 a0) fun b14 =>
    ms_l (hp_R αh12 614 a0) fun b15 =>
    ms_b (f_X10_marksAlong n αh12 b13 b14 (some bh2) b15) fun αh16 =>
    ms_l (hp_sI αh16 611 a0 (0 : Int32)) fun αh17 =>
    ms_b (f_X11_tellText n αh17 a0 15) fun αh18 =>
    ms_b (f_X11_tellNumber n αh18 a0 a2) fun αh19 =>
    ms_b (f_X11_tellText n αh19 a0 4) fun αh20 =>
    ms_b (f_X11_tellNumber n αh20 a0 a3) fun αh21 =>
    ms_b (f_X11_tellText n αh21 a0 3) fun αh22 =>
    ms_b (f_X2_markAt n αh22 bh2 a2) fun rh23 =>
    ms_b (f_X11_tellNumber n αh22 a0 rh23) fun αh24 =>
    ms_b (f_X11_tellText n αh24 a0 2) fun αh25 =>
    ms_l (hp_R αh25 601 a0) fun b26 =>
    hq_c (f_X10_headOf n αh25 b26 (some bh2) a3) fun rh27 αh27 =>
    ms_b (f_X11_tellNumber n αh27 a0 rh27) fun αh28 =>
    ms_b (f_X11_tellProof n αh28 a0) fun αh29 =>
    ms_l (hp_I αh29 611 a0) fun x30 =>
    hq_c (f_X11_answer n αh29 a0 x30) fun rh31 αh31 =>
    some (rh31, αh31)
  else
    f_X11_tell_J29 n a0 α rh7
set_option maxRecDepth 100000 in
set_option maxHeartbeats 4000000 in
theorem n_X11_tell (n : Nat) (Γ : hp_G) (l : Launch) (α : hp_T) (g : GC α) (a0 : Nat) (k0 : hp_K α a0 = 12) (a1 : Int32) (a2 : Int32) (a3 : Int32) (res : (Int32 × hp_T)) (hf : f_X11_tell n α a0 a1 a2 a3 = some res) : Met l yX11_tell (hp_ws yX11_tell cX11_tell 6 (some .int)) (hp_rm 6 0 0) (hp_Pc Γ α [.ref a0, .int a1, .int a2, .int a3]) (hp_Qi Γ (fun r β => r = res.1 ∧ β = res.2 ∧ cw w_X11_tell α β)) 0 0 (hp_A Γ) := by
  unfold f_X11_tell at hf
  refine hp_start (by decide) ?_
  intro p e s m below meth c C hr hlk B0 hnm
  have C : hp_C Γ p m c cX11_tell 6 s ([.ref a0, .int a1, .int a2, .int a3] : List Value).toArray RX11 := C
  have hx := C.1.1
  have hb := C.1.2.1
  have hown := C.1.2.2.2.1
  have hts := C.1.2.2.2.2
  have B : hp_B Γ (cw w_X11_tell) s α α s.heap [] := ⟨B0.1, B0.2.1, cw_rf g⟩
  have hl := lv_entry ([.ref a0, .int a1, .int a2, .int a3]) (n := 6) (Nat.le_of_ble_eq_true rfl)
  show W p l e (hp_rm 6 0 0) s m ([.ref a0, .int a1, .int a2, .int a3] : List Value).toArray below meth c s.heap [] 0 0 (MQ below (hp_Qi Γ (fun r β => r = res.1 ∧ β = res.2 ∧ cw w_X11_tell α β)) ([.ref a0, .int a1, .int a2, .int a3] : List Value).toArray s 0 0 (hp_A Γ)) (entryFrame m ([.ref a0, .int a1, .int a2, .int a3] : List Value).toArray 6)
  rw [lg_entry_eq]
  generalize (lg_sl ([.ref a0, .int a1, .int a2, .int a3]) ++ List.replicate (6 - (lg_sl ([.ref a0, .int a1, .int a2, .int a3])).length) Slot.unset).toArray = ls at hl ⊢
  have hl : lv_has ls 6 [(0, .ref a0), (1, .int a1), (2, .int a2), (3, .int a3)] := hl
  refine lv_aload_n hx hb dX11_tell_0 rfl (lv_at hl 0 rfl) (hp_n (n := 1) rfl ?_)
  refine q_getr (κ := 12) (k := 1) (φ := 601) (pc' := 4) C B (cw_k B.2.2 k0) fl_X11_16 rfl rfl rfl (cw_r B.2.2 k0 rfl rfl (by decide) (by decide)) dX11_tell_1 rfl (fun b1 eb1 kb1 => ?_)
  replace hf := ms_lE eb1 hf
  refine lv_iload_n hx hb dX11_tell_4 rfl (lv_at hl 1 rfl) (hp_n (n := 5) rfl ?_)
  obtain ⟨rh2, qh2, hf⟩ := ms_bE hf
  refine d_pq (pc' := 8) B (hp_runV (As := [.int a1]) (rest := []) C B (n_X10_logAt n Γ l α B.2.2.1 b1 (cw_k B.2.2 kb1) a1 rh2 qh2) lb_X10_logAt lv_X10_logAt lk_X11_163 (cw_k B.2.2 kb1) rfl (by decide) rfl hl.1 rfl (Nat.le_of_ble_eq_true rfl) dX11_tell_5 ⟨Nat.le_refl _, Nat.le_refl _⟩) rfl (fun Hh2 Lh2 Bh2 kh2 => ?_)
  rcases rh2 with _ | bh2
  ·
    replace hf := hq_N hf
    refine lv_astoreN (lv' := [(4, .null), (0, .ref a0), (1, .int a1), (2, .int a2), (3, .int a3)]) hx hb dX11_tell_8 hl (by decide) rfl (fun ls hl => hp_n (n := 10) rfl ?_)
    refine lv_aloadN hx hb dX11_tell_10 (lv_at hl 0 rfl) (hp_n (n := 12) rfl ?_)
    refine lv_iload_n hx hb dX11_tell_12 rfl (lv_at hl 3 rfl) (hp_n (n := 13) rfl ?_)
    refine lv_iload_n hx hb dX11_tell_13 rfl (lv_at hl 4 rfl) (hp_n (n := 14) rfl ?_)
    obtain ⟨rh3, qh3, hf⟩ := ms_bE hf
    refine d_pi (pc' := 17) Bh2 (hp_runS (As := [va_rf none, .int a2, .int a3]) (rest := []) C Bh2 (n_X11_wrongInclusion n Γ l α Bh2.2.2.1 none (fun b h => by cases h) a2 a3 rh3 qh3) lb_X11_wrongInclusion ls_X11_wrongInclusion lk_X11_264 rfl (by decide) rfl hl.1 rfl (Nat.le_of_ble_eq_true rfl) dX11_tell_14 ⟨Nat.le_refl _, Nat.le_refl _⟩) rfl (fun Hh3 Lh3 Bh3 => ?_)
    refine lv_istore (lv' := [(5, .int rh3), (4, .null), (0, .ref a0), (1, .int a1), (2, .int a2), (3, .int a3)]) hx hb dX11_tell_17 hl (by decide) rfl (fun ls hl => hp_n (n := 19) rfl ?_)
    refine lv_iload hx hb dX11_tell_19 (lv_at hl 0 rfl) (hp_n (n := 21) rfl ?_)
    have J29 : ∀ (αh4 : hp_T) (Hh4 : Heap) (Lh4 : List Loc) (Bh4 : hp_B Γ (cw w_X11_tell) s α αh4 Hh4 Lh4) (v5_h4 : Int32) (ls : Array Slot) (hl : lv_has ls 6 [(0, .ref a0), (5, .int v5_h4)]) (hf : f_X11_tell_J29 n a0 αh4 v5_h4 = some res), W p l e (hp_rm 6 0 0) s m ([.ref a0, .int a1, .int a2, .int a3] : List Value).toArray below meth c Hh4 Lh4 0 0 (MQ below (hp_Qi Γ (fun r β => r = res.1 ∧ β = res.2 ∧ cw w_X11_tell α β)) ([.ref a0, .int a1, .int a2, .int a3] : List Value).toArray s 0 0 (hp_A Γ)) (F0 m 29 ls []) := by
      intro αh4 Hh4 Lh4 Bh4 v5_h4 ls hl hf
      unfold f_X11_tell_J29 at hf
      refine lv_aload_n hx hb dX11_tell_29 rfl (lv_at hl 0 rfl) (hp_n (n := 30) rfl ?_)
      refine lv_iload hx hb dX11_tell_30 (lv_at hl 1 rfl) (hp_n (n := 32) rfl ?_)
      obtain ⟨rh5, αh5, qh5, hf⟩ := hq_cE hf
      refine d_ci (pc' := 35) Bh4 (hp_runV (As := [.int v5_h4]) (rest := []) C Bh4 (n_X11_refuse n Γ l αh4 Bh4.2.2.1 a0 (cw_k Bh4.2.2 k0) v5_h4 (rh5, αh5) qh5) lb_X11_refuse lv_X11_refuse lk_X11_98 (cw_k Bh4.2.2 k0) rfl (by decide) rfl hl.1 rfl (Nat.le_of_ble_eq_true rfl) dX11_tell_32 ⟨Nat.le_refl _, Nat.le_refl _⟩) (by decide) rfl (fun Hh5 Lh5 Bh5 => ?_)
      cases hf
      exact q_iret C Bh5 hr hlk ⟨rfl, rfl, Bh5.2.2⟩ dX11_tell_35
    refine lv_if_ne (tgt := 29) hx hb dX11_tell_21 (by decide) (fun c6 => ?_) (fun c6 => hp_n (n := 24) rfl ?_)
    ·
      replace hf := ms_iF c6 hf
      exact J29 α Hh3 Lh3 Bh3 rh3 ls (lv_sub hl [2, 0] rfl) hf
    ·
      replace hf := ms_iT c6 hf
      refine lv_aloadN hx hb dX11_tell_24 (lv_at hl 1 rfl) (hp_n (n := 26) rfl ?_)
      refine lv_ifnonnullN hx hb dX11_tell_26 (hp_n (n := 29) rfl ?_)
      exact J29 α Hh3 Lh3 Bh3 rh3 ls (lv_sub hl [2, 0] rfl) hf
  ·
    replace hf := hq_S hf
    have kbh2 := kh2 bh2 rfl
    refine lv_astore (lv' := [(4, .ref bh2), (0, .ref a0), (1, .int a1), (2, .int a2), (3, .int a3)]) hx hb dX11_tell_8 hl (by decide) rfl (fun ls hl => hp_n (n := 10) rfl ?_)
    refine lv_aload hx hb dX11_tell_10 (lv_at hl 0 rfl) (hp_n (n := 12) rfl ?_)
    refine lv_iload_n hx hb dX11_tell_12 rfl (lv_at hl 3 rfl) (hp_n (n := 13) rfl ?_)
    refine lv_iload_n hx hb dX11_tell_13 rfl (lv_at hl 4 rfl) (hp_n (n := 14) rfl ?_)
    obtain ⟨rh7, qh7, hf⟩ := ms_bE hf
    refine d_pi (pc' := 17) Bh2 (hp_runS (As := [va_rf (some bh2), .int a2, .int a3]) (rest := []) C Bh2 (n_X11_wrongInclusion n Γ l α Bh2.2.2.1 (some bh2) (fun b h => by cases h; exact (cw_k Bh2.2.2 kbh2)) a2 a3 rh7 qh7) lb_X11_wrongInclusion ls_X11_wrongInclusion lk_X11_264 rfl (by decide) rfl hl.1 rfl (Nat.le_of_ble_eq_true rfl) dX11_tell_14 ⟨Nat.le_refl _, Nat.le_refl _⟩) rfl (fun Hh7 Lh7 Bh7 => ?_)
    refine lv_istore (lv' := [(5, .int rh7), (4, .ref bh2), (0, .ref a0), (1, .int a1), (2, .int a2), (3, .int a3)]) hx hb dX11_tell_17 hl (by decide) rfl (fun ls hl => hp_n (n := 19) rfl ?_)
    refine lv_iload hx hb dX11_tell_19 (lv_at hl 0 rfl) (hp_n (n := 21) rfl ?_)
    have J29 : ∀ (αh8 : hp_T) (Hh8 : Heap) (Lh8 : List Loc) (Bh8 : hp_B Γ (cw w_X11_tell) s α αh8 Hh8 Lh8) (v5_h8 : Int32) (ls : Array Slot) (hl : lv_has ls 6 [(0, .ref a0), (5, .int v5_h8)]) (hf : f_X11_tell_J29 n a0 αh8 v5_h8 = some res), W p l e (hp_rm 6 0 0) s m ([.ref a0, .int a1, .int a2, .int a3] : List Value).toArray below meth c Hh8 Lh8 0 0 (MQ below (hp_Qi Γ (fun r β => r = res.1 ∧ β = res.2 ∧ cw w_X11_tell α β)) ([.ref a0, .int a1, .int a2, .int a3] : List Value).toArray s 0 0 (hp_A Γ)) (F0 m 29 ls []) := by
      intro αh8 Hh8 Lh8 Bh8 v5_h8 ls hl hf
      unfold f_X11_tell_J29 at hf
      refine lv_aload_n hx hb dX11_tell_29 rfl (lv_at hl 0 rfl) (hp_n (n := 30) rfl ?_)
      refine lv_iload hx hb dX11_tell_30 (lv_at hl 1 rfl) (hp_n (n := 32) rfl ?_)
      obtain ⟨rh9, αh9, qh9, hf⟩ := hq_cE hf
      refine d_ci (pc' := 35) Bh8 (hp_runV (As := [.int v5_h8]) (rest := []) C Bh8 (n_X11_refuse n Γ l αh8 Bh8.2.2.1 a0 (cw_k Bh8.2.2 k0) v5_h8 (rh9, αh9) qh9) lb_X11_refuse lv_X11_refuse lk_X11_98 (cw_k Bh8.2.2 k0) rfl (by decide) rfl hl.1 rfl (Nat.le_of_ble_eq_true rfl) dX11_tell_32 ⟨Nat.le_refl _, Nat.le_refl _⟩) (by decide) rfl (fun Hh9 Lh9 Bh9 => ?_)
      cases hf
      exact q_iret C Bh9 hr hlk ⟨rfl, rfl, Bh9.2.2⟩ dX11_tell_35
    refine lv_if_ne (tgt := 29) hx hb dX11_tell_21 (by decide) (fun c10 => ?_) (fun c10 => hp_n (n := 24) rfl ?_)
    ·
      replace hf := ms_iF c10 hf
      exact J29 α Hh7 Lh7 Bh7 rh7 ls (lv_sub hl [2, 0] rfl) hf
    ·
      replace hf := ms_iT c10 hf
      refine lv_aload hx hb dX11_tell_24 (lv_at hl 1 rfl) (hp_n (n := 26) rfl ?_)
      refine lv_ifnonnull (tgt := 36) hx hb dX11_tell_26 (by decide) ?_
      refine lv_aload_n hx hb dX11_tell_36 rfl (lv_at hl 2 rfl) (hp_n (n := 37) rfl ?_)
      refine q_getr (κ := 12) (k := 12) (φ := 612) (pc' := 40) C Bh7 (cw_k Bh7.2.2 k0) fl_X11_62 rfl rfl rfl (cw_r Bh7.2.2 k0 rfl rfl (by decide) (by decide)) dX11_tell_37 rfl (fun b11 eb11 kb11 => ?_)
      replace hf := ms_lE eb11 hf
      refine lv_iload_n hx hb dX11_tell_40 rfl (lv_at hl 4 rfl) (hp_n (n := 41) rfl ?_)
      refine lv_iload_n hx hb dX11_tell_41 rfl (lv_at hl 5 rfl) (hp_n (n := 42) rfl ?_)
      obtain ⟨αh12, qh12, hf⟩ := ms_bE hf
      refine d_cv (pc' := 45) Bh7 (hp_runV (As := [.int a2, .int a3]) (rest := []) C Bh7 (n_X8_toThing n Γ l α Bh7.2.2.1 b11 (cw_k Bh7.2.2 kb11) a2 a3 αh12 qh12) lb_X8_toThing lv_X8_toThing lk_X11_267 (cw_k Bh7.2.2 kb11) rfl (by decide) rfl hl.1 rfl (Nat.le_of_ble_eq_true rfl) dX11_tell_42 ⟨Nat.le_refl _, Nat.le_refl _⟩) (by decide) rfl (fun Hh12 Lh12 Bh12 => ?_)
      refine lv_aload_n hx hb dX11_tell_45 rfl (lv_at hl 2 rfl) (hp_n (n := 46) rfl ?_)
      refine q_getr (κ := 12) (k := 1) (φ := 601) (pc' := 49) C Bh12 (cw_k Bh12.2.2 k0) fl_X11_16 rfl rfl rfl (cw_r Bh12.2.2 k0 rfl rfl (by decide) (by decide)) dX11_tell_46 rfl (fun b13 eb13 kb13 => ?_)
      replace hf := ms_lE eb13 hf
      refine lv_aload_n hx hb dX11_tell_49 rfl (lv_at hl 2 rfl) (hp_n (n := 50) rfl ?_)
      refine q_getr (κ := 12) (k := 12) (φ := 612) (pc' := 53) C Bh12 (cw_k Bh12.2.2 k0) fl_X11_62 rfl rfl rfl (cw_r Bh12.2.2 k0 rfl rfl (by decide) (by decide)) dX11_tell_50 rfl (fun b14 eb14 kb14 => ?_)
      replace hf := ms_lE eb14 hf
      refine lv_aload hx hb dX11_tell_53 (lv_at hl 1 rfl) (hp_n (n := 55) rfl ?_)
      refine lv_aload_n hx hb dX11_tell_55 rfl (lv_at hl 2 rfl) (hp_n (n := 56) rfl ?_)
      refine q_getr (κ := 12) (k := 14) (φ := 614) (pc' := 59) C Bh12 (cw_k Bh12.2.2 k0) fl_X11_69 rfl rfl rfl (cw_r Bh12.2.2 k0 rfl rfl (by decide) (by decide)) dX11_tell_56 rfl (fun b15 eb15 kb15 => ?_)
      replace hf := ms_lE eb15 hf
      obtain ⟨αh16, qh16, hf⟩ := ms_bE hf
      refine d_cv (pc' := 62) Bh12 (hp_runV (As := [.ref b14, va_rf (some bh2), .ref b15]) (rest := []) C Bh12 (n_X10_marksAlong n Γ l αh12 Bh12.2.2.1 b13 (cw_k Bh12.2.2 kb13) b14 (cw_k Bh12.2.2 kb14) (some bh2) (fun b h => by cases h; exact (cw_k Bh12.2.2 kbh2)) b15 (cw_k Bh12.2.2 kb15) αh16 qh16) lb_X10_marksAlong lv_X10_marksAlong lk_X11_270 (cw_k Bh12.2.2 kb13) rfl (by decide) rfl hl.1 rfl (Nat.le_of_ble_eq_true rfl) dX11_tell_59 ⟨Nat.le_refl _, Nat.le_refl _⟩) (by decide) rfl (fun Hh16 Lh16 Bh16 => ?_)
      refine lv_aload_n hx hb dX11_tell_62 rfl (lv_at hl 2 rfl) (hp_n (n := 63) rfl ?_)
      refine lv_iconst (v := 0) hx hb dX11_tell_63 (by decide) (hp_n (n := 64) rfl ?_)
      refine q_puti (κ := 12) (k := 11) (φ := 611) (pc' := 67) C Bh16 (cw_k Bh16.2.2 k0) fl_X11_56 rfl rfl rfl rfl rfl rfl (cw_sI Bh16.2.2 (by decide) (fun h => absurd h (by decide))) dX11_tell_64 rfl (fun αh17 Hh17 Lh17 eh17 Bh17 => ?_)
      replace hf := ms_lE eh17 hf
      refine lv_aload_n hx hb dX11_tell_67 rfl (lv_at hl 2 rfl) (hp_n (n := 68) rfl ?_)
      refine st_ldcw hx hb hown (sr_X11_409 C.2) dX11_tell_68 (hp_n (n := 71) rfl ?_)
      obtain ⟨αh18, qh18, hf⟩ := ms_bE hf
      refine d_cv (pc' := 74) Bh17 (hp_runV (As := [.ref (Γ.2.2.2.2.1 15)]) (rest := []) C Bh17 (n_X11_tellText n Γ l αh17 Bh17.2.2.1 a0 (cw_k Bh17.2.2 k0) 15 (by decide) αh18 qh18) lb_X11_tellText lv_X11_tellText lk_X11_411 (cw_k Bh17.2.2 k0) rfl (by decide) rfl hl.1 rfl (Nat.le_of_ble_eq_true rfl) dX11_tell_71 ⟨Nat.le_refl _, Nat.le_refl _⟩) (by decide) rfl (fun Hh18 Lh18 Bh18 => ?_)
      refine lv_aload_n hx hb dX11_tell_74 rfl (lv_at hl 2 rfl) (hp_n (n := 75) rfl ?_)
      refine lv_iload_n hx hb dX11_tell_75 rfl (lv_at hl 4 rfl) (hp_n (n := 76) rfl ?_)
      obtain ⟨αh19, qh19, hf⟩ := ms_bE hf
      refine d_cv (pc' := 79) Bh18 (hp_runV (As := [.int a2]) (rest := []) C Bh18 (n_X11_tellNumber n Γ l αh18 Bh18.2.2.1 a0 (cw_k Bh18.2.2 k0) a2 αh19 qh19) lb_X11_tellNumber lv_X11_tellNumber lk_X11_415 (cw_k Bh18.2.2 k0) rfl (by decide) rfl hl.1 rfl (Nat.le_of_ble_eq_true rfl) dX11_tell_76 ⟨Nat.le_refl _, Nat.le_refl _⟩) (by decide) rfl (fun Hh19 Lh19 Bh19 => ?_)
      refine lv_aload_n hx hb dX11_tell_79 rfl (lv_at hl 2 rfl) (hp_n (n := 80) rfl ?_)
      refine st_ldcw hx hb hown (sr_X11_418 C.2) dX11_tell_80 (hp_n (n := 83) rfl ?_)
      obtain ⟨αh20, qh20, hf⟩ := ms_bE hf
      refine d_cv (pc' := 86) Bh19 (hp_runV (As := [.ref (Γ.2.2.2.2.1 4)]) (rest := []) C Bh19 (n_X11_tellText n Γ l αh19 Bh19.2.2.1 a0 (cw_k Bh19.2.2 k0) 4 (by decide) αh20 qh20) lb_X11_tellText lv_X11_tellText lk_X11_411 (cw_k Bh19.2.2 k0) rfl (by decide) rfl hl.1 rfl (Nat.le_of_ble_eq_true rfl) dX11_tell_83 ⟨Nat.le_refl _, Nat.le_refl _⟩) (by decide) rfl (fun Hh20 Lh20 Bh20 => ?_)
      refine lv_aload_n hx hb dX11_tell_86 rfl (lv_at hl 2 rfl) (hp_n (n := 87) rfl ?_)
      refine lv_iload_n hx hb dX11_tell_87 rfl (lv_at hl 5 rfl) (hp_n (n := 88) rfl ?_)
      obtain ⟨αh21, qh21, hf⟩ := ms_bE hf
      refine d_cv (pc' := 91) Bh20 (hp_runV (As := [.int a3]) (rest := []) C Bh20 (n_X11_tellNumber n Γ l αh20 Bh20.2.2.1 a0 (cw_k Bh20.2.2 k0) a3 αh21 qh21) lb_X11_tellNumber lv_X11_tellNumber lk_X11_415 (cw_k Bh20.2.2 k0) rfl (by decide) rfl hl.1 rfl (Nat.le_of_ble_eq_true rfl) dX11_tell_88 ⟨Nat.le_refl _, Nat.le_refl _⟩) (by decide) rfl (fun Hh21 Lh21 Bh21 => ?_)
      refine lv_aload_n hx hb dX11_tell_91 rfl (lv_at hl 2 rfl) (hp_n (n := 92) rfl ?_)
      refine st_ldcw hx hb hown (sr_X11_420 C.2) dX11_tell_92 (hp_n (n := 95) rfl ?_)
      obtain ⟨αh22, qh22, hf⟩ := ms_bE hf
      refine d_cv (pc' := 98) Bh21 (hp_runV (As := [.ref (Γ.2.2.2.2.1 3)]) (rest := []) C Bh21 (n_X11_tellText n Γ l αh21 Bh21.2.2.1 a0 (cw_k Bh21.2.2 k0) 3 (by decide) αh22 qh22) lb_X11_tellText lv_X11_tellText lk_X11_411 (cw_k Bh21.2.2 k0) rfl (by decide) rfl hl.1 rfl (Nat.le_of_ble_eq_true rfl) dX11_tell_95 ⟨Nat.le_refl _, Nat.le_refl _⟩) (by decide) rfl (fun Hh22 Lh22 Bh22 => ?_)
      refine lv_aload_n hx hb dX11_tell_98 rfl (lv_at hl 2 rfl) (hp_n (n := 99) rfl ?_)
      refine lv_aload hx hb dX11_tell_99 (lv_at hl 1 rfl) (hp_n (n := 101) rfl ?_)
      refine lv_iload_n hx hb dX11_tell_101 rfl (lv_at hl 4 rfl) (hp_n (n := 102) rfl ?_)
      obtain ⟨rh23, qh23, hf⟩ := ms_bE hf
      refine d_pi (pc' := 105) Bh22 (hp_runV (As := [.int a2]) (rest := [.ref a0]) C Bh22 (n_X2_markAt n Γ l αh22 Bh22.2.2.1 bh2 (cw_k Bh22.2.2 kbh2) a2 rh23 qh23) lb_X2_markAt lv_X2_markAt lk_X11_174 (cw_k Bh22.2.2 kbh2) rfl (by decide) rfl hl.1 rfl (Nat.le_of_ble_eq_true rfl) dX11_tell_102 ⟨Nat.le_refl _, Nat.le_refl _⟩) rfl (fun Hh23 Lh23 Bh23 => ?_)
      obtain ⟨αh24, qh24, hf⟩ := ms_bE hf
      refine d_cv (pc' := 108) Bh23 (hp_runV (As := [.int rh23]) (rest := []) C Bh23 (n_X11_tellNumber n Γ l αh22 Bh23.2.2.1 a0 (cw_k Bh23.2.2 k0) rh23 αh24 qh24) lb_X11_tellNumber lv_X11_tellNumber lk_X11_415 (cw_k Bh23.2.2 k0) rfl (by decide) rfl hl.1 rfl (Nat.le_of_ble_eq_true rfl) dX11_tell_105 ⟨Nat.le_refl _, Nat.le_refl _⟩) (by decide) rfl (fun Hh24 Lh24 Bh24 => ?_)
      refine lv_aload_n hx hb dX11_tell_108 rfl (lv_at hl 2 rfl) (hp_n (n := 109) rfl ?_)
      refine st_ldcw hx hb hown (sr_X11_422 C.2) dX11_tell_109 (hp_n (n := 112) rfl ?_)
      obtain ⟨αh25, qh25, hf⟩ := ms_bE hf
      refine d_cv (pc' := 115) Bh24 (hp_runV (As := [.ref (Γ.2.2.2.2.1 2)]) (rest := []) C Bh24 (n_X11_tellText n Γ l αh24 Bh24.2.2.1 a0 (cw_k Bh24.2.2 k0) 2 (by decide) αh25 qh25) lb_X11_tellText lv_X11_tellText lk_X11_411 (cw_k Bh24.2.2 k0) rfl (by decide) rfl hl.1 rfl (Nat.le_of_ble_eq_true rfl) dX11_tell_112 ⟨Nat.le_refl _, Nat.le_refl _⟩) (by decide) rfl (fun Hh25 Lh25 Bh25 => ?_)
      refine lv_aload_n hx hb dX11_tell_115 rfl (lv_at hl 2 rfl) (hp_n (n := 116) rfl ?_)
      refine lv_aload_n hx hb dX11_tell_116 rfl (lv_at hl 2 rfl) (hp_n (n := 117) rfl ?_)
      refine q_getr (κ := 12) (k := 1) (φ := 601) (pc' := 120) C Bh25 (cw_k Bh25.2.2 k0) fl_X11_16 rfl rfl rfl (cw_r Bh25.2.2 k0 rfl rfl (by decide) (by decide)) dX11_tell_117 rfl (fun b26 eb26 kb26 => ?_)
      replace hf := ms_lE eb26 hf
      refine lv_aload hx hb dX11_tell_120 (lv_at hl 1 rfl) (hp_n (n := 122) rfl ?_)
      refine lv_iload_n hx hb dX11_tell_122 rfl (lv_at hl 5 rfl) (hp_n (n := 123) rfl ?_)
      obtain ⟨rh27, αh27, qh27, hf⟩ := hq_cE hf
      refine d_ci (pc' := 126) Bh25 (hp_runV (As := [va_rf (some bh2), .int a3]) (rest := [.ref a0]) C Bh25 (n_X10_headOf n Γ l αh25 Bh25.2.2.1 b26 (cw_k Bh25.2.2 kb26) (some bh2) (fun b h => by cases h; exact (cw_k Bh25.2.2 kbh2)) a3 (rh27, αh27) qh27) lb_X10_headOf lv_X10_headOf lk_X11_184 (cw_k Bh25.2.2 kb26) rfl (by decide) rfl hl.1 rfl (Nat.le_of_ble_eq_true rfl) dX11_tell_123 ⟨Nat.le_refl _, Nat.le_refl _⟩) (by decide) rfl (fun Hh27 Lh27 Bh27 => ?_)
      obtain ⟨αh28, qh28, hf⟩ := ms_bE hf
      refine d_cv (pc' := 129) Bh27 (hp_runV (As := [.int rh27]) (rest := []) C Bh27 (n_X11_tellNumber n Γ l αh27 Bh27.2.2.1 a0 (cw_k Bh27.2.2 k0) rh27 αh28 qh28) lb_X11_tellNumber lv_X11_tellNumber lk_X11_415 (cw_k Bh27.2.2 k0) rfl (by decide) rfl hl.1 rfl (Nat.le_of_ble_eq_true rfl) dX11_tell_126 ⟨Nat.le_refl _, Nat.le_refl _⟩) (by decide) rfl (fun Hh28 Lh28 Bh28 => ?_)
      refine lv_aload_n hx hb dX11_tell_129 rfl (lv_at hl 2 rfl) (hp_n (n := 130) rfl ?_)
      obtain ⟨αh29, qh29, hf⟩ := ms_bE hf
      refine d_cv (pc' := 133) Bh28 (hp_runV (As := []) (rest := []) C Bh28 (n_X11_tellProof n Γ l αh28 Bh28.2.2.1 a0 (cw_k Bh28.2.2 k0) αh29 qh29) lb_X11_tellProof lv_X11_tellProof lk_X11_424 (cw_k Bh28.2.2 k0) rfl (by decide) rfl hl.1 rfl (Nat.le_of_ble_eq_true rfl) dX11_tell_130 ⟨Nat.le_refl _, Nat.le_refl _⟩) (by decide) rfl (fun Hh29 Lh29 Bh29 => ?_)
      refine lv_aload_n hx hb dX11_tell_133 rfl (lv_at hl 2 rfl) (hp_n (n := 134) rfl ?_)
      refine lv_aload_n hx hb dX11_tell_134 rfl (lv_at hl 2 rfl) (hp_n (n := 135) rfl ?_)
      refine q_geti (κ := 12) (k := 11) (φ := 611) (pc' := 138) C Bh29 (cw_k Bh29.2.2 k0) fl_X11_56 rfl rfl rfl dX11_tell_135 rfl (fun x30 ex30 => ?_)
      replace hf := ms_lE ex30 hf
      obtain ⟨rh31, αh31, qh31, hf⟩ := hq_cE hf
      refine d_ci (pc' := 141) Bh29 (hp_runV (As := [.int x30]) (rest := []) C Bh29 (n_X11_answer n Γ l αh29 Bh29.2.2.1 a0 (cw_k Bh29.2.2 k0) x30 (rh31, αh31) qh31) lb_X11_answer lv_X11_answer lk_X11_115 (cw_k Bh29.2.2 k0) rfl (by decide) rfl hl.1 rfl (Nat.le_of_ble_eq_true rfl) dX11_tell_138 ⟨Nat.le_refl _, Nat.le_refl _⟩) (by decide) rfl (fun Hh31 Lh31 Bh31 => ?_)
      cases hf
      exact q_iret C Bh31 hr hlk ⟨rfl, rfl, Bh31.2.2⟩ dX11_tell_141
def f_X11_tellGrowth (n : Nat) (α : hp_T) (a0 : Nat) (a1 : Int32) (a2 : Int32) (a3 : Int32) : Option (Int32 × hp_T) :=
  ms_l (hp_R α 601 a0) fun b1 =>
  ms_b (f_X10_logAt n α b1 a1) fun rh2 =>
  hq_m rh2 (
    ms_b (f_X11_wrongGrowth n α none a2 a3) fun rh3 =>
    if rh3 = 0 then
      ms_l (hp_R α 612 a0) fun b5 =>
      ms_b (f_X8_toGrowth n α b5 a2 a3) fun αh6 =>
      ms_l (hp_R αh6 601 a0) fun b7 =>
      ms_l (hp_R αh6 612 a0) fun b8 =>
      ms_l (hp_R αh6 614 a0) fun b9 =>
      ms_b (f_X10_marksAlong n αh6 b7 b8 none b9) fun αh10 =>
      ms_l (hp_sI αh10 611 a0 (0 : Int32)) fun αh11 =>
      ms_b (f_X11_tellText n αh11 a0 12) fun αh12 =>
      ms_b (f_X11_tellNumber n αh12 a0 a2) fun αh13 =>
      ms_b (f_X11_tellText n αh13 a0 3) fun αh14 =>
      ms_l (hp_R αh14 601 a0) fun b15 =>
      hq_c (f_X10_headOf n αh14 b15 none a2) fun rh16 αh16 =>
      ms_b (f_X11_tellNumber n αh16 a0 rh16) fun αh17 =>
      ms_b (f_X11_tellText n αh17 a0 5) fun αh18 =>
      ms_b (f_X11_tellNumber n αh18 a0 a3) fun αh19 =>
      ms_b (f_X11_tellText n αh19 a0 2) fun αh20 =>
      ms_l (hp_R αh20 601 a0) fun b21 =>
      hq_c (f_X10_headOf n αh20 b21 none a3) fun rh22 αh22 =>
      ms_b (f_X11_tellNumber n αh22 a0 rh22) fun αh23 =>
      ms_b (f_X11_tellProof n αh23 a0) fun αh24 =>
      ms_l (hp_I αh24 611 a0) fun x25 =>
      hq_c (f_X11_answer n αh24 a0 x25) fun rh26 αh26 =>
      some (rh26, αh26)
    else
      hq_c (f_X11_refuse n α a0 rh3) fun rh27 αh27 =>
      some (rh27, αh27)) fun bh2 =>
  ms_b (f_X11_wrongGrowth n α (some bh2) a2 a3) fun rh28 =>
  if rh28 = 0 then
    ms_l (hp_R α 612 a0) fun b30 =>
    ms_b (f_X8_toGrowth n α b30 a2 a3) fun αh31 =>
    ms_l (hp_R αh31 601 a0) fun b32 =>
    ms_l (hp_R αh31 612 a0) fun b33 =>
    ms_l (hp_R αh31 614 a0) fun b34 =>
    ms_b (f_X10_marksAlong n αh31 b32 b33 (some bh2) b34) fun αh35 =>
    ms_l (hp_sI αh35 611 a0 (0 : Int32)) fun αh36 =>
    ms_b (f_X11_tellText n αh36 a0 12) fun αh37 =>
    ms_b (f_X11_tellNumber n αh37 a0 a2) fun αh38 =>
    ms_b (f_X11_tellText n αh38 a0 3) fun αh39 =>
    ms_l (hp_R αh39 601 a0) fun b40 =>
    hq_c (f_X10_headOf n αh39 b40 (some bh2) a2) fun rh41 αh41 =>
    ms_b (f_X11_tellNumber n αh41 a0 rh41) fun αh42 =>
    ms_b (f_X11_tellText n αh42 a0 5) fun αh43 =>
    ms_b (f_X11_tellNumber n αh43 a0 a3) fun αh44 =>
    ms_b (f_X11_tellText n αh44 a0 2) fun αh45 =>
    ms_l (hp_R αh45 601 a0) fun b46 =>
    hq_c (f_X10_headOf n αh45 b46 (some bh2) a3) fun rh47 αh47 =>
    ms_b (f_X11_tellNumber n αh47 a0 rh47) fun αh48 =>
    ms_b (f_X11_tellProof n αh48 a0) fun αh49 =>
    ms_l (hp_I αh49 611 a0) fun x50 =>
    hq_c (f_X11_answer n αh49 a0 x50) fun rh51 αh51 =>
    some (rh51, αh51)
  else
    hq_c (f_X11_refuse n α a0 rh28) fun rh52 αh52 =>
    some (rh52, αh52)
set_option maxRecDepth 100000 in
set_option maxHeartbeats 4000000 in
theorem n_X11_tellGrowth (n : Nat) (Γ : hp_G) (l : Launch) (α : hp_T) (g : GC α) (a0 : Nat) (k0 : hp_K α a0 = 12) (a1 : Int32) (a2 : Int32) (a3 : Int32) (res : (Int32 × hp_T)) (hf : f_X11_tellGrowth n α a0 a1 a2 a3 = some res) : Met l yX11_tellGrowth (hp_ws yX11_tellGrowth cX11_tellGrowth 6 (some .int)) (hp_rm 6 0 0) (hp_Pc Γ α [.ref a0, .int a1, .int a2, .int a3]) (hp_Qi Γ (fun r β => r = res.1 ∧ β = res.2 ∧ cw w_X11_tellGrowth α β)) 0 0 (hp_A Γ) := by
  unfold f_X11_tellGrowth at hf
  refine hp_start (by decide) ?_
  intro p e s m below meth c C hr hlk B0 hnm
  have C : hp_C Γ p m c cX11_tellGrowth 6 s ([.ref a0, .int a1, .int a2, .int a3] : List Value).toArray RX11 := C
  have hx := C.1.1
  have hb := C.1.2.1
  have hown := C.1.2.2.2.1
  have hts := C.1.2.2.2.2
  have B : hp_B Γ (cw w_X11_tellGrowth) s α α s.heap [] := ⟨B0.1, B0.2.1, cw_rf g⟩
  have hl := lv_entry ([.ref a0, .int a1, .int a2, .int a3]) (n := 6) (Nat.le_of_ble_eq_true rfl)
  show W p l e (hp_rm 6 0 0) s m ([.ref a0, .int a1, .int a2, .int a3] : List Value).toArray below meth c s.heap [] 0 0 (MQ below (hp_Qi Γ (fun r β => r = res.1 ∧ β = res.2 ∧ cw w_X11_tellGrowth α β)) ([.ref a0, .int a1, .int a2, .int a3] : List Value).toArray s 0 0 (hp_A Γ)) (entryFrame m ([.ref a0, .int a1, .int a2, .int a3] : List Value).toArray 6)
  rw [lg_entry_eq]
  generalize (lg_sl ([.ref a0, .int a1, .int a2, .int a3]) ++ List.replicate (6 - (lg_sl ([.ref a0, .int a1, .int a2, .int a3])).length) Slot.unset).toArray = ls at hl ⊢
  have hl : lv_has ls 6 [(0, .ref a0), (1, .int a1), (2, .int a2), (3, .int a3)] := hl
  refine lv_aload_n hx hb dX11_tellGrowth_0 rfl (lv_at hl 0 rfl) (hp_n (n := 1) rfl ?_)
  refine q_getr (κ := 12) (k := 1) (φ := 601) (pc' := 4) C B (cw_k B.2.2 k0) fl_X11_16 rfl rfl rfl (cw_r B.2.2 k0 rfl rfl (by decide) (by decide)) dX11_tellGrowth_1 rfl (fun b1 eb1 kb1 => ?_)
  replace hf := ms_lE eb1 hf
  refine lv_iload_n hx hb dX11_tellGrowth_4 rfl (lv_at hl 1 rfl) (hp_n (n := 5) rfl ?_)
  obtain ⟨rh2, qh2, hf⟩ := ms_bE hf
  refine d_pq (pc' := 8) B (hp_runV (As := [.int a1]) (rest := []) C B (n_X10_logAt n Γ l α B.2.2.1 b1 (cw_k B.2.2 kb1) a1 rh2 qh2) lb_X10_logAt lv_X10_logAt lk_X11_163 (cw_k B.2.2 kb1) rfl (by decide) rfl hl.1 rfl (Nat.le_of_ble_eq_true rfl) dX11_tellGrowth_5 ⟨Nat.le_refl _, Nat.le_refl _⟩) rfl (fun Hh2 Lh2 Bh2 kh2 => ?_)
  rcases rh2 with _ | bh2
  ·
    replace hf := hq_N hf
    refine lv_astoreN (lv' := [(4, .null), (0, .ref a0), (1, .int a1), (2, .int a2), (3, .int a3)]) hx hb dX11_tellGrowth_8 hl (by decide) rfl (fun ls hl => hp_n (n := 10) rfl ?_)
    refine lv_aloadN hx hb dX11_tellGrowth_10 (lv_at hl 0 rfl) (hp_n (n := 12) rfl ?_)
    refine lv_iload_n hx hb dX11_tellGrowth_12 rfl (lv_at hl 3 rfl) (hp_n (n := 13) rfl ?_)
    refine lv_iload_n hx hb dX11_tellGrowth_13 rfl (lv_at hl 4 rfl) (hp_n (n := 14) rfl ?_)
    obtain ⟨rh3, qh3, hf⟩ := ms_bE hf
    refine d_pi (pc' := 17) Bh2 (hp_runS (As := [va_rf none, .int a2, .int a3]) (rest := []) C Bh2 (n_X11_wrongGrowth n Γ l α Bh2.2.2.1 none (fun b h => by cases h) a2 a3 rh3 qh3) lb_X11_wrongGrowth ls_X11_wrongGrowth lk_X11_180 rfl (by decide) rfl hl.1 rfl (Nat.le_of_ble_eq_true rfl) dX11_tellGrowth_14 ⟨Nat.le_refl _, Nat.le_refl _⟩) rfl (fun Hh3 Lh3 Bh3 => ?_)
    refine lv_istore (lv' := [(5, .int rh3), (4, .null), (0, .ref a0), (1, .int a1), (2, .int a2), (3, .int a3)]) hx hb dX11_tellGrowth_17 hl (by decide) rfl (fun ls hl => hp_n (n := 19) rfl ?_)
    refine lv_iload hx hb dX11_tellGrowth_19 (lv_at hl 0 rfl) (hp_n (n := 21) rfl ?_)
    refine lv_if_eq (tgt := 31) hx hb dX11_tellGrowth_21 (by decide) (fun c4 => ?_) (fun c4 => hp_n (n := 24) rfl ?_)
    ·
      replace hf := ms_iT c4 hf
      refine lv_aload_n hx hb dX11_tellGrowth_31 rfl (lv_at hl 2 rfl) (hp_n (n := 32) rfl ?_)
      refine q_getr (κ := 12) (k := 12) (φ := 612) (pc' := 35) C Bh3 (cw_k Bh3.2.2 k0) fl_X11_62 rfl rfl rfl (cw_r Bh3.2.2 k0 rfl rfl (by decide) (by decide)) dX11_tellGrowth_32 rfl (fun b5 eb5 kb5 => ?_)
      replace hf := ms_lE eb5 hf
      refine lv_iload_n hx hb dX11_tellGrowth_35 rfl (lv_at hl 4 rfl) (hp_n (n := 36) rfl ?_)
      refine lv_iload_n hx hb dX11_tellGrowth_36 rfl (lv_at hl 5 rfl) (hp_n (n := 37) rfl ?_)
      obtain ⟨αh6, qh6, hf⟩ := ms_bE hf
      refine d_cv (pc' := 40) Bh3 (hp_runV (As := [.int a2, .int a3]) (rest := []) C Bh3 (n_X8_toGrowth n Γ l α Bh3.2.2.1 b5 (cw_k Bh3.2.2 kb5) a2 a3 αh6 qh6) lb_X8_toGrowth lv_X8_toGrowth lk_X11_274 (cw_k Bh3.2.2 kb5) rfl (by decide) rfl hl.1 rfl (Nat.le_of_ble_eq_true rfl) dX11_tellGrowth_37 ⟨Nat.le_refl _, Nat.le_refl _⟩) (by decide) rfl (fun Hh6 Lh6 Bh6 => ?_)
      refine lv_aload_n hx hb dX11_tellGrowth_40 rfl (lv_at hl 2 rfl) (hp_n (n := 41) rfl ?_)
      refine q_getr (κ := 12) (k := 1) (φ := 601) (pc' := 44) C Bh6 (cw_k Bh6.2.2 k0) fl_X11_16 rfl rfl rfl (cw_r Bh6.2.2 k0 rfl rfl (by decide) (by decide)) dX11_tellGrowth_41 rfl (fun b7 eb7 kb7 => ?_)
      replace hf := ms_lE eb7 hf
      refine lv_aload_n hx hb dX11_tellGrowth_44 rfl (lv_at hl 2 rfl) (hp_n (n := 45) rfl ?_)
      refine q_getr (κ := 12) (k := 12) (φ := 612) (pc' := 48) C Bh6 (cw_k Bh6.2.2 k0) fl_X11_62 rfl rfl rfl (cw_r Bh6.2.2 k0 rfl rfl (by decide) (by decide)) dX11_tellGrowth_45 rfl (fun b8 eb8 kb8 => ?_)
      replace hf := ms_lE eb8 hf
      refine lv_aloadN hx hb dX11_tellGrowth_48 (lv_at hl 1 rfl) (hp_n (n := 50) rfl ?_)
      refine lv_aload_n hx hb dX11_tellGrowth_50 rfl (lv_at hl 2 rfl) (hp_n (n := 51) rfl ?_)
      refine q_getr (κ := 12) (k := 14) (φ := 614) (pc' := 54) C Bh6 (cw_k Bh6.2.2 k0) fl_X11_69 rfl rfl rfl (cw_r Bh6.2.2 k0 rfl rfl (by decide) (by decide)) dX11_tellGrowth_51 rfl (fun b9 eb9 kb9 => ?_)
      replace hf := ms_lE eb9 hf
      obtain ⟨αh10, qh10, hf⟩ := ms_bE hf
      refine d_cv (pc' := 57) Bh6 (hp_runV (As := [.ref b8, va_rf none, .ref b9]) (rest := []) C Bh6 (n_X10_marksAlong n Γ l αh6 Bh6.2.2.1 b7 (cw_k Bh6.2.2 kb7) b8 (cw_k Bh6.2.2 kb8) none (fun b h => by cases h) b9 (cw_k Bh6.2.2 kb9) αh10 qh10) lb_X10_marksAlong lv_X10_marksAlong lk_X11_270 (cw_k Bh6.2.2 kb7) rfl (by decide) rfl hl.1 rfl (Nat.le_of_ble_eq_true rfl) dX11_tellGrowth_54 ⟨Nat.le_refl _, Nat.le_refl _⟩) (by decide) rfl (fun Hh10 Lh10 Bh10 => ?_)
      refine lv_aload_n hx hb dX11_tellGrowth_57 rfl (lv_at hl 2 rfl) (hp_n (n := 58) rfl ?_)
      refine lv_iconst (v := 0) hx hb dX11_tellGrowth_58 (by decide) (hp_n (n := 59) rfl ?_)
      refine q_puti (κ := 12) (k := 11) (φ := 611) (pc' := 62) C Bh10 (cw_k Bh10.2.2 k0) fl_X11_56 rfl rfl rfl rfl rfl rfl (cw_sI Bh10.2.2 (by decide) (fun h => absurd h (by decide))) dX11_tellGrowth_59 rfl (fun αh11 Hh11 Lh11 eh11 Bh11 => ?_)
      replace hf := ms_lE eh11 hf
      refine lv_aload_n hx hb dX11_tellGrowth_62 rfl (lv_at hl 2 rfl) (hp_n (n := 63) rfl ?_)
      refine st_ldcw hx hb hown (sr_X11_427 C.2) dX11_tellGrowth_63 (hp_n (n := 66) rfl ?_)
      obtain ⟨αh12, qh12, hf⟩ := ms_bE hf
      refine d_cv (pc' := 69) Bh11 (hp_runV (As := [.ref (Γ.2.2.2.2.1 12)]) (rest := []) C Bh11 (n_X11_tellText n Γ l αh11 Bh11.2.2.1 a0 (cw_k Bh11.2.2 k0) 12 (by decide) αh12 qh12) lb_X11_tellText lv_X11_tellText lk_X11_411 (cw_k Bh11.2.2 k0) rfl (by decide) rfl hl.1 rfl (Nat.le_of_ble_eq_true rfl) dX11_tellGrowth_66 ⟨Nat.le_refl _, Nat.le_refl _⟩) (by decide) rfl (fun Hh12 Lh12 Bh12 => ?_)
      refine lv_aload_n hx hb dX11_tellGrowth_69 rfl (lv_at hl 2 rfl) (hp_n (n := 70) rfl ?_)
      refine lv_iload_n hx hb dX11_tellGrowth_70 rfl (lv_at hl 4 rfl) (hp_n (n := 71) rfl ?_)
      obtain ⟨αh13, qh13, hf⟩ := ms_bE hf
      refine d_cv (pc' := 74) Bh12 (hp_runV (As := [.int a2]) (rest := []) C Bh12 (n_X11_tellNumber n Γ l αh12 Bh12.2.2.1 a0 (cw_k Bh12.2.2 k0) a2 αh13 qh13) lb_X11_tellNumber lv_X11_tellNumber lk_X11_415 (cw_k Bh12.2.2 k0) rfl (by decide) rfl hl.1 rfl (Nat.le_of_ble_eq_true rfl) dX11_tellGrowth_71 ⟨Nat.le_refl _, Nat.le_refl _⟩) (by decide) rfl (fun Hh13 Lh13 Bh13 => ?_)
      refine lv_aload_n hx hb dX11_tellGrowth_74 rfl (lv_at hl 2 rfl) (hp_n (n := 75) rfl ?_)
      refine st_ldcw hx hb hown (sr_X11_420 C.2) dX11_tellGrowth_75 (hp_n (n := 78) rfl ?_)
      obtain ⟨αh14, qh14, hf⟩ := ms_bE hf
      refine d_cv (pc' := 81) Bh13 (hp_runV (As := [.ref (Γ.2.2.2.2.1 3)]) (rest := []) C Bh13 (n_X11_tellText n Γ l αh13 Bh13.2.2.1 a0 (cw_k Bh13.2.2 k0) 3 (by decide) αh14 qh14) lb_X11_tellText lv_X11_tellText lk_X11_411 (cw_k Bh13.2.2 k0) rfl (by decide) rfl hl.1 rfl (Nat.le_of_ble_eq_true rfl) dX11_tellGrowth_78 ⟨Nat.le_refl _, Nat.le_refl _⟩) (by decide) rfl (fun Hh14 Lh14 Bh14 => ?_)
      refine lv_aload_n hx hb dX11_tellGrowth_81 rfl (lv_at hl 2 rfl) (hp_n (n := 82) rfl ?_)
      refine lv_aload_n hx hb dX11_tellGrowth_82 rfl (lv_at hl 2 rfl) (hp_n (n := 83) rfl ?_)
      refine q_getr (κ := 12) (k := 1) (φ := 601) (pc' := 86) C Bh14 (cw_k Bh14.2.2 k0) fl_X11_16 rfl rfl rfl (cw_r Bh14.2.2 k0 rfl rfl (by decide) (by decide)) dX11_tellGrowth_83 rfl (fun b15 eb15 kb15 => ?_)
      replace hf := ms_lE eb15 hf
      refine lv_aloadN hx hb dX11_tellGrowth_86 (lv_at hl 1 rfl) (hp_n (n := 88) rfl ?_)
      refine lv_iload_n hx hb dX11_tellGrowth_88 rfl (lv_at hl 4 rfl) (hp_n (n := 89) rfl ?_)
      obtain ⟨rh16, αh16, qh16, hf⟩ := hq_cE hf
      refine d_ci (pc' := 92) Bh14 (hp_runV (As := [va_rf none, .int a2]) (rest := [.ref a0]) C Bh14 (n_X10_headOf n Γ l αh14 Bh14.2.2.1 b15 (cw_k Bh14.2.2 kb15) none (fun b h => by cases h) a2 (rh16, αh16) qh16) lb_X10_headOf lv_X10_headOf lk_X11_184 (cw_k Bh14.2.2 kb15) rfl (by decide) rfl hl.1 rfl (Nat.le_of_ble_eq_true rfl) dX11_tellGrowth_89 ⟨Nat.le_refl _, Nat.le_refl _⟩) (by decide) rfl (fun Hh16 Lh16 Bh16 => ?_)
      obtain ⟨αh17, qh17, hf⟩ := ms_bE hf
      refine d_cv (pc' := 95) Bh16 (hp_runV (As := [.int rh16]) (rest := []) C Bh16 (n_X11_tellNumber n Γ l αh16 Bh16.2.2.1 a0 (cw_k Bh16.2.2 k0) rh16 αh17 qh17) lb_X11_tellNumber lv_X11_tellNumber lk_X11_415 (cw_k Bh16.2.2 k0) rfl (by decide) rfl hl.1 rfl (Nat.le_of_ble_eq_true rfl) dX11_tellGrowth_92 ⟨Nat.le_refl _, Nat.le_refl _⟩) (by decide) rfl (fun Hh17 Lh17 Bh17 => ?_)
      refine lv_aload_n hx hb dX11_tellGrowth_95 rfl (lv_at hl 2 rfl) (hp_n (n := 96) rfl ?_)
      refine st_ldcw hx hb hown (sr_X11_429 C.2) dX11_tellGrowth_96 (hp_n (n := 99) rfl ?_)
      obtain ⟨αh18, qh18, hf⟩ := ms_bE hf
      refine d_cv (pc' := 102) Bh17 (hp_runV (As := [.ref (Γ.2.2.2.2.1 5)]) (rest := []) C Bh17 (n_X11_tellText n Γ l αh17 Bh17.2.2.1 a0 (cw_k Bh17.2.2 k0) 5 (by decide) αh18 qh18) lb_X11_tellText lv_X11_tellText lk_X11_411 (cw_k Bh17.2.2 k0) rfl (by decide) rfl hl.1 rfl (Nat.le_of_ble_eq_true rfl) dX11_tellGrowth_99 ⟨Nat.le_refl _, Nat.le_refl _⟩) (by decide) rfl (fun Hh18 Lh18 Bh18 => ?_)
      refine lv_aload_n hx hb dX11_tellGrowth_102 rfl (lv_at hl 2 rfl) (hp_n (n := 103) rfl ?_)
      refine lv_iload_n hx hb dX11_tellGrowth_103 rfl (lv_at hl 5 rfl) (hp_n (n := 104) rfl ?_)
      obtain ⟨αh19, qh19, hf⟩ := ms_bE hf
      refine d_cv (pc' := 107) Bh18 (hp_runV (As := [.int a3]) (rest := []) C Bh18 (n_X11_tellNumber n Γ l αh18 Bh18.2.2.1 a0 (cw_k Bh18.2.2 k0) a3 αh19 qh19) lb_X11_tellNumber lv_X11_tellNumber lk_X11_415 (cw_k Bh18.2.2 k0) rfl (by decide) rfl hl.1 rfl (Nat.le_of_ble_eq_true rfl) dX11_tellGrowth_104 ⟨Nat.le_refl _, Nat.le_refl _⟩) (by decide) rfl (fun Hh19 Lh19 Bh19 => ?_)
      refine lv_aload_n hx hb dX11_tellGrowth_107 rfl (lv_at hl 2 rfl) (hp_n (n := 108) rfl ?_)
      refine st_ldcw hx hb hown (sr_X11_422 C.2) dX11_tellGrowth_108 (hp_n (n := 111) rfl ?_)
      obtain ⟨αh20, qh20, hf⟩ := ms_bE hf
      refine d_cv (pc' := 114) Bh19 (hp_runV (As := [.ref (Γ.2.2.2.2.1 2)]) (rest := []) C Bh19 (n_X11_tellText n Γ l αh19 Bh19.2.2.1 a0 (cw_k Bh19.2.2 k0) 2 (by decide) αh20 qh20) lb_X11_tellText lv_X11_tellText lk_X11_411 (cw_k Bh19.2.2 k0) rfl (by decide) rfl hl.1 rfl (Nat.le_of_ble_eq_true rfl) dX11_tellGrowth_111 ⟨Nat.le_refl _, Nat.le_refl _⟩) (by decide) rfl (fun Hh20 Lh20 Bh20 => ?_)
      refine lv_aload_n hx hb dX11_tellGrowth_114 rfl (lv_at hl 2 rfl) (hp_n (n := 115) rfl ?_)
      refine lv_aload_n hx hb dX11_tellGrowth_115 rfl (lv_at hl 2 rfl) (hp_n (n := 116) rfl ?_)
      refine q_getr (κ := 12) (k := 1) (φ := 601) (pc' := 119) C Bh20 (cw_k Bh20.2.2 k0) fl_X11_16 rfl rfl rfl (cw_r Bh20.2.2 k0 rfl rfl (by decide) (by decide)) dX11_tellGrowth_116 rfl (fun b21 eb21 kb21 => ?_)
      replace hf := ms_lE eb21 hf
      refine lv_aloadN hx hb dX11_tellGrowth_119 (lv_at hl 1 rfl) (hp_n (n := 121) rfl ?_)
      refine lv_iload_n hx hb dX11_tellGrowth_121 rfl (lv_at hl 5 rfl) (hp_n (n := 122) rfl ?_)
      obtain ⟨rh22, αh22, qh22, hf⟩ := hq_cE hf
      refine d_ci (pc' := 125) Bh20 (hp_runV (As := [va_rf none, .int a3]) (rest := [.ref a0]) C Bh20 (n_X10_headOf n Γ l αh20 Bh20.2.2.1 b21 (cw_k Bh20.2.2 kb21) none (fun b h => by cases h) a3 (rh22, αh22) qh22) lb_X10_headOf lv_X10_headOf lk_X11_184 (cw_k Bh20.2.2 kb21) rfl (by decide) rfl hl.1 rfl (Nat.le_of_ble_eq_true rfl) dX11_tellGrowth_122 ⟨Nat.le_refl _, Nat.le_refl _⟩) (by decide) rfl (fun Hh22 Lh22 Bh22 => ?_)
      obtain ⟨αh23, qh23, hf⟩ := ms_bE hf
      refine d_cv (pc' := 128) Bh22 (hp_runV (As := [.int rh22]) (rest := []) C Bh22 (n_X11_tellNumber n Γ l αh22 Bh22.2.2.1 a0 (cw_k Bh22.2.2 k0) rh22 αh23 qh23) lb_X11_tellNumber lv_X11_tellNumber lk_X11_415 (cw_k Bh22.2.2 k0) rfl (by decide) rfl hl.1 rfl (Nat.le_of_ble_eq_true rfl) dX11_tellGrowth_125 ⟨Nat.le_refl _, Nat.le_refl _⟩) (by decide) rfl (fun Hh23 Lh23 Bh23 => ?_)
      refine lv_aload_n hx hb dX11_tellGrowth_128 rfl (lv_at hl 2 rfl) (hp_n (n := 129) rfl ?_)
      obtain ⟨αh24, qh24, hf⟩ := ms_bE hf
      refine d_cv (pc' := 132) Bh23 (hp_runV (As := []) (rest := []) C Bh23 (n_X11_tellProof n Γ l αh23 Bh23.2.2.1 a0 (cw_k Bh23.2.2 k0) αh24 qh24) lb_X11_tellProof lv_X11_tellProof lk_X11_424 (cw_k Bh23.2.2 k0) rfl (by decide) rfl hl.1 rfl (Nat.le_of_ble_eq_true rfl) dX11_tellGrowth_129 ⟨Nat.le_refl _, Nat.le_refl _⟩) (by decide) rfl (fun Hh24 Lh24 Bh24 => ?_)
      refine lv_aload_n hx hb dX11_tellGrowth_132 rfl (lv_at hl 2 rfl) (hp_n (n := 133) rfl ?_)
      refine lv_aload_n hx hb dX11_tellGrowth_133 rfl (lv_at hl 2 rfl) (hp_n (n := 134) rfl ?_)
      refine q_geti (κ := 12) (k := 11) (φ := 611) (pc' := 137) C Bh24 (cw_k Bh24.2.2 k0) fl_X11_56 rfl rfl rfl dX11_tellGrowth_134 rfl (fun x25 ex25 => ?_)
      replace hf := ms_lE ex25 hf
      obtain ⟨rh26, αh26, qh26, hf⟩ := hq_cE hf
      refine d_ci (pc' := 140) Bh24 (hp_runV (As := [.int x25]) (rest := []) C Bh24 (n_X11_answer n Γ l αh24 Bh24.2.2.1 a0 (cw_k Bh24.2.2 k0) x25 (rh26, αh26) qh26) lb_X11_answer lv_X11_answer lk_X11_115 (cw_k Bh24.2.2 k0) rfl (by decide) rfl hl.1 rfl (Nat.le_of_ble_eq_true rfl) dX11_tellGrowth_137 ⟨Nat.le_refl _, Nat.le_refl _⟩) (by decide) rfl (fun Hh26 Lh26 Bh26 => ?_)
      cases hf
      exact q_iret C Bh26 hr hlk ⟨rfl, rfl, Bh26.2.2⟩ dX11_tellGrowth_140
    ·
      replace hf := ms_iF c4 hf
      refine lv_aload_n hx hb dX11_tellGrowth_24 rfl (lv_at hl 2 rfl) (hp_n (n := 25) rfl ?_)
      refine lv_iload hx hb dX11_tellGrowth_25 (lv_at hl 0 rfl) (hp_n (n := 27) rfl ?_)
      obtain ⟨rh27, αh27, qh27, hf⟩ := hq_cE hf
      refine d_ci (pc' := 30) Bh3 (hp_runV (As := [.int rh3]) (rest := []) C Bh3 (n_X11_refuse n Γ l α Bh3.2.2.1 a0 (cw_k Bh3.2.2 k0) rh3 (rh27, αh27) qh27) lb_X11_refuse lv_X11_refuse lk_X11_98 (cw_k Bh3.2.2 k0) rfl (by decide) rfl hl.1 rfl (Nat.le_of_ble_eq_true rfl) dX11_tellGrowth_27 ⟨Nat.le_refl _, Nat.le_refl _⟩) (by decide) rfl (fun Hh27 Lh27 Bh27 => ?_)
      cases hf
      exact q_iret C Bh27 hr hlk ⟨rfl, rfl, Bh27.2.2⟩ dX11_tellGrowth_30
  ·
    replace hf := hq_S hf
    have kbh2 := kh2 bh2 rfl
    refine lv_astore (lv' := [(4, .ref bh2), (0, .ref a0), (1, .int a1), (2, .int a2), (3, .int a3)]) hx hb dX11_tellGrowth_8 hl (by decide) rfl (fun ls hl => hp_n (n := 10) rfl ?_)
    refine lv_aload hx hb dX11_tellGrowth_10 (lv_at hl 0 rfl) (hp_n (n := 12) rfl ?_)
    refine lv_iload_n hx hb dX11_tellGrowth_12 rfl (lv_at hl 3 rfl) (hp_n (n := 13) rfl ?_)
    refine lv_iload_n hx hb dX11_tellGrowth_13 rfl (lv_at hl 4 rfl) (hp_n (n := 14) rfl ?_)
    obtain ⟨rh28, qh28, hf⟩ := ms_bE hf
    refine d_pi (pc' := 17) Bh2 (hp_runS (As := [va_rf (some bh2), .int a2, .int a3]) (rest := []) C Bh2 (n_X11_wrongGrowth n Γ l α Bh2.2.2.1 (some bh2) (fun b h => by cases h; exact (cw_k Bh2.2.2 kbh2)) a2 a3 rh28 qh28) lb_X11_wrongGrowth ls_X11_wrongGrowth lk_X11_180 rfl (by decide) rfl hl.1 rfl (Nat.le_of_ble_eq_true rfl) dX11_tellGrowth_14 ⟨Nat.le_refl _, Nat.le_refl _⟩) rfl (fun Hh28 Lh28 Bh28 => ?_)
    refine lv_istore (lv' := [(5, .int rh28), (4, .ref bh2), (0, .ref a0), (1, .int a1), (2, .int a2), (3, .int a3)]) hx hb dX11_tellGrowth_17 hl (by decide) rfl (fun ls hl => hp_n (n := 19) rfl ?_)
    refine lv_iload hx hb dX11_tellGrowth_19 (lv_at hl 0 rfl) (hp_n (n := 21) rfl ?_)
    refine lv_if_eq (tgt := 31) hx hb dX11_tellGrowth_21 (by decide) (fun c29 => ?_) (fun c29 => hp_n (n := 24) rfl ?_)
    ·
      replace hf := ms_iT c29 hf
      refine lv_aload_n hx hb dX11_tellGrowth_31 rfl (lv_at hl 2 rfl) (hp_n (n := 32) rfl ?_)
      refine q_getr (κ := 12) (k := 12) (φ := 612) (pc' := 35) C Bh28 (cw_k Bh28.2.2 k0) fl_X11_62 rfl rfl rfl (cw_r Bh28.2.2 k0 rfl rfl (by decide) (by decide)) dX11_tellGrowth_32 rfl (fun b30 eb30 kb30 => ?_)
      replace hf := ms_lE eb30 hf
      refine lv_iload_n hx hb dX11_tellGrowth_35 rfl (lv_at hl 4 rfl) (hp_n (n := 36) rfl ?_)
      refine lv_iload_n hx hb dX11_tellGrowth_36 rfl (lv_at hl 5 rfl) (hp_n (n := 37) rfl ?_)
      obtain ⟨αh31, qh31, hf⟩ := ms_bE hf
      refine d_cv (pc' := 40) Bh28 (hp_runV (As := [.int a2, .int a3]) (rest := []) C Bh28 (n_X8_toGrowth n Γ l α Bh28.2.2.1 b30 (cw_k Bh28.2.2 kb30) a2 a3 αh31 qh31) lb_X8_toGrowth lv_X8_toGrowth lk_X11_274 (cw_k Bh28.2.2 kb30) rfl (by decide) rfl hl.1 rfl (Nat.le_of_ble_eq_true rfl) dX11_tellGrowth_37 ⟨Nat.le_refl _, Nat.le_refl _⟩) (by decide) rfl (fun Hh31 Lh31 Bh31 => ?_)
      refine lv_aload_n hx hb dX11_tellGrowth_40 rfl (lv_at hl 2 rfl) (hp_n (n := 41) rfl ?_)
      refine q_getr (κ := 12) (k := 1) (φ := 601) (pc' := 44) C Bh31 (cw_k Bh31.2.2 k0) fl_X11_16 rfl rfl rfl (cw_r Bh31.2.2 k0 rfl rfl (by decide) (by decide)) dX11_tellGrowth_41 rfl (fun b32 eb32 kb32 => ?_)
      replace hf := ms_lE eb32 hf
      refine lv_aload_n hx hb dX11_tellGrowth_44 rfl (lv_at hl 2 rfl) (hp_n (n := 45) rfl ?_)
      refine q_getr (κ := 12) (k := 12) (φ := 612) (pc' := 48) C Bh31 (cw_k Bh31.2.2 k0) fl_X11_62 rfl rfl rfl (cw_r Bh31.2.2 k0 rfl rfl (by decide) (by decide)) dX11_tellGrowth_45 rfl (fun b33 eb33 kb33 => ?_)
      replace hf := ms_lE eb33 hf
      refine lv_aload hx hb dX11_tellGrowth_48 (lv_at hl 1 rfl) (hp_n (n := 50) rfl ?_)
      refine lv_aload_n hx hb dX11_tellGrowth_50 rfl (lv_at hl 2 rfl) (hp_n (n := 51) rfl ?_)
      refine q_getr (κ := 12) (k := 14) (φ := 614) (pc' := 54) C Bh31 (cw_k Bh31.2.2 k0) fl_X11_69 rfl rfl rfl (cw_r Bh31.2.2 k0 rfl rfl (by decide) (by decide)) dX11_tellGrowth_51 rfl (fun b34 eb34 kb34 => ?_)
      replace hf := ms_lE eb34 hf
      obtain ⟨αh35, qh35, hf⟩ := ms_bE hf
      refine d_cv (pc' := 57) Bh31 (hp_runV (As := [.ref b33, va_rf (some bh2), .ref b34]) (rest := []) C Bh31 (n_X10_marksAlong n Γ l αh31 Bh31.2.2.1 b32 (cw_k Bh31.2.2 kb32) b33 (cw_k Bh31.2.2 kb33) (some bh2) (fun b h => by cases h; exact (cw_k Bh31.2.2 kbh2)) b34 (cw_k Bh31.2.2 kb34) αh35 qh35) lb_X10_marksAlong lv_X10_marksAlong lk_X11_270 (cw_k Bh31.2.2 kb32) rfl (by decide) rfl hl.1 rfl (Nat.le_of_ble_eq_true rfl) dX11_tellGrowth_54 ⟨Nat.le_refl _, Nat.le_refl _⟩) (by decide) rfl (fun Hh35 Lh35 Bh35 => ?_)
      refine lv_aload_n hx hb dX11_tellGrowth_57 rfl (lv_at hl 2 rfl) (hp_n (n := 58) rfl ?_)
      refine lv_iconst (v := 0) hx hb dX11_tellGrowth_58 (by decide) (hp_n (n := 59) rfl ?_)
      refine q_puti (κ := 12) (k := 11) (φ := 611) (pc' := 62) C Bh35 (cw_k Bh35.2.2 k0) fl_X11_56 rfl rfl rfl rfl rfl rfl (cw_sI Bh35.2.2 (by decide) (fun h => absurd h (by decide))) dX11_tellGrowth_59 rfl (fun αh36 Hh36 Lh36 eh36 Bh36 => ?_)
      replace hf := ms_lE eh36 hf
      refine lv_aload_n hx hb dX11_tellGrowth_62 rfl (lv_at hl 2 rfl) (hp_n (n := 63) rfl ?_)
      refine st_ldcw hx hb hown (sr_X11_427 C.2) dX11_tellGrowth_63 (hp_n (n := 66) rfl ?_)
      obtain ⟨αh37, qh37, hf⟩ := ms_bE hf
      refine d_cv (pc' := 69) Bh36 (hp_runV (As := [.ref (Γ.2.2.2.2.1 12)]) (rest := []) C Bh36 (n_X11_tellText n Γ l αh36 Bh36.2.2.1 a0 (cw_k Bh36.2.2 k0) 12 (by decide) αh37 qh37) lb_X11_tellText lv_X11_tellText lk_X11_411 (cw_k Bh36.2.2 k0) rfl (by decide) rfl hl.1 rfl (Nat.le_of_ble_eq_true rfl) dX11_tellGrowth_66 ⟨Nat.le_refl _, Nat.le_refl _⟩) (by decide) rfl (fun Hh37 Lh37 Bh37 => ?_)
      refine lv_aload_n hx hb dX11_tellGrowth_69 rfl (lv_at hl 2 rfl) (hp_n (n := 70) rfl ?_)
      refine lv_iload_n hx hb dX11_tellGrowth_70 rfl (lv_at hl 4 rfl) (hp_n (n := 71) rfl ?_)
      obtain ⟨αh38, qh38, hf⟩ := ms_bE hf
      refine d_cv (pc' := 74) Bh37 (hp_runV (As := [.int a2]) (rest := []) C Bh37 (n_X11_tellNumber n Γ l αh37 Bh37.2.2.1 a0 (cw_k Bh37.2.2 k0) a2 αh38 qh38) lb_X11_tellNumber lv_X11_tellNumber lk_X11_415 (cw_k Bh37.2.2 k0) rfl (by decide) rfl hl.1 rfl (Nat.le_of_ble_eq_true rfl) dX11_tellGrowth_71 ⟨Nat.le_refl _, Nat.le_refl _⟩) (by decide) rfl (fun Hh38 Lh38 Bh38 => ?_)
      refine lv_aload_n hx hb dX11_tellGrowth_74 rfl (lv_at hl 2 rfl) (hp_n (n := 75) rfl ?_)
      refine st_ldcw hx hb hown (sr_X11_420 C.2) dX11_tellGrowth_75 (hp_n (n := 78) rfl ?_)
      obtain ⟨αh39, qh39, hf⟩ := ms_bE hf
      refine d_cv (pc' := 81) Bh38 (hp_runV (As := [.ref (Γ.2.2.2.2.1 3)]) (rest := []) C Bh38 (n_X11_tellText n Γ l αh38 Bh38.2.2.1 a0 (cw_k Bh38.2.2 k0) 3 (by decide) αh39 qh39) lb_X11_tellText lv_X11_tellText lk_X11_411 (cw_k Bh38.2.2 k0) rfl (by decide) rfl hl.1 rfl (Nat.le_of_ble_eq_true rfl) dX11_tellGrowth_78 ⟨Nat.le_refl _, Nat.le_refl _⟩) (by decide) rfl (fun Hh39 Lh39 Bh39 => ?_)
      refine lv_aload_n hx hb dX11_tellGrowth_81 rfl (lv_at hl 2 rfl) (hp_n (n := 82) rfl ?_)
      refine lv_aload_n hx hb dX11_tellGrowth_82 rfl (lv_at hl 2 rfl) (hp_n (n := 83) rfl ?_)
      refine q_getr (κ := 12) (k := 1) (φ := 601) (pc' := 86) C Bh39 (cw_k Bh39.2.2 k0) fl_X11_16 rfl rfl rfl (cw_r Bh39.2.2 k0 rfl rfl (by decide) (by decide)) dX11_tellGrowth_83 rfl (fun b40 eb40 kb40 => ?_)
      replace hf := ms_lE eb40 hf
      refine lv_aload hx hb dX11_tellGrowth_86 (lv_at hl 1 rfl) (hp_n (n := 88) rfl ?_)
      refine lv_iload_n hx hb dX11_tellGrowth_88 rfl (lv_at hl 4 rfl) (hp_n (n := 89) rfl ?_)
      obtain ⟨rh41, αh41, qh41, hf⟩ := hq_cE hf
      refine d_ci (pc' := 92) Bh39 (hp_runV (As := [va_rf (some bh2), .int a2]) (rest := [.ref a0]) C Bh39 (n_X10_headOf n Γ l αh39 Bh39.2.2.1 b40 (cw_k Bh39.2.2 kb40) (some bh2) (fun b h => by cases h; exact (cw_k Bh39.2.2 kbh2)) a2 (rh41, αh41) qh41) lb_X10_headOf lv_X10_headOf lk_X11_184 (cw_k Bh39.2.2 kb40) rfl (by decide) rfl hl.1 rfl (Nat.le_of_ble_eq_true rfl) dX11_tellGrowth_89 ⟨Nat.le_refl _, Nat.le_refl _⟩) (by decide) rfl (fun Hh41 Lh41 Bh41 => ?_)
      obtain ⟨αh42, qh42, hf⟩ := ms_bE hf
      refine d_cv (pc' := 95) Bh41 (hp_runV (As := [.int rh41]) (rest := []) C Bh41 (n_X11_tellNumber n Γ l αh41 Bh41.2.2.1 a0 (cw_k Bh41.2.2 k0) rh41 αh42 qh42) lb_X11_tellNumber lv_X11_tellNumber lk_X11_415 (cw_k Bh41.2.2 k0) rfl (by decide) rfl hl.1 rfl (Nat.le_of_ble_eq_true rfl) dX11_tellGrowth_92 ⟨Nat.le_refl _, Nat.le_refl _⟩) (by decide) rfl (fun Hh42 Lh42 Bh42 => ?_)
      refine lv_aload_n hx hb dX11_tellGrowth_95 rfl (lv_at hl 2 rfl) (hp_n (n := 96) rfl ?_)
      refine st_ldcw hx hb hown (sr_X11_429 C.2) dX11_tellGrowth_96 (hp_n (n := 99) rfl ?_)
      obtain ⟨αh43, qh43, hf⟩ := ms_bE hf
      refine d_cv (pc' := 102) Bh42 (hp_runV (As := [.ref (Γ.2.2.2.2.1 5)]) (rest := []) C Bh42 (n_X11_tellText n Γ l αh42 Bh42.2.2.1 a0 (cw_k Bh42.2.2 k0) 5 (by decide) αh43 qh43) lb_X11_tellText lv_X11_tellText lk_X11_411 (cw_k Bh42.2.2 k0) rfl (by decide) rfl hl.1 rfl (Nat.le_of_ble_eq_true rfl) dX11_tellGrowth_99 ⟨Nat.le_refl _, Nat.le_refl _⟩) (by decide) rfl (fun Hh43 Lh43 Bh43 => ?_)
      refine lv_aload_n hx hb dX11_tellGrowth_102 rfl (lv_at hl 2 rfl) (hp_n (n := 103) rfl ?_)
      refine lv_iload_n hx hb dX11_tellGrowth_103 rfl (lv_at hl 5 rfl) (hp_n (n := 104) rfl ?_)
      obtain ⟨αh44, qh44, hf⟩ := ms_bE hf
      refine d_cv (pc' := 107) Bh43 (hp_runV (As := [.int a3]) (rest := []) C Bh43 (n_X11_tellNumber n Γ l αh43 Bh43.2.2.1 a0 (cw_k Bh43.2.2 k0) a3 αh44 qh44) lb_X11_tellNumber lv_X11_tellNumber lk_X11_415 (cw_k Bh43.2.2 k0) rfl (by decide) rfl hl.1 rfl (Nat.le_of_ble_eq_true rfl) dX11_tellGrowth_104 ⟨Nat.le_refl _, Nat.le_refl _⟩) (by decide) rfl (fun Hh44 Lh44 Bh44 => ?_)
      refine lv_aload_n hx hb dX11_tellGrowth_107 rfl (lv_at hl 2 rfl) (hp_n (n := 108) rfl ?_)
      refine st_ldcw hx hb hown (sr_X11_422 C.2) dX11_tellGrowth_108 (hp_n (n := 111) rfl ?_)
      obtain ⟨αh45, qh45, hf⟩ := ms_bE hf
      refine d_cv (pc' := 114) Bh44 (hp_runV (As := [.ref (Γ.2.2.2.2.1 2)]) (rest := []) C Bh44 (n_X11_tellText n Γ l αh44 Bh44.2.2.1 a0 (cw_k Bh44.2.2 k0) 2 (by decide) αh45 qh45) lb_X11_tellText lv_X11_tellText lk_X11_411 (cw_k Bh44.2.2 k0) rfl (by decide) rfl hl.1 rfl (Nat.le_of_ble_eq_true rfl) dX11_tellGrowth_111 ⟨Nat.le_refl _, Nat.le_refl _⟩) (by decide) rfl (fun Hh45 Lh45 Bh45 => ?_)
      refine lv_aload_n hx hb dX11_tellGrowth_114 rfl (lv_at hl 2 rfl) (hp_n (n := 115) rfl ?_)
      refine lv_aload_n hx hb dX11_tellGrowth_115 rfl (lv_at hl 2 rfl) (hp_n (n := 116) rfl ?_)
      refine q_getr (κ := 12) (k := 1) (φ := 601) (pc' := 119) C Bh45 (cw_k Bh45.2.2 k0) fl_X11_16 rfl rfl rfl (cw_r Bh45.2.2 k0 rfl rfl (by decide) (by decide)) dX11_tellGrowth_116 rfl (fun b46 eb46 kb46 => ?_)
      replace hf := ms_lE eb46 hf
      refine lv_aload hx hb dX11_tellGrowth_119 (lv_at hl 1 rfl) (hp_n (n := 121) rfl ?_)
      refine lv_iload_n hx hb dX11_tellGrowth_121 rfl (lv_at hl 5 rfl) (hp_n (n := 122) rfl ?_)
      obtain ⟨rh47, αh47, qh47, hf⟩ := hq_cE hf
      refine d_ci (pc' := 125) Bh45 (hp_runV (As := [va_rf (some bh2), .int a3]) (rest := [.ref a0]) C Bh45 (n_X10_headOf n Γ l αh45 Bh45.2.2.1 b46 (cw_k Bh45.2.2 kb46) (some bh2) (fun b h => by cases h; exact (cw_k Bh45.2.2 kbh2)) a3 (rh47, αh47) qh47) lb_X10_headOf lv_X10_headOf lk_X11_184 (cw_k Bh45.2.2 kb46) rfl (by decide) rfl hl.1 rfl (Nat.le_of_ble_eq_true rfl) dX11_tellGrowth_122 ⟨Nat.le_refl _, Nat.le_refl _⟩) (by decide) rfl (fun Hh47 Lh47 Bh47 => ?_)
      obtain ⟨αh48, qh48, hf⟩ := ms_bE hf
      refine d_cv (pc' := 128) Bh47 (hp_runV (As := [.int rh47]) (rest := []) C Bh47 (n_X11_tellNumber n Γ l αh47 Bh47.2.2.1 a0 (cw_k Bh47.2.2 k0) rh47 αh48 qh48) lb_X11_tellNumber lv_X11_tellNumber lk_X11_415 (cw_k Bh47.2.2 k0) rfl (by decide) rfl hl.1 rfl (Nat.le_of_ble_eq_true rfl) dX11_tellGrowth_125 ⟨Nat.le_refl _, Nat.le_refl _⟩) (by decide) rfl (fun Hh48 Lh48 Bh48 => ?_)
      refine lv_aload_n hx hb dX11_tellGrowth_128 rfl (lv_at hl 2 rfl) (hp_n (n := 129) rfl ?_)
      obtain ⟨αh49, qh49, hf⟩ := ms_bE hf
      refine d_cv (pc' := 132) Bh48 (hp_runV (As := []) (rest := []) C Bh48 (n_X11_tellProof n Γ l αh48 Bh48.2.2.1 a0 (cw_k Bh48.2.2 k0) αh49 qh49) lb_X11_tellProof lv_X11_tellProof lk_X11_424 (cw_k Bh48.2.2 k0) rfl (by decide) rfl hl.1 rfl (Nat.le_of_ble_eq_true rfl) dX11_tellGrowth_129 ⟨Nat.le_refl _, Nat.le_refl _⟩) (by decide) rfl (fun Hh49 Lh49 Bh49 => ?_)
      refine lv_aload_n hx hb dX11_tellGrowth_132 rfl (lv_at hl 2 rfl) (hp_n (n := 133) rfl ?_)
      refine lv_aload_n hx hb dX11_tellGrowth_133 rfl (lv_at hl 2 rfl) (hp_n (n := 134) rfl ?_)
      refine q_geti (κ := 12) (k := 11) (φ := 611) (pc' := 137) C Bh49 (cw_k Bh49.2.2 k0) fl_X11_56 rfl rfl rfl dX11_tellGrowth_134 rfl (fun x50 ex50 => ?_)
      replace hf := ms_lE ex50 hf
      obtain ⟨rh51, αh51, qh51, hf⟩ := hq_cE hf
      refine d_ci (pc' := 140) Bh49 (hp_runV (As := [.int x50]) (rest := []) C Bh49 (n_X11_answer n Γ l αh49 Bh49.2.2.1 a0 (cw_k Bh49.2.2 k0) x50 (rh51, αh51) qh51) lb_X11_answer lv_X11_answer lk_X11_115 (cw_k Bh49.2.2 k0) rfl (by decide) rfl hl.1 rfl (Nat.le_of_ble_eq_true rfl) dX11_tellGrowth_137 ⟨Nat.le_refl _, Nat.le_refl _⟩) (by decide) rfl (fun Hh51 Lh51 Bh51 => ?_)
      cases hf
      exact q_iret C Bh51 hr hlk ⟨rfl, rfl, Bh51.2.2⟩ dX11_tellGrowth_140
    ·
      replace hf := ms_iF c29 hf
      refine lv_aload_n hx hb dX11_tellGrowth_24 rfl (lv_at hl 2 rfl) (hp_n (n := 25) rfl ?_)
      refine lv_iload hx hb dX11_tellGrowth_25 (lv_at hl 0 rfl) (hp_n (n := 27) rfl ?_)
      obtain ⟨rh52, αh52, qh52, hf⟩ := hq_cE hf
      refine d_ci (pc' := 30) Bh28 (hp_runV (As := [.int rh28]) (rest := []) C Bh28 (n_X11_refuse n Γ l α Bh28.2.2.1 a0 (cw_k Bh28.2.2 k0) rh28 (rh52, αh52) qh52) lb_X11_refuse lv_X11_refuse lk_X11_98 (cw_k Bh28.2.2 k0) rfl (by decide) rfl hl.1 rfl (Nat.le_of_ble_eq_true rfl) dX11_tellGrowth_27 ⟨Nat.le_refl _, Nat.le_refl _⟩) (by decide) rfl (fun Hh52 Lh52 Bh52 => ?_)
      cases hf
      exact q_iret C Bh52 hr hlk ⟨rfl, rfl, Bh52.2.2⟩ dX11_tellGrowth_30
def f_X11_out_J40 (n : Nat) (a0 : Nat) (αh3 : hp_T) : Option (Int32 × hp_T) :=
  hq_c (f_X11_refuse n αh3 a0 (5 : Int32)) fun rh4 αh4 =>
  some (rh4, αh4)
def f_X11_out (n : Nat) (α : hp_T) (a0 : Nat) (a1 : Int32) : Option (Int32 × hp_T) :=
  if 0 ≤ a1 then
    ms_l (hp_I α 611 a0) fun x2 =>
    if x2 ≤ a1 then
      f_X11_out_J40 n a0 α
    else
      ms_l (hp_R α 610 a0) fun b6 =>
      if (256 : Int32) ≤ a1 then
        f_X11_out_J40 n a0 α
      else
        ms_l (hp_R α 610 a0) fun b8 =>
        ms_g a1 256 <|
        hq_c (f_X11_answer n α a0 (hp_E α 25 b8 (a1).toNatClampNeg)) fun rh10 αh10 =>
        some (rh10, αh10)
  else
    hq_c (f_X11_refuse n α a0 (1 : Int32)) fun rh11 αh11 =>
    some (rh11, αh11)
set_option maxRecDepth 100000 in
set_option maxHeartbeats 4000000 in
theorem n_X11_out (n : Nat) (Γ : hp_G) (l : Launch) (α : hp_T) (g : GC α) (a0 : Nat) (k0 : hp_K α a0 = 12) (a1 : Int32) (res : (Int32 × hp_T)) (hf : f_X11_out n α a0 a1 = some res) : Met l yX11_out (hp_ws yX11_out cX11_out 2 (some .int)) (hp_rm 1 0 0) (hp_Pc Γ α [.ref a0, .int a1]) (hp_Qi Γ (fun r β => r = res.1 ∧ β = res.2 ∧ cw w_X11_out α β)) 0 0 (hp_A Γ) := by
  unfold f_X11_out at hf
  refine hp_start (by decide) ?_
  intro p e s m below meth c C hr hlk B0 hnm
  have C : hp_C Γ p m c cX11_out 2 s ([.ref a0, .int a1] : List Value).toArray RX11 := C
  have hx := C.1.1
  have hb := C.1.2.1
  have hown := C.1.2.2.2.1
  have hts := C.1.2.2.2.2
  have B : hp_B Γ (cw w_X11_out) s α α s.heap [] := ⟨B0.1, B0.2.1, cw_rf g⟩
  have hl := lv_entry ([.ref a0, .int a1]) (n := 2) (Nat.le_of_ble_eq_true rfl)
  show W p l e (hp_rm 1 0 0) s m ([.ref a0, .int a1] : List Value).toArray below meth c s.heap [] 0 0 (MQ below (hp_Qi Γ (fun r β => r = res.1 ∧ β = res.2 ∧ cw w_X11_out α β)) ([.ref a0, .int a1] : List Value).toArray s 0 0 (hp_A Γ)) (entryFrame m ([.ref a0, .int a1] : List Value).toArray 2)
  rw [lg_entry_eq]
  generalize (lg_sl ([.ref a0, .int a1]) ++ List.replicate (2 - (lg_sl ([.ref a0, .int a1])).length) Slot.unset).toArray = ls at hl ⊢
  have hl : lv_has ls 2 [(0, .ref a0), (1, .int a1)] := hl
  refine lv_iload_n hx hb dX11_out_0 rfl (lv_at hl 1 rfl) (hp_n (n := 1) rfl ?_)
  refine lv_if_ge (tgt := 10) hx hb dX11_out_1 (by decide) (fun c1 => ?_) (fun c1 => hp_n (n := 4) rfl ?_)
  ·
    replace hf := ms_iT c1 hf
    refine lv_iload_n hx hb dX11_out_10 rfl (lv_at hl 1 rfl) (hp_n (n := 11) rfl ?_)
    refine lv_aload_n hx hb dX11_out_11 rfl (lv_at hl 0 rfl) (hp_n (n := 12) rfl ?_)
    refine q_geti (κ := 12) (k := 11) (φ := 611) (pc' := 15) C B (cw_k B.2.2 k0) fl_X11_56 rfl rfl rfl dX11_out_12 rfl (fun x2 ex2 => ?_)
    replace hf := ms_lE ex2 hf
    have J40 : ∀ (αh3 : hp_T) (Hh3 : Heap) (Lh3 : List Loc) (Bh3 : hp_B Γ (cw w_X11_out) s α αh3 Hh3 Lh3) (ls : Array Slot) (hl : lv_has ls 2 [(0, .ref a0)]) (hf : f_X11_out_J40 n a0 αh3 = some res), W p l e (hp_rm 1 0 0) s m ([.ref a0, .int a1] : List Value).toArray below meth c Hh3 Lh3 0 0 (MQ below (hp_Qi Γ (fun r β => r = res.1 ∧ β = res.2 ∧ cw w_X11_out α β)) ([.ref a0, .int a1] : List Value).toArray s 0 0 (hp_A Γ)) (F0 m 40 ls []) := by
      intro αh3 Hh3 Lh3 Bh3 ls hl hf
      unfold f_X11_out_J40 at hf
      refine lv_aload_n hx hb dX11_out_40 rfl (lv_at hl 0 rfl) (hp_n (n := 41) rfl ?_)
      refine lv_iconst (v := 5) hx hb dX11_out_41 (by decide) (hp_n (n := 42) rfl ?_)
      obtain ⟨rh4, αh4, qh4, hf⟩ := hq_cE hf
      refine d_ci (pc' := 45) Bh3 (hp_runV (As := [.int (5 : Int32)]) (rest := []) C Bh3 (n_X11_refuse n Γ l αh3 Bh3.2.2.1 a0 (cw_k Bh3.2.2 k0) (5 : Int32) (rh4, αh4) qh4) lb_X11_refuse lv_X11_refuse lk_X11_98 (cw_k Bh3.2.2 k0) rfl (by decide) rfl hl.1 rfl (Nat.le_of_ble_eq_true rfl) dX11_out_42 ⟨Nat.le_refl _, Nat.le_refl _⟩) (by decide) rfl (fun Hh4 Lh4 Bh4 => ?_)
      cases hf
      exact q_iret C Bh4 hr hlk ⟨rfl, rfl, Bh4.2.2⟩ dX11_out_45
    refine lv_icmp_ge (tgt := 40) hx hb dX11_out_15 (by decide) (fun c5 => ?_) (fun c5 => hp_n (n := 18) rfl ?_)
    ·
      replace hf := ms_iT c5 hf
      exact J40 α s.heap [] B ls (lv_sub hl [0] rfl) hf
    ·
      replace hf := ms_iF c5 hf
      refine lv_iload_n hx hb dX11_out_18 rfl (lv_at hl 1 rfl) (hp_n (n := 19) rfl ?_)
      refine lv_aload_n hx hb dX11_out_19 rfl (lv_at hl 0 rfl) (hp_n (n := 20) rfl ?_)
      refine q_getr (κ := 12) (k := 10) (φ := 610) (pc' := 23) C B (cw_k B.2.2 k0) fl_X11_53 rfl rfl rfl (cw_r B.2.2 k0 rfl rfl (by decide) (by decide)) dX11_out_20 rfl (fun b6 eb6 kb6 => ?_)
      replace hf := ms_lE eb6 hf
      refine q_alen (κ := 25) (t := 1) (n := 256) (x := 256) (ty := .byte) (pc' := 24) C B (cw_k B.2.2 kb6) (by decide) rfl rfl rfl dX11_out_23 rfl ?_
      refine lv_icmp_ge (tgt := 40) hx hb dX11_out_24 (by decide) (fun c7 => ?_) (fun c7 => hp_n (n := 27) rfl ?_)
      ·
        replace hf := ms_iT c7 hf
        exact J40 α s.heap [] B ls (lv_sub hl [0] rfl) hf
      ·
        replace hf := ms_iF c7 hf
        refine lv_aload_n hx hb dX11_out_27 rfl (lv_at hl 0 rfl) (hp_n (n := 28) rfl ?_)
        refine lv_aload_n hx hb dX11_out_28 rfl (lv_at hl 0 rfl) (hp_n (n := 29) rfl ?_)
        refine q_getr (κ := 12) (k := 10) (φ := 610) (pc' := 32) C B (cw_k B.2.2 k0) fl_X11_53 rfl rfl rfl (cw_r B.2.2 k0 rfl rfl (by decide) (by decide)) dX11_out_29 rfl (fun b8 eb8 kb8 => ?_)
        replace hf := ms_lE eb8 hf
        refine lv_iload_n hx hb dX11_out_32 rfl (lv_at hl 1 rfl) (hp_n (n := 33) rfl ?_)
        obtain ⟨g9, hf⟩ := ms_gE hf
        refine q_bal (κ := 25) (n := 256) (pc' := 34) C B (cw_k B.2.2 kb8) (by decide) rfl (vi_of g9.1 g9.2) dX11_out_33 rfl ?_
        obtain ⟨rh10, αh10, qh10, hf⟩ := hq_cE hf
        refine d_ci (pc' := 37) B (hp_runV (As := [.int (hp_E α 25 b8 (a1).toNatClampNeg)]) (rest := []) C B (n_X11_answer n Γ l α B.2.2.1 a0 (cw_k B.2.2 k0) (hp_E α 25 b8 (a1).toNatClampNeg) (rh10, αh10) qh10) lb_X11_answer lv_X11_answer lk_X11_115 (cw_k B.2.2 k0) rfl (by decide) rfl hl.1 rfl (Nat.le_of_ble_eq_true rfl) dX11_out_34 ⟨Nat.le_refl _, Nat.le_refl _⟩) (by decide) rfl (fun Hh10 Lh10 Bh10 => ?_)
        refine lv_goto (tgt := 45) hx hb dX11_out_37 (by decide) ?_
        cases hf
        exact q_iret C Bh10 hr hlk ⟨rfl, rfl, Bh10.2.2⟩ dX11_out_45
  ·
    replace hf := ms_iF c1 hf
    refine lv_aload_n hx hb dX11_out_4 rfl (lv_at hl 0 rfl) (hp_n (n := 5) rfl ?_)
    refine lv_iconst (v := 1) hx hb dX11_out_5 (by decide) (hp_n (n := 6) rfl ?_)
    obtain ⟨rh11, αh11, qh11, hf⟩ := hq_cE hf
    refine d_ci (pc' := 9) B (hp_runV (As := [.int (1 : Int32)]) (rest := []) C B (n_X11_refuse n Γ l α B.2.2.1 a0 (cw_k B.2.2 k0) (1 : Int32) (rh11, αh11) qh11) lb_X11_refuse lv_X11_refuse lk_X11_98 (cw_k B.2.2 k0) rfl (by decide) rfl hl.1 rfl (Nat.le_of_ble_eq_true rfl) dX11_out_6 ⟨Nat.le_refl _, Nat.le_refl _⟩) (by decide) rfl (fun Hh11 Lh11 Bh11 => ?_)
    cases hf
    exact q_iret C Bh11 hr hlk ⟨rfl, rfl, Bh11.2.2⟩ dX11_out_9
