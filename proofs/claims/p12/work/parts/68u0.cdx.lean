def f_X11_wrongGrowth (n : Nat) (α : hp_T) (o0 : Option Nat) (a1 : Int32) (a2 : Int32) : Option Int32 :=
  hq_m o0 (
    if a1 < 0 then
      some (1 : Int32)
    else
      if a1 ≤ a2 then
        some (2 : Int32)
      else
        some (1 : Int32)) fun a0 =>
  if a1 < 0 then
    some (1 : Int32)
  else
    if a1 ≤ a2 then
      ms_l (hp_I α 152 a0) fun x5 =>
      if a2 ≤ x5 then
        some (0 : Int32)
      else
        some (5 : Int32)
    else
      some (1 : Int32)
set_option maxRecDepth 100000 in
set_option maxHeartbeats 4000000 in
theorem n_X11_wrongGrowth (n : Nat) (Γ : hp_G) (l : Launch) (α : hp_T) (g : GC α) (o0 : Option Nat) (k0 : ∀ b, o0 = some b → hp_K α b = 3) (a1 : Int32) (a2 : Int32) (res : Int32) (hf : f_X11_wrongGrowth n α o0 a1 a2 = some res) : Met l yX11_wrongGrowth (hp_ws yX11_wrongGrowth cX11_wrongGrowth 3 (some .int)) (hp_rm 0 0 0) (hp_Pc Γ α [va_rf o0, .int a1, .int a2]) (hp_Qi Γ (fun r β => β = α ∧ r = res)) 0 0 (hp_A Γ) := by
  unfold f_X11_wrongGrowth at hf
  refine hp_start (by decide) ?_
  intro p e s m below meth c C hr hlk B0 hnm
  have C : hp_C Γ p m c cX11_wrongGrowth 3 s ([va_rf o0, .int a1, .int a2] : List Value).toArray RX11 := C
  have hx := C.1.1
  have hb := C.1.2.1
  have hown := C.1.2.2.2.1
  have hts := C.1.2.2.2.2
  have B : hp_B Γ (cw w_X11_wrongGrowth) s α α s.heap [] := ⟨B0.1, B0.2.1, cw_rf g⟩
  rcases o0 with _ | a0
  ·
    replace hf := hq_N hf
    have hl := lv_entry ([.null, .int a1, .int a2]) (n := 3) (Nat.le_of_ble_eq_true rfl)
    show W p l e (hp_rm 0 0 0) s m ([.null, .int a1, .int a2] : List Value).toArray below meth c s.heap [] 0 0 (MQ below (hp_Qi Γ (fun r β => β = α ∧ r = res)) ([.null, .int a1, .int a2] : List Value).toArray s 0 0 (hp_A Γ)) (entryFrame m ([.null, .int a1, .int a2] : List Value).toArray 3)
    rw [lg_entry_eq]
    generalize (lg_sl ([.null, .int a1, .int a2]) ++ List.replicate (3 - (lg_sl ([.null, .int a1, .int a2])).length) Slot.unset).toArray = ls at hl ⊢
    have hl : lv_has ls 3 [(0, .null), (1, .int a1), (2, .int a2)] := hl
    refine lv_iload_n hx hb dX11_wrongGrowth_0 rfl (lv_at hl 1 rfl) (hp_n (n := 1) rfl ?_)
    refine lv_if_lt (tgt := 9) hx hb dX11_wrongGrowth_1 (by decide) (fun c1 => ?_) (fun c1 => hp_n (n := 4) rfl ?_)
    ·
      replace hf := ms_iT c1 hf
      refine lv_iconst (v := 1) hx hb dX11_wrongGrowth_9 (by decide) (hp_n (n := 10) rfl ?_)
      cases hf
      exact q_iret C B hr hlk ⟨rfl, rfl⟩ dX11_wrongGrowth_10
    ·
      replace hf := ms_iF c1 hf
      refine lv_iload_n hx hb dX11_wrongGrowth_4 rfl (lv_at hl 1 rfl) (hp_n (n := 5) rfl ?_)
      refine lv_iload_n hx hb dX11_wrongGrowth_5 rfl (lv_at hl 2 rfl) (hp_n (n := 6) rfl ?_)
      refine lv_icmp_le (tgt := 11) hx hb dX11_wrongGrowth_6 (by decide) (fun c2 => ?_) (fun c2 => hp_n (n := 9) rfl ?_)
      ·
        replace hf := ms_iT c2 hf
        refine lv_aload_nN hx hb dX11_wrongGrowth_11 rfl (lv_at hl 0 rfl) (hp_n (n := 12) rfl ?_)
        refine lv_ifnonnullN hx hb dX11_wrongGrowth_12 (hp_n (n := 15) rfl ?_)
        refine lv_iconst (v := 2) hx hb dX11_wrongGrowth_15 (by decide) (hp_n (n := 16) rfl ?_)
        cases hf
        exact q_iret C B hr hlk ⟨rfl, rfl⟩ dX11_wrongGrowth_16
      ·
        replace hf := ms_iF c2 hf
        refine lv_iconst (v := 1) hx hb dX11_wrongGrowth_9 (by decide) (hp_n (n := 10) rfl ?_)
        cases hf
        exact q_iret C B hr hlk ⟨rfl, rfl⟩ dX11_wrongGrowth_10
  ·
    replace hf := hq_S hf
    have ka0 := k0 a0 rfl
    have hl := lv_entry ([.ref a0, .int a1, .int a2]) (n := 3) (Nat.le_of_ble_eq_true rfl)
    show W p l e (hp_rm 0 0 0) s m ([.ref a0, .int a1, .int a2] : List Value).toArray below meth c s.heap [] 0 0 (MQ below (hp_Qi Γ (fun r β => β = α ∧ r = res)) ([.ref a0, .int a1, .int a2] : List Value).toArray s 0 0 (hp_A Γ)) (entryFrame m ([.ref a0, .int a1, .int a2] : List Value).toArray 3)
    rw [lg_entry_eq]
    generalize (lg_sl ([.ref a0, .int a1, .int a2]) ++ List.replicate (3 - (lg_sl ([.ref a0, .int a1, .int a2])).length) Slot.unset).toArray = ls at hl ⊢
    have hl : lv_has ls 3 [(0, .ref a0), (1, .int a1), (2, .int a2)] := hl
    refine lv_iload_n hx hb dX11_wrongGrowth_0 rfl (lv_at hl 1 rfl) (hp_n (n := 1) rfl ?_)
    refine lv_if_lt (tgt := 9) hx hb dX11_wrongGrowth_1 (by decide) (fun c3 => ?_) (fun c3 => hp_n (n := 4) rfl ?_)
    ·
      replace hf := ms_iT c3 hf
      refine lv_iconst (v := 1) hx hb dX11_wrongGrowth_9 (by decide) (hp_n (n := 10) rfl ?_)
      cases hf
      exact q_iret C B hr hlk ⟨rfl, rfl⟩ dX11_wrongGrowth_10
    ·
      replace hf := ms_iF c3 hf
      refine lv_iload_n hx hb dX11_wrongGrowth_4 rfl (lv_at hl 1 rfl) (hp_n (n := 5) rfl ?_)
      refine lv_iload_n hx hb dX11_wrongGrowth_5 rfl (lv_at hl 2 rfl) (hp_n (n := 6) rfl ?_)
      refine lv_icmp_le (tgt := 11) hx hb dX11_wrongGrowth_6 (by decide) (fun c4 => ?_) (fun c4 => hp_n (n := 9) rfl ?_)
      ·
        replace hf := ms_iT c4 hf
        refine lv_aload_n hx hb dX11_wrongGrowth_11 rfl (lv_at hl 0 rfl) (hp_n (n := 12) rfl ?_)
        refine lv_ifnonnull (tgt := 17) hx hb dX11_wrongGrowth_12 (by decide) ?_
        refine lv_iload_n hx hb dX11_wrongGrowth_17 rfl (lv_at hl 2 rfl) (hp_n (n := 18) rfl ?_)
        refine lv_aload_n hx hb dX11_wrongGrowth_18 rfl (lv_at hl 0 rfl) (hp_n (n := 19) rfl ?_)
        refine q_geti (κ := 3) (k := 2) (φ := 152) (pc' := 22) C B (cw_k B.2.2 ka0) fl_X11_167 rfl rfl rfl dX11_wrongGrowth_19 rfl (fun x5 ex5 => ?_)
        replace hf := ms_lE ex5 hf
        refine lv_icmp_le (tgt := 29) hx hb dX11_wrongGrowth_22 (by decide) (fun c6 => ?_) (fun c6 => hp_n (n := 25) rfl ?_)
        ·
          replace hf := ms_iT c6 hf
          refine lv_iconst (v := 0) hx hb dX11_wrongGrowth_29 (by decide) (hp_n (n := 30) rfl ?_)
          cases hf
          exact q_iret C B hr hlk ⟨rfl, rfl⟩ dX11_wrongGrowth_30
        ·
          replace hf := ms_iF c6 hf
          refine lv_iconst (v := 5) hx hb dX11_wrongGrowth_25 (by decide) (hp_n (n := 26) rfl ?_)
          refine lv_goto (tgt := 30) hx hb dX11_wrongGrowth_26 (by decide) ?_
          cases hf
          exact q_iret C B hr hlk ⟨rfl, rfl⟩ dX11_wrongGrowth_30
      ·
        replace hf := ms_iF c4 hf
        refine lv_iconst (v := 1) hx hb dX11_wrongGrowth_9 (by decide) (hp_n (n := 10) rfl ?_)
        cases hf
        exact q_iret C B hr hlk ⟨rfl, rfl⟩ dX11_wrongGrowth_10
def f_X11_head (n : Nat) (α : hp_T) (a0 : Nat) (a1 : Int32) (a2 : Int32) : Option (Int32 × hp_T) :=
  ms_l (hp_R α 601 a0) fun b1 =>
  ms_b (f_X10_logAt n α b1 a1) fun rh2 =>
  hq_m rh2 (
    ms_b (f_X11_wrongGrowth n α none (0 : Int32) a2) fun rh3 =>
    if rh3 = 0 then
      ms_l (hp_R α 601 a0) fun b5 =>
      hq_c (f_X10_headOf n α b5 none a2) fun rh6 αh6 =>
      hq_c (f_X11_answer n αh6 a0 rh6) fun rh7 αh7 =>
      some (rh7, αh7)
    else
      hq_c (f_X11_refuse n α a0 rh3) fun rh8 αh8 =>
      some (rh8, αh8)) fun bh2 =>
  ms_b (f_X11_wrongGrowth n α (some bh2) (0 : Int32) a2) fun rh9 =>
  if rh9 = 0 then
    ms_l (hp_R α 601 a0) fun b11 =>
    hq_c (f_X10_headOf n α b11 (some bh2) a2) fun rh12 αh12 =>
    hq_c (f_X11_answer n αh12 a0 rh12) fun rh13 αh13 =>
    some (rh13, αh13)
  else
    hq_c (f_X11_refuse n α a0 rh9) fun rh14 αh14 =>
    some (rh14, αh14)
set_option maxRecDepth 100000 in
set_option maxHeartbeats 4000000 in
theorem n_X11_head (n : Nat) (Γ : hp_G) (l : Launch) (α : hp_T) (g : GC α) (a0 : Nat) (k0 : hp_K α a0 = 12) (a1 : Int32) (a2 : Int32) (res : (Int32 × hp_T)) (hf : f_X11_head n α a0 a1 a2 = some res) : Met l yX11_head (hp_ws yX11_head cX11_head 5 (some .int)) (hp_rm 3 0 0) (hp_Pc Γ α [.ref a0, .int a1, .int a2]) (hp_Qi Γ (fun r β => r = res.1 ∧ β = res.2 ∧ cw w_X11_head α β)) 0 0 (hp_A Γ) := by
  unfold f_X11_head at hf
  refine hp_start (by decide) ?_
  intro p e s m below meth c C hr hlk B0 hnm
  have C : hp_C Γ p m c cX11_head 5 s ([.ref a0, .int a1, .int a2] : List Value).toArray RX11 := C
  have hx := C.1.1
  have hb := C.1.2.1
  have hown := C.1.2.2.2.1
  have hts := C.1.2.2.2.2
  have B : hp_B Γ (cw w_X11_head) s α α s.heap [] := ⟨B0.1, B0.2.1, cw_rf g⟩
  have hl := lv_entry ([.ref a0, .int a1, .int a2]) (n := 5) (Nat.le_of_ble_eq_true rfl)
  show W p l e (hp_rm 3 0 0) s m ([.ref a0, .int a1, .int a2] : List Value).toArray below meth c s.heap [] 0 0 (MQ below (hp_Qi Γ (fun r β => r = res.1 ∧ β = res.2 ∧ cw w_X11_head α β)) ([.ref a0, .int a1, .int a2] : List Value).toArray s 0 0 (hp_A Γ)) (entryFrame m ([.ref a0, .int a1, .int a2] : List Value).toArray 5)
  rw [lg_entry_eq]
  generalize (lg_sl ([.ref a0, .int a1, .int a2]) ++ List.replicate (5 - (lg_sl ([.ref a0, .int a1, .int a2])).length) Slot.unset).toArray = ls at hl ⊢
  have hl : lv_has ls 5 [(0, .ref a0), (1, .int a1), (2, .int a2)] := hl
  refine lv_aload_n hx hb dX11_head_0 rfl (lv_at hl 0 rfl) (hp_n (n := 1) rfl ?_)
  refine q_getr (κ := 12) (k := 1) (φ := 601) (pc' := 4) C B (cw_k B.2.2 k0) fl_X11_16 rfl rfl rfl (cw_r B.2.2 k0 rfl rfl (by decide) (by decide)) dX11_head_1 rfl (fun b1 eb1 kb1 => ?_)
  replace hf := ms_lE eb1 hf
  refine lv_iload_n hx hb dX11_head_4 rfl (lv_at hl 1 rfl) (hp_n (n := 5) rfl ?_)
  obtain ⟨rh2, qh2, hf⟩ := ms_bE hf
  refine d_pq (pc' := 8) B (hp_runV (As := [.int a1]) (rest := []) C B (n_X10_logAt n Γ l α B.2.2.1 b1 (cw_k B.2.2 kb1) a1 rh2 qh2) lb_X10_logAt lv_X10_logAt lk_X11_163 (cw_k B.2.2 kb1) rfl (by decide) rfl hl.1 rfl (Nat.le_of_ble_eq_true rfl) dX11_head_5 ⟨Nat.le_refl _, Nat.le_refl _⟩) rfl (fun Hh2 Lh2 Bh2 kh2 => ?_)
  rcases rh2 with _ | bh2
  ·
    replace hf := hq_N hf
    refine lv_astore_nN (lv' := [(3, .null), (0, .ref a0), (1, .int a1), (2, .int a2)]) hx hb dX11_head_8 rfl hl (by decide) rfl (fun ls hl => hp_n (n := 9) rfl ?_)
    refine lv_aload_nN hx hb dX11_head_9 rfl (lv_at hl 0 rfl) (hp_n (n := 10) rfl ?_)
    refine lv_iconst (v := 0) hx hb dX11_head_10 (by decide) (hp_n (n := 11) rfl ?_)
    refine lv_iload_n hx hb dX11_head_11 rfl (lv_at hl 3 rfl) (hp_n (n := 12) rfl ?_)
    obtain ⟨rh3, qh3, hf⟩ := ms_bE hf
    refine d_pi (pc' := 15) Bh2 (hp_runS (As := [va_rf none, .int (0 : Int32), .int a2]) (rest := []) C Bh2 (n_X11_wrongGrowth n Γ l α Bh2.2.2.1 none (fun b h => by cases h) (0 : Int32) a2 rh3 qh3) lb_X11_wrongGrowth ls_X11_wrongGrowth lk_X11_180 rfl (by decide) rfl hl.1 rfl (Nat.le_of_ble_eq_true rfl) dX11_head_12 ⟨Nat.le_refl _, Nat.le_refl _⟩) rfl (fun Hh3 Lh3 Bh3 => ?_)
    refine lv_istore (lv' := [(4, .int rh3), (3, .null), (0, .ref a0), (1, .int a1), (2, .int a2)]) hx hb dX11_head_15 hl (by decide) rfl (fun ls hl => hp_n (n := 17) rfl ?_)
    refine lv_iload hx hb dX11_head_17 (lv_at hl 0 rfl) (hp_n (n := 19) rfl ?_)
    refine lv_if_eq (tgt := 31) hx hb dX11_head_19 (by decide) (fun c4 => ?_) (fun c4 => hp_n (n := 22) rfl ?_)
    ·
      replace hf := ms_iT c4 hf
      refine lv_aload_n hx hb dX11_head_31 rfl (lv_at hl 2 rfl) (hp_n (n := 32) rfl ?_)
      refine lv_aload_n hx hb dX11_head_32 rfl (lv_at hl 2 rfl) (hp_n (n := 33) rfl ?_)
      refine q_getr (κ := 12) (k := 1) (φ := 601) (pc' := 36) C Bh3 (cw_k Bh3.2.2 k0) fl_X11_16 rfl rfl rfl (cw_r Bh3.2.2 k0 rfl rfl (by decide) (by decide)) dX11_head_33 rfl (fun b5 eb5 kb5 => ?_)
      replace hf := ms_lE eb5 hf
      refine lv_aload_nN hx hb dX11_head_36 rfl (lv_at hl 1 rfl) (hp_n (n := 37) rfl ?_)
      refine lv_iload_n hx hb dX11_head_37 rfl (lv_at hl 4 rfl) (hp_n (n := 38) rfl ?_)
      obtain ⟨rh6, αh6, qh6, hf⟩ := hq_cE hf
      refine d_ci (pc' := 41) Bh3 (hp_runV (As := [va_rf none, .int a2]) (rest := [.ref a0]) C Bh3 (n_X10_headOf n Γ l α Bh3.2.2.1 b5 (cw_k Bh3.2.2 kb5) none (fun b h => by cases h) a2 (rh6, αh6) qh6) lb_X10_headOf lv_X10_headOf lk_X11_184 (cw_k Bh3.2.2 kb5) rfl (by decide) rfl hl.1 rfl (Nat.le_of_ble_eq_true rfl) dX11_head_38 ⟨Nat.le_refl _, Nat.le_refl _⟩) (by decide) rfl (fun Hh6 Lh6 Bh6 => ?_)
      obtain ⟨rh7, αh7, qh7, hf⟩ := hq_cE hf
      refine d_ci (pc' := 44) Bh6 (hp_runV (As := [.int rh6]) (rest := []) C Bh6 (n_X11_answer n Γ l αh6 Bh6.2.2.1 a0 (cw_k Bh6.2.2 k0) rh6 (rh7, αh7) qh7) lb_X11_answer lv_X11_answer lk_X11_115 (cw_k Bh6.2.2 k0) rfl (by decide) rfl hl.1 rfl (Nat.le_of_ble_eq_true rfl) dX11_head_41 ⟨Nat.le_refl _, Nat.le_refl _⟩) (by decide) rfl (fun Hh7 Lh7 Bh7 => ?_)
      cases hf
      exact q_iret C Bh7 hr hlk ⟨rfl, rfl, Bh7.2.2⟩ dX11_head_44
    ·
      replace hf := ms_iF c4 hf
      refine lv_aload_n hx hb dX11_head_22 rfl (lv_at hl 2 rfl) (hp_n (n := 23) rfl ?_)
      refine lv_iload hx hb dX11_head_23 (lv_at hl 0 rfl) (hp_n (n := 25) rfl ?_)
      obtain ⟨rh8, αh8, qh8, hf⟩ := hq_cE hf
      refine d_ci (pc' := 28) Bh3 (hp_runV (As := [.int rh3]) (rest := []) C Bh3 (n_X11_refuse n Γ l α Bh3.2.2.1 a0 (cw_k Bh3.2.2 k0) rh3 (rh8, αh8) qh8) lb_X11_refuse lv_X11_refuse lk_X11_98 (cw_k Bh3.2.2 k0) rfl (by decide) rfl hl.1 rfl (Nat.le_of_ble_eq_true rfl) dX11_head_25 ⟨Nat.le_refl _, Nat.le_refl _⟩) (by decide) rfl (fun Hh8 Lh8 Bh8 => ?_)
      refine lv_goto (tgt := 44) hx hb dX11_head_28 (by decide) ?_
      cases hf
      exact q_iret C Bh8 hr hlk ⟨rfl, rfl, Bh8.2.2⟩ dX11_head_44
  ·
    replace hf := hq_S hf
    have kbh2 := kh2 bh2 rfl
    refine lv_astore_n (lv' := [(3, .ref bh2), (0, .ref a0), (1, .int a1), (2, .int a2)]) hx hb dX11_head_8 rfl hl (by decide) rfl (fun ls hl => hp_n (n := 9) rfl ?_)
    refine lv_aload_n hx hb dX11_head_9 rfl (lv_at hl 0 rfl) (hp_n (n := 10) rfl ?_)
    refine lv_iconst (v := 0) hx hb dX11_head_10 (by decide) (hp_n (n := 11) rfl ?_)
    refine lv_iload_n hx hb dX11_head_11 rfl (lv_at hl 3 rfl) (hp_n (n := 12) rfl ?_)
    obtain ⟨rh9, qh9, hf⟩ := ms_bE hf
    refine d_pi (pc' := 15) Bh2 (hp_runS (As := [va_rf (some bh2), .int (0 : Int32), .int a2]) (rest := []) C Bh2 (n_X11_wrongGrowth n Γ l α Bh2.2.2.1 (some bh2) (fun b h => by cases h; exact (cw_k Bh2.2.2 kbh2)) (0 : Int32) a2 rh9 qh9) lb_X11_wrongGrowth ls_X11_wrongGrowth lk_X11_180 rfl (by decide) rfl hl.1 rfl (Nat.le_of_ble_eq_true rfl) dX11_head_12 ⟨Nat.le_refl _, Nat.le_refl _⟩) rfl (fun Hh9 Lh9 Bh9 => ?_)
    refine lv_istore (lv' := [(4, .int rh9), (3, .ref bh2), (0, .ref a0), (1, .int a1), (2, .int a2)]) hx hb dX11_head_15 hl (by decide) rfl (fun ls hl => hp_n (n := 17) rfl ?_)
    refine lv_iload hx hb dX11_head_17 (lv_at hl 0 rfl) (hp_n (n := 19) rfl ?_)
    refine lv_if_eq (tgt := 31) hx hb dX11_head_19 (by decide) (fun c10 => ?_) (fun c10 => hp_n (n := 22) rfl ?_)
    ·
      replace hf := ms_iT c10 hf
      refine lv_aload_n hx hb dX11_head_31 rfl (lv_at hl 2 rfl) (hp_n (n := 32) rfl ?_)
      refine lv_aload_n hx hb dX11_head_32 rfl (lv_at hl 2 rfl) (hp_n (n := 33) rfl ?_)
      refine q_getr (κ := 12) (k := 1) (φ := 601) (pc' := 36) C Bh9 (cw_k Bh9.2.2 k0) fl_X11_16 rfl rfl rfl (cw_r Bh9.2.2 k0 rfl rfl (by decide) (by decide)) dX11_head_33 rfl (fun b11 eb11 kb11 => ?_)
      replace hf := ms_lE eb11 hf
      refine lv_aload_n hx hb dX11_head_36 rfl (lv_at hl 1 rfl) (hp_n (n := 37) rfl ?_)
      refine lv_iload_n hx hb dX11_head_37 rfl (lv_at hl 4 rfl) (hp_n (n := 38) rfl ?_)
      obtain ⟨rh12, αh12, qh12, hf⟩ := hq_cE hf
      refine d_ci (pc' := 41) Bh9 (hp_runV (As := [va_rf (some bh2), .int a2]) (rest := [.ref a0]) C Bh9 (n_X10_headOf n Γ l α Bh9.2.2.1 b11 (cw_k Bh9.2.2 kb11) (some bh2) (fun b h => by cases h; exact (cw_k Bh9.2.2 kbh2)) a2 (rh12, αh12) qh12) lb_X10_headOf lv_X10_headOf lk_X11_184 (cw_k Bh9.2.2 kb11) rfl (by decide) rfl hl.1 rfl (Nat.le_of_ble_eq_true rfl) dX11_head_38 ⟨Nat.le_refl _, Nat.le_refl _⟩) (by decide) rfl (fun Hh12 Lh12 Bh12 => ?_)
      obtain ⟨rh13, αh13, qh13, hf⟩ := hq_cE hf
      refine d_ci (pc' := 44) Bh12 (hp_runV (As := [.int rh12]) (rest := []) C Bh12 (n_X11_answer n Γ l αh12 Bh12.2.2.1 a0 (cw_k Bh12.2.2 k0) rh12 (rh13, αh13) qh13) lb_X11_answer lv_X11_answer lk_X11_115 (cw_k Bh12.2.2 k0) rfl (by decide) rfl hl.1 rfl (Nat.le_of_ble_eq_true rfl) dX11_head_41 ⟨Nat.le_refl _, Nat.le_refl _⟩) (by decide) rfl (fun Hh13 Lh13 Bh13 => ?_)
      cases hf
      exact q_iret C Bh13 hr hlk ⟨rfl, rfl, Bh13.2.2⟩ dX11_head_44
    ·
      replace hf := ms_iF c10 hf
      refine lv_aload_n hx hb dX11_head_22 rfl (lv_at hl 2 rfl) (hp_n (n := 23) rfl ?_)
      refine lv_iload hx hb dX11_head_23 (lv_at hl 0 rfl) (hp_n (n := 25) rfl ?_)
      obtain ⟨rh14, αh14, qh14, hf⟩ := hq_cE hf
      refine d_ci (pc' := 28) Bh9 (hp_runV (As := [.int rh9]) (rest := []) C Bh9 (n_X11_refuse n Γ l α Bh9.2.2.1 a0 (cw_k Bh9.2.2 k0) rh9 (rh14, αh14) qh14) lb_X11_refuse lv_X11_refuse lk_X11_98 (cw_k Bh9.2.2 k0) rfl (by decide) rfl hl.1 rfl (Nat.le_of_ble_eq_true rfl) dX11_head_25 ⟨Nat.le_refl _, Nat.le_refl _⟩) (by decide) rfl (fun Hh14 Lh14 Bh14 => ?_)
      refine lv_goto (tgt := 44) hx hb dX11_head_28 (by decide) ?_
      cases hf
      exact q_iret C Bh14 hr hlk ⟨rfl, rfl, Bh14.2.2⟩ dX11_head_44
