def f_X11_wrongGrowth (n : Nat) (α : hp_T) (o0 : Option Nat) (a1 : Int32) (a2 : Int32) : Option Int32 :=
  hq_m o0 (
    if a1 < 0 then
      some (1 : Int32)
    else
      if a1 ≤ a2 then
        some (2 : Int32)
      else
        some (1 : Int32)) fun a0 =>
  if a1 < 0 then
    some (1 : Int32)
  else
    if a1 ≤ a2 then
      ms_l (hp_I α 152 a0) fun x5 =>
      if a2 ≤ x5 then
        some (0 : Int32)
      else
        some (5 : Int32)
    else
      some (1 : Int32)
set_option maxRecDepth 100000 in
set_option maxHeartbeats 4000000 in
theorem n_X11_wrongGrowth (n : Nat) (Γ : hp_G) (l : Launch) (α : hp_T) (g : GC α) (o0 : Option Nat) (k0 : ∀ b, o0 = some b → hp_K α b = 3) (a1 : Int32) (a2 : Int32) (res : Int32) (hf : f_X11_wrongGrowth n α o0 a1 a2 = some res) : Met l yX11_wrongGrowth (hp_ws yX11_wrongGrowth cX11_wrongGrowth 3 (some .int)) (hp_rm 0 0 0) (hp_Pc Γ α [va_rf o0, .int a1, .int a2]) (hp_Qi Γ (fun r β => β = α ∧ r = res)) 0 0 (hp_A Γ) := by
  unfold f_X11_wrongGrowth at hf
  refine hp_start (by decide) ?_
  intro p e s m below meth c C hr hlk B0 hnm
  have C : hp_C Γ p m c cX11_wrongGrowth 3 s ([va_rf o0, .int a1, .int a2] : List Value).toArray RX11 := C
  have hx := C.1.1
  have hb := C.1.2.1
  have hown := C.1.2.2.2.1
  have hts := C.1.2.2.2.2
  have B : hp_B Γ (cw w_X11_wrongGrowth) s α α s.heap [] := ⟨B0.1, B0.2.1, cw_rf g⟩
  rcases o0 with _ | a0
  ·
    replace hf := hq_N hf
    have hl := lv_entry ([.null, .int a1, .int a2]) (n := 3) (Nat.le_of_ble_eq_true rfl)
    show W p l e (hp_rm 0 0 0) s m ([.null, .int a1, .int a2] : List Value).toArray below meth c s.heap [] 0 0 (MQ below (hp_Qi Γ (fun r β => β = α ∧ r = res)) ([.null, .int a1, .int a2] : List Value).toArray s 0 0 (hp_A Γ)) (entryFrame m ([.null, .int a1, .int a2] : List Value).toArray 3)
    rw [lg_entry_eq]
    generalize (lg_sl ([.null, .int a1, .int a2]) ++ List.replicate (3 - (lg_sl ([.null, .int a1, .int a2])).length) Slot.unset).toArray = ls at hl ⊢
    have hl : lv_has ls 3 [(0, .null), (1, .int a1), (2, .int a2)] := hl
    refine lv_iload_n hx hb dX11_wrongGrowth_0 rfl (lv_at hl 1 rfl) (hp_n (n := 1) rfl ?_)
    refine lv_if_lt (tgt := 9) hx hb dX11_wrongGrowth_1 (by decide) (fun c1 => ?_) (fun c1 => hp_n (n := 4) rfl ?_)
    ·
      replace hf := ms_iT c1 hf
      refine lv_iconst (v := 1) hx hb dX11_wrongGrowth_9 (by decide) (hp_n (n := 10) rfl ?_)
      cases hf
      exact q_iret C B hr hlk ⟨rfl, rfl⟩ dX11_wrongGrowth_10
    ·
      replace hf := ms_iF c1 hf
      refine lv_iload_n hx hb dX11_wrongGrowth_4 rfl (lv_at hl 1 rfl) (hp_n (n := 5) rfl ?_)
      refine lv_iload_n hx hb dX11_wrongGrowth_5 rfl (lv_at hl 2 rfl) (hp_n (n := 6) rfl ?_)
      refine lv_icmp_le (tgt := 11) hx hb dX11_wrongGrowth_6 (by decide) (fun c2 => ?_) (fun c2 => hp_n (n := 9) rfl ?_)
      ·
        replace hf := ms_iT c2 hf
        refine lv_aload_nN hx hb dX11_wrongGrowth_11 rfl (lv_at hl 0 rfl) (hp_n (n := 12) rfl ?_)
        refine lv_ifnonnullN hx hb dX11_wrongGrowth_12 (hp_n (n := 15) rfl ?_)
        refine lv_iconst (v := 2) hx hb dX11_wrongGrowth_15 (by decide) (hp_n (n := 16) rfl ?_)
        cases hf
        exact q_iret C B hr hlk ⟨rfl, rfl⟩ dX11_wrongGrowth_16
      ·
        replace hf := ms_iF c2 hf
        refine lv_iconst (v := 1) hx hb dX11_wrongGrowth_9 (by decide) (hp_n (n := 10) rfl ?_)
        cases hf
        exact q_iret C B hr hlk ⟨rfl, rfl⟩ dX11_wrongGrowth_10
  ·
    replace hf := hq_S hf
    have ka0 := k0 a0 rfl
    have hl := lv_entry ([.ref a0, .int a1, .int a2]) (n := 3) (Nat.le_of_ble_eq_true rfl)
    show W p l e (hp_rm 0 0 0) s m ([.ref a0, .int a1, .int a2] : List Value).toArray below meth c s.heap [] 0 0 (MQ below (hp_Qi Γ (fun r β => β = α ∧ r = res)) ([.ref a0, .int a1, .int a2] : List Value).toArray s 0 0 (hp_A Γ)) (entryFrame m ([.ref a0, .int a1, .int a2] : List Value).toArray 3)
    rw [lg_entry_eq]
    generalize (lg_sl ([.ref a0, .int a1, .int a2]) ++ List.replicate (3 - (lg_sl ([.ref a0, .int a1, .int a2])).length) Slot.unset).toArray = ls at hl ⊢
    have hl : lv_has ls 3 [(0, .ref a0), (1, .int a1), (2, .int a2)] := hl
    refine lv_iload_n hx hb dX11_wrongGrowth_0 rfl (lv_at hl 1 rfl) (hp_n (n := 1) rfl ?_)
    refine lv_if_lt (tgt := 9) hx hb dX11_wrongGrowth_1 (by decide) (fun c3 => ?_) (fun c3 => hp_n (n := 4) rfl ?_)
    ·
      replace hf := ms_iT c3 hf
      refine lv_iconst (v := 1) hx hb dX11_wrongGrowth_9 (by decide) (hp_n (n := 10) rfl ?_)
      cases hf
      exact q_iret C B hr hlk ⟨rfl, rfl⟩ dX11_wrongGrowth_10
    ·
      replace hf := ms_iF c3 hf
      refine lv_iload_n hx hb dX11_wrongGrowth_4 rfl (lv_at hl 1 rfl) (hp_n (n := 5) rfl ?_)
      refine lv_iload_n hx hb dX11_wrongGrowth_5 rfl (lv_at hl 2 rfl) (hp_n (n := 6) rfl ?_)
      refine lv_icmp_le (tgt := 11) hx hb dX11_wrongGrowth_6 (by decide) (fun c4 => ?_) (fun c4 => hp_n (n := 9) rfl ?_)
      ·
        replace hf := ms_iT c4 hf
        refine lv_aload_n hx hb dX11_wrongGrowth_11 rfl (lv_at hl 0 rfl) (hp_n (n := 12) rfl ?_)
        refine lv_ifnonnull (tgt := 17) hx hb dX11_wrongGrowth_12 (by decide) ?_
        refine lv_iload_n hx hb dX11_wrongGrowth_17 rfl (lv_at hl 2 rfl) (hp_n (n := 18) rfl ?_)
        refine lv_aload_n hx hb dX11_wrongGrowth_18 rfl (lv_at hl 0 rfl) (hp_n (n := 19) rfl ?_)
        refine q_geti (κ := 3) (k := 2) (φ := 152) (pc' := 22) C B (cw_k B.2.2 ka0) fl_X11_167 rfl rfl rfl dX11_wrongGrowth_19 rfl (fun x5 ex5 => ?_)
        replace hf := ms_lE ex5 hf
        refine lv_icmp_le (tgt := 29) hx hb dX11_wrongGrowth_22 (by decide) (fun c6 => ?_) (fun c6 => hp_n (n := 25) rfl ?_)
        ·
          replace hf := ms_iT c6 hf
          refine lv_iconst (v := 0) hx hb dX11_wrongGrowth_29 (by decide) (hp_n (n := 30) rfl ?_)
          cases hf
          exact q_iret C B hr hlk ⟨rfl, rfl⟩ dX11_wrongGrowth_30
        ·
          replace hf := ms_iF c6 hf
          refine lv_iconst (v := 5) hx hb dX11_wrongGrowth_25 (by decide) (hp_n (n := 26) rfl ?_)
          refine lv_goto (tgt := 30) hx hb dX11_wrongGrowth_26 (by decide) ?_
          cases hf
          exact q_iret C B hr hlk ⟨rfl, rfl⟩ dX11_wrongGrowth_30
      ·
        replace hf := ms_iF c4 hf
        refine lv_iconst (v := 1) hx hb dX11_wrongGrowth_9 (by decide) (hp_n (n := 10) rfl ?_)
        cases hf
        exact q_iret C B hr hlk ⟨rfl, rfl⟩ dX11_wrongGrowth_10
def f_X11_head (n : Nat) (α : hp_T) (a0 : Nat) (a1 : Int32) (a2 : Int32) : Option (Int32 × hp_T) :=
  ms_l (hp_R α 601 a0) fun b1 =>
  ms_b (f_X10_logAt n α b1 a1) fun rh2 =>
  hq_m rh2 (
    ms_b (f_X11_wrongGrowth n α none (0 : Int32) a2) fun rh3 =>
    if rh3 = 0 then
      ms_l (hp_R α 601 a0) fun b5 =>
      hq_c (f_X10_headOf n α b5 none a2) fun rh6 αh6 =>
      hq_c (f_X11_answer n αh6 a0 rh6) fun rh7 αh7 =>
      some (rh7, αh7)
    else
      hq_c (f_X11_refuse n α a0 rh3) fun rh8 αh8 =>
      some (rh8, αh8)) fun bh2 =>
  ms_b (f_X11_wrongGrowth n α (some bh2) (0 : Int32) a2) fun rh9 =>
  if rh9 = 0 then
    ms_l (hp_R α 601 a0) fun b11 =>
    hq_c (f_X10_headOf n α b11 (some bh2) a2) fun rh12 αh12 =>
    hq_c (f_X11_answer n αh12 a0 rh12) fun rh13 αh13 =>
    some (rh13, αh13)
  else
    hq_c (f_X11_refuse n α a0 rh9) fun rh14 αh14 =>
    some (rh14, αh14)
set_option maxRecDepth 100000 in
set_option maxHeartbeats 4000000 in
theorem n_X11_head (n : Nat) (Γ : hp_G) (l : Launch) (α : hp_T) (g : GC α) (a0 : Nat) (k0 : hp_K α a0 = 12) (a1 : Int32) (a2 : Int32) (res : (Int32 × hp_T)) (hf : f_X11_head n α a0 a1 a2 = some res) : Met l yX11_head (hp_ws yX11_head cX11_head 5 (some .int)) (hp_rm 3 0 0) (hp_Pc Γ α [.ref a0, .int a1, .int a2]) (hp_Qi Γ (fun r β => r = res.1 ∧ β = res.2 ∧ cw w_X11_head α β)) 0 0 (hp_A Γ) := by
  unfold f_X11_head at hf
  refine hp_start (by decide) ?_
  intro p e s m below meth c C hr hlk B0 hnm
  have C : hp_C Γ p m c cX11_head 5 s ([.ref a0, .int a1, .int a2] : List Value).toArray RX11 := C
  have hx := C.1.1
  have hb := C.1.2.1
  have hown := C.1.2.2.2.1
  have hts := C.1.2.2.2.2
  have B : hp_B Γ (cw w_X11_head) s α α s.heap [] := ⟨B0.1, B0.2.1, cw_rf g⟩
  have hl := lv_entry ([.ref a0, .int a1, .int a2]) (n := 5) (Nat.le_of_ble_eq_true rfl)
  show W p l e (hp_rm 3 0 0) s m ([.ref a0, .int a1, .int a2] : List Value).toArray below meth c s.heap [] 0 0 (MQ below (hp_Qi Γ (fun r β => r = res.1 ∧ β = res.2 ∧ cw w_X11_head α β)) ([.ref a0, .int a1, .int a2] : List Value).toArray s 0 0 (hp_A Γ)) (entryFrame m ([.ref a0, .int a1, .int a2] : List Value).toArray 5)
  rw [lg_entry_eq]
  generalize (lg_sl ([.ref a0, .int a1, .int a2]) ++ List.replicate (5 - (lg_sl ([.ref a0, .int a1, .int a2])).length) Slot.unset).toArray = ls at hl ⊢
  have hl : lv_has ls 5 [(0, .ref a0), (1, .int a1), (2, .int a2)] := hl
  refine lv_aload_n hx hb dX11_head_0 rfl (lv_at hl 0 rfl) (hp_n (n := 1) rfl ?_)
  refine q_getr (κ := 12) (k := 1) (φ := 601) (pc' := 4) C B (cw_k B.2.2 k0) fl_X11_16 rfl rfl rfl (cw_r B.2.2 k0 rfl rfl (by decide) (by decide)) dX11_head_1 rfl (fun b1 eb1 kb1 => ?_)
  replace hf := ms_lE eb1 hf
  refine lv_iload_n hx hb dX11_head_4 rfl (lv_at hl 1 rfl) (hp_n (n := 5) rfl ?_)
  obtain ⟨rh2, qh2, hf⟩ := ms_bE hf
  refine d_pq (pc' := 8) B (hp_runV (As := [.int a1]) (rest := []) C B (n_X10_logAt n Γ l α B.2.2.1 b1 (cw_k B.2.2 kb1) a1 rh2 qh2) lb_X10_logAt lv_X10_logAt lk_X11_163 (cw_k B.2.2 kb1) rfl (by decide) rfl hl.1 rfl (Nat.le_of_ble_eq_true rfl) dX11_head_5 ⟨Nat.le_refl _, Nat.le_refl _⟩) rfl (fun Hh2 Lh2 Bh2 kh2 => ?_)
  rcases rh2 with _ | bh2
  ·
    replace hf := hq_N hf
    refine lv_astore_nN (lv' := [(3, .null), (0, .ref a0), (1, .int a1), (2, .int a2)]) hx hb dX11_head_8 rfl hl (by decide) rfl (fun ls hl => hp_n (n := 9) rfl ?_)
    refine lv_aload_nN hx hb dX11_head_9 rfl (lv_at hl 0 rfl) (hp_n (n := 10) rfl ?_)
    refine lv_iconst (v := 0) hx hb dX11_head_10 (by decide) (hp_n (n := 11) rfl ?_)
    refine lv_iload_n hx hb dX11_head_11 rfl (lv_at hl 3 rfl) (hp_n (n := 12) rfl ?_)
    obtain ⟨rh3, qh3, hf⟩ := ms_bE hf
    refine d_pi (pc' := 15) Bh2 (hp_runS (As := [va_rf none, .int (0 : Int32), .int a2]) (rest := []) C Bh2 (n_X11_wrongGrowth n Γ l α Bh2.2.2.1 none (fun b h => by cases h) (0 : Int32) a2 rh3 qh3) lb_X11_wrongGrowth ls_X11_wrongGrowth lk_X11_180 rfl (by decide) rfl hl.1 rfl (Nat.le_of_ble_eq_true rfl) dX11_head_12 ⟨Nat.le_refl _, Nat.le_refl _⟩) rfl (fun Hh3 Lh3 Bh3 => ?_)
    refine lv_istore (lv' := [(4, .int rh3), (3, .null), (0, .ref a0), (1, .int a1), (2, .int a2)]) hx hb dX11_head_15 hl (by decide) rfl (fun ls hl => hp_n (n := 17) rfl ?_)
    refine lv_iload hx hb dX11_head_17 (lv_at hl 0 rfl) (hp_n (n := 19) rfl ?_)
    refine lv_if_eq (tgt := 31) hx hb dX11_head_19 (by decide) (fun c4 => ?_) (fun c4 => hp_n (n := 22) rfl ?_)
    ·
      replace hf := ms_iT c4 hf
      refine lv_aload_n hx hb dX11_head_31 rfl (lv_at hl 2 rfl) (hp_n (n := 32) rfl ?_)
      refine lv_aload_n hx hb dX11_head_32 rfl (lv_at hl 2 rfl) (hp_n (n := 33) rfl ?_)
      refine q_getr (κ := 12) (k := 1) (φ := 601) (pc' := 36) C Bh3 (cw_k Bh3.2.2 k0) fl_X11_16 rfl rfl rfl (cw_r Bh3.2.2 k0 rfl rfl (by decide) (by decide)) dX11_head_33 rfl (fun b5 eb5 kb5 => ?_)
      replace hf := ms_lE eb5 hf
      refine lv_aload_nN hx hb dX11_head_36 rfl (lv_at hl 1 rfl) (hp_n (n := 37) rfl ?_)
      refine lv_iload_n hx hb dX11_head_37 rfl (lv_at hl 4 rfl) (hp_n (n := 38) rfl ?_)
      obtain ⟨rh6, αh6, qh6, hf⟩ := hq_cE hf
      refine d_ci (pc' := 41) Bh3 (hp_runV (As := [va_rf none, .int a2]) (rest := [.ref a0]) C Bh3 (n_X10_headOf n Γ l α Bh3.2.2.1 b5 (cw_k Bh3.2.2 kb5) none (fun b h => by cases h) a2 (rh6, αh6) qh6) lb_X10_headOf lv_X10_headOf lk_X11_184 (cw_k Bh3.2.2 kb5) rfl (by decide) rfl hl.1 rfl (Nat.le_of_ble_eq_true rfl) dX11_head_38 ⟨Nat.le_refl _, Nat.le_refl _⟩) (by decide) rfl (fun Hh6 Lh6 Bh6 => ?_)
      obtain ⟨rh7, αh7, qh7, hf⟩ := hq_cE hf
      refine d_ci (pc' := 44) Bh6 (hp_runV (As := [.int rh6]) (rest := []) C Bh6 (n_X11_answer n Γ l αh6 Bh6.2.2.1 a0 (cw_k Bh6.2.2 k0) rh6 (rh7, αh7) qh7) lb_X11_answer lv_X11_answer lk_X11_115 (cw_k Bh6.2.2 k0) rfl (by decide) rfl hl.1 rfl (Nat.le_of_ble_eq_true rfl) dX11_head_41 ⟨Nat.le_refl _, Nat.le_refl _⟩) (by decide) rfl (fun Hh7 Lh7 Bh7 => ?_)
      cases hf
      exact q_iret C Bh7 hr hlk ⟨rfl, rfl, Bh7.2.2⟩ dX11_head_44
    ·
      replace hf := ms_iF c4 hf
      refine lv_aload_n hx hb dX11_head_22 rfl (lv_at hl 2 rfl) (hp_n (n := 23) rfl ?_)
      refine lv_iload hx hb dX11_head_23 (lv_at hl 0 rfl) (hp_n (n := 25) rfl ?_)
      obtain ⟨rh8, αh8, qh8, hf⟩ := hq_cE hf
      refine d_ci (pc' := 28) Bh3 (hp_runV (As := [.int rh3]) (rest := []) C Bh3 (n_X11_refuse n Γ l α Bh3.2.2.1 a0 (cw_k Bh3.2.2 k0) rh3 (rh8, αh8) qh8) lb_X11_refuse lv_X11_refuse lk_X11_98 (cw_k Bh3.2.2 k0) rfl (by decide) rfl hl.1 rfl (Nat.le_of_ble_eq_true rfl) dX11_head_25 ⟨Nat.le_refl _, Nat.le_refl _⟩) (by decide) rfl (fun Hh8 Lh8 Bh8 => ?_)
      refine lv_goto (tgt := 44) hx hb dX11_head_28 (by decide) ?_
      cases hf
      exact q_iret C Bh8 hr hlk ⟨rfl, rfl, Bh8.2.2⟩ dX11_head_44
  ·
    replace hf := hq_S hf
    have kbh2 := kh2 bh2 rfl
    refine lv_astore_n (lv' := [(3, .ref bh2), (0, .ref a0), (1, .int a1), (2, .int a2)]) hx hb dX11_head_8 rfl hl (by decide) rfl (fun ls hl => hp_n (n := 9) rfl ?_)
    refine lv_aload_n hx hb dX11_head_9 rfl (lv_at hl 0 rfl) (hp_n (n := 10) rfl ?_)
    refine lv_iconst (v := 0) hx hb dX11_head_10 (by decide) (hp_n (n := 11) rfl ?_)
    refine lv_iload_n hx hb dX11_head_11 rfl (lv_at hl 3 rfl) (hp_n (n := 12) rfl ?_)
    obtain ⟨rh9, qh9, hf⟩ := ms_bE hf
    refine d_pi (pc' := 15) Bh2 (hp_runS (As := [va_rf (some bh2), .int (0 : Int32), .int a2]) (rest := []) C Bh2 (n_X11_wrongGrowth n Γ l α Bh2.2.2.1 (some bh2) (fun b h => by cases h; exact (cw_k Bh2.2.2 kbh2)) (0 : Int32) a2 rh9 qh9) lb_X11_wrongGrowth ls_X11_wrongGrowth lk_X11_180 rfl (by decide) rfl hl.1 rfl (Nat.le_of_ble_eq_true rfl) dX11_head_12 ⟨Nat.le_refl _, Nat.le_refl _⟩) rfl (fun Hh9 Lh9 Bh9 => ?_)
    refine lv_istore (lv' := [(4, .int rh9), (3, .ref bh2), (0, .ref a0), (1, .int a1), (2, .int a2)]) hx hb dX11_head_15 hl (by decide) rfl (fun ls hl => hp_n (n := 17) rfl ?_)
    refine lv_iload hx hb dX11_head_17 (lv_at hl 0 rfl) (hp_n (n := 19) rfl ?_)
    refine lv_if_eq (tgt := 31) hx hb dX11_head_19 (by decide) (fun c10 => ?_) (fun c10 => hp_n (n := 22) rfl ?_)
    ·
      replace hf := ms_iT c10 hf
      refine lv_aload_n hx hb dX11_head_31 rfl (lv_at hl 2 rfl) (hp_n (n := 32) rfl ?_)
      refine lv_aload_n hx hb dX11_head_32 rfl (lv_at hl 2 rfl) (hp_n (n := 33) rfl ?_)
      refine q_getr (κ := 12) (k := 1) (φ := 601) (pc' := 36) C Bh9 (cw_k Bh9.2.2 k0) fl_X11_16 rfl rfl rfl (cw_r Bh9.2.2 k0 rfl rfl (by decide) (by decide)) dX11_head_33 rfl (fun b11 eb11 kb11 => ?_)
      replace hf := ms_lE eb11 hf
      refine lv_aload_n hx hb dX11_head_36 rfl (lv_at hl 1 rfl) (hp_n (n := 37) rfl ?_)
      refine lv_iload_n hx hb dX11_head_37 rfl (lv_at hl 4 rfl) (hp_n (n := 38) rfl ?_)
      obtain ⟨rh12, αh12, qh12, hf⟩ := hq_cE hf
      refine d_ci (pc' := 41) Bh9 (hp_runV (As := [va_rf (some bh2), .int a2]) (rest := [.ref a0]) C Bh9 (n_X10_headOf n Γ l α Bh9.2.2.1 b11 (cw_k Bh9.2.2 kb11) (some bh2) (fun b h => by cases h; exact (cw_k Bh9.2.2 kbh2)) a2 (rh12, αh12) qh12) lb_X10_headOf lv_X10_headOf lk_X11_184 (cw_k Bh9.2.2 kb11) rfl (by decide) rfl hl.1 rfl (Nat.le_of_ble_eq_true rfl) dX11_head_38 ⟨Nat.le_refl _, Nat.le_refl _⟩) (by decide) rfl (fun Hh12 Lh12 Bh12 => ?_)
      obtain ⟨rh13, αh13, qh13, hf⟩ := hq_cE hf
      refine d_ci (pc' := 44) Bh12 (hp_runV (As := [.int rh12]) (rest := []) C Bh12 (n_X11_answer n Γ l αh12 Bh12.2.2.1 a0 (cw_k Bh12.2.2 k0) rh12 (rh13, αh13) qh13) lb_X11_answer lv_X11_answer lk_X11_115 (cw_k Bh12.2.2 k0) rfl (by decide) rfl hl.1 rfl (Nat.le_of_ble_eq_true rfl) dX11_head_41 ⟨Nat.le_refl _, Nat.le_refl _⟩) (by decide) rfl (fun Hh13 Lh13 Bh13 => ?_)
      cases hf
      exact q_iret C Bh13 hr hlk ⟨rfl, rfl, Bh13.2.2⟩ dX11_head_44
    ·
      replace hf := ms_iF c10 hf
      refine lv_aload_n hx hb dX11_head_22 rfl (lv_at hl 2 rfl) (hp_n (n := 23) rfl ?_)
      refine lv_iload hx hb dX11_head_23 (lv_at hl 0 rfl) (hp_n (n := 25) rfl ?_)
      obtain ⟨rh14, αh14, qh14, hf⟩ := hq_cE hf
      refine d_ci (pc' := 28) Bh9 (hp_runV (As := [.int rh9]) (rest := []) C Bh9 (n_X11_refuse n Γ l α Bh9.2.2.1 a0 (cw_k Bh9.2.2 k0) rh9 (rh14, αh14) qh14) lb_X11_refuse lv_X11_refuse lk_X11_98 (cw_k Bh9.2.2 k0) rfl (by decide) rfl hl.1 rfl (Nat.le_of_ble_eq_true rfl) dX11_head_25 ⟨Nat.le_refl _, Nat.le_refl _⟩) (by decide) rfl (fun Hh14 Lh14 Bh14 => ?_)
      refine lv_goto (tgt := 44) hx hb dX11_head_28 (by decide) ?_
      cases hf
      exact q_iret C Bh14 hr hlk ⟨rfl, rfl, Bh14.2.2⟩ dX11_head_44
def f_X11_wrongInclusions_J29 (n : Nat) (α : hp_T) : Option Int32 :=
  some (5 : Int32)
def f_X11_wrongInclusion (n : Nat) (α : hp_T) (o0 : Option Nat) (a1 : Int32) (a2 : Int32) : Option Int32 :=
  hq_m o0 (
    if a1 < 0 then
      some (1 : Int32)
    else
      if 0 ≤ a2 then
        some (2 : Int32)
      else
        some (1 : Int32)) fun a0 =>
  if a1 < 0 then
    some (1 : Int32)
  else
    if 0 ≤ a2 then
      ms_l (hp_I α 152 a0) fun x5 =>
      if x5 < a2 then
        f_X11_wrongInclusions_J29 n α 
      else
        if a1 < a2 then
          some (0 : Int32)
        else
          f_X11_wrongInclusions_J29 n α 
    else
      some (1 : Int32)
set_option maxRecDepth 100000 in
set_option maxHeartbeats 4000000 in
theorem n_X11_wrongInclusion (n : Nat) (Γ : hp_G) (l : Launch) (α : hp_T) (g : GC α) (o0 : Option Nat) (k0 : ∀ b, o0 = some b → hp_K α b = 3) (a1 : Int32) (a2 : Int32) (res : Int32) (hf : f_X11_wrongInclusion n α o0 a1 a2 = some res) : Met l yX11_wrongInclusion (hp_ws yX11_wrongInclusion cX11_wrongInclusion 3 (some .int)) (hp_rm 0 0 0) (hp_Pc Γ α [va_rf o0, .int a1, .int a2]) (hp_Qi Γ (fun r β => β = α ∧ r = res)) 0 0 (hp_A Γ) := by
  unfold f_X11_wrongInclusion at hf
  refine hp_start (by decide) ?_
  intro p e s m below meth c C hr hlk B0 hnm
  have C : hp_C Γ p m c cX11_wrongInclusion 3 s ([va_rf o0, .int a1, .int a2] : List Value).toArray RX11 := C
  have hx := C.1.1
  have hb := C.1.2.1
  have hown := C.1.2.2.2.1
  have hts := C.1.2.2.2.2
  have B : hp_B Γ (cw w_X11_wrongInclusion) s α α s.heap [] := ⟨B0.1, B0.2.1, cw_rf g⟩
  rcases o0 with _ | a0
  ·
    replace hf := hq_N hf
    have hl := lv_entry ([.null, .int a1, .int a2]) (n := 3) (Nat.le_of_ble_eq_true rfl)
    show W p l e (hp_rm 0 0 0) s m ([.null, .int a1, .int a2] : List Value).toArray below meth c s.heap [] 0 0 (MQ below (hp_Qi Γ (fun r β => β = α ∧ r = res)) ([.null, .int a1, .int a2] : List Value).toArray s 0 0 (hp_A Γ)) (entryFrame m ([.null, .int a1, .int a2] : List Value).toArray 3)
    rw [lg_entry_eq]
    generalize (lg_sl ([.null, .int a1, .int a2]) ++ List.replicate (3 - (lg_sl ([.null, .int a1, .int a2])).length) Slot.unset).toArray = ls at hl ⊢
    have hl : lv_has ls 3 [(0, .null), (1, .int a1), (2, .int a2)] := hl
    refine lv_iload_n hx hb dX11_wrongInclusion_0 rfl (lv_at hl 1 rfl) (hp_n (n := 1) rfl ?_)
    refine lv_if_lt (tgt := 8) hx hb dX11_wrongInclusion_1 (by decide) (fun c1 => ?_) (fun c1 => hp_n (n := 4) rfl ?_)
    ·
      replace hf := ms_iT c1 hf
      refine lv_iconst (v := 1) hx hb dX11_wrongInclusion_8 (by decide) (hp_n (n := 9) rfl ?_)
      cases hf
      exact q_iret C B hr hlk ⟨rfl, rfl⟩ dX11_wrongInclusion_9
    ·
      replace hf := ms_iF c1 hf
      refine lv_iload_n hx hb dX11_wrongInclusion_4 rfl (lv_at hl 2 rfl) (hp_n (n := 5) rfl ?_)
      refine lv_if_ge (tgt := 10) hx hb dX11_wrongInclusion_5 (by decide) (fun c2 => ?_) (fun c2 => hp_n (n := 8) rfl ?_)
      ·
        replace hf := ms_iT c2 hf
        refine lv_aload_nN hx hb dX11_wrongInclusion_10 rfl (lv_at hl 0 rfl) (hp_n (n := 11) rfl ?_)
        refine lv_ifnonnullN hx hb dX11_wrongInclusion_11 (hp_n (n := 14) rfl ?_)
        refine lv_iconst (v := 2) hx hb dX11_wrongInclusion_14 (by decide) (hp_n (n := 15) rfl ?_)
        cases hf
        exact q_iret C B hr hlk ⟨rfl, rfl⟩ dX11_wrongInclusion_15
      ·
        replace hf := ms_iF c2 hf
        refine lv_iconst (v := 1) hx hb dX11_wrongInclusion_8 (by decide) (hp_n (n := 9) rfl ?_)
        cases hf
        exact q_iret C B hr hlk ⟨rfl, rfl⟩ dX11_wrongInclusion_9
  ·
    replace hf := hq_S hf
    have ka0 := k0 a0 rfl
    have hl := lv_entry ([.ref a0, .int a1, .int a2]) (n := 3) (Nat.le_of_ble_eq_true rfl)
    show W p l e (hp_rm 0 0 0) s m ([.ref a0, .int a1, .int a2] : List Value).toArray below meth c s.heap [] 0 0 (MQ below (hp_Qi Γ (fun r β => β = α ∧ r = res)) ([.ref a0, .int a1, .int a2] : List Value).toArray s 0 0 (hp_A Γ)) (entryFrame m ([.ref a0, .int a1, .int a2] : List Value).toArray 3)
    rw [lg_entry_eq]
    generalize (lg_sl ([.ref a0, .int a1, .int a2]) ++ List.replicate (3 - (lg_sl ([.ref a0, .int a1, .int a2])).length) Slot.unset).toArray = ls at hl ⊢
    have hl : lv_has ls 3 [(0, .ref a0), (1, .int a1), (2, .int a2)] := hl
    refine lv_iload_n hx hb dX11_wrongInclusion_0 rfl (lv_at hl 1 rfl) (hp_n (n := 1) rfl ?_)
    refine lv_if_lt (tgt := 8) hx hb dX11_wrongInclusion_1 (by decide) (fun c3 => ?_) (fun c3 => hp_n (n := 4) rfl ?_)
    ·
      replace hf := ms_iT c3 hf
      refine lv_iconst (v := 1) hx hb dX11_wrongInclusion_8 (by decide) (hp_n (n := 9) rfl ?_)
      cases hf
      exact q_iret C B hr hlk ⟨rfl, rfl⟩ dX11_wrongInclusion_9
    ·
      replace hf := ms_iF c3 hf
      refine lv_iload_n hx hb dX11_wrongInclusion_4 rfl (lv_at hl 2 rfl) (hp_n (n := 5) rfl ?_)
      refine lv_if_ge (tgt := 10) hx hb dX11_wrongInclusion_5 (by decide) (fun c4 => ?_) (fun c4 => hp_n (n := 8) rfl ?_)
      ·
        replace hf := ms_iT c4 hf
        refine lv_aload_n hx hb dX11_wrongInclusion_10 rfl (lv_at hl 0 rfl) (hp_n (n := 11) rfl ?_)
        refine lv_ifnonnull (tgt := 16) hx hb dX11_wrongInclusion_11 (by decide) ?_
        refine lv_iload_n hx hb dX11_wrongInclusion_16 rfl (lv_at hl 2 rfl) (hp_n (n := 17) rfl ?_)
        refine lv_aload_n hx hb dX11_wrongInclusion_17 rfl (lv_at hl 0 rfl) (hp_n (n := 18) rfl ?_)
        refine q_geti (κ := 3) (k := 2) (φ := 152) (pc' := 21) C B (cw_k B.2.2 ka0) fl_X11_167 rfl rfl rfl dX11_wrongInclusion_18 rfl (fun x5 ex5 => ?_)
        replace hf := ms_lE ex5 hf
        have J29 : ∀ (Hh6 : Heap) (Lh6 : List Loc) (Bh6 : hp_B Γ (cw w_X11_wrongInclusion) s α α Hh6 Lh6) (ls : Array Slot) (hl : lv_has ls 3 []) (hf : f_X11_wrongInclusions_J29 n α  = some res), W p l e (hp_rm 0 0 0) s m ([.ref a0, .int a1, .int a2] : List Value).toArray below meth c Hh6 Lh6 0 0 (MQ below (hp_Qi Γ (fun r β => β = α ∧ r = res)) ([.ref a0, .int a1, .int a2] : List Value).toArray s 0 0 (hp_A Γ)) (F0 m 29 ls []) := by
          intro Hh6 Lh6 Bh6 ls hl hf
          unfold f_X11_wrongInclusions_J29 at hf
          refine lv_iconst (v := 5) hx hb dX11_wrongInclusion_29 (by decide) (hp_n (n := 30) rfl ?_)
          refine lv_goto (tgt := 34) hx hb dX11_wrongInclusion_30 (by decide) ?_
          cases hf
          exact q_iret C Bh6 hr hlk ⟨rfl, rfl⟩ dX11_wrongInclusion_34
        refine lv_icmp_gt (tgt := 29) hx hb dX11_wrongInclusion_21 (by decide) (fun c7 => ?_) (fun c7 => hp_n (n := 24) rfl ?_)
        ·
          replace hf := ms_iT c7 hf
          exact J29 s.heap [] B ls (lv_sub hl [] rfl) hf
        ·
          replace hf := ms_iF c7 hf
          refine lv_iload_n hx hb dX11_wrongInclusion_24 rfl (lv_at hl 1 rfl) (hp_n (n := 25) rfl ?_)
          refine lv_iload_n hx hb dX11_wrongInclusion_25 rfl (lv_at hl 2 rfl) (hp_n (n := 26) rfl ?_)
          refine lv_icmp_lt (tgt := 33) hx hb dX11_wrongInclusion_26 (by decide) (fun c8 => ?_) (fun c8 => hp_n (n := 29) rfl ?_)
          ·
            replace hf := ms_iT c8 hf
            refine lv_iconst (v := 0) hx hb dX11_wrongInclusion_33 (by decide) (hp_n (n := 34) rfl ?_)
            cases hf
            exact q_iret C B hr hlk ⟨rfl, rfl⟩ dX11_wrongInclusion_34
          ·
            replace hf := ms_iF c8 hf
            exact J29 s.heap [] B ls (lv_sub hl [] rfl) hf
      ·
        replace hf := ms_iF c4 hf
        refine lv_iconst (v := 1) hx hb dX11_wrongInclusion_8 (by decide) (hp_n (n := 9) rfl ?_)
        cases hf
        exact q_iret C B hr hlk ⟨rfl, rfl⟩ dX11_wrongInclusion_9
def f_X11_include (n : Nat) (α : hp_T) (a0 : Nat) (a1 : Int32) (a2 : Int32) (a3 : Int32) : Option (Int32 × hp_T) :=
  ms_l (hp_R α 601 a0) fun b1 =>
  ms_b (f_X10_logAt n α b1 a1) fun rh2 =>
  hq_m rh2 (
    ms_b (f_X11_wrongInclusion n α none a2 a3) fun rh3 =>
    if rh3 = 0 then
      ms_l (hp_R α 612 a0) fun b5 =>
      ms_b (f_X8_toThing n α b5 a2 a3) fun αh6 =>
      ms_l (hp_R αh6 601 a0) fun b7 =>
      ms_l (hp_R αh6 612 a0) fun b8 =>
      ms_l (hp_R αh6 603 a0) fun b9 =>
      ms_b (f_X10_marksAlong n αh6 b7 b8 none b9) fun αh10 =>
      ms_l (hp_R αh10 603 a0) fun b11 =>
      ms_l (hp_I αh10 301 b11) fun x12 =>
      hq_c (f_X11_answer n αh10 a0 x12) fun rh13 αh13 =>
      some (rh13, αh13)
    else
      hq_c (f_X11_refuse n α a0 rh3) fun rh14 αh14 =>
      some (rh14, αh14)) fun bh2 =>
  ms_b (f_X11_wrongInclusion n α (some bh2) a2 a3) fun rh15 =>
  if rh15 = 0 then
    ms_l (hp_R α 612 a0) fun b17 =>
    ms_b (f_X8_toThing n α b17 a2 a3) fun αh18 =>
    ms_l (hp_R αh18 601 a0) fun b19 =>
    ms_l (hp_R αh18 612 a0) fun b20 =>
    ms_l (hp_R αh18 603 a0) fun b21 =>
    ms_b (f_X10_marksAlong n αh18 b19 b20 (some bh2) b21) fun αh22 =>
    ms_l (hp_R αh22 603 a0) fun b23 =>
    ms_l (hp_I αh22 301 b23) fun x24 =>
    hq_c (f_X11_answer n αh22 a0 x24) fun rh25 αh25 =>
    some (rh25, αh25)
  else
    hq_c (f_X11_refuse n α a0 rh15) fun rh26 αh26 =>
    some (rh26, αh26)
set_option maxRecDepth 100000 in
set_option maxHeartbeats 4000000 in
theorem n_X11_include (n : Nat) (Γ : hp_G) (l : Launch) (α : hp_T) (g : GC α) (a0 : Nat) (k0 : hp_K α a0 = 12) (a1 : Int32) (a2 : Int32) (a3 : Int32) (res : (Int32 × hp_T)) (hf : f_X11_include n α a0 a1 a2 a3 = some res) : Met l yX11_include (hp_ws yX11_include cX11_include 6 (some .int)) (hp_rm 4 0 0) (hp_Pc Γ α [.ref a0, .int a1, .int a2, .int a3]) (hp_Qi Γ (fun r β => r = res.1 ∧ β = res.2 ∧ cw w_X11_include α β)) 0 0 (hp_A Γ) := by
  unfold f_X11_include at hf
  refine hp_start (by decide) ?_
  intro p e s m below meth c C hr hlk B0 hnm
  have C : hp_C Γ p m c cX11_include 6 s ([.ref a0, .int a1, .int a2, .int a3] : List Value).toArray RX11 := C
  have hx := C.1.1
  have hb := C.1.2.1
  have hown := C.1.2.2.2.1
  have hts := C.1.2.2.2.2
  have B : hp_B Γ (cw w_X11_include) s α α s.heap [] := ⟨B0.1, B0.2.1, cw_rf g⟩
  have hl := lv_entry ([.ref a0, .int a1, .int a2, .int a3]) (n := 6) (Nat.le_of_ble_eq_true rfl)
  show W p l e (hp_rm 4 0 0) s m ([.ref a0, .int a1, .int a2, .int a3] : List Value).toArray below meth c s.heap [] 0 0 (MQ below (hp_Qi Γ (fun r β => r = res.1 ∧ β = res.2 ∧ cw w_X11_include α β)) ([.ref a0, .int a1, .int a2, .int a3] : List Value).toArray s 0 0 (hp_A Γ)) (entryFrame m ([.ref a0, .int a1, .int a2, .int a3] : List Value).toArray 6)
  rw [lg_entry_eq]
  generalize (lg_sl ([.ref a0, .int a1, .int a2, .int a3]) ++ List.replicate (6 - (lg_sl ([.ref a0, .int a1, .int a2, .int a3])).length) Slot.unset).toArray = ls at hl ⊢
  have hl : lv_has ls 6 [(0, .ref a0), (1, .int a1), (2, .int a2), (3, .int a3)] := hl
  refine lv_aload_n hx hb dX11_include_0 rfl (lv_at hl 0 rfl) (hp_n (n := 1) rfl ?_)
  refine q_getr (κ := 12) (k := 1) (φ := 601) (pc' := 4) C B (cw_k B.2.2 k0) fl_X11_16 rfl rfl rfl (cw_r B.2.2 k0 rfl rfl (by decide) (by decide)) dX11_include_1 rfl (fun b1 eb1 kb1 => ?_)
  replace hf := ms_lE eb1 hf
  refine lv_iload_n hx hb dX11_include_4 rfl (lv_at hl 1 rfl) (hp_n (n := 5) rfl ?_)
  obtain ⟨rh2, qh2, hf⟩ := ms_bE hf
  refine d_pq (pc' := 8) B (hp_runV (As := [.int a1]) (rest := []) C B (n_X10_logAt n Γ l α B.2.2.1 b1 (cw_k B.2.2 kb1) a1 rh2 qh2) lb_X10_logAt lv_X10_logAt lk_X11_163 (cw_k B.2.2 kb1) rfl (by decide) rfl hl.1 rfl (Nat.le_of_ble_eq_true rfl) dX11_include_5 ⟨Nat.le_refl _, Nat.le_refl _⟩) rfl (fun Hh2 Lh2 Bh2 kh2 => ?_)
  rcases rh2 with _ | bh2
  ·
    replace hf := hq_N hf
    refine lv_astoreN (lv' := [(4, .null), (0, .ref a0), (1, .int a1), (2, .int a2), (3, .int a3)]) hx hb dX11_include_8 hl (by decide) rfl (fun ls hl => hp_n (n := 10) rfl ?_)
    refine lv_aloadN hx hb dX11_include_10 (lv_at hl 0 rfl) (hp_n (n := 12) rfl ?_)
    refine lv_iload_n hx hb dX11_include_12 rfl (lv_at hl 3 rfl) (hp_n (n := 13) rfl ?_)
    refine lv_iload_n hx hb dX11_include_13 rfl (lv_at hl 4 rfl) (hp_n (n := 14) rfl ?_)
    obtain ⟨rh3, qh3, hf⟩ := ms_bE hf
    refine d_pi (pc' := 17) Bh2 (hp_runS (As := [va_rf none, .int a2, .int a3]) (rest := []) C Bh2 (n_X11_wrongInclusion n Γ l α Bh2.2.2.1 none (fun b h => by cases h) a2 a3 rh3 qh3) lb_X11_wrongInclusion ls_X11_wrongInclusion lk_X11_264 rfl (by decide) rfl hl.1 rfl (Nat.le_of_ble_eq_true rfl) dX11_include_14 ⟨Nat.le_refl _, Nat.le_refl _⟩) rfl (fun Hh3 Lh3 Bh3 => ?_)
    refine lv_istore (lv' := [(5, .int rh3), (4, .null), (0, .ref a0), (1, .int a1), (2, .int a2), (3, .int a3)]) hx hb dX11_include_17 hl (by decide) rfl (fun ls hl => hp_n (n := 19) rfl ?_)
    refine lv_iload hx hb dX11_include_19 (lv_at hl 0 rfl) (hp_n (n := 21) rfl ?_)
    refine lv_if_eq (tgt := 31) hx hb dX11_include_21 (by decide) (fun c4 => ?_) (fun c4 => hp_n (n := 24) rfl ?_)
    ·
      replace hf := ms_iT c4 hf
      refine lv_aload_n hx hb dX11_include_31 rfl (lv_at hl 2 rfl) (hp_n (n := 32) rfl ?_)
      refine q_getr (κ := 12) (k := 12) (φ := 612) (pc' := 35) C Bh3 (cw_k Bh3.2.2 k0) fl_X11_62 rfl rfl rfl (cw_r Bh3.2.2 k0 rfl rfl (by decide) (by decide)) dX11_include_32 rfl (fun b5 eb5 kb5 => ?_)
      replace hf := ms_lE eb5 hf
      refine lv_iload_n hx hb dX11_include_35 rfl (lv_at hl 4 rfl) (hp_n (n := 36) rfl ?_)
      refine lv_iload_n hx hb dX11_include_36 rfl (lv_at hl 5 rfl) (hp_n (n := 37) rfl ?_)
      obtain ⟨αh6, qh6, hf⟩ := ms_bE hf
      refine d_cv (pc' := 40) Bh3 (hp_runV (As := [.int a2, .int a3]) (rest := []) C Bh3 (n_X8_toThing n Γ l α Bh3.2.2.1 b5 (cw_k Bh3.2.2 kb5) a2 a3 αh6 qh6) lb_X8_toThing lv_X8_toThing lk_X11_267 (cw_k Bh3.2.2 kb5) rfl (by decide) rfl hl.1 rfl (Nat.le_of_ble_eq_true rfl) dX11_include_37 ⟨Nat.le_refl _, Nat.le_refl _⟩) (by decide) rfl (fun Hh6 Lh6 Bh6 => ?_)
      refine lv_aload_n hx hb dX11_include_40 rfl (lv_at hl 2 rfl) (hp_n (n := 41) rfl ?_)
      refine q_getr (κ := 12) (k := 1) (φ := 601) (pc' := 44) C Bh6 (cw_k Bh6.2.2 k0) fl_X11_16 rfl rfl rfl (cw_r Bh6.2.2 k0 rfl rfl (by decide) (by decide)) dX11_include_41 rfl (fun b7 eb7 kb7 => ?_)
      replace hf := ms_lE eb7 hf
      refine lv_aload_n hx hb dX11_include_44 rfl (lv_at hl 2 rfl) (hp_n (n := 45) rfl ?_)
      refine q_getr (κ := 12) (k := 12) (φ := 612) (pc' := 48) C Bh6 (cw_k Bh6.2.2 k0) fl_X11_62 rfl rfl rfl (cw_r Bh6.2.2 k0 rfl rfl (by decide) (by decide)) dX11_include_45 rfl (fun b8 eb8 kb8 => ?_)
      replace hf := ms_lE eb8 hf
      refine lv_aloadN hx hb dX11_include_48 (lv_at hl 1 rfl) (hp_n (n := 50) rfl ?_)
      refine lv_aload_n hx hb dX11_include_50 rfl (lv_at hl 2 rfl) (hp_n (n := 51) rfl ?_)
      refine q_getr (κ := 12) (k := 3) (φ := 603) (pc' := 54) C Bh6 (cw_k Bh6.2.2 k0) fl_X11_26 rfl rfl rfl (cw_r Bh6.2.2 k0 rfl rfl (by decide) (by decide)) dX11_include_51 rfl (fun b9 eb9 kb9 => ?_)
      replace hf := ms_lE eb9 hf
      obtain ⟨αh10, qh10, hf⟩ := ms_bE hf
      refine d_cv (pc' := 57) Bh6 (hp_runV (As := [.ref b8, va_rf none, .ref b9]) (rest := []) C Bh6 (n_X10_marksAlong n Γ l αh6 Bh6.2.2.1 b7 (cw_k Bh6.2.2 kb7) b8 (cw_k Bh6.2.2 kb8) none (fun b h => by cases h) b9 (cw_k Bh6.2.2 kb9) αh10 qh10) lb_X10_marksAlong lv_X10_marksAlong lk_X11_270 (cw_k Bh6.2.2 kb7) rfl (by decide) rfl hl.1 rfl (Nat.le_of_ble_eq_true rfl) dX11_include_54 ⟨Nat.le_refl _, Nat.le_refl _⟩) (by decide) rfl (fun Hh10 Lh10 Bh10 => ?_)
      refine lv_aload_n hx hb dX11_include_57 rfl (lv_at hl 2 rfl) (hp_n (n := 58) rfl ?_)
      refine lv_aload_n hx hb dX11_include_58 rfl (lv_at hl 2 rfl) (hp_n (n := 59) rfl ?_)
      refine q_getr (κ := 12) (k := 3) (φ := 603) (pc' := 62) C Bh10 (cw_k Bh10.2.2 k0) fl_X11_26 rfl rfl rfl (cw_r Bh10.2.2 k0 rfl rfl (by decide) (by decide)) dX11_include_59 rfl (fun b11 eb11 kb11 => ?_)
      replace hf := ms_lE eb11 hf
      refine q_geti (κ := 6) (k := 1) (φ := 301) (pc' := 65) C Bh10 (cw_k Bh10.2.2 kb11) fl_X11_132 rfl rfl rfl dX11_include_62 rfl (fun x12 ex12 => ?_)
      replace hf := ms_lE ex12 hf
      obtain ⟨rh13, αh13, qh13, hf⟩ := hq_cE hf
      refine d_ci (pc' := 68) Bh10 (hp_runV (As := [.int x12]) (rest := []) C Bh10 (n_X11_answer n Γ l αh10 Bh10.2.2.1 a0 (cw_k Bh10.2.2 k0) x12 (rh13, αh13) qh13) lb_X11_answer lv_X11_answer lk_X11_115 (cw_k Bh10.2.2 k0) rfl (by decide) rfl hl.1 rfl (Nat.le_of_ble_eq_true rfl) dX11_include_65 ⟨Nat.le_refl _, Nat.le_refl _⟩) (by decide) rfl (fun Hh13 Lh13 Bh13 => ?_)
      cases hf
      exact q_iret C Bh13 hr hlk ⟨rfl, rfl, Bh13.2.2⟩ dX11_include_68
    ·
      replace hf := ms_iF c4 hf
      refine lv_aload_n hx hb dX11_include_24 rfl (lv_at hl 2 rfl) (hp_n (n := 25) rfl ?_)
      refine lv_iload hx hb dX11_include_25 (lv_at hl 0 rfl) (hp_n (n := 27) rfl ?_)
      obtain ⟨rh14, αh14, qh14, hf⟩ := hq_cE hf
      refine d_ci (pc' := 30) Bh3 (hp_runV (As := [.int rh3]) (rest := []) C Bh3 (n_X11_refuse n Γ l α Bh3.2.2.1 a0 (cw_k Bh3.2.2 k0) rh3 (rh14, αh14) qh14) lb_X11_refuse lv_X11_refuse lk_X11_98 (cw_k Bh3.2.2 k0) rfl (by decide) rfl hl.1 rfl (Nat.le_of_ble_eq_true rfl) dX11_include_27 ⟨Nat.le_refl _, Nat.le_refl _⟩) (by decide) rfl (fun Hh14 Lh14 Bh14 => ?_)
      cases hf
      exact q_iret C Bh14 hr hlk ⟨rfl, rfl, Bh14.2.2⟩ dX11_include_30
  ·
    replace hf := hq_S hf
    have kbh2 := kh2 bh2 rfl
    refine lv_astore (lv' := [(4, .ref bh2), (0, .ref a0), (1, .int a1), (2, .int a2), (3, .int a3)]) hx hb dX11_include_8 hl (by decide) rfl (fun ls hl => hp_n (n := 10) rfl ?_)
    refine lv_aload hx hb dX11_include_10 (lv_at hl 0 rfl) (hp_n (n := 12) rfl ?_)
    refine lv_iload_n hx hb dX11_include_12 rfl (lv_at hl 3 rfl) (hp_n (n := 13) rfl ?_)
    refine lv_iload_n hx hb dX11_include_13 rfl (lv_at hl 4 rfl) (hp_n (n := 14) rfl ?_)
    obtain ⟨rh15, qh15, hf⟩ := ms_bE hf
    refine d_pi (pc' := 17) Bh2 (hp_runS (As := [va_rf (some bh2), .int a2, .int a3]) (rest := []) C Bh2 (n_X11_wrongInclusion n Γ l α Bh2.2.2.1 (some bh2) (fun b h => by cases h; exact (cw_k Bh2.2.2 kbh2)) a2 a3 rh15 qh15) lb_X11_wrongInclusion ls_X11_wrongInclusion lk_X11_264 rfl (by decide) rfl hl.1 rfl (Nat.le_of_ble_eq_true rfl) dX11_include_14 ⟨Nat.le_refl _, Nat.le_refl _⟩) rfl (fun Hh15 Lh15 Bh15 => ?_)
    refine lv_istore (lv' := [(5, .int rh15), (4, .ref bh2), (0, .ref a0), (1, .int a1), (2, .int a2), (3, .int a3)]) hx hb dX11_include_17 hl (by decide) rfl (fun ls hl => hp_n (n := 19) rfl ?_)
    refine lv_iload hx hb dX11_include_19 (lv_at hl 0 rfl) (hp_n (n := 21) rfl ?_)
    refine lv_if_eq (tgt := 31) hx hb dX11_include_21 (by decide) (fun c16 => ?_) (fun c16 => hp_n (n := 24) rfl ?_)
    ·
      replace hf := ms_iT c16 hf
      refine lv_aload_n hx hb dX11_include_31 rfl (lv_at hl 2 rfl) (hp_n (n := 32) rfl ?_)
      refine q_getr (κ := 12) (k := 12) (φ := 612) (pc' := 35) C Bh15 (cw_k Bh15.2.2 k0) fl_X11_62 rfl rfl rfl (cw_r Bh15.2.2 k0 rfl rfl (by decide) (by decide)) dX11_include_32 rfl (fun b17 eb17 kb17 => ?_)
      replace hf := ms_lE eb17 hf
      refine lv_iload_n hx hb dX11_include_35 rfl (lv_at hl 4 rfl) (hp_n (n := 36) rfl ?_)
      refine lv_iload_n hx hb dX11_include_36 rfl (lv_at hl 5 rfl) (hp_n (n := 37) rfl ?_)
      obtain ⟨αh18, qh18, hf⟩ := ms_bE hf
      refine d_cv (pc' := 40) Bh15 (hp_runV (As := [.int a2, .int a3]) (rest := []) C Bh15 (n_X8_toThing n Γ l α Bh15.2.2.1 b17 (cw_k Bh15.2.2 kb17) a2 a3 αh18 qh18) lb_X8_toThing lv_X8_toThing lk_X11_267 (cw_k Bh15.2.2 kb17) rfl (by decide) rfl hl.1 rfl (Nat.le_of_ble_eq_true rfl) dX11_include_37 ⟨Nat.le_refl _, Nat.le_refl _⟩) (by decide) rfl (fun Hh18 Lh18 Bh18 => ?_)
      refine lv_aload_n hx hb dX11_include_40 rfl (lv_at hl 2 rfl) (hp_n (n := 41) rfl ?_)
      refine q_getr (κ := 12) (k := 1) (φ := 601) (pc' := 44) C Bh18 (cw_k Bh18.2.2 k0) fl_X11_16 rfl rfl rfl (cw_r Bh18.2.2 k0 rfl rfl (by decide) (by decide)) dX11_include_41 rfl (fun b19 eb19 kb19 => ?_)
      replace hf := ms_lE eb19 hf
      refine lv_aload_n hx hb dX11_include_44 rfl (lv_at hl 2 rfl) (hp_n (n := 45) rfl ?_)
      refine q_getr (κ := 12) (k := 12) (φ := 612) (pc' := 48) C Bh18 (cw_k Bh18.2.2 k0) fl_X11_62 rfl rfl rfl (cw_r Bh18.2.2 k0 rfl rfl (by decide) (by decide)) dX11_include_45 rfl (fun b20 eb20 kb20 => ?_)
      replace hf := ms_lE eb20 hf
      refine lv_aload hx hb dX11_include_48 (lv_at hl 1 rfl) (hp_n (n := 50) rfl ?_)
      refine lv_aload_n hx hb dX11_include_50 rfl (lv_at hl 2 rfl) (hp_n (n := 51) rfl ?_)
      refine q_getr (κ := 12) (k := 3) (φ := 603) (pc' := 54) C Bh18 (cw_k Bh18.2.2 k0) fl_X11_26 rfl rfl rfl (cw_r Bh18.2.2 k0 rfl rfl (by decide) (by decide)) dX11_include_51 rfl (fun b21 eb21 kb21 => ?_)
      replace hf := ms_lE eb21 hf
      obtain ⟨αh22, qh22, hf⟩ := ms_bE hf
      refine d_cv (pc' := 57) Bh18 (hp_runV (As := [.ref b20, va_rf (some bh2), .ref b21]) (rest := []) C Bh18 (n_X10_marksAlong n Γ l αh18 Bh18.2.2.1 b19 (cw_k Bh18.2.2 kb19) b20 (cw_k Bh18.2.2 kb20) (some bh2) (fun b h => by cases h; exact (cw_k Bh18.2.2 kbh2)) b21 (cw_k Bh18.2.2 kb21) αh22 qh22) lb_X10_marksAlong lv_X10_marksAlong lk_X11_270 (cw_k Bh18.2.2 kb19) rfl (by decide) rfl hl.1 rfl (Nat.le_of_ble_eq_true rfl) dX11_include_54 ⟨Nat.le_refl _, Nat.le_refl _⟩) (by decide) rfl (fun Hh22 Lh22 Bh22 => ?_)
      refine lv_aload_n hx hb dX11_include_57 rfl (lv_at hl 2 rfl) (hp_n (n := 58) rfl ?_)
      refine lv_aload_n hx hb dX11_include_58 rfl (lv_at hl 2 rfl) (hp_n (n := 59) rfl ?_)
      refine q_getr (κ := 12) (k := 3) (φ := 603) (pc' := 62) C Bh22 (cw_k Bh22.2.2 k0) fl_X11_26 rfl rfl rfl (cw_r Bh22.2.2 k0 rfl rfl (by decide) (by decide)) dX11_include_59 rfl (fun b23 eb23 kb23 => ?_)
      replace hf := ms_lE eb23 hf
      refine q_geti (κ := 6) (k := 1) (φ := 301) (pc' := 65) C Bh22 (cw_k Bh22.2.2 kb23) fl_X11_132 rfl rfl rfl dX11_include_62 rfl (fun x24 ex24 => ?_)
      replace hf := ms_lE ex24 hf
      obtain ⟨rh25, αh25, qh25, hf⟩ := hq_cE hf
      refine d_ci (pc' := 68) Bh22 (hp_runV (As := [.int x24]) (rest := []) C Bh22 (n_X11_answer n Γ l αh22 Bh22.2.2.1 a0 (cw_k Bh22.2.2 k0) x24 (rh25, αh25) qh25) lb_X11_answer lv_X11_answer lk_X11_115 (cw_k Bh22.2.2 k0) rfl (by decide) rfl hl.1 rfl (Nat.le_of_ble_eq_true rfl) dX11_include_65 ⟨Nat.le_refl _, Nat.le_refl _⟩) (by decide) rfl (fun Hh25 Lh25 Bh25 => ?_)
      cases hf
      exact q_iret C Bh25 hr hlk ⟨rfl, rfl, Bh25.2.2⟩ dX11_include_68
    ·
      replace hf := ms_iF c16 hf
      refine lv_aload_n hx hb dX11_include_24 rfl (lv_at hl 2 rfl) (hp_n (n := 25) rfl ?_)
      refine lv_iload hx hb dX11_include_25 (lv_at hl 0 rfl) (hp_n (n := 27) rfl ?_)
      obtain ⟨rh26, αh26, qh26, hf⟩ := hq_cE hf
      refine d_ci (pc' := 30) Bh15 (hp_runV (As := [.int rh15]) (rest := []) C Bh15 (n_X11_refuse n Γ l α Bh15.2.2.1 a0 (cw_k Bh15.2.2 k0) rh15 (rh26, αh26) qh26) lb_X11_refuse lv_X11_refuse lk_X11_98 (cw_k Bh15.2.2 k0) rfl (by decide) rfl hl.1 rfl (Nat.le_of_ble_eq_true rfl) dX11_include_27 ⟨Nat.le_refl _, Nat.le_refl _⟩) (by decide) rfl (fun Hh26 Lh26 Bh26 => ?_)
      cases hf
      exact q_iret C Bh26 hr hlk ⟨rfl, rfl, Bh26.2.2⟩ dX11_include_30
def f_X11_grow (n : Nat) (α : hp_T) (a0 : Nat) (a1 : Int32) (a2 : Int32) (a3 : Int32) : Option (Int32 × hp_T) :=
  ms_l (hp_R α 601 a0) fun b1 =>
  ms_b (f_X10_logAt n α b1 a1) fun rh2 =>
  hq_m rh2 (
    ms_b (f_X11_wrongGrowth n α none a2 a3) fun rh3 =>
    if rh3 = 0 then
      ms_l (hp_R α 612 a0) fun b5 =>
      ms_b (f_X8_toGrowth n α b5 a2 a3) fun αh6 =>
      ms_l (hp_R αh6 601 a0) fun b7 =>
      ms_l (hp_R αh6 612 a0) fun b8 =>
      ms_l (hp_R αh6 603 a0) fun b9 =>
      ms_b (f_X10_marksAlong n αh6 b7 b8 none b9) fun αh10 =>
      ms_l (hp_R αh10 603 a0) fun b11 =>
      ms_l (hp_I αh10 301 b11) fun x12 =>
      hq_c (f_X11_answer n αh10 a0 x12) fun rh13 αh13 =>
      some (rh13, αh13)
    else
      hq_c (f_X11_refuse n α a0 rh3) fun rh14 αh14 =>
      some (rh14, αh14)) fun bh2 =>
  ms_b (f_X11_wrongGrowth n α (some bh2) a2 a3) fun rh15 =>
  if rh15 = 0 then
    ms_l (hp_R α 612 a0) fun b17 =>
    ms_b (f_X8_toGrowth n α b17 a2 a3) fun αh18 =>
    ms_l (hp_R αh18 601 a0) fun b19 =>
    ms_l (hp_R αh18 612 a0) fun b20 =>
    ms_l (hp_R αh18 603 a0) fun b21 =>
    ms_b (f_X10_marksAlong n αh18 b19 b20 (some bh2) b21) fun αh22 =>
    ms_l (hp_R αh22 603 a0) fun b23 =>
    ms_l (hp_I αh22 301 b23) fun x24 =>
    hq_c (f_X11_answer n αh22 a0 x24) fun rh25 αh25 =>
    some (rh25, αh25)
  else
    hq_c (f_X11_refuse n α a0 rh15) fun rh26 αh26 =>
    some (rh26, αh26)
set_option maxRecDepth 100000 in
set_option maxHeartbeats 4000000 in
theorem n_X11_grow (n : Nat) (Γ : hp_G) (l : Launch) (α : hp_T) (g : GC α) (a0 : Nat) (k0 : hp_K α a0 = 12) (a1 : Int32) (a2 : Int32) (a3 : Int32) (res : (Int32 × hp_T)) (hf : f_X11_grow n α a0 a1 a2 a3 = some res) : Met l yX11_grow (hp_ws yX11_grow cX11_grow 6 (some .int)) (hp_rm 4 0 0) (hp_Pc Γ α [.ref a0, .int a1, .int a2, .int a3]) (hp_Qi Γ (fun r β => r = res.1 ∧ β = res.2 ∧ cw w_X11_grow α β)) 0 0 (hp_A Γ) := by
  unfold f_X11_grow at hf
  refine hp_start (by decide) ?_
  intro p e s m below meth c C hr hlk B0 hnm
  have C : hp_C Γ p m c cX11_grow 6 s ([.ref a0, .int a1, .int a2, .int a3] : List Value).toArray RX11 := C
  have hx := C.1.1
  have hb := C.1.2.1
  have hown := C.1.2.2.2.1
  have hts := C.1.2.2.2.2
  have B : hp_B Γ (cw w_X11_grow) s α α s.heap [] := ⟨B0.1, B0.2.1, cw_rf g⟩
  have hl := lv_entry ([.ref a0, .int a1, .int a2, .int a3]) (n := 6) (Nat.le_of_ble_eq_true rfl)
  show W p l e (hp_rm 4 0 0) s m ([.ref a0, .int a1, .int a2, .int a3] : List Value).toArray below meth c s.heap [] 0 0 (MQ below (hp_Qi Γ (fun r β => r = res.1 ∧ β = res.2 ∧ cw w_X11_grow α β)) ([.ref a0, .int a1, .int a2, .int a3] : List Value).toArray s 0 0 (hp_A Γ)) (entryFrame m ([.ref a0, .int a1, .int a2, .int a3] : List Value).toArray 6)
  rw [lg_entry_eq]
  generalize (lg_sl ([.ref a0, .int a1, .int a2, .int a3]) ++ List.replicate (6 - (lg_sl ([.ref a0, .int a1, .int a2, .int a3])).length) Slot.unset).toArray = ls at hl ⊢
  have hl : lv_has ls 6 [(0, .ref a0), (1, .int a1), (2, .int a2), (3, .int a3)] := hl
  refine lv_aload_n hx hb dX11_grow_0 rfl (lv_at hl 0 rfl) (hp_n (n := 1) rfl ?_)
  refine q_getr (κ := 12) (k := 1) (φ := 601) (pc' := 4) C B (cw_k B.2.2 k0) fl_X11_16 rfl rfl rfl (cw_r B.2.2 k0 rfl rfl (by decide) (by decide)) dX11_grow_1 rfl (fun b1 eb1 kb1 => ?_)
  replace hf := ms_lE eb1 hf
  refine lv_iload_n hx hb dX11_grow_4 rfl (lv_at hl 1 rfl) (hp_n (n := 5) rfl ?_)
  obtain ⟨rh2, qh2, hf⟩ := ms_bE hf
  refine d_pq (pc' := 8) B (hp_runV (As := [.int a1]) (rest := []) C B (n_X10_logAt n Γ l α B.2.2.1 b1 (cw_k B.2.2 kb1) a1 rh2 qh2) lb_X10_logAt lv_X10_logAt lk_X11_163 (cw_k B.2.2 kb1) rfl (by decide) rfl hl.1 rfl (Nat.le_of_ble_eq_true rfl) dX11_grow_5 ⟨Nat.le_refl _, Nat.le_refl _⟩) rfl (fun Hh2 Lh2 Bh2 kh2 => ?_)
  rcases rh2 with _ | bh2
  ·
    replace hf := hq_N hf
    refine lv_astoreN (lv' := [(4, .null), (0, .ref a0), (1, .int a1), (2, .int a2), (3, .int a3)]) hx hb dX11_grow_8 hl (by decide) rfl (fun ls hl => hp_n (n := 10) rfl ?_)
    refine lv_aloadN hx hb dX11_grow_10 (lv_at hl 0 rfl) (hp_n (n := 12) rfl ?_)
    refine lv_iload_n hx hb dX11_grow_12 rfl (lv_at hl 3 rfl) (hp_n (n := 13) rfl ?_)
    refine lv_iload_n hx hb dX11_grow_13 rfl (lv_at hl 4 rfl) (hp_n (n := 14) rfl ?_)
    obtain ⟨rh3, qh3, hf⟩ := ms_bE hf
    refine d_pi (pc' := 17) Bh2 (hp_runS (As := [va_rf none, .int a2, .int a3]) (rest := []) C Bh2 (n_X11_wrongGrowth n Γ l α Bh2.2.2.1 none (fun b h => by cases h) a2 a3 rh3 qh3) lb_X11_wrongGrowth ls_X11_wrongGrowth lk_X11_180 rfl (by decide) rfl hl.1 rfl (Nat.le_of_ble_eq_true rfl) dX11_grow_14 ⟨Nat.le_refl _, Nat.le_refl _⟩) rfl (fun Hh3 Lh3 Bh3 => ?_)
    refine lv_istore (lv' := [(5, .int rh3), (4, .null), (0, .ref a0), (1, .int a1), (2, .int a2), (3, .int a3)]) hx hb dX11_grow_17 hl (by decide) rfl (fun ls hl => hp_n (n := 19) rfl ?_)
    refine lv_iload hx hb dX11_grow_19 (lv_at hl 0 rfl) (hp_n (n := 21) rfl ?_)
    refine lv_if_eq (tgt := 31) hx hb dX11_grow_21 (by decide) (fun c4 => ?_) (fun c4 => hp_n (n := 24) rfl ?_)
    ·
      replace hf := ms_iT c4 hf
      refine lv_aload_n hx hb dX11_grow_31 rfl (lv_at hl 2 rfl) (hp_n (n := 32) rfl ?_)
      refine q_getr (κ := 12) (k := 12) (φ := 612) (pc' := 35) C Bh3 (cw_k Bh3.2.2 k0) fl_X11_62 rfl rfl rfl (cw_r Bh3.2.2 k0 rfl rfl (by decide) (by decide)) dX11_grow_32 rfl (fun b5 eb5 kb5 => ?_)
      replace hf := ms_lE eb5 hf
      refine lv_iload_n hx hb dX11_grow_35 rfl (lv_at hl 4 rfl) (hp_n (n := 36) rfl ?_)
      refine lv_iload_n hx hb dX11_grow_36 rfl (lv_at hl 5 rfl) (hp_n (n := 37) rfl ?_)
      obtain ⟨αh6, qh6, hf⟩ := ms_bE hf
      refine d_cv (pc' := 40) Bh3 (hp_runV (As := [.int a2, .int a3]) (rest := []) C Bh3 (n_X8_toGrowth n Γ l α Bh3.2.2.1 b5 (cw_k Bh3.2.2 kb5) a2 a3 αh6 qh6) lb_X8_toGrowth lv_X8_toGrowth lk_X11_274 (cw_k Bh3.2.2 kb5) rfl (by decide) rfl hl.1 rfl (Nat.le_of_ble_eq_true rfl) dX11_grow_37 ⟨Nat.le_refl _, Nat.le_refl _⟩) (by decide) rfl (fun Hh6 Lh6 Bh6 => ?_)
      refine lv_aload_n hx hb dX11_grow_40 rfl (lv_at hl 2 rfl) (hp_n (n := 41) rfl ?_)
      refine q_getr (κ := 12) (k := 1) (φ := 601) (pc' := 44) C Bh6 (cw_k Bh6.2.2 k0) fl_X11_16 rfl rfl rfl (cw_r Bh6.2.2 k0 rfl rfl (by decide) (by decide)) dX11_grow_41 rfl (fun b7 eb7 kb7 => ?_)
      replace hf := ms_lE eb7 hf
      refine lv_aload_n hx hb dX11_grow_44 rfl (lv_at hl 2 rfl) (hp_n (n := 45) rfl ?_)
      refine q_getr (κ := 12) (k := 12) (φ := 612) (pc' := 48) C Bh6 (cw_k Bh6.2.2 k0) fl_X11_62 rfl rfl rfl (cw_r Bh6.2.2 k0 rfl rfl (by decide) (by decide)) dX11_grow_45 rfl (fun b8 eb8 kb8 => ?_)
      replace hf := ms_lE eb8 hf
      refine lv_aloadN hx hb dX11_grow_48 (lv_at hl 1 rfl) (hp_n (n := 50) rfl ?_)
      refine lv_aload_n hx hb dX11_grow_50 rfl (lv_at hl 2 rfl) (hp_n (n := 51) rfl ?_)
      refine q_getr (κ := 12) (k := 3) (φ := 603) (pc' := 54) C Bh6 (cw_k Bh6.2.2 k0) fl_X11_26 rfl rfl rfl (cw_r Bh6.2.2 k0 rfl rfl (by decide) (by decide)) dX11_grow_51 rfl (fun b9 eb9 kb9 => ?_)
      replace hf := ms_lE eb9 hf
      obtain ⟨αh10, qh10, hf⟩ := ms_bE hf
      refine d_cv (pc' := 57) Bh6 (hp_runV (As := [.ref b8, va_rf none, .ref b9]) (rest := []) C Bh6 (n_X10_marksAlong n Γ l αh6 Bh6.2.2.1 b7 (cw_k Bh6.2.2 kb7) b8 (cw_k Bh6.2.2 kb8) none (fun b h => by cases h) b9 (cw_k Bh6.2.2 kb9) αh10 qh10) lb_X10_marksAlong lv_X10_marksAlong lk_X11_270 (cw_k Bh6.2.2 kb7) rfl (by decide) rfl hl.1 rfl (Nat.le_of_ble_eq_true rfl) dX11_grow_54 ⟨Nat.le_refl _, Nat.le_refl _⟩) (by decide) rfl (fun Hh10 Lh10 Bh10 => ?_)
      refine lv_aload_n hx hb dX11_grow_57 rfl (lv_at hl 2 rfl) (hp_n (n := 58) rfl ?_)
      refine lv_aload_n hx hb dX11_grow_58 rfl (lv_at hl 2 rfl) (hp_n (n := 59) rfl ?_)
      refine q_getr (κ := 12) (k := 3) (φ := 603) (pc' := 62) C Bh10 (cw_k Bh10.2.2 k0) fl_X11_26 rfl rfl rfl (cw_r Bh10.2.2 k0 rfl rfl (by decide) (by decide)) dX11_grow_59 rfl (fun b11 eb11 kb11 => ?_)
      replace hf := ms_lE eb11 hf
      refine q_geti (κ := 6) (k := 1) (φ := 301) (pc' := 65) C Bh10 (cw_k Bh10.2.2 kb11) fl_X11_132 rfl rfl rfl dX11_grow_62 rfl (fun x12 ex12 => ?_)
      replace hf := ms_lE ex12 hf
      obtain ⟨rh13, αh13, qh13, hf⟩ := hq_cE hf
      refine d_ci (pc' := 68) Bh10 (hp_runV (As := [.int x12]) (rest := []) C Bh10 (n_X11_answer n Γ l αh10 Bh10.2.2.1 a0 (cw_k Bh10.2.2 k0) x12 (rh13, αh13) qh13) lb_X11_answer lv_X11_answer lk_X11_115 (cw_k Bh10.2.2 k0) rfl (by decide) rfl hl.1 rfl (Nat.le_of_ble_eq_true rfl) dX11_grow_65 ⟨Nat.le_refl _, Nat.le_refl _⟩) (by decide) rfl (fun Hh13 Lh13 Bh13 => ?_)
      cases hf
      exact q_iret C Bh13 hr hlk ⟨rfl, rfl, Bh13.2.2⟩ dX11_grow_68
    ·
      replace hf := ms_iF c4 hf
      refine lv_aload_n hx hb dX11_grow_24 rfl (lv_at hl 2 rfl) (hp_n (n := 25) rfl ?_)
      refine lv_iload hx hb dX11_grow_25 (lv_at hl 0 rfl) (hp_n (n := 27) rfl ?_)
      obtain ⟨rh14, αh14, qh14, hf⟩ := hq_cE hf
      refine d_ci (pc' := 30) Bh3 (hp_runV (As := [.int rh3]) (rest := []) C Bh3 (n_X11_refuse n Γ l α Bh3.2.2.1 a0 (cw_k Bh3.2.2 k0) rh3 (rh14, αh14) qh14) lb_X11_refuse lv_X11_refuse lk_X11_98 (cw_k Bh3.2.2 k0) rfl (by decide) rfl hl.1 rfl (Nat.le_of_ble_eq_true rfl) dX11_grow_27 ⟨Nat.le_refl _, Nat.le_refl _⟩) (by decide) rfl (fun Hh14 Lh14 Bh14 => ?_)
      cases hf
      exact q_iret C Bh14 hr hlk ⟨rfl, rfl, Bh14.2.2⟩ dX11_grow_30
  ·
    replace hf := hq_S hf
    have kbh2 := kh2 bh2 rfl
    refine lv_astore (lv' := [(4, .ref bh2), (0, .ref a0), (1, .int a1), (2, .int a2), (3, .int a3)]) hx hb dX11_grow_8 hl (by decide) rfl (fun ls hl => hp_n (n := 10) rfl ?_)
    refine lv_aload hx hb dX11_grow_10 (lv_at hl 0 rfl) (hp_n (n := 12) rfl ?_)
    refine lv_iload_n hx hb dX11_grow_12 rfl (lv_at hl 3 rfl) (hp_n (n := 13) rfl ?_)
    refine lv_iload_n hx hb dX11_grow_13 rfl (lv_at hl 4 rfl) (hp_n (n := 14) rfl ?_)
    obtain ⟨rh15, qh15, hf⟩ := ms_bE hf
    refine d_pi (pc' := 17) Bh2 (hp_runS (As := [va_rf (some bh2), .int a2, .int a3]) (rest := []) C Bh2 (n_X11_wrongGrowth n Γ l α Bh2.2.2.1 (some bh2) (fun b h => by cases h; exact (cw_k Bh2.2.2 kbh2)) a2 a3 rh15 qh15) lb_X11_wrongGrowth ls_X11_wrongGrowth lk_X11_180 rfl (by decide) rfl hl.1 rfl (Nat.le_of_ble_eq_true rfl) dX11_grow_14 ⟨Nat.le_refl _, Nat.le_refl _⟩) rfl (fun Hh15 Lh15 Bh15 => ?_)
    refine lv_istore (lv' := [(5, .int rh15), (4, .ref bh2), (0, .ref a0), (1, .int a1), (2, .int a2), (3, .int a3)]) hx hb dX11_grow_17 hl (by decide) rfl (fun ls hl => hp_n (n := 19) rfl ?_)
    refine lv_iload hx hb dX11_grow_19 (lv_at hl 0 rfl) (hp_n (n := 21) rfl ?_)
    refine lv_if_eq (tgt := 31) hx hb dX11_grow_21 (by decide) (fun c16 => ?_) (fun c16 => hp_n (n := 24) rfl ?_)
    ·
      replace hf := ms_iT c16 hf
      refine lv_aload_n hx hb dX11_grow_31 rfl (lv_at hl 2 rfl) (hp_n (n := 32) rfl ?_)
      refine q_getr (κ := 12) (k := 12) (φ := 612) (pc' := 35) C Bh15 (cw_k Bh15.2.2 k0) fl_X11_62 rfl rfl rfl (cw_r Bh15.2.2 k0 rfl rfl (by decide) (by decide)) dX11_grow_32 rfl (fun b17 eb17 kb17 => ?_)
      replace hf := ms_lE eb17 hf
      refine lv_iload_n hx hb dX11_grow_35 rfl (lv_at hl 4 rfl) (hp_n (n := 36) rfl ?_)
      refine lv_iload_n hx hb dX11_grow_36 rfl (lv_at hl 5 rfl) (hp_n (n := 37) rfl ?_)
      obtain ⟨αh18, qh18, hf⟩ := ms_bE hf
      refine d_cv (pc' := 40) Bh15 (hp_runV (As := [.int a2, .int a3]) (rest := []) C Bh15 (n_X8_toGrowth n Γ l α Bh15.2.2.1 b17 (cw_k Bh15.2.2 kb17) a2 a3 αh18 qh18) lb_X8_toGrowth lv_X8_toGrowth lk_X11_274 (cw_k Bh15.2.2 kb17) rfl (by decide) rfl hl.1 rfl (Nat.le_of_ble_eq_true rfl) dX11_grow_37 ⟨Nat.le_refl _, Nat.le_refl _⟩) (by decide) rfl (fun Hh18 Lh18 Bh18 => ?_)
      refine lv_aload_n hx hb dX11_grow_40 rfl (lv_at hl 2 rfl) (hp_n (n := 41) rfl ?_)
      refine q_getr (κ := 12) (k := 1) (φ := 601) (pc' := 44) C Bh18 (cw_k Bh18.2.2 k0) fl_X11_16 rfl rfl rfl (cw_r Bh18.2.2 k0 rfl rfl (by decide) (by decide)) dX11_grow_41 rfl (fun b19 eb19 kb19 => ?_)
      replace hf := ms_lE eb19 hf
      refine lv_aload_n hx hb dX11_grow_44 rfl (lv_at hl 2 rfl) (hp_n (n := 45) rfl ?_)
      refine q_getr (κ := 12) (k := 12) (φ := 612) (pc' := 48) C Bh18 (cw_k Bh18.2.2 k0) fl_X11_62 rfl rfl rfl (cw_r Bh18.2.2 k0 rfl rfl (by decide) (by decide)) dX11_grow_45 rfl (fun b20 eb20 kb20 => ?_)
      replace hf := ms_lE eb20 hf
      refine lv_aload hx hb dX11_grow_48 (lv_at hl 1 rfl) (hp_n (n := 50) rfl ?_)
      refine lv_aload_n hx hb dX11_grow_50 rfl (lv_at hl 2 rfl) (hp_n (n := 51) rfl ?_)
      refine q_getr (κ := 12) (k := 3) (φ := 603) (pc' := 54) C Bh18 (cw_k Bh18.2.2 k0) fl_X11_26 rfl rfl rfl (cw_r Bh18.2.2 k0 rfl rfl (by decide) (by decide)) dX11_grow_51 rfl (fun b21 eb21 kb21 => ?_)
      replace hf := ms_lE eb21 hf
      obtain ⟨αh22, qh22, hf⟩ := ms_bE hf
      refine d_cv (pc' := 57) Bh18 (hp_runV (As := [.ref b20, va_rf (some bh2), .ref b21]) (rest := []) C Bh18 (n_X10_marksAlong n Γ l αh18 Bh18.2.2.1 b19 (cw_k Bh18.2.2 kb19) b20 (cw_k Bh18.2.2 kb20) (some bh2) (fun b h => by cases h; exact (cw_k Bh18.2.2 kbh2)) b21 (cw_k Bh18.2.2 kb21) αh22 qh22) lb_X10_marksAlong lv_X10_marksAlong lk_X11_270 (cw_k Bh18.2.2 kb19) rfl (by decide) rfl hl.1 rfl (Nat.le_of_ble_eq_true rfl) dX11_grow_54 ⟨Nat.le_refl _, Nat.le_refl _⟩) (by decide) rfl (fun Hh22 Lh22 Bh22 => ?_)
      refine lv_aload_n hx hb dX11_grow_57 rfl (lv_at hl 2 rfl) (hp_n (n := 58) rfl ?_)
      refine lv_aload_n hx hb dX11_grow_58 rfl (lv_at hl 2 rfl) (hp_n (n := 59) rfl ?_)
      refine q_getr (κ := 12) (k := 3) (φ := 603) (pc' := 62) C Bh22 (cw_k Bh22.2.2 k0) fl_X11_26 rfl rfl rfl (cw_r Bh22.2.2 k0 rfl rfl (by decide) (by decide)) dX11_grow_59 rfl (fun b23 eb23 kb23 => ?_)
      replace hf := ms_lE eb23 hf
      refine q_geti (κ := 6) (k := 1) (φ := 301) (pc' := 65) C Bh22 (cw_k Bh22.2.2 kb23) fl_X11_132 rfl rfl rfl dX11_grow_62 rfl (fun x24 ex24 => ?_)
      replace hf := ms_lE ex24 hf
      obtain ⟨rh25, αh25, qh25, hf⟩ := hq_cE hf
      refine d_ci (pc' := 68) Bh22 (hp_runV (As := [.int x24]) (rest := []) C Bh22 (n_X11_answer n Γ l αh22 Bh22.2.2.1 a0 (cw_k Bh22.2.2 k0) x24 (rh25, αh25) qh25) lb_X11_answer lv_X11_answer lk_X11_115 (cw_k Bh22.2.2 k0) rfl (by decide) rfl hl.1 rfl (Nat.le_of_ble_eq_true rfl) dX11_grow_65 ⟨Nat.le_refl _, Nat.le_refl _⟩) (by decide) rfl (fun Hh25 Lh25 Bh25 => ?_)
      cases hf
      exact q_iret C Bh25 hr hlk ⟨rfl, rfl, Bh25.2.2⟩ dX11_grow_68
    ·
      replace hf := ms_iF c16 hf
      refine lv_aload_n hx hb dX11_grow_24 rfl (lv_at hl 2 rfl) (hp_n (n := 25) rfl ?_)
      refine lv_iload hx hb dX11_grow_25 (lv_at hl 0 rfl) (hp_n (n := 27) rfl ?_)
      obtain ⟨rh26, αh26, qh26, hf⟩ := hq_cE hf
      refine d_ci (pc' := 30) Bh15 (hp_runV (As := [.int rh15]) (rest := []) C Bh15 (n_X11_refuse n Γ l α Bh15.2.2.1 a0 (cw_k Bh15.2.2 k0) rh15 (rh26, αh26) qh26) lb_X11_refuse lv_X11_refuse lk_X11_98 (cw_k Bh15.2.2 k0) rfl (by decide) rfl hl.1 rfl (Nat.le_of_ble_eq_true rfl) dX11_grow_27 ⟨Nat.le_refl _, Nat.le_refl _⟩) (by decide) rfl (fun Hh26 Lh26 Bh26 => ?_)
      cases hf
      exact q_iret C Bh26 hr hlk ⟨rfl, rfl, Bh26.2.2⟩ dX11_grow_30
def f_X11_peaks (n : Nat) (α : hp_T) (a0 : Nat) (a1 : Int32) (a2 : Int32) : Option (Int32 × hp_T) :=
  ms_l (hp_R α 601 a0) fun b1 =>
  ms_b (f_X10_logAt n α b1 a1) fun rh2 =>
  hq_m rh2 (
    ms_b (f_X11_wrongGrowth n α none (0 : Int32) a2) fun rh3 =>
    if rh3 = 0 then
      ms_l (hp_R α 601 a0) fun b5 =>
      ms_l (hp_R α 603 a0) fun b6 =>
      ms_b (f_X10_peaksOf n α b5 none a2 b6) fun αh7 =>
      ms_l (hp_R αh7 603 a0) fun b8 =>
      ms_l (hp_I αh7 301 b8) fun x9 =>
      hq_c (f_X11_answer n αh7 a0 x9) fun rh10 αh10 =>
      some (rh10, αh10)
    else
      hq_c (f_X11_refuse n α a0 rh3) fun rh11 αh11 =>
      some (rh11, αh11)) fun bh2 =>
  ms_b (f_X11_wrongGrowth n α (some bh2) (0 : Int32) a2) fun rh12 =>
  if rh12 = 0 then
    ms_l (hp_R α 601 a0) fun b14 =>
    ms_l (hp_R α 603 a0) fun b15 =>
    ms_b (f_X10_peaksOf n α b14 (some bh2) a2 b15) fun αh16 =>
    ms_l (hp_R αh16 603 a0) fun b17 =>
    ms_l (hp_I αh16 301 b17) fun x18 =>
    hq_c (f_X11_answer n αh16 a0 x18) fun rh19 αh19 =>
    some (rh19, αh19)
  else
    hq_c (f_X11_refuse n α a0 rh12) fun rh20 αh20 =>
    some (rh20, αh20)
set_option maxRecDepth 100000 in
set_option maxHeartbeats 4000000 in
theorem n_X11_peaks (n : Nat) (Γ : hp_G) (l : Launch) (α : hp_T) (g : GC α) (a0 : Nat) (k0 : hp_K α a0 = 12) (a1 : Int32) (a2 : Int32) (res : (Int32 × hp_T)) (hf : f_X11_peaks n α a0 a1 a2 = some res) : Met l yX11_peaks (hp_ws yX11_peaks cX11_peaks 5 (some .int)) (hp_rm 3 0 0) (hp_Pc Γ α [.ref a0, .int a1, .int a2]) (hp_Qi Γ (fun r β => r = res.1 ∧ β = res.2 ∧ cw w_X11_peaks α β)) 0 0 (hp_A Γ) := by
  unfold f_X11_peaks at hf
  refine hp_start (by decide) ?_
  intro p e s m below meth c C hr hlk B0 hnm
  have C : hp_C Γ p m c cX11_peaks 5 s ([.ref a0, .int a1, .int a2] : List Value).toArray RX11 := C
  have hx := C.1.1
  have hb := C.1.2.1
  have hown := C.1.2.2.2.1
  have hts := C.1.2.2.2.2
  have B : hp_B Γ (cw w_X11_peaks) s α α s.heap [] := ⟨B0.1, B0.2.1, cw_rf g⟩
  have hl := lv_entry ([.ref a0, .int a1, .int a2]) (n := 5) (Nat.le_of_ble_eq_true rfl)
  show W p l e (hp_rm 3 0 0) s m ([.ref a0, .int a1, .int a2] : List Value).toArray below meth c s.heap [] 0 0 (MQ below (hp_Qi Γ (fun r β => r = res.1 ∧ β = res.2 ∧ cw w_X11_peaks α β)) ([.ref a0, .int a1, .int a2] : List Value).toArray s 0 0 (hp_A Γ)) (entryFrame m ([.ref a0, .int a1, .int a2] : List Value).toArray 5)
  rw [lg_entry_eq]
  generalize (lg_sl ([.ref a0, .int a1, .int a2]) ++ List.replicate (5 - (lg_sl ([.ref a0, .int a1, .int a2])).length) Slot.unset).toArray = ls at hl ⊢
  have hl : lv_has ls 5 [(0, .ref a0), (1, .int a1), (2, .int a2)] := hl
  refine lv_aload_n hx hb dX11_peaks_0 rfl (lv_at hl 0 rfl) (hp_n (n := 1) rfl ?_)
  refine q_getr (κ := 12) (k := 1) (φ := 601) (pc' := 4) C B (cw_k B.2.2 k0) fl_X11_16 rfl rfl rfl (cw_r B.2.2 k0 rfl rfl (by decide) (by decide)) dX11_peaks_1 rfl (fun b1 eb1 kb1 => ?_)
  replace hf := ms_lE eb1 hf
  refine lv_iload_n hx hb dX11_peaks_4 rfl (lv_at hl 1 rfl) (hp_n (n := 5) rfl ?_)
  obtain ⟨rh2, qh2, hf⟩ := ms_bE hf
  refine d_pq (pc' := 8) B (hp_runV (As := [.int a1]) (rest := []) C B (n_X10_logAt n Γ l α B.2.2.1 b1 (cw_k B.2.2 kb1) a1 rh2 qh2) lb_X10_logAt lv_X10_logAt lk_X11_163 (cw_k B.2.2 kb1) rfl (by decide) rfl hl.1 rfl (Nat.le_of_ble_eq_true rfl) dX11_peaks_5 ⟨Nat.le_refl _, Nat.le_refl _⟩) rfl (fun Hh2 Lh2 Bh2 kh2 => ?_)
  rcases rh2 with _ | bh2
  ·
    replace hf := hq_N hf
    refine lv_astore_nN (lv' := [(3, .null), (0, .ref a0), (1, .int a1), (2, .int a2)]) hx hb dX11_peaks_8 rfl hl (by decide) rfl (fun ls hl => hp_n (n := 9) rfl ?_)
    refine lv_aload_nN hx hb dX11_peaks_9 rfl (lv_at hl 0 rfl) (hp_n (n := 10) rfl ?_)
    refine lv_iconst (v := 0) hx hb dX11_peaks_10 (by decide) (hp_n (n := 11) rfl ?_)
    refine lv_iload_n hx hb dX11_peaks_11 rfl (lv_at hl 3 rfl) (hp_n (n := 12) rfl ?_)
    obtain ⟨rh3, qh3, hf⟩ := ms_bE hf
    refine d_pi (pc' := 15) Bh2 (hp_runS (As := [va_rf none, .int (0 : Int32), .int a2]) (rest := []) C Bh2 (n_X11_wrongGrowth n Γ l α Bh2.2.2.1 none (fun b h => by cases h) (0 : Int32) a2 rh3 qh3) lb_X11_wrongGrowth ls_X11_wrongGrowth lk_X11_180 rfl (by decide) rfl hl.1 rfl (Nat.le_of_ble_eq_true rfl) dX11_peaks_12 ⟨Nat.le_refl _, Nat.le_refl _⟩) rfl (fun Hh3 Lh3 Bh3 => ?_)
    refine lv_istore (lv' := [(4, .int rh3), (3, .null), (0, .ref a0), (1, .int a1), (2, .int a2)]) hx hb dX11_peaks_15 hl (by decide) rfl (fun ls hl => hp_n (n := 17) rfl ?_)
    refine lv_iload hx hb dX11_peaks_17 (lv_at hl 0 rfl) (hp_n (n := 19) rfl ?_)
    refine lv_if_eq (tgt := 29) hx hb dX11_peaks_19 (by decide) (fun c4 => ?_) (fun c4 => hp_n (n := 22) rfl ?_)
    ·
      replace hf := ms_iT c4 hf
      refine lv_aload_n hx hb dX11_peaks_29 rfl (lv_at hl 2 rfl) (hp_n (n := 30) rfl ?_)
      refine q_getr (κ := 12) (k := 1) (φ := 601) (pc' := 33) C Bh3 (cw_k Bh3.2.2 k0) fl_X11_16 rfl rfl rfl (cw_r Bh3.2.2 k0 rfl rfl (by decide) (by decide)) dX11_peaks_30 rfl (fun b5 eb5 kb5 => ?_)
      replace hf := ms_lE eb5 hf
      refine lv_aload_nN hx hb dX11_peaks_33 rfl (lv_at hl 1 rfl) (hp_n (n := 34) rfl ?_)
      refine lv_iload_n hx hb dX11_peaks_34 rfl (lv_at hl 4 rfl) (hp_n (n := 35) rfl ?_)
      refine lv_aload_n hx hb dX11_peaks_35 rfl (lv_at hl 2 rfl) (hp_n (n := 36) rfl ?_)
      refine q_getr (κ := 12) (k := 3) (φ := 603) (pc' := 39) C Bh3 (cw_k Bh3.2.2 k0) fl_X11_26 rfl rfl rfl (cw_r Bh3.2.2 k0 rfl rfl (by decide) (by decide)) dX11_peaks_36 rfl (fun b6 eb6 kb6 => ?_)
      replace hf := ms_lE eb6 hf
      obtain ⟨αh7, qh7, hf⟩ := ms_bE hf
      refine d_cv (pc' := 42) Bh3 (hp_runV (As := [va_rf none, .int a2, .ref b6]) (rest := []) C Bh3 (n_X10_peaksOf n Γ l α Bh3.2.2.1 b5 (cw_k Bh3.2.2 kb5) none (fun b h => by cases h) a2 b6 (cw_k Bh3.2.2 kb6) αh7 qh7) lb_X10_peaksOf lv_X10_peaksOf lk_X11_287 (cw_k Bh3.2.2 kb5) rfl (by decide) rfl hl.1 rfl (Nat.le_of_ble_eq_true rfl) dX11_peaks_39 ⟨Nat.le_refl _, Nat.le_refl _⟩) (by decide) rfl (fun Hh7 Lh7 Bh7 => ?_)
      refine lv_aload_n hx hb dX11_peaks_42 rfl (lv_at hl 2 rfl) (hp_n (n := 43) rfl ?_)
      refine lv_aload_n hx hb dX11_peaks_43 rfl (lv_at hl 2 rfl) (hp_n (n := 44) rfl ?_)
      refine q_getr (κ := 12) (k := 3) (φ := 603) (pc' := 47) C Bh7 (cw_k Bh7.2.2 k0) fl_X11_26 rfl rfl rfl (cw_r Bh7.2.2 k0 rfl rfl (by decide) (by decide)) dX11_peaks_44 rfl (fun b8 eb8 kb8 => ?_)
      replace hf := ms_lE eb8 hf
      refine q_geti (κ := 6) (k := 1) (φ := 301) (pc' := 50) C Bh7 (cw_k Bh7.2.2 kb8) fl_X11_132 rfl rfl rfl dX11_peaks_47 rfl (fun x9 ex9 => ?_)
      replace hf := ms_lE ex9 hf
      obtain ⟨rh10, αh10, qh10, hf⟩ := hq_cE hf
      refine d_ci (pc' := 53) Bh7 (hp_runV (As := [.int x9]) (rest := []) C Bh7 (n_X11_answer n Γ l αh7 Bh7.2.2.1 a0 (cw_k Bh7.2.2 k0) x9 (rh10, αh10) qh10) lb_X11_answer lv_X11_answer lk_X11_115 (cw_k Bh7.2.2 k0) rfl (by decide) rfl hl.1 rfl (Nat.le_of_ble_eq_true rfl) dX11_peaks_50 ⟨Nat.le_refl _, Nat.le_refl _⟩) (by decide) rfl (fun Hh10 Lh10 Bh10 => ?_)
      cases hf
      exact q_iret C Bh10 hr hlk ⟨rfl, rfl, Bh10.2.2⟩ dX11_peaks_53
    ·
      replace hf := ms_iF c4 hf
      refine lv_aload_n hx hb dX11_peaks_22 rfl (lv_at hl 2 rfl) (hp_n (n := 23) rfl ?_)
      refine lv_iload hx hb dX11_peaks_23 (lv_at hl 0 rfl) (hp_n (n := 25) rfl ?_)
      obtain ⟨rh11, αh11, qh11, hf⟩ := hq_cE hf
      refine d_ci (pc' := 28) Bh3 (hp_runV (As := [.int rh3]) (rest := []) C Bh3 (n_X11_refuse n Γ l α Bh3.2.2.1 a0 (cw_k Bh3.2.2 k0) rh3 (rh11, αh11) qh11) lb_X11_refuse lv_X11_refuse lk_X11_98 (cw_k Bh3.2.2 k0) rfl (by decide) rfl hl.1 rfl (Nat.le_of_ble_eq_true rfl) dX11_peaks_25 ⟨Nat.le_refl _, Nat.le_refl _⟩) (by decide) rfl (fun Hh11 Lh11 Bh11 => ?_)
      cases hf
      exact q_iret C Bh11 hr hlk ⟨rfl, rfl, Bh11.2.2⟩ dX11_peaks_28
  ·
    replace hf := hq_S hf
    have kbh2 := kh2 bh2 rfl
    refine lv_astore_n (lv' := [(3, .ref bh2), (0, .ref a0), (1, .int a1), (2, .int a2)]) hx hb dX11_peaks_8 rfl hl (by decide) rfl (fun ls hl => hp_n (n := 9) rfl ?_)
    refine lv_aload_n hx hb dX11_peaks_9 rfl (lv_at hl 0 rfl) (hp_n (n := 10) rfl ?_)
    refine lv_iconst (v := 0) hx hb dX11_peaks_10 (by decide) (hp_n (n := 11) rfl ?_)
    refine lv_iload_n hx hb dX11_peaks_11 rfl (lv_at hl 3 rfl) (hp_n (n := 12) rfl ?_)
    obtain ⟨rh12, qh12, hf⟩ := ms_bE hf
    refine d_pi (pc' := 15) Bh2 (hp_runS (As := [va_rf (some bh2), .int (0 : Int32), .int a2]) (rest := []) C Bh2 (n_X11_wrongGrowth n Γ l α Bh2.2.2.1 (some bh2) (fun b h => by cases h; exact (cw_k Bh2.2.2 kbh2)) (0 : Int32) a2 rh12 qh12) lb_X11_wrongGrowth ls_X11_wrongGrowth lk_X11_180 rfl (by decide) rfl hl.1 rfl (Nat.le_of_ble_eq_true rfl) dX11_peaks_12 ⟨Nat.le_refl _, Nat.le_refl _⟩) rfl (fun Hh12 Lh12 Bh12 => ?_)
    refine lv_istore (lv' := [(4, .int rh12), (3, .ref bh2), (0, .ref a0), (1, .int a1), (2, .int a2)]) hx hb dX11_peaks_15 hl (by decide) rfl (fun ls hl => hp_n (n := 17) rfl ?_)
    refine lv_iload hx hb dX11_peaks_17 (lv_at hl 0 rfl) (hp_n (n := 19) rfl ?_)
    refine lv_if_eq (tgt := 29) hx hb dX11_peaks_19 (by decide) (fun c13 => ?_) (fun c13 => hp_n (n := 22) rfl ?_)
    ·
      replace hf := ms_iT c13 hf
      refine lv_aload_n hx hb dX11_peaks_29 rfl (lv_at hl 2 rfl) (hp_n (n := 30) rfl ?_)
      refine q_getr (κ := 12) (k := 1) (φ := 601) (pc' := 33) C Bh12 (cw_k Bh12.2.2 k0) fl_X11_16 rfl rfl rfl (cw_r Bh12.2.2 k0 rfl rfl (by decide) (by decide)) dX11_peaks_30 rfl (fun b14 eb14 kb14 => ?_)
      replace hf := ms_lE eb14 hf
      refine lv_aload_n hx hb dX11_peaks_33 rfl (lv_at hl 1 rfl) (hp_n (n := 34) rfl ?_)
      refine lv_iload_n hx hb dX11_peaks_34 rfl (lv_at hl 4 rfl) (hp_n (n := 35) rfl ?_)
      refine lv_aload_n hx hb dX11_peaks_35 rfl (lv_at hl 2 rfl) (hp_n (n := 36) rfl ?_)
      refine q_getr (κ := 12) (k := 3) (φ := 603) (pc' := 39) C Bh12 (cw_k Bh12.2.2 k0) fl_X11_26 rfl rfl rfl (cw_r Bh12.2.2 k0 rfl rfl (by decide) (by decide)) dX11_peaks_36 rfl (fun b15 eb15 kb15 => ?_)
      replace hf := ms_lE eb15 hf
      obtain ⟨αh16, qh16, hf⟩ := ms_bE hf
      refine d_cv (pc' := 42) Bh12 (hp_runV (As := [va_rf (some bh2), .int a2, .ref b15]) (rest := []) C Bh12 (n_X10_peaksOf n Γ l α Bh12.2.2.1 b14 (cw_k Bh12.2.2 kb14) (some bh2) (fun b h => by cases h; exact (cw_k Bh12.2.2 kbh2)) a2 b15 (cw_k Bh12.2.2 kb15) αh16 qh16) lb_X10_peaksOf lv_X10_peaksOf lk_X11_287 (cw_k Bh12.2.2 kb14) rfl (by decide) rfl hl.1 rfl (Nat.le_of_ble_eq_true rfl) dX11_peaks_39 ⟨Nat.le_refl _, Nat.le_refl _⟩) (by decide) rfl (fun Hh16 Lh16 Bh16 => ?_)
      refine lv_aload_n hx hb dX11_peaks_42 rfl (lv_at hl 2 rfl) (hp_n (n := 43) rfl ?_)
      refine lv_aload_n hx hb dX11_peaks_43 rfl (lv_at hl 2 rfl) (hp_n (n := 44) rfl ?_)
      refine q_getr (κ := 12) (k := 3) (φ := 603) (pc' := 47) C Bh16 (cw_k Bh16.2.2 k0) fl_X11_26 rfl rfl rfl (cw_r Bh16.2.2 k0 rfl rfl (by decide) (by decide)) dX11_peaks_44 rfl (fun b17 eb17 kb17 => ?_)
      replace hf := ms_lE eb17 hf
      refine q_geti (κ := 6) (k := 1) (φ := 301) (pc' := 50) C Bh16 (cw_k Bh16.2.2 kb17) fl_X11_132 rfl rfl rfl dX11_peaks_47 rfl (fun x18 ex18 => ?_)
      replace hf := ms_lE ex18 hf
      obtain ⟨rh19, αh19, qh19, hf⟩ := hq_cE hf
      refine d_ci (pc' := 53) Bh16 (hp_runV (As := [.int x18]) (rest := []) C Bh16 (n_X11_answer n Γ l αh16 Bh16.2.2.1 a0 (cw_k Bh16.2.2 k0) x18 (rh19, αh19) qh19) lb_X11_answer lv_X11_answer lk_X11_115 (cw_k Bh16.2.2 k0) rfl (by decide) rfl hl.1 rfl (Nat.le_of_ble_eq_true rfl) dX11_peaks_50 ⟨Nat.le_refl _, Nat.le_refl _⟩) (by decide) rfl (fun Hh19 Lh19 Bh19 => ?_)
      cases hf
      exact q_iret C Bh19 hr hlk ⟨rfl, rfl, Bh19.2.2⟩ dX11_peaks_53
    ·
      replace hf := ms_iF c13 hf
      refine lv_aload_n hx hb dX11_peaks_22 rfl (lv_at hl 2 rfl) (hp_n (n := 23) rfl ?_)
      refine lv_iload hx hb dX11_peaks_23 (lv_at hl 0 rfl) (hp_n (n := 25) rfl ?_)
      obtain ⟨rh20, αh20, qh20, hf⟩ := hq_cE hf
      refine d_ci (pc' := 28) Bh12 (hp_runV (As := [.int rh12]) (rest := []) C Bh12 (n_X11_refuse n Γ l α Bh12.2.2.1 a0 (cw_k Bh12.2.2 k0) rh12 (rh20, αh20) qh20) lb_X11_refuse lv_X11_refuse lk_X11_98 (cw_k Bh12.2.2 k0) rfl (by decide) rfl hl.1 rfl (Nat.le_of_ble_eq_true rfl) dX11_peaks_25 ⟨Nat.le_refl _, Nat.le_refl _⟩) (by decide) rfl (fun Hh20 Lh20 Bh20 => ?_)
      cases hf
      exact q_iret C Bh20 hr hlk ⟨rfl, rfl, Bh20.2.2⟩ dX11_peaks_28
