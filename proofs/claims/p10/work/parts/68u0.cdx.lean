def f_X11_size (n : Nat) (α : hp_T) (a0 : Nat) (a1 : Int32) : Option (Int32 × hp_T) :=
  ms_l (hp_R α 601 a0) fun b1 =>
  ms_b (f_X10_logAt n α b1 a1) fun rh2 =>
  hq_m rh2 (
    hq_c (f_X11_refuse n α a0 (2 : Int32)) fun rh3 αh3 =>
    some (rh3, αh3)) fun bh2 =>
  ms_l (hp_I α 152 bh2) fun x4 =>
  hq_c (f_X11_answer n α a0 x4) fun rh5 αh5 =>
  some (rh5, αh5)
set_option maxRecDepth 100000 in
set_option maxHeartbeats 4000000 in
theorem n_X11_size (n : Nat) (Γ : hp_G) (l : Launch) (α : hp_T) (g : GC α) (a0 : Nat) (k0 : hp_K α a0 = 12) (a1 : Int32) (res : (Int32 × hp_T)) (hf : f_X11_size n α a0 a1 = some res) : Met l yX11_size (hp_ws yX11_size cX11_size 3 (some .int)) (hp_rm 1 0 0) (hp_Pc Γ α [.ref a0, .int a1]) (hp_Qi Γ (fun r β => r = res.1 ∧ β = res.2 ∧ cw w_X11_size α β)) 0 0 (hp_A Γ) := by
  unfold f_X11_size at hf
  refine hp_start (by decide) ?_
  intro p e s m below meth c C hr hlk B0 hnm
  have C : hp_C Γ p m c cX11_size 3 s ([.ref a0, .int a1] : List Value).toArray RX11 := C
  have hx := C.1.1
  have hb := C.1.2.1
  have hown := C.1.2.2.2.1
  have hts := C.1.2.2.2.2
  have B : hp_B Γ (cw w_X11_size) s α α s.heap [] := ⟨B0.1, B0.2.1, cw_rf g⟩
  have hl := lv_entry ([.ref a0, .int a1]) (n := 3) (Nat.le_of_ble_eq_true rfl)
  show W p l e (hp_rm 1 0 0) s m ([.ref a0, .int a1] : List Value).toArray below meth c s.heap [] 0 0 (MQ below (hp_Qi Γ (fun r β => r = res.1 ∧ β = res.2 ∧ cw w_X11_size α β)) ([.ref a0, .int a1] : List Value).toArray s 0 0 (hp_A Γ)) (entryFrame m ([.ref a0, .int a1] : List Value).toArray 3)
  rw [lg_entry_eq]
  generalize (lg_sl ([.ref a0, .int a1]) ++ List.replicate (3 - (lg_sl ([.ref a0, .int a1])).length) Slot.unset).toArray = ls at hl ⊢
  have hl : lv_has ls 3 [(0, .ref a0), (1, .int a1)] := hl
  refine lv_aload_n hx hb dX11_size_0 rfl (lv_at hl 0 rfl) (hp_n (n := 1) rfl ?_)
  refine q_getr (κ := 12) (k := 1) (φ := 601) (pc' := 4) C B (cw_k B.2.2 k0) fl_X11_16 rfl rfl rfl (cw_r B.2.2 k0 rfl rfl (by decide) (by decide)) dX11_size_1 rfl (fun b1 eb1 kb1 => ?_)
  replace hf := ms_lE eb1 hf
  refine lv_iload_n hx hb dX11_size_4 rfl (lv_at hl 1 rfl) (hp_n (n := 5) rfl ?_)
  obtain ⟨rh2, qh2, hf⟩ := ms_bE hf
  refine d_pq (pc' := 8) B (hp_runV (As := [.int a1]) (rest := []) C B (n_X10_logAt n Γ l α B.2.2.1 b1 (cw_k B.2.2 kb1) a1 rh2 qh2) lb_X10_logAt lv_X10_logAt lk_X11_163 (cw_k B.2.2 kb1) rfl (by decide) rfl hl.1 rfl (Nat.le_of_ble_eq_true rfl) dX11_size_5 ⟨Nat.le_refl _, Nat.le_refl _⟩) rfl (fun Hh2 Lh2 Bh2 kh2 => ?_)
  rcases rh2 with _ | bh2
  ·
    replace hf := hq_N hf
    refine lv_astore_nN (lv' := [(2, .null), (0, .ref a0), (1, .int a1)]) hx hb dX11_size_8 rfl hl (by decide) rfl (fun ls hl => hp_n (n := 9) rfl ?_)
    refine lv_aload_nN hx hb dX11_size_9 rfl (lv_at hl 0 rfl) (hp_n (n := 10) rfl ?_)
    refine lv_ifnonnullN hx hb dX11_size_10 (hp_n (n := 13) rfl ?_)
    refine lv_aload_n hx hb dX11_size_13 rfl (lv_at hl 1 rfl) (hp_n (n := 14) rfl ?_)
    refine lv_iconst (v := 2) hx hb dX11_size_14 (by decide) (hp_n (n := 15) rfl ?_)
    obtain ⟨rh3, αh3, qh3, hf⟩ := hq_cE hf
    refine d_ci (pc' := 18) Bh2 (hp_runV (As := [.int (2 : Int32)]) (rest := []) C Bh2 (n_X11_refuse n Γ l α Bh2.2.2.1 a0 (cw_k Bh2.2.2 k0) (2 : Int32) (rh3, αh3) qh3) lb_X11_refuse lv_X11_refuse lk_X11_98 (cw_k Bh2.2.2 k0) rfl (by decide) rfl hl.1 rfl (Nat.le_of_ble_eq_true rfl) dX11_size_15 ⟨Nat.le_refl _, Nat.le_refl _⟩) (by decide) rfl (fun Hh3 Lh3 Bh3 => ?_)
    refine lv_goto (tgt := 29) hx hb dX11_size_18 (by decide) ?_
    cases hf
    exact q_iret C Bh3 hr hlk ⟨rfl, rfl, Bh3.2.2⟩ dX11_size_29
  ·
    replace hf := hq_S hf
    have kbh2 := kh2 bh2 rfl
    refine lv_astore_n (lv' := [(2, .ref bh2), (0, .ref a0), (1, .int a1)]) hx hb dX11_size_8 rfl hl (by decide) rfl (fun ls hl => hp_n (n := 9) rfl ?_)
    refine lv_aload_n hx hb dX11_size_9 rfl (lv_at hl 0 rfl) (hp_n (n := 10) rfl ?_)
    refine lv_ifnonnull (tgt := 21) hx hb dX11_size_10 (by decide) ?_
    refine lv_aload_n hx hb dX11_size_21 rfl (lv_at hl 1 rfl) (hp_n (n := 22) rfl ?_)
    refine lv_aload_n hx hb dX11_size_22 rfl (lv_at hl 0 rfl) (hp_n (n := 23) rfl ?_)
    refine q_geti (κ := 3) (k := 2) (φ := 152) (pc' := 26) C Bh2 (cw_k Bh2.2.2 kbh2) fl_X11_167 rfl rfl rfl dX11_size_23 rfl (fun x4 ex4 => ?_)
    replace hf := ms_lE ex4 hf
    obtain ⟨rh5, αh5, qh5, hf⟩ := hq_cE hf
    refine d_ci (pc' := 29) Bh2 (hp_runV (As := [.int x4]) (rest := []) C Bh2 (n_X11_answer n Γ l α Bh2.2.2.1 a0 (cw_k Bh2.2.2 k0) x4 (rh5, αh5) qh5) lb_X11_answer lv_X11_answer lk_X11_115 (cw_k Bh2.2.2 k0) rfl (by decide) rfl hl.1 rfl (Nat.le_of_ble_eq_true rfl) dX11_size_26 ⟨Nat.le_refl _, Nat.le_refl _⟩) (by decide) rfl (fun Hh5 Lh5 Bh5 => ?_)
    cases hf
    exact q_iret C Bh5 hr hlk ⟨rfl, rfl, Bh5.2.2⟩ dX11_size_29
