def f_X11_entry_J8 (n : Nat) (a0 : Nat) (αh1 : hp_T) : Option (Int32 × hp_T) :=
  hq_c (f_X11_refuse n αh1 a0 (1 : Int32)) fun rh2 αh2 =>
  some (rh2, αh2)
def f_X11_entry (n : Nat) (α : hp_T) (a0 : Nat) (a1 : Int32) (a2 : Int32) (a3 : Int32) : Option (Int32 × hp_T) :=
  if a2 < 0 then
    f_X11_entry_J8 n a0 α
  else
    if 0 ≤ a3 then
      ms_l (hp_R α 601 a0) fun b5 =>
      ms_b (f_X10_logAt n α b5 a1) fun rh6 =>
      hq_m rh6 (
        hq_c (f_X11_refuse n α a0 (2 : Int32)) fun rh7 αh7 =>
        some (rh7, αh7)) fun bh6 =>
      ms_b (f_X2_wordAt n α bh6 a2) fun rh8 =>
      hq_m rh8 (
        hq_c (f_X11_refuse n α a0 (5 : Int32)) fun rh9 αh9 =>
        some (rh9, αh9)) fun bh8 =>
      if a3 = 0 then
        ms_l (hp_I α 501 bh8) fun x19 =>
        hq_c (f_X11_answer n α a0 x19) fun rh20 αh20 =>
        some (rh20, αh20)
      else
        if a3 = (1 : Int32) then
          ms_b (f_X2_markAt n α bh6 a2) fun rh17 =>
          hq_c (f_X11_answer n α a0 rh17) fun rh18 αh18 =>
          some (rh18, αh18)
        else
          ms_l (hp_I α 501 bh8) fun x12 =>
          if x12 ≤ (a3 - (2 : Int32)) then
            hq_c (f_X11_refuse n α a0 (5 : Int32)) fun rh14 αh14 =>
            some (rh14, αh14)
          else
            ms_b (f_X9_letterAt n α bh8 (a3 - (2 : Int32))) fun rh15 =>
            hq_c (f_X11_answer n α a0 rh15) fun rh16 αh16 =>
            some (rh16, αh16)
    else
      f_X11_entry_J8 n a0 α
set_option maxRecDepth 100000 in
set_option maxHeartbeats 4000000 in
theorem n_X11_entry (n : Nat) (Γ : hp_G) (l : Launch) (α : hp_T) (g : GC α) (a0 : Nat) (k0 : hp_K α a0 = 12) (a1 : Int32) (a2 : Int32) (a3 : Int32) (res : (Int32 × hp_T)) (hf : f_X11_entry n α a0 a1 a2 a3 = some res) : Met l yX11_entry (hp_ws yX11_entry cX11_entry 6 (some .int)) (hp_rm 1 0 0) (hp_Pc Γ α [.ref a0, .int a1, .int a2, .int a3]) (hp_Qi Γ (fun r β => r = res.1 ∧ β = res.2 ∧ cw w_X11_entry α β)) 0 0 (hp_A Γ) := by
  unfold f_X11_entry at hf
  refine hp_start (by decide) ?_
  intro p e s m below meth c C hr hlk B0 hnm
  have C : hp_C Γ p m c cX11_entry 6 s ([.ref a0, .int a1, .int a2, .int a3] : List Value).toArray RX11 := C
  have hx := C.1.1
  have hb := C.1.2.1
  have hown := C.1.2.2.2.1
  have hts := C.1.2.2.2.2
  have B : hp_B Γ (cw w_X11_entry) s α α s.heap [] := ⟨B0.1, B0.2.1, cw_rf g⟩
  have hl := lv_entry ([.ref a0, .int a1, .int a2, .int a3]) (n := 6) (Nat.le_of_ble_eq_true rfl)
  show W p l e (hp_rm 1 0 0) s m ([.ref a0, .int a1, .int a2, .int a3] : List Value).toArray below meth c s.heap [] 0 0 (MQ below (hp_Qi Γ (fun r β => r = res.1 ∧ β = res.2 ∧ cw w_X11_entry α β)) ([.ref a0, .int a1, .int a2, .int a3] : List Value).toArray s 0 0 (hp_A Γ)) (entryFrame m ([.ref a0, .int a1, .int a2, .int a3] : List Value).toArray 6)
  rw [lg_entry_eq]
  generalize (lg_sl ([.ref a0, .int a1, .int a2, .int a3]) ++ List.replicate (6 - (lg_sl ([.ref a0, .int a1, .int a2, .int a3])).length) Slot.unset).toArray = ls at hl ⊢
  have hl : lv_has ls 6 [(0, .ref a0), (1, .int a1), (2, .int a2), (3, .int a3)] := hl
  refine lv_iload_n hx hb dX11_entry_0 rfl (lv_at hl 2 rfl) (hp_n (n := 1) rfl ?_)
  have J8 : ∀ (αh1 : hp_T) (Hh1 : Heap) (Lh1 : List Loc) (Bh1 : hp_B Γ (cw w_X11_entry) s α αh1 Hh1 Lh1) (ls : Array Slot) (hl : lv_has ls 6 [(0, .ref a0)]) (hf : f_X11_entry_J8 n a0 αh1 = some res), W p l e (hp_rm 1 0 0) s m ([.ref a0, .int a1, .int a2, .int a3] : List Value).toArray below meth c Hh1 Lh1 0 0 (MQ below (hp_Qi Γ (fun r β => r = res.1 ∧ β = res.2 ∧ cw w_X11_entry α β)) ([.ref a0, .int a1, .int a2, .int a3] : List Value).toArray s 0 0 (hp_A Γ)) (F0 m 8 ls []) := by
    intro αh1 Hh1 Lh1 Bh1 ls hl hf
    unfold f_X11_entry_J8 at hf
    refine lv_aload_n hx hb dX11_entry_8 rfl (lv_at hl 0 rfl) (hp_n (n := 9) rfl ?_)
    refine lv_iconst (v := 1) hx hb dX11_entry_9 (by decide) (hp_n (n := 10) rfl ?_)
    obtain ⟨rh2, αh2, qh2, hf⟩ := hq_cE hf
    refine d_ci (pc' := 13) Bh1 (hp_runV (As := [.int (1 : Int32)]) (rest := []) C Bh1 (n_X11_refuse n Γ l αh1 Bh1.2.2.1 a0 (cw_k Bh1.2.2 k0) (1 : Int32) (rh2, αh2) qh2) lb_X11_refuse lv_X11_refuse lk_X11_98 (cw_k Bh1.2.2 k0) rfl (by decide) rfl hl.1 rfl (Nat.le_of_ble_eq_true rfl) dX11_entry_10 ⟨Nat.le_refl _, Nat.le_refl _⟩) (by decide) rfl (fun Hh2 Lh2 Bh2 => ?_)
    cases hf
    exact q_iret C Bh2 hr hlk ⟨rfl, rfl, Bh2.2.2⟩ dX11_entry_13
  refine lv_if_lt (tgt := 8) hx hb dX11_entry_1 (by decide) (fun c3 => ?_) (fun c3 => hp_n (n := 4) rfl ?_)
  ·
    replace hf := ms_iT c3 hf
    exact J8 α s.heap [] B ls (lv_sub hl [0] rfl) hf
  ·
    replace hf := ms_iF c3 hf
    refine lv_iload_n hx hb dX11_entry_4 rfl (lv_at hl 3 rfl) (hp_n (n := 5) rfl ?_)
    refine lv_if_ge (tgt := 14) hx hb dX11_entry_5 (by decide) (fun c4 => ?_) (fun c4 => hp_n (n := 8) rfl ?_)
    ·
      replace hf := ms_iT c4 hf
      refine lv_aload_n hx hb dX11_entry_14 rfl (lv_at hl 0 rfl) (hp_n (n := 15) rfl ?_)
      refine q_getr (κ := 12) (k := 1) (φ := 601) (pc' := 18) C B (cw_k B.2.2 k0) fl_X11_16 rfl rfl rfl (cw_r B.2.2 k0 rfl rfl (by decide) (by decide)) dX11_entry_15 rfl (fun b5 eb5 kb5 => ?_)
      replace hf := ms_lE eb5 hf
      refine lv_iload_n hx hb dX11_entry_18 rfl (lv_at hl 1 rfl) (hp_n (n := 19) rfl ?_)
      obtain ⟨rh6, qh6, hf⟩ := ms_bE hf
      refine d_pq (pc' := 22) B (hp_runV (As := [.int a1]) (rest := []) C B (n_X10_logAt n Γ l α B.2.2.1 b5 (cw_k B.2.2 kb5) a1 rh6 qh6) lb_X10_logAt lv_X10_logAt lk_X11_163 (cw_k B.2.2 kb5) rfl (by decide) rfl hl.1 rfl (Nat.le_of_ble_eq_true rfl) dX11_entry_19 ⟨Nat.le_refl _, Nat.le_refl _⟩) rfl (fun Hh6 Lh6 Bh6 kh6 => ?_)
      rcases rh6 with _ | bh6
      ·
        replace hf := hq_N hf
        refine lv_astoreN (lv' := [(4, .null), (0, .ref a0), (1, .int a1), (2, .int a2), (3, .int a3)]) hx hb dX11_entry_22 hl (by decide) rfl (fun ls hl => hp_n (n := 24) rfl ?_)
        refine lv_aloadN hx hb dX11_entry_24 (lv_at hl 0 rfl) (hp_n (n := 26) rfl ?_)
        refine lv_ifnonnullN hx hb dX11_entry_26 (hp_n (n := 29) rfl ?_)
        refine lv_aload_n hx hb dX11_entry_29 rfl (lv_at hl 1 rfl) (hp_n (n := 30) rfl ?_)
        refine lv_iconst (v := 2) hx hb dX11_entry_30 (by decide) (hp_n (n := 31) rfl ?_)
        obtain ⟨rh7, αh7, qh7, hf⟩ := hq_cE hf
        refine d_ci (pc' := 34) Bh6 (hp_runV (As := [.int (2 : Int32)]) (rest := []) C Bh6 (n_X11_refuse n Γ l α Bh6.2.2.1 a0 (cw_k Bh6.2.2 k0) (2 : Int32) (rh7, αh7) qh7) lb_X11_refuse lv_X11_refuse lk_X11_98 (cw_k Bh6.2.2 k0) rfl (by decide) rfl hl.1 rfl (Nat.le_of_ble_eq_true rfl) dX11_entry_31 ⟨Nat.le_refl _, Nat.le_refl _⟩) (by decide) rfl (fun Hh7 Lh7 Bh7 => ?_)
        cases hf
        exact q_iret C Bh7 hr hlk ⟨rfl, rfl, Bh7.2.2⟩ dX11_entry_34
      ·
        replace hf := hq_S hf
        have kbh6 := kh6 bh6 rfl
        refine lv_astore (lv' := [(4, .ref bh6), (0, .ref a0), (1, .int a1), (2, .int a2), (3, .int a3)]) hx hb dX11_entry_22 hl (by decide) rfl (fun ls hl => hp_n (n := 24) rfl ?_)
        refine lv_aload hx hb dX11_entry_24 (lv_at hl 0 rfl) (hp_n (n := 26) rfl ?_)
        refine lv_ifnonnull (tgt := 35) hx hb dX11_entry_26 (by decide) ?_
        refine lv_aload hx hb dX11_entry_35 (lv_at hl 0 rfl) (hp_n (n := 37) rfl ?_)
        refine lv_iload_n hx hb dX11_entry_37 rfl (lv_at hl 3 rfl) (hp_n (n := 38) rfl ?_)
        obtain ⟨rh8, qh8, hf⟩ := ms_bE hf
        refine d_pq (pc' := 41) Bh6 (hp_runV (As := [.int a2]) (rest := []) C Bh6 (n_X2_wordAt n Γ l α Bh6.2.2.1 bh6 (cw_k Bh6.2.2 kbh6) a2 rh8 qh8) lb_X2_wordAt lv_X2_wordAt lk_X11_170 (cw_k Bh6.2.2 kbh6) rfl (by decide) rfl hl.1 rfl (Nat.le_of_ble_eq_true rfl) dX11_entry_38 ⟨Nat.le_refl _, Nat.le_refl _⟩) rfl (fun Hh8 Lh8 Bh8 kh8 => ?_)
        rcases rh8 with _ | bh8
        ·
          replace hf := hq_N hf
          refine lv_astoreN (lv' := [(5, .null), (4, .ref bh6), (0, .ref a0), (1, .int a1), (2, .int a2), (3, .int a3)]) hx hb dX11_entry_41 hl (by decide) rfl (fun ls hl => hp_n (n := 43) rfl ?_)
          refine lv_aloadN hx hb dX11_entry_43 (lv_at hl 0 rfl) (hp_n (n := 45) rfl ?_)
          refine lv_ifnonnullN hx hb dX11_entry_45 (hp_n (n := 48) rfl ?_)
          refine lv_aload_n hx hb dX11_entry_48 rfl (lv_at hl 2 rfl) (hp_n (n := 49) rfl ?_)
          refine lv_iconst (v := 5) hx hb dX11_entry_49 (by decide) (hp_n (n := 50) rfl ?_)
          obtain ⟨rh9, αh9, qh9, hf⟩ := hq_cE hf
          refine d_ci (pc' := 53) Bh8 (hp_runV (As := [.int (5 : Int32)]) (rest := []) C Bh8 (n_X11_refuse n Γ l α Bh8.2.2.1 a0 (cw_k Bh8.2.2 k0) (5 : Int32) (rh9, αh9) qh9) lb_X11_refuse lv_X11_refuse lk_X11_98 (cw_k Bh8.2.2 k0) rfl (by decide) rfl hl.1 rfl (Nat.le_of_ble_eq_true rfl) dX11_entry_50 ⟨Nat.le_refl _, Nat.le_refl _⟩) (by decide) rfl (fun Hh9 Lh9 Bh9 => ?_)
          cases hf
          exact q_iret C Bh9 hr hlk ⟨rfl, rfl, Bh9.2.2⟩ dX11_entry_53
        ·
          replace hf := hq_S hf
          have kbh8 := kh8 bh8 rfl
          refine lv_astore (lv' := [(5, .ref bh8), (4, .ref bh6), (0, .ref a0), (1, .int a1), (2, .int a2), (3, .int a3)]) hx hb dX11_entry_41 hl (by decide) rfl (fun ls hl => hp_n (n := 43) rfl ?_)
          refine lv_aload hx hb dX11_entry_43 (lv_at hl 0 rfl) (hp_n (n := 45) rfl ?_)
          refine lv_ifnonnull (tgt := 54) hx hb dX11_entry_45 (by decide) ?_
          refine lv_iload_n hx hb dX11_entry_54 rfl (lv_at hl 5 rfl) (hp_n (n := 55) rfl ?_)
          refine lv_if_ne (tgt := 68) hx hb dX11_entry_55 (by decide) (fun c10 => ?_) (fun c10 => hp_n (n := 58) rfl ?_)
          ·
            replace hf := ms_iF c10 hf
            refine lv_iload_n hx hb dX11_entry_68 rfl (lv_at hl 5 rfl) (hp_n (n := 69) rfl ?_)
            refine lv_iconst (v := 1) hx hb dX11_entry_69 (by decide) (hp_n (n := 70) rfl ?_)
            refine lv_icmp_ne (tgt := 84) hx hb dX11_entry_70 (by decide) (fun c11 => ?_) (fun c11 => hp_n (n := 73) rfl ?_)
            ·
              replace hf := ms_iF c11 hf
              refine lv_iload_n hx hb dX11_entry_84 rfl (lv_at hl 5 rfl) (hp_n (n := 85) rfl ?_)
              refine lv_iconst (v := 2) hx hb dX11_entry_85 (by decide) (hp_n (n := 86) rfl ?_)
              refine lv_isub hx hb dX11_entry_86 (hp_n (n := 87) rfl ?_)
              refine lv_aload hx hb dX11_entry_87 (lv_at hl 0 rfl) (hp_n (n := 89) rfl ?_)
              refine q_geti (κ := 10) (k := 1) (φ := 501) (pc' := 92) C Bh8 (cw_k Bh8.2.2 kbh8) fl_X11_150 rfl rfl rfl dX11_entry_89 rfl (fun x12 ex12 => ?_)
              replace hf := ms_lE ex12 hf
              refine lv_icmp_ge (tgt := 110) hx hb dX11_entry_92 (by decide) (fun c13 => ?_) (fun c13 => hp_n (n := 95) rfl ?_)
              ·
                replace hf := ms_iT c13 hf
                refine lv_aload_n hx hb dX11_entry_110 rfl (lv_at hl 2 rfl) (hp_n (n := 111) rfl ?_)
                refine lv_iconst (v := 5) hx hb dX11_entry_111 (by decide) (hp_n (n := 112) rfl ?_)
                obtain ⟨rh14, αh14, qh14, hf⟩ := hq_cE hf
                refine d_ci (pc' := 115) Bh8 (hp_runV (As := [.int (5 : Int32)]) (rest := []) C Bh8 (n_X11_refuse n Γ l α Bh8.2.2.1 a0 (cw_k Bh8.2.2 k0) (5 : Int32) (rh14, αh14) qh14) lb_X11_refuse lv_X11_refuse lk_X11_98 (cw_k Bh8.2.2 k0) rfl (by decide) rfl hl.1 rfl (Nat.le_of_ble_eq_true rfl) dX11_entry_112 ⟨Nat.le_refl _, Nat.le_refl _⟩) (by decide) rfl (fun Hh14 Lh14 Bh14 => ?_)
                cases hf
                exact q_iret C Bh14 hr hlk ⟨rfl, rfl, Bh14.2.2⟩ dX11_entry_115
              ·
                replace hf := ms_iF c13 hf
                refine lv_aload_n hx hb dX11_entry_95 rfl (lv_at hl 2 rfl) (hp_n (n := 96) rfl ?_)
                refine lv_aload hx hb dX11_entry_96 (lv_at hl 0 rfl) (hp_n (n := 98) rfl ?_)
                refine lv_iload_n hx hb dX11_entry_98 rfl (lv_at hl 5 rfl) (hp_n (n := 99) rfl ?_)
                refine lv_iconst (v := 2) hx hb dX11_entry_99 (by decide) (hp_n (n := 100) rfl ?_)
                refine lv_isub hx hb dX11_entry_100 (hp_n (n := 101) rfl ?_)
                obtain ⟨rh15, qh15, hf⟩ := ms_bE hf
                refine d_pi (pc' := 104) Bh8 (hp_runV (As := [.int (a3 - (2 : Int32))]) (rest := [.ref a0]) C Bh8 (n_X9_letterAt n Γ l α Bh8.2.2.1 bh8 (cw_k Bh8.2.2 kbh8) (a3 - (2 : Int32)) rh15 qh15) lb_X9_letterAt lv_X9_letterAt lk_X11_177 (cw_k Bh8.2.2 kbh8) rfl (by decide) rfl hl.1 rfl (Nat.le_of_ble_eq_true rfl) dX11_entry_101 ⟨Nat.le_refl _, Nat.le_refl _⟩) rfl (fun Hh15 Lh15 Bh15 => ?_)
                obtain ⟨rh16, αh16, qh16, hf⟩ := hq_cE hf
                refine d_ci (pc' := 107) Bh15 (hp_runV (As := [.int rh15]) (rest := []) C Bh15 (n_X11_answer n Γ l α Bh15.2.2.1 a0 (cw_k Bh15.2.2 k0) rh15 (rh16, αh16) qh16) lb_X11_answer lv_X11_answer lk_X11_115 (cw_k Bh15.2.2 k0) rfl (by decide) rfl hl.1 rfl (Nat.le_of_ble_eq_true rfl) dX11_entry_104 ⟨Nat.le_refl _, Nat.le_refl _⟩) (by decide) rfl (fun Hh16 Lh16 Bh16 => ?_)
                refine lv_goto (tgt := 115) hx hb dX11_entry_107 (by decide) ?_
                cases hf
                exact q_iret C Bh16 hr hlk ⟨rfl, rfl, Bh16.2.2⟩ dX11_entry_115
            ·
              replace hf := ms_iT c11 hf
              refine lv_aload_n hx hb dX11_entry_73 rfl (lv_at hl 2 rfl) (hp_n (n := 74) rfl ?_)
              refine lv_aload hx hb dX11_entry_74 (lv_at hl 1 rfl) (hp_n (n := 76) rfl ?_)
              refine lv_iload_n hx hb dX11_entry_76 rfl (lv_at hl 4 rfl) (hp_n (n := 77) rfl ?_)
              obtain ⟨rh17, qh17, hf⟩ := ms_bE hf
              refine d_pi (pc' := 80) Bh8 (hp_runV (As := [.int a2]) (rest := [.ref a0]) C Bh8 (n_X2_markAt n Γ l α Bh8.2.2.1 bh6 (cw_k Bh8.2.2 kbh6) a2 rh17 qh17) lb_X2_markAt lv_X2_markAt lk_X11_174 (cw_k Bh8.2.2 kbh6) rfl (by decide) rfl hl.1 rfl (Nat.le_of_ble_eq_true rfl) dX11_entry_77 ⟨Nat.le_refl _, Nat.le_refl _⟩) rfl (fun Hh17 Lh17 Bh17 => ?_)
              obtain ⟨rh18, αh18, qh18, hf⟩ := hq_cE hf
              refine d_ci (pc' := 83) Bh17 (hp_runV (As := [.int rh17]) (rest := []) C Bh17 (n_X11_answer n Γ l α Bh17.2.2.1 a0 (cw_k Bh17.2.2 k0) rh17 (rh18, αh18) qh18) lb_X11_answer lv_X11_answer lk_X11_115 (cw_k Bh17.2.2 k0) rfl (by decide) rfl hl.1 rfl (Nat.le_of_ble_eq_true rfl) dX11_entry_80 ⟨Nat.le_refl _, Nat.le_refl _⟩) (by decide) rfl (fun Hh18 Lh18 Bh18 => ?_)
              cases hf
              exact q_iret C Bh18 hr hlk ⟨rfl, rfl, Bh18.2.2⟩ dX11_entry_83
          ·
            replace hf := ms_iT c10 hf
            refine lv_aload_n hx hb dX11_entry_58 rfl (lv_at hl 2 rfl) (hp_n (n := 59) rfl ?_)
            refine lv_aload hx hb dX11_entry_59 (lv_at hl 0 rfl) (hp_n (n := 61) rfl ?_)
            refine q_geti (κ := 10) (k := 1) (φ := 501) (pc' := 64) C Bh8 (cw_k Bh8.2.2 kbh8) fl_X11_150 rfl rfl rfl dX11_entry_61 rfl (fun x19 ex19 => ?_)
            replace hf := ms_lE ex19 hf
            obtain ⟨rh20, αh20, qh20, hf⟩ := hq_cE hf
            refine d_ci (pc' := 67) Bh8 (hp_runV (As := [.int x19]) (rest := []) C Bh8 (n_X11_answer n Γ l α Bh8.2.2.1 a0 (cw_k Bh8.2.2 k0) x19 (rh20, αh20) qh20) lb_X11_answer lv_X11_answer lk_X11_115 (cw_k Bh8.2.2 k0) rfl (by decide) rfl hl.1 rfl (Nat.le_of_ble_eq_true rfl) dX11_entry_64 ⟨Nat.le_refl _, Nat.le_refl _⟩) (by decide) rfl (fun Hh20 Lh20 Bh20 => ?_)
            cases hf
            exact q_iret C Bh20 hr hlk ⟨rfl, rfl, Bh20.2.2⟩ dX11_entry_67
    ·
      replace hf := ms_iF c4 hf
      exact J8 α s.heap [] B ls (lv_sub hl [0] rfl) hf
