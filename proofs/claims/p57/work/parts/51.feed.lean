/-! ===== feed, load, hear: how many bytes are on the tape ===== -/
/-- the class's feed: of the count c before it, the answer r, the count d behind it -/
def fd_C (c r d : Int32) : Prop := (880 < c.toInt ∧ r = -1 ∧ d = c) ∨ (c.toInt ≤ 880 ∧ r = d ∧ d.toInt = c.toInt + 20)
def fd_M (σ : ms_T) (res : Int32 × ms_T) : Prop := fd_C (ms_I σ 667) res.1 (ms_I res.2 667)
def ld_C (c n d : Int32) : Prop := ((n.toInt < 0 ∨ c.toInt < n.toInt) ∧ d = c) ∨ (¬ (n.toInt < 0 ∨ c.toInt < n.toInt) ∧ d = 0)
def ld_M (σ : ms_T) (n : Int32) (τ : ms_T) : Prop := ld_C (ms_I σ 667) n (ms_I τ 667)
theorem ld_dd {c n d d' : Int32} (h : ld_C c n d) (g : ld_C c n d') : d = d' := by
  rcases h with ⟨h1, h2⟩ | ⟨h1, h2⟩
  · rcases g with ⟨g1, g2⟩ | ⟨g1, g2⟩
    · rw [h2, g2]
    · exact absurd h1 g1
  · rcases g with ⟨g1, g2⟩ | ⟨g1, g2⟩
    · exact absurd g1 h1
    · rw [h2, g2]
abbrev w_X11_hear_F : cw_W := ([203, 204, 205, 209, 301, 351, 352, 353, 354, 355, 356, 453, 454, 600, 605], [350, 608, 609], [20, 21, 22, 23], [])
set_option maxRecDepth 100000 in
set_option maxHeartbeats 4000000 in
theorem t_X11_hear_F (Γ : hp_G) (l : Launch) (α : hp_T) (g : GC α) (a0 : Nat) (k0 : hp_K α a0 = 12) (a1 : Int32) : Met l yX11_hear (hp_ws yX11_hear cX11_hear 4 (some .int)) (hp_rm 9 0 0) (hp_Pc Γ α [.ref a0, .int a1]) (hp_Qi Γ (fun r β => cw w_X11_hear_F α β ∧ ld_C (hp_I α 605 a0) a1 (hp_I β 605 a0))) 0 0 (hp_A Γ) := by
  refine hp_start (by decide) ?_
  intro p e s m below meth c C hr hlk B0 hnm
  have C : hp_C Γ p m c cX11_hear 4 s ([.ref a0, .int a1] : List Value).toArray RX11 := C
  have hx := C.1.1
  have hb := C.1.2.1
  have hown := C.1.2.2.2.1
  have hts := C.1.2.2.2.2
  have B : hp_B Γ (cw w_X11_hear_F) s α α s.heap [] := ⟨B0.1, B0.2.1, cw_rf g⟩
  have lit0 : (0 : Int32).toInt = 0 := by decide
  have lit1 : (1 : Int32).toInt = 1 := by decide
  have lit9 : (9 : Int32).toInt = 9 := by decide
  have hl := lv_entry ([.ref a0, .int a1]) (n := 4) (Nat.le_of_ble_eq_true rfl)
  show W p l e (hp_rm 9 0 0) s m ([.ref a0, .int a1] : List Value).toArray below meth c s.heap [] 0 0 (MQ below (hp_Qi Γ (fun r β => cw w_X11_hear_F α β ∧ ld_C (hp_I α 605 a0) a1 (hp_I β 605 a0))) ([.ref a0, .int a1] : List Value).toArray s 0 0 (hp_A Γ)) (entryFrame m ([.ref a0, .int a1] : List Value).toArray 4)
  rw [lg_entry_eq]
  generalize (lg_sl ([.ref a0, .int a1]) ++ List.replicate (4 - (lg_sl ([.ref a0, .int a1])).length) Slot.unset).toArray = ls at hl ⊢
  have hl : lv_has ls 4 [(0, .ref a0), (1, .int a1)] := hl
  obtain ⟨c0, ec0⟩ : ∃ q : Int32, q = hp_I α 605 a0 := ⟨_, rfl⟩
  have ic0 := il_eq ec0
  refine lv_iload_n hx hb dX11_hear_0 rfl (lv_at hl 1 rfl) (hp_n (n := 1) rfl ?_)
  refine lv_if_lt (tgt := 12) hx hb dX11_hear_1 (by decide) (fun c_1 => ?_) (fun c_1 => hp_n (n := 4) rfl ?_)
  ·
    have jc_1 := il_lt c_1
    refine lv_aload_n hx hb dX11_hear_12 rfl (lv_at hl 0 rfl) (hp_n (n := 13) rfl ?_)
    refine lv_iconst (v := 1) hx hb dX11_hear_13 (by decide) (hp_n (n := 14) rfl ?_)
    refine q_ci (pc' := 17) B (hp_runV (As := [.int 1]) (rest := []) C B (t_X11_refuse Γ l α B.2.2.1 a0 (cw_k B.2.2 k0) 1) lb_X11_refuse lv_X11_refuse lk_X11_98 (cw_k B.2.2 k0) rfl (by decide) rfl hl.1 rfl (Nat.le_of_ble_eq_true rfl) dX11_hear_14 ⟨Nat.le_refl _, Nat.le_refl _⟩) (fun _ _ h => cw_tr B.2.2 h (by decide)) rfl (fun rh_2 αh_2 Hh_2 Lh_2 ph_2 Bh_2 => ?_)
    have t_3 : c0 = hp_I αh_2 605 a0 := by rw [cw_I ph_2 a0 (by decide)]; exact ec0
    have uR := il_eq t_3
    exact q_iret C Bh_2 hr hlk (by first | exact ⟨Bh_2.2.2, Or.inl ⟨by omega, by rw [← t_3]; exact ec0⟩⟩ | exact ⟨Bh_2.2.2, Or.inr ⟨by omega, (t_3).symm⟩⟩) dX11_hear_17
  ·
    have jc_1 := il_nlt c_1
    refine lv_iload_n hx hb dX11_hear_4 rfl (lv_at hl 1 rfl) (hp_n (n := 5) rfl ?_)
    refine lv_aload_n hx hb dX11_hear_5 rfl (lv_at hl 0 rfl) (hp_n (n := 6) rfl ?_)
    refine q_getj (κ := 12) (k := 5) (φ := 605) (pc' := 9) C B (cw_k B.2.2 k0) fl_X11_34 rfl rfl rfl ec0 dX11_hear_6 rfl ?_
    refine lv_icmp_le (tgt := 18) hx hb dX11_hear_9 (by decide) (fun c_4 => ?_) (fun c_4 => hp_n (n := 12) rfl ?_)
    ·
      have jc_4 := il_le c_4
      refine lv_aload_n hx hb dX11_hear_18 rfl (lv_at hl 0 rfl) (hp_n (n := 19) rfl ?_)
      refine q_getr (κ := 12) (k := 16) (φ := 616) (pc' := 22) C B (cw_k B.2.2 k0) fl_X11_82 rfl rfl rfl (cw_r B.2.2 k0 rfl rfl (by decide) (by decide)) dX11_hear_19 rfl (fun b_5 eb_5 kb_5 => ?_)
      refine lv_aload_n hx hb dX11_hear_22 rfl (lv_at hl 0 rfl) (hp_n (n := 23) rfl ?_)
      refine q_getr (κ := 12) (k := 4) (φ := 604) (pc' := 26) C B (cw_k B.2.2 k0) fl_X11_30 rfl rfl rfl (cw_r B.2.2 k0 rfl rfl (by decide) (by decide)) dX11_hear_23 rfl (fun b_6 eb_6 kb_6 => ?_)
      refine lv_iload_n hx hb dX11_hear_26 rfl (lv_at hl 1 rfl) (hp_n (n := 27) rfl ?_)
      refine q_cv (pc' := 30) B (hp_runV (As := [.ref b_6, .int a1]) (rest := []) C B (t_X3_begin Γ l α B.2.2.1 b_5 (cw_k B.2.2 kb_5) b_6 (cw_k B.2.2 kb_6) a1) lb_X3_begin lv_X3_begin lk_X11_118 (cw_k B.2.2 kb_5) rfl (by decide) rfl hl.1 rfl (Nat.le_of_ble_eq_true rfl) dX11_hear_27 ⟨Nat.le_refl _, Nat.le_refl _⟩) (fun _ h => cw_tr B.2.2 h (by decide)) rfl (fun αh_7 Hh_7 Lh_7 ph_7 Bh_7 => ?_)
      refine lv_aload_n hx hb dX11_hear_30 rfl (lv_at hl 0 rfl) (hp_n (n := 31) rfl ?_)
      have t_8 : b_5 = hp_R αh_7 616 a0 := by rw [cw_R ph_7 a0 (by decide)]; exact eb_5
      refine q_gets (κ := 12) (k := 16) (φ := 616) (pc' := 34) C Bh_7 (cw_k Bh_7.2.2 k0) fl_X11_82 rfl rfl rfl t_8 dX11_hear_31 rfl ?_
      refine lv_aload_n hx hb dX11_hear_34 rfl (lv_at hl 0 rfl) (hp_n (n := 35) rfl ?_)
      refine q_getr (κ := 12) (k := 1) (φ := 601) (pc' := 38) C Bh_7 (cw_k Bh_7.2.2 k0) fl_X11_16 rfl rfl rfl (cw_r Bh_7.2.2 k0 rfl rfl (by decide) (by decide)) dX11_hear_35 rfl (fun b_9 eb_9 kb_9 => ?_)
      refine q_geti (κ := 11) (k := 0) (φ := 550) (pc' := 41) C Bh_7 (cw_k Bh_7.2.2 kb_9) fl_X11_122 rfl rfl rfl dX11_hear_38 rfl (fun x_10 ex_10 => ?_)
      refine lv_aload_n hx hb dX11_hear_41 rfl (lv_at hl 0 rfl) (hp_n (n := 42) rfl ?_)
      refine q_getr (κ := 12) (k := 9) (φ := 609) (pc' := 45) C Bh_7 (cw_k Bh_7.2.2 k0) fl_X11_50 rfl rfl rfl (cw_r Bh_7.2.2 k0 rfl rfl (by decide) (by decide)) dX11_hear_42 rfl (fun b_11 eb_11 kb_11 => ?_)
      refine q_ci (pc' := 48) Bh_7 (hp_runV (As := [.int x_10, .ref b_11]) (rest := []) C Bh_7 (t_X3_readProofs Γ l αh_7 Bh_7.2.2.1 b_5 (cw_k Bh_7.2.2 kb_5) x_10 b_11 (cw_k Bh_7.2.2 kb_11)) lb_X3_readProofs lv_X3_readProofs lk_X11_125 (cw_k Bh_7.2.2 kb_5) rfl (by decide) rfl hl.1 rfl (Nat.le_of_ble_eq_true rfl) dX11_hear_45 ⟨Nat.le_refl _, Nat.le_refl _⟩) (fun _ _ h => cw_tr Bh_7.2.2 h.1 (by decide)) rfl (fun rh_12 αh_12 Hh_12 Lh_12 ph_12 Bh_12 => ?_)
      have zh_12 := ph_12.2
      refine lv_istore_n (lv' := [(2, .int rh_12), (0, .ref a0), (1, .int a1)]) hx hb dX11_hear_48 rfl hl (by decide) rfl (fun ls hl => hp_n (n := 49) rfl ?_)
      refine lv_aload_n hx hb dX11_hear_49 rfl (lv_at hl 1 rfl) (hp_n (n := 50) rfl ?_)
      refine lv_iconst (v := 0) hx hb dX11_hear_50 (by decide) (hp_n (n := 51) rfl ?_)
      refine q_puti (κ := 12) (k := 5) (φ := 605) (pc' := 54) C Bh_12 (cw_k Bh_12.2.2 k0) fl_X11_34 rfl rfl rfl rfl rfl rfl (cw_sI Bh_12.2.2 (by decide) (fun h => absurd h (by decide))) dX11_hear_51 rfl (fun αh_13 Hh_13 Lh_13 eh_13 Bh_13 => ?_)
      refine lv_iload_n hx hb dX11_hear_54 rfl (lv_at hl 0 rfl) (hp_n (n := 55) rfl ?_)
      refine lv_if_ne (tgt := 65) hx hb dX11_hear_55 (by decide) (fun c_14 => ?_) (fun c_14 => hp_n (n := 58) rfl ?_)
      ·
        have jc_14 := il_ne c_14
        refine lv_aload_n hx hb dX11_hear_65 rfl (lv_at hl 1 rfl) (hp_n (n := 66) rfl ?_)
        refine q_getr (κ := 12) (k := 8) (φ := 608) (pc' := 69) C Bh_13 (cw_k Bh_13.2.2 k0) fl_X11_47 rfl rfl rfl (cw_r Bh_13.2.2 k0 rfl rfl (by decide) (by decide)) dX11_hear_66 rfl (fun b_15 eb_15 kb_15 => ?_)
        refine lv_astore_n (lv' := [(3, .ref b_15), (2, .int rh_12), (0, .ref a0), (1, .int a1)]) hx hb dX11_hear_69 rfl hl (by decide) rfl (fun ls hl => hp_n (n := 70) rfl ?_)
        refine lv_aload_n hx hb dX11_hear_70 rfl (lv_at hl 2 rfl) (hp_n (n := 71) rfl ?_)
        refine lv_aload_n hx hb dX11_hear_71 rfl (lv_at hl 2 rfl) (hp_n (n := 72) rfl ?_)
        have t_16 : b_11 = hp_R αh_12 609 a0 := by rw [cw_R ph_12.1 a0 (by decide)]; exact eb_11
        have t_17 : b_11 = hp_R αh_13 609 a0 := by rw [eh_13]; exact t_16
        refine q_gets (κ := 12) (k := 9) (φ := 609) (pc' := 75) C Bh_13 (cw_k Bh_13.2.2 k0) fl_X11_50 rfl rfl rfl t_17 dX11_hear_72 rfl ?_
        refine q_putr (κ := 12) (k := 8) (φ := 608) (pc' := 78) C Bh_13 (cw_k Bh_13.2.2 k0) fl_X11_47 rfl rfl rfl rfl rfl rfl (cw_sR Bh_13.2.2 (by decide) (Or.inl kb_11)) dX11_hear_75 rfl (fun αh_18 Hh_18 Lh_18 eh_18 Bh_18 => ?_)
        refine lv_aload_n hx hb dX11_hear_78 rfl (lv_at hl 2 rfl) (hp_n (n := 79) rfl ?_)
        refine lv_aload_n hx hb dX11_hear_79 rfl (lv_at hl 0 rfl) (hp_n (n := 80) rfl ?_)
        refine q_putr (κ := 12) (k := 9) (φ := 609) (pc' := 83) C Bh_18 (cw_k Bh_18.2.2 k0) fl_X11_50 rfl rfl rfl rfl rfl rfl (cw_sR Bh_18.2.2 (by decide) (Or.inl kb_15)) dX11_hear_80 rfl (fun αh_19 Hh_19 Lh_19 eh_19 Bh_19 => ?_)
        refine lv_aload_n hx hb dX11_hear_83 rfl (lv_at hl 2 rfl) (hp_n (n := 84) rfl ?_)
        refine lv_aload_n hx hb dX11_hear_84 rfl (lv_at hl 2 rfl) (hp_n (n := 85) rfl ?_)
        refine q_getr (κ := 12) (k := 8) (φ := 608) (pc' := 88) C Bh_19 (cw_k Bh_19.2.2 k0) fl_X11_47 rfl rfl rfl (cw_r Bh_19.2.2 k0 rfl rfl (by decide) (by decide)) dX11_hear_85 rfl (fun b_20 eb_20 kb_20 => ?_)
        refine lv_iconst (v := 0) hx hb dX11_hear_88 (by decide) (hp_n (n := 89) rfl ?_)
        refine q_ci (pc' := 92) Bh_19 (hp_runV (As := [.int 0]) (rest := [.ref a0]) C Bh_19 (t_X5_countOf Γ l αh_19 Bh_19.2.2.1 b_20 (cw_k Bh_19.2.2 kb_20) 0) lb_X5_countOf lv_X5_countOf lk_X11_129 (cw_k Bh_19.2.2 kb_20) rfl (by decide) rfl hl.1 rfl (Nat.le_of_ble_eq_true rfl) dX11_hear_89 ⟨Nat.le_refl _, Nat.le_refl _⟩) (fun _ _ h => by rw [h]; exact Bh_19.2.2) rfl (fun rh_21 αh_21 Hh_21 Lh_21 ph_21 Bh_21 => ?_)
        rw [ph_21] at Bh_21
        refine q_ci (pc' := 95) Bh_21 (hp_runV (As := [.int rh_21]) (rest := []) C Bh_21 (t_X11_answer Γ l αh_19 Bh_21.2.2.1 a0 (cw_k Bh_21.2.2 k0) rh_21) lb_X11_answer lv_X11_answer lk_X11_115 (cw_k Bh_21.2.2 k0) rfl (by decide) rfl hl.1 rfl (Nat.le_of_ble_eq_true rfl) dX11_hear_92 ⟨Nat.le_refl _, Nat.le_refl _⟩) (fun _ _ h => cw_tr Bh_21.2.2 h (by decide)) rfl (fun rh_22 αh_22 Hh_22 Lh_22 ph_22 Bh_22 => ?_)
        have t_23 : 0 = hp_I αh_13 605 a0 := by rw [eh_13]; exact hp_I_at.symm
        have t_24 : 0 = hp_I αh_18 605 a0 := by rw [eh_18]; exact t_23
        have t_25 : 0 = hp_I αh_19 605 a0 := by rw [eh_19]; exact t_24
        have t_26 : 0 = hp_I αh_22 605 a0 := by rw [cw_I ph_22 a0 (by decide)]; exact t_25
        have uR := il_eq t_26
        exact q_iret C Bh_22 hr hlk (by first | exact ⟨Bh_22.2.2, Or.inl ⟨by omega, by rw [← t_26]; exact ec0⟩⟩ | exact ⟨Bh_22.2.2, Or.inr ⟨by omega, (t_26).symm⟩⟩) dX11_hear_95
      ·
        have jc_14 := il_eq c_14
        refine lv_aload_n hx hb dX11_hear_58 rfl (lv_at hl 1 rfl) (hp_n (n := 59) rfl ?_)
        refine lv_bipush (v := 9) hx hb dX11_hear_59 (by decide) (hp_n (n := 61) rfl ?_)
        refine q_ci (pc' := 64) Bh_13 (hp_runV (As := [.int 9]) (rest := []) C Bh_13 (t_X11_refuse Γ l αh_13 Bh_13.2.2.1 a0 (cw_k Bh_13.2.2 k0) 9) lb_X11_refuse lv_X11_refuse lk_X11_98 (cw_k Bh_13.2.2 k0) rfl (by decide) rfl hl.1 rfl (Nat.le_of_ble_eq_true rfl) dX11_hear_61 ⟨Nat.le_refl _, Nat.le_refl _⟩) (fun _ _ h => cw_tr Bh_13.2.2 h (by decide)) rfl (fun rh_27 αh_27 Hh_27 Lh_27 ph_27 Bh_27 => ?_)
        have t_28 : 0 = hp_I αh_13 605 a0 := by rw [eh_13]; exact hp_I_at.symm
        have t_29 : 0 = hp_I αh_27 605 a0 := by rw [cw_I ph_27 a0 (by decide)]; exact t_28
        have uR := il_eq t_29
        exact q_iret C Bh_27 hr hlk (by first | exact ⟨Bh_27.2.2, Or.inl ⟨by omega, by rw [← t_29]; exact ec0⟩⟩ | exact ⟨Bh_27.2.2, Or.inr ⟨by omega, (t_29).symm⟩⟩) dX11_hear_64
    ·
      have jc_4 := il_nle c_4
      refine lv_aload_n hx hb dX11_hear_12 rfl (lv_at hl 0 rfl) (hp_n (n := 13) rfl ?_)
      refine lv_iconst (v := 1) hx hb dX11_hear_13 (by decide) (hp_n (n := 14) rfl ?_)
      refine q_ci (pc' := 17) B (hp_runV (As := [.int 1]) (rest := []) C B (t_X11_refuse Γ l α B.2.2.1 a0 (cw_k B.2.2 k0) 1) lb_X11_refuse lv_X11_refuse lk_X11_98 (cw_k B.2.2 k0) rfl (by decide) rfl hl.1 rfl (Nat.le_of_ble_eq_true rfl) dX11_hear_14 ⟨Nat.le_refl _, Nat.le_refl _⟩) (fun _ _ h => cw_tr B.2.2 h (by decide)) rfl (fun rh_30 αh_30 Hh_30 Lh_30 ph_30 Bh_30 => ?_)
      have t_31 : c0 = hp_I αh_30 605 a0 := by rw [cw_I ph_30 a0 (by decide)]; exact ec0
      have uR := il_eq t_31
      exact q_iret C Bh_30 hr hlk (by first | exact ⟨Bh_30.2.2, Or.inl ⟨by omega, by rw [← t_31]; exact ec0⟩⟩ | exact ⟨Bh_30.2.2, Or.inr ⟨by omega, (t_31).symm⟩⟩) dX11_hear_17
