def f_X12_spoil_J69 (n : Nat) (σh1 : ms_T) (v1_h1 : Int32) (v2_h1 : Int32) (v3_h1 : Int32) (v4_h1 : Int32) (w0_h1 : Int32) : Option (Int32 × ms_T) :=
  ms_c (f_X12_is n σh1 w0_h1) fun rh2 σh2 =>
  if rh2 = 0 then
    some ((-1 : Int32), σh2)
  else
    ms_l ((((444 : Int32) + ((8 : Int32) * (((48 : Int32) * v1_h1) + v2_h1))) + v3_h1)) fun x4 =>
    ms_g x4 1980 <|
    ms_l ((ms_E σh2 40 (x4).toNatClampNeg)) fun x6 =>
    if x6 = v4_h1 then
      ms_c (f_X12_refuse n σh2 (5 : Int32)) fun rh13 σh13 =>
      some (rh13, σh13)
    else
      ms_g x4 1980 <|
      ms_l (ms_sE σh2 40 (x4).toNatClampNeg v4_h1) fun σh9 =>
      ms_g (4 : Int32) 1980 <|
      ms_g (4 : Int32) 1980 <|
      ms_l (ms_sE σh9 40 ((4 : Int32)).toNatClampNeg ((ms_E σh9 40 ((4 : Int32)).toNatClampNeg) + (1 : Int32))) fun σh12 =>
      some (x6, σh12)
def f_X12_spoil_J20 (n : Nat) (σh14 : ms_T) (v1_h14 : Int32) (v2_h14 : Int32) (v3_h14 : Int32) (v4_h14 : Int32) : Option (Int32 × ms_T) :=
  f_X12_spoil_J69 n σh14 v1_h14 v2_h14 v3_h14 v4_h14 (1 : Int32)
def f_X12_spoil_J64 (n : Nat) (σh22 : ms_T) (v1_h22 : Int32) (v2_h22 : Int32) (v3_h22 : Int32) (v4_h22 : Int32) : Option (Int32 × ms_T) :=
  f_X12_spoil_J69 n σh22 v1_h22 v2_h22 v3_h22 v4_h22 (5 : Int32)
def f_X12_spoil (n : Nat) (σ : ms_T) (a1 : Int32) (a2 : Int32) (a3 : Int32) (a4 : Int32) : Option (Int32 × ms_T) :=
  if a2 < 0 then
    f_X12_spoil_J20 n σ a1 a2 a3 a4
  else
    if a3 < 0 then
      f_X12_spoil_J20 n σ a1 a2 a3 a4
    else
      ms_b (f_X12_isIn n a4 (1 : Int32) (26 : Int32)) fun rh17 =>
      if rh17 = 0 then
        f_X12_spoil_J20 n σ a1 a2 a3 a4
      else
        ms_b (f_X12_isRecord n σ a1) fun rh19 =>
        if rh19 = 0 then
          f_X12_spoil_J69 n σ a1 a2 a3 a4 (2 : Int32)
        else
          ms_b (f_X12_sizeOf n σ a1) fun rh21 =>
          if rh21 ≤ a2 then
            f_X12_spoil_J64 n σ a1 a2 a3 a4
          else
            ms_g (((252 : Int32) + ((48 : Int32) * a1)) + a2) 1980 <|
            if a3 < (ms_E σ 40 ((((252 : Int32) + ((48 : Int32) * a1)) + a2)).toNatClampNeg) then
              f_X12_spoil_J69 n σ a1 a2 a3 a4 (0 : Int32)
            else
              f_X12_spoil_J64 n σ a1 a2 a3 a4
set_option maxRecDepth 100000 in
set_option maxHeartbeats 4000000 in
theorem m_X12_spoil (n : Nat) (Γ : hp_G) (l : Launch) (α : hp_T) (a0 : Nat) (ρ : Nat → Nat) (σ : ms_T) (hM : hm_M α a0 ρ σ) (a1 : Int32) (a2 : Int32) (a3 : Int32) (a4 : Int32) (res : (Int32 × ms_T)) (hf : f_X12_spoil n σ a1 a2 a3 a4 = some res) : Met l yX12_spoil (hp_ws yX12_spoil cX12_spoil 7 (some .int)) (hp_rm 2 0 0) (hp_Pc Γ α [.ref a0, .int a1, .int a2, .int a3, .int a4]) (hp_Qi Γ (fun r β => r = res.1 ∧ mo α β ∧ hm_M β a0 ρ res.2)) 0 0 (hp_A Γ) := by
  unfold f_X12_spoil at hf
  refine hp_start (by decide) ?_
  intro p e s m below meth c C hr hlk B0 hnm
  have C : hp_C Γ p m c cX12_spoil 7 s ([.ref a0, .int a1, .int a2, .int a3, .int a4] : List Value).toArray RX12 := C
  have hx := C.1.1
  have hb := C.1.2.1
  have hown := C.1.2.2.2.1
  have hts := C.1.2.2.2.2
  have B : hp_B Γ mo s α α s.heap [] := ⟨B0.1, B0.2.1, mo_rf⟩
  have hl := lv_entry ([.ref a0, .int a1, .int a2, .int a3, .int a4]) (n := 7) (Nat.le_of_ble_eq_true rfl)
  show W p l e (hp_rm 2 0 0) s m ([.ref a0, .int a1, .int a2, .int a3, .int a4] : List Value).toArray below meth c s.heap [] 0 0 (MQ below (hp_Qi Γ (fun r β => r = res.1 ∧ mo α β ∧ hm_M β a0 ρ res.2)) ([.ref a0, .int a1, .int a2, .int a3, .int a4] : List Value).toArray s 0 0 (hp_A Γ)) (entryFrame m ([.ref a0, .int a1, .int a2, .int a3, .int a4] : List Value).toArray 7)
  rw [lg_entry_eq]
  generalize (lg_sl ([.ref a0, .int a1, .int a2, .int a3, .int a4]) ++ List.replicate (7 - (lg_sl ([.ref a0, .int a1, .int a2, .int a3, .int a4])).length) Slot.unset).toArray = ls at hl ⊢
  have hl : lv_has ls 7 [(0, .ref a0), (1, .int a1), (2, .int a2), (3, .int a3), (4, .int a4)] := hl
  refine lv_aload_n hx hb dX12_spoil_0 rfl (lv_at hl 0 rfl) (hp_n (n := 1) rfl ?_)
  refine lv_iload_n hx hb dX12_spoil_1 rfl (lv_at hl 2 rfl) (hp_n (n := 2) rfl ?_)
  have J69 : ∀ (αh1 : hp_T) (Hh1 : Heap) (Lh1 : List Loc) (Bh1 : hp_B Γ mo s α αh1 Hh1 Lh1) (σh1 : ms_T) (Mh1 : hm_M αh1 a0 ρ σh1) (v1_h1 : Int32) (v2_h1 : Int32) (v3_h1 : Int32) (v4_h1 : Int32) (w0_h1 : Int32) (ls : Array Slot) (hl : lv_has ls 7 [(0, .ref a0), (1, .int v1_h1), (2, .int v2_h1), (3, .int v3_h1), (4, .int v4_h1)]) (hf : f_X12_spoil_J69 n σh1 v1_h1 v2_h1 v3_h1 v4_h1 w0_h1 = some res), W p l e (hp_rm 2 0 0) s m ([.ref a0, .int a1, .int a2, .int a3, .int a4] : List Value).toArray below meth c Hh1 Lh1 0 0 (MQ below (hp_Qi Γ (fun r β => r = res.1 ∧ mo α β ∧ hm_M β a0 ρ res.2)) ([.ref a0, .int a1, .int a2, .int a3, .int a4] : List Value).toArray s 0 0 (hp_A Γ)) (F0 m 69 ls [.int w0_h1, .ref a0]) := by
    intro αh1 Hh1 Lh1 Bh1 σh1 Mh1 v1_h1 v2_h1 v3_h1 v4_h1 w0_h1 ls hl hf
    unfold f_X12_spoil_J69 at hf
    obtain ⟨rh2, σh2, qh2, hf⟩ := ms_cE hf
    refine m_ci (pc' := 72) (a := a0) (ρ := ρ) Bh1 (hp_runV (As := [.int w0_h1]) (rest := []) C Bh1 (m_X12_is n Γ l αh1 a0 ρ σh1 Mh1 w0_h1 (rh2, σh2) qh2) lb_X12_is lv_X12_is lk_X12_309 Mh1.1 rfl (by decide) rfl hl.1 rfl (Nat.le_of_ble_eq_true rfl) dX12_spoil_69 ⟨Nat.le_refl _, Nat.le_refl _⟩) rfl (fun αh2 Hh2 Lh2 Bh2 Mh2 => ?_)
    refine lv_if_ne (tgt := 77) hx hb dX12_spoil_72 (by decide) (fun c3 => ?_) (fun c3 => hp_n (n := 75) rfl ?_)
    ·
      replace hf := ms_iF c3 hf
      refine lv_sipush (v := 444) hx hb dX12_spoil_77 (by decide) (hp_n (n := 80) rfl ?_)
      refine lv_bipush (v := 8) hx hb dX12_spoil_80 (by decide) (hp_n (n := 82) rfl ?_)
      refine lv_bipush (v := 48) hx hb dX12_spoil_82 (by decide) (hp_n (n := 84) rfl ?_)
      refine lv_iload_n hx hb dX12_spoil_84 rfl (lv_at hl 1 rfl) (hp_n (n := 85) rfl ?_)
      refine lv_imul hx hb dX12_spoil_85 (hp_n (n := 86) rfl ?_)
      refine lv_iload_n hx hb dX12_spoil_86 rfl (lv_at hl 2 rfl) (hp_n (n := 87) rfl ?_)
      refine lv_iadd hx hb dX12_spoil_87 (hp_n (n := 88) rfl ?_)
      refine lv_imul hx hb dX12_spoil_88 (hp_n (n := 89) rfl ?_)
      refine lv_iadd hx hb dX12_spoil_89 (hp_n (n := 90) rfl ?_)
      refine lv_iload_n hx hb dX12_spoil_90 rfl (lv_at hl 3 rfl) (hp_n (n := 91) rfl ?_)
      refine lv_iadd hx hb dX12_spoil_91 (hp_n (n := 92) rfl ?_)
      refine lv_topi (fun x4 ex4 => ?_)
      replace hf := ms_lE ex4 hf
      refine lv_istore (lv' := [(5, .int x4), (0, .ref a0), (1, .int v1_h1), (2, .int v2_h1), (3, .int v3_h1), (4, .int v4_h1)]) hx hb dX12_spoil_92 hl (by decide) rfl (fun ls hl => hp_n (n := 94) rfl ?_)
      refine lv_aload_n hx hb dX12_spoil_94 rfl (lv_at hl 1 rfl) (hp_n (n := 95) rfl ?_)
      refine m_getr (κ := 40) (k := 0) (pc' := 98) C Bh2 Mh2 fl_X12_7 rfl (by decide) dX12_spoil_95 rfl ?_
      refine lv_iload hx hb dX12_spoil_98 (lv_at hl 0 rfl) (hp_n (n := 100) rfl ?_)
      obtain ⟨g5, hf⟩ := ms_gE hf
      refine m_ial (κ := 40) (φ := 650) (n := 1980) (pc' := 101) C Bh2 Mh2 (by decide) (by decide) rfl g5 dX12_spoil_100 rfl ?_
      refine lv_topi (fun x6 ex6 => ?_)
      replace hf := ms_lE ex6 hf
      refine lv_istore (lv' := [(6, .int x6), (5, .int x4), (0, .ref a0), (1, .int v1_h1), (2, .int v2_h1), (3, .int v3_h1), (4, .int v4_h1)]) hx hb dX12_spoil_101 hl (by decide) rfl (fun ls hl => hp_n (n := 103) rfl ?_)
      refine lv_iload hx hb dX12_spoil_103 (lv_at hl 0 rfl) (hp_n (n := 105) rfl ?_)
      refine lv_iload hx hb dX12_spoil_105 (lv_at hl 6 rfl) (hp_n (n := 107) rfl ?_)
      refine lv_icmp_ne (tgt := 116) hx hb dX12_spoil_107 (by decide) (fun c7 => ?_) (fun c7 => hp_n (n := 110) rfl ?_)
      ·
        replace hf := ms_iF c7 hf
        refine lv_aload_n hx hb dX12_spoil_116 rfl (lv_at hl 2 rfl) (hp_n (n := 117) rfl ?_)
        refine m_getr (κ := 40) (k := 0) (pc' := 120) C Bh2 Mh2 fl_X12_7 rfl (by decide) dX12_spoil_117 rfl ?_
        refine lv_iload hx hb dX12_spoil_120 (lv_at hl 1 rfl) (hp_n (n := 122) rfl ?_)
        refine lv_iload hx hb dX12_spoil_122 (lv_at hl 6 rfl) (hp_n (n := 124) rfl ?_)
        obtain ⟨g8, hf⟩ := ms_gE hf
        refine m_ias (κ := 40) (φ := 650) (n := 1980) (pc' := 125) C Bh2 Mh2 (by decide) (by decide) rfl g8 dX12_spoil_124 rfl (fun αh9 Hh9 Lh9 σh9 eh9 Bh9 Mh9 => ?_)
        replace hf := ms_lE eh9 hf
        refine lv_aload_n hx hb dX12_spoil_125 rfl (lv_at hl 2 rfl) (hp_n (n := 126) rfl ?_)
        refine m_getr (κ := 40) (k := 0) (pc' := 129) C Bh9 Mh9 fl_X12_7 rfl (by decide) dX12_spoil_126 rfl ?_
        refine lv_iconst (v := 4) hx hb dX12_spoil_129 (by decide) (hp_n (n := 130) rfl ?_)
        refine lv_dup2_11 hx hb dX12_spoil_130 rfl rfl (hp_n (n := 131) rfl ?_)
        obtain ⟨g10, hf⟩ := ms_gE hf
        refine m_ial (κ := 40) (φ := 650) (n := 1980) (pc' := 132) C Bh9 Mh9 (by decide) (by decide) rfl g10 dX12_spoil_131 rfl ?_
        refine lv_iconst (v := 1) hx hb dX12_spoil_132 (by decide) (hp_n (n := 133) rfl ?_)
        refine lv_iadd hx hb dX12_spoil_133 (hp_n (n := 134) rfl ?_)
        obtain ⟨g11, hf⟩ := ms_gE hf
        refine m_ias (κ := 40) (φ := 650) (n := 1980) (pc' := 135) C Bh9 Mh9 (by decide) (by decide) rfl g11 dX12_spoil_134 rfl (fun αh12 Hh12 Lh12 σh12 eh12 Bh12 Mh12 => ?_)
        replace hf := ms_lE eh12 hf
        refine lv_iload hx hb dX12_spoil_135 (lv_at hl 0 rfl) (hp_n (n := 137) rfl ?_)
        cases hf
        exact q_iret C Bh12 hr hlk ⟨rfl, Bh12.2.2, Mh12⟩ dX12_spoil_137
      ·
        replace hf := ms_iT c7 hf
        refine lv_aload_n hx hb dX12_spoil_110 rfl (lv_at hl 2 rfl) (hp_n (n := 111) rfl ?_)
        refine lv_iconst (v := 5) hx hb dX12_spoil_111 (by decide) (hp_n (n := 112) rfl ?_)
        obtain ⟨rh13, σh13, qh13, hf⟩ := ms_cE hf
        refine m_ci (pc' := 115) (a := a0) (ρ := ρ) Bh2 (hp_runV (As := [.int (5 : Int32)]) (rest := []) C Bh2 (m_X12_refuse n Γ l αh2 a0 ρ σh2 Mh2 (5 : Int32) (rh13, σh13) qh13) lb_X12_refuse lv_X12_refuse lk_X12_212 Mh2.1 rfl (by decide) rfl hl.1 rfl (Nat.le_of_ble_eq_true rfl) dX12_spoil_112 ⟨Nat.le_refl _, Nat.le_refl _⟩) rfl (fun αh13 Hh13 Lh13 Bh13 Mh13 => ?_)
        cases hf
        exact q_iret C Bh13 hr hlk ⟨rfl, Bh13.2.2, Mh13⟩ dX12_spoil_115
    ·
      replace hf := ms_iT c3 hf
      refine lv_iconst (v := (-1)) hx hb dX12_spoil_75 (by decide) (hp_n (n := 76) rfl ?_)
      cases hf
      exact q_iret C Bh2 hr hlk ⟨rfl, Bh2.2.2, Mh2⟩ dX12_spoil_76
  have J20 : ∀ (αh14 : hp_T) (Hh14 : Heap) (Lh14 : List Loc) (Bh14 : hp_B Γ mo s α αh14 Hh14 Lh14) (σh14 : ms_T) (Mh14 : hm_M αh14 a0 ρ σh14) (v1_h14 : Int32) (v2_h14 : Int32) (v3_h14 : Int32) (v4_h14 : Int32) (ls : Array Slot) (hl : lv_has ls 7 [(0, .ref a0), (1, .int v1_h14), (2, .int v2_h14), (3, .int v3_h14), (4, .int v4_h14)]) (hf : f_X12_spoil_J20 n σh14 v1_h14 v2_h14 v3_h14 v4_h14 = some res), W p l e (hp_rm 2 0 0) s m ([.ref a0, .int a1, .int a2, .int a3, .int a4] : List Value).toArray below meth c Hh14 Lh14 0 0 (MQ below (hp_Qi Γ (fun r β => r = res.1 ∧ mo α β ∧ hm_M β a0 ρ res.2)) ([.ref a0, .int a1, .int a2, .int a3, .int a4] : List Value).toArray s 0 0 (hp_A Γ)) (F0 m 20 ls [.ref a0]) := by
    intro αh14 Hh14 Lh14 Bh14 σh14 Mh14 v1_h14 v2_h14 v3_h14 v4_h14 ls hl hf
    unfold f_X12_spoil_J20 at hf
    refine lv_iconst (v := 1) hx hb dX12_spoil_20 (by decide) (hp_n (n := 21) rfl ?_)
    refine lv_goto (tgt := 69) hx hb dX12_spoil_21 (by decide) ?_
    exact J69 αh14 Hh14 Lh14 Bh14 σh14 Mh14 v1_h14 v2_h14 v3_h14 v4_h14 (1 : Int32) ls (lv_sub hl [0, 1, 2, 3, 4] rfl) hf
  refine lv_if_lt (tgt := 20) hx hb dX12_spoil_2 (by decide) (fun c15 => ?_) (fun c15 => hp_n (n := 5) rfl ?_)
  ·
    replace hf := ms_iT c15 hf
    exact J20 α s.heap [] B σ hM a1 a2 a3 a4 ls (lv_sub hl [0, 1, 2, 3, 4] rfl) hf
  ·
    replace hf := ms_iF c15 hf
    refine lv_iload_n hx hb dX12_spoil_5 rfl (lv_at hl 3 rfl) (hp_n (n := 6) rfl ?_)
    refine lv_if_lt (tgt := 20) hx hb dX12_spoil_6 (by decide) (fun c16 => ?_) (fun c16 => hp_n (n := 9) rfl ?_)
    ·
      replace hf := ms_iT c16 hf
      exact J20 α s.heap [] B σ hM a1 a2 a3 a4 ls (lv_sub hl [0, 1, 2, 3, 4] rfl) hf
    ·
      replace hf := ms_iF c16 hf
      refine lv_iload hx hb dX12_spoil_9 (lv_at hl 4 rfl) (hp_n (n := 11) rfl ?_)
      refine lv_iconst (v := 1) hx hb dX12_spoil_11 (by decide) (hp_n (n := 12) rfl ?_)
      refine lv_bipush (v := 26) hx hb dX12_spoil_12 (by decide) (hp_n (n := 14) rfl ?_)
      obtain ⟨rh17, qh17, hf⟩ := ms_bE hf
      refine m_cp (pc' := 17) B (hp_runS (As := [.int a4, .int (1 : Int32), .int (26 : Int32)]) (rest := [.ref a0]) C B (m_X12_isIn n Γ l α a4 (1 : Int32) (26 : Int32) rh17 qh17) lb_X12_isIn ls_X12_isIn lk_X12_113 rfl (by decide) rfl hl.1 rfl (Nat.le_of_ble_eq_true rfl) dX12_spoil_14 ⟨Nat.le_refl _, Nat.le_refl _⟩) rfl (fun Hh17 Lh17 Bh17 => ?_)
      refine lv_if_ne (tgt := 24) hx hb dX12_spoil_17 (by decide) (fun c18 => ?_) (fun c18 => hp_n (n := 20) rfl ?_)
      ·
        replace hf := ms_iF c18 hf
        refine lv_aload_n hx hb dX12_spoil_24 rfl (lv_at hl 0 rfl) (hp_n (n := 25) rfl ?_)
        refine lv_iload_n hx hb dX12_spoil_25 rfl (lv_at hl 1 rfl) (hp_n (n := 26) rfl ?_)
        obtain ⟨rh19, qh19, hf⟩ := ms_bE hf
        refine m_cp (pc' := 29) Bh17 (hp_runV (As := [.int a1]) (rest := [.ref a0]) C Bh17 (m_X12_isRecord n Γ l α a0 ρ σ hM a1 rh19 qh19) lb_X12_isRecord lv_X12_isRecord lk_X12_344 hM.1 rfl (by decide) rfl hl.1 rfl (Nat.le_of_ble_eq_true rfl) dX12_spoil_26 ⟨Nat.le_refl _, Nat.le_refl _⟩) rfl (fun Hh19 Lh19 Bh19 => ?_)
        refine lv_if_ne (tgt := 36) hx hb dX12_spoil_29 (by decide) (fun c20 => ?_) (fun c20 => hp_n (n := 32) rfl ?_)
        ·
          replace hf := ms_iF c20 hf
          refine lv_iload_n hx hb dX12_spoil_36 rfl (lv_at hl 2 rfl) (hp_n (n := 37) rfl ?_)
          refine lv_aload_n hx hb dX12_spoil_37 rfl (lv_at hl 0 rfl) (hp_n (n := 38) rfl ?_)
          refine lv_iload_n hx hb dX12_spoil_38 rfl (lv_at hl 1 rfl) (hp_n (n := 39) rfl ?_)
          obtain ⟨rh21, qh21, hf⟩ := ms_bE hf
          refine m_cp (pc' := 42) Bh19 (hp_runV (As := [.int a1]) (rest := [.int a2, .ref a0]) C Bh19 (m_X12_sizeOf n Γ l α a0 ρ σ hM a1 rh21 qh21) lb_X12_sizeOf lv_X12_sizeOf lk_X12_209 hM.1 rfl (by decide) rfl hl.1 rfl (Nat.le_of_ble_eq_true rfl) dX12_spoil_39 ⟨Nat.le_refl _, Nat.le_refl _⟩) rfl (fun Hh21 Lh21 Bh21 => ?_)
          have J64 : ∀ (αh22 : hp_T) (Hh22 : Heap) (Lh22 : List Loc) (Bh22 : hp_B Γ mo s α αh22 Hh22 Lh22) (σh22 : ms_T) (Mh22 : hm_M αh22 a0 ρ σh22) (v1_h22 : Int32) (v2_h22 : Int32) (v3_h22 : Int32) (v4_h22 : Int32) (ls : Array Slot) (hl : lv_has ls 7 [(0, .ref a0), (1, .int v1_h22), (2, .int v2_h22), (3, .int v3_h22), (4, .int v4_h22)]) (hf : f_X12_spoil_J64 n σh22 v1_h22 v2_h22 v3_h22 v4_h22 = some res), W p l e (hp_rm 2 0 0) s m ([.ref a0, .int a1, .int a2, .int a3, .int a4] : List Value).toArray below meth c Hh22 Lh22 0 0 (MQ below (hp_Qi Γ (fun r β => r = res.1 ∧ mo α β ∧ hm_M β a0 ρ res.2)) ([.ref a0, .int a1, .int a2, .int a3, .int a4] : List Value).toArray s 0 0 (hp_A Γ)) (F0 m 64 ls [.ref a0]) := by
            intro αh22 Hh22 Lh22 Bh22 σh22 Mh22 v1_h22 v2_h22 v3_h22 v4_h22 ls hl hf
            unfold f_X12_spoil_J64 at hf
            refine lv_iconst (v := 5) hx hb dX12_spoil_64 (by decide) (hp_n (n := 65) rfl ?_)
            refine lv_goto (tgt := 69) hx hb dX12_spoil_65 (by decide) ?_
            exact J69 αh22 Hh22 Lh22 Bh22 σh22 Mh22 v1_h22 v2_h22 v3_h22 v4_h22 (5 : Int32) ls (lv_sub hl [0, 1, 2, 3, 4] rfl) hf
          refine lv_icmp_ge (tgt := 64) hx hb dX12_spoil_42 (by decide) (fun c23 => ?_) (fun c23 => hp_n (n := 45) rfl ?_)
          ·
            replace hf := ms_iT c23 hf
            exact J64 α Hh21 Lh21 Bh21 σ hM a1 a2 a3 a4 ls (lv_sub hl [0, 1, 2, 3, 4] rfl) hf
          ·
            replace hf := ms_iF c23 hf
            refine lv_iload_n hx hb dX12_spoil_45 rfl (lv_at hl 3 rfl) (hp_n (n := 46) rfl ?_)
            refine lv_aload_n hx hb dX12_spoil_46 rfl (lv_at hl 0 rfl) (hp_n (n := 47) rfl ?_)
            refine m_getr (κ := 40) (k := 0) (pc' := 50) C Bh21 hM fl_X12_7 rfl (by decide) dX12_spoil_47 rfl ?_
            refine lv_sipush (v := 252) hx hb dX12_spoil_50 (by decide) (hp_n (n := 53) rfl ?_)
            refine lv_bipush (v := 48) hx hb dX12_spoil_53 (by decide) (hp_n (n := 55) rfl ?_)
            refine lv_iload_n hx hb dX12_spoil_55 rfl (lv_at hl 1 rfl) (hp_n (n := 56) rfl ?_)
            refine lv_imul hx hb dX12_spoil_56 (hp_n (n := 57) rfl ?_)
            refine lv_iadd hx hb dX12_spoil_57 (hp_n (n := 58) rfl ?_)
            refine lv_iload_n hx hb dX12_spoil_58 rfl (lv_at hl 2 rfl) (hp_n (n := 59) rfl ?_)
            refine lv_iadd hx hb dX12_spoil_59 (hp_n (n := 60) rfl ?_)
            obtain ⟨g24, hf⟩ := ms_gE hf
            refine m_ial (κ := 40) (φ := 650) (n := 1980) (pc' := 61) C Bh21 hM (by decide) (by decide) rfl g24 dX12_spoil_60 rfl ?_
            refine lv_icmp_lt (tgt := 68) hx hb dX12_spoil_61 (by decide) (fun c25 => ?_) (fun c25 => hp_n (n := 64) rfl ?_)
            ·
              replace hf := ms_iT c25 hf
              refine lv_iconst (v := 0) hx hb dX12_spoil_68 (by decide) (hp_n (n := 69) rfl ?_)
              exact J69 α Hh21 Lh21 Bh21 σ hM a1 a2 a3 a4 (0 : Int32) ls (lv_sub hl [0, 1, 2, 3, 4] rfl) hf
            ·
              replace hf := ms_iF c25 hf
              exact J64 α Hh21 Lh21 Bh21 σ hM a1 a2 a3 a4 ls (lv_sub hl [0, 1, 2, 3, 4] rfl) hf
        ·
          replace hf := ms_iT c20 hf
          refine lv_iconst (v := 2) hx hb dX12_spoil_32 (by decide) (hp_n (n := 33) rfl ?_)
          refine lv_goto (tgt := 69) hx hb dX12_spoil_33 (by decide) ?_
          exact J69 α Hh19 Lh19 Bh19 σ hM a1 a2 a3 a4 (2 : Int32) ls (lv_sub hl [0, 1, 2, 3, 4] rfl) hf
      ·
        replace hf := ms_iT c18 hf
        exact J20 α Hh17 Lh17 Bh17 σ hM a1 a2 a3 a4 ls (lv_sub hl [0, 1, 2, 3, 4] rfl) hf
def f_X12_push_J29 (n : Nat) (σh2 : ms_T) (v1_h2 : Int32) (w0_h2 : Int32) : Option (Int32 × ms_T) :=
  ms_c (f_X12_is n σh2 w0_h2) fun rh3 σh3 =>
  if rh3 = 0 then
    some ((-1 : Int32), σh3)
  else
    ms_g (2 : Int32) 1980 <|
    ms_g ((8 : Int32) + (ms_E σh3 40 ((2 : Int32)).toNatClampNeg)) 1980 <|
    ms_l (ms_sE σh3 40 (((8 : Int32) + (ms_E σh3 40 ((2 : Int32)).toNatClampNeg))).toNatClampNeg v1_h2) fun σh7 =>
    ms_g (2 : Int32) 1980 <|
    ms_g (2 : Int32) 1980 <|
    ms_l (ms_sE σh7 40 ((2 : Int32)).toNatClampNeg ((ms_E σh7 40 ((2 : Int32)).toNatClampNeg) + (1 : Int32))) fun σh10 =>
    ms_g (2 : Int32) 1980 <|
    some ((ms_E σh10 40 ((2 : Int32)).toNatClampNeg), σh10)
def f_X12_push (n : Nat) (σ : ms_T) (a1 : Int32) : Option (Int32 × ms_T) :=
  ms_b (f_X12_isMark n σ a1) fun rh1 =>
  if rh1 = 0 then
    f_X12_push_J29 n σ a1 (1 : Int32)
  else
    ms_g (2 : Int32) 1980 <|
    if (ms_E σ 40 ((2 : Int32)).toNatClampNeg) = (64 : Int32) then
      f_X12_push_J29 n σ a1 (3 : Int32)
    else
      f_X12_push_J29 n σ a1 (0 : Int32)
set_option maxRecDepth 100000 in
set_option maxHeartbeats 4000000 in
theorem m_X12_push (n : Nat) (Γ : hp_G) (l : Launch) (α : hp_T) (a0 : Nat) (ρ : Nat → Nat) (σ : ms_T) (hM : hm_M α a0 ρ σ) (a1 : Int32) (res : (Int32 × ms_T)) (hf : f_X12_push n σ a1 = some res) : Met l yX12_push (hp_ws yX12_push cX12_push 2 (some .int)) (hp_rm 2 0 0) (hp_Pc Γ α [.ref a0, .int a1]) (hp_Qi Γ (fun r β => r = res.1 ∧ mo α β ∧ hm_M β a0 ρ res.2)) 0 0 (hp_A Γ) := by
  unfold f_X12_push at hf
  refine hp_start (by decide) ?_
  intro p e s m below meth c C hr hlk B0 hnm
  have C : hp_C Γ p m c cX12_push 2 s ([.ref a0, .int a1] : List Value).toArray RX12 := C
  have hx := C.1.1
  have hb := C.1.2.1
  have hown := C.1.2.2.2.1
  have hts := C.1.2.2.2.2
  have B : hp_B Γ mo s α α s.heap [] := ⟨B0.1, B0.2.1, mo_rf⟩
  have hl := lv_entry ([.ref a0, .int a1]) (n := 2) (Nat.le_of_ble_eq_true rfl)
  show W p l e (hp_rm 2 0 0) s m ([.ref a0, .int a1] : List Value).toArray below meth c s.heap [] 0 0 (MQ below (hp_Qi Γ (fun r β => r = res.1 ∧ mo α β ∧ hm_M β a0 ρ res.2)) ([.ref a0, .int a1] : List Value).toArray s 0 0 (hp_A Γ)) (entryFrame m ([.ref a0, .int a1] : List Value).toArray 2)
  rw [lg_entry_eq]
  generalize (lg_sl ([.ref a0, .int a1]) ++ List.replicate (2 - (lg_sl ([.ref a0, .int a1])).length) Slot.unset).toArray = ls at hl ⊢
  have hl : lv_has ls 2 [(0, .ref a0), (1, .int a1)] := hl
  refine lv_aload_n hx hb dX12_push_0 rfl (lv_at hl 0 rfl) (hp_n (n := 1) rfl ?_)
  refine lv_aload_n hx hb dX12_push_1 rfl (lv_at hl 0 rfl) (hp_n (n := 2) rfl ?_)
  refine lv_iload_n hx hb dX12_push_2 rfl (lv_at hl 1 rfl) (hp_n (n := 3) rfl ?_)
  obtain ⟨rh1, qh1, hf⟩ := ms_bE hf
  refine m_cp (pc' := 6) B (hp_runV (As := [.int a1]) (rest := [.ref a0]) C B (m_X12_isMark n Γ l α a0 ρ σ hM a1 rh1 qh1) lb_X12_isMark lv_X12_isMark lk_X12_321 hM.1 rfl (by decide) rfl hl.1 rfl (Nat.le_of_ble_eq_true rfl) dX12_push_3 ⟨Nat.le_refl _, Nat.le_refl _⟩) rfl (fun Hh1 Lh1 Bh1 => ?_)
  have J29 : ∀ (αh2 : hp_T) (Hh2 : Heap) (Lh2 : List Loc) (Bh2 : hp_B Γ mo s α αh2 Hh2 Lh2) (σh2 : ms_T) (Mh2 : hm_M αh2 a0 ρ σh2) (v1_h2 : Int32) (w0_h2 : Int32) (ls : Array Slot) (hl : lv_has ls 2 [(0, .ref a0), (1, .int v1_h2)]) (hf : f_X12_push_J29 n σh2 v1_h2 w0_h2 = some res), W p l e (hp_rm 2 0 0) s m ([.ref a0, .int a1] : List Value).toArray below meth c Hh2 Lh2 0 0 (MQ below (hp_Qi Γ (fun r β => r = res.1 ∧ mo α β ∧ hm_M β a0 ρ res.2)) ([.ref a0, .int a1] : List Value).toArray s 0 0 (hp_A Γ)) (F0 m 29 ls [.int w0_h2, .ref a0]) := by
    intro αh2 Hh2 Lh2 Bh2 σh2 Mh2 v1_h2 w0_h2 ls hl hf
    unfold f_X12_push_J29 at hf
    obtain ⟨rh3, σh3, qh3, hf⟩ := ms_cE hf
    refine m_ci (pc' := 32) (a := a0) (ρ := ρ) Bh2 (hp_runV (As := [.int w0_h2]) (rest := []) C Bh2 (m_X12_is n Γ l αh2 a0 ρ σh2 Mh2 w0_h2 (rh3, σh3) qh3) lb_X12_is lv_X12_is lk_X12_309 Mh2.1 rfl (by decide) rfl hl.1 rfl (Nat.le_of_ble_eq_true rfl) dX12_push_29 ⟨Nat.le_refl _, Nat.le_refl _⟩) rfl (fun αh3 Hh3 Lh3 Bh3 Mh3 => ?_)
    refine lv_if_ne (tgt := 37) hx hb dX12_push_32 (by decide) (fun c4 => ?_) (fun c4 => hp_n (n := 35) rfl ?_)
    ·
      replace hf := ms_iF c4 hf
      refine lv_aload_n hx hb dX12_push_37 rfl (lv_at hl 0 rfl) (hp_n (n := 38) rfl ?_)
      refine m_getr (κ := 40) (k := 0) (pc' := 41) C Bh3 Mh3 fl_X12_7 rfl (by decide) dX12_push_38 rfl ?_
      refine lv_bipush (v := 8) hx hb dX12_push_41 (by decide) (hp_n (n := 43) rfl ?_)
      refine lv_aload_n hx hb dX12_push_43 rfl (lv_at hl 0 rfl) (hp_n (n := 44) rfl ?_)
      refine m_getr (κ := 40) (k := 0) (pc' := 47) C Bh3 Mh3 fl_X12_7 rfl (by decide) dX12_push_44 rfl ?_
      refine lv_iconst (v := 2) hx hb dX12_push_47 (by decide) (hp_n (n := 48) rfl ?_)
      obtain ⟨g5, hf⟩ := ms_gE hf
      refine m_ial (κ := 40) (φ := 650) (n := 1980) (pc' := 49) C Bh3 Mh3 (by decide) (by decide) rfl g5 dX12_push_48 rfl ?_
      refine lv_iadd hx hb dX12_push_49 (hp_n (n := 50) rfl ?_)
      refine lv_iload_n hx hb dX12_push_50 rfl (lv_at hl 1 rfl) (hp_n (n := 51) rfl ?_)
      obtain ⟨g6, hf⟩ := ms_gE hf
      refine m_ias (κ := 40) (φ := 650) (n := 1980) (pc' := 52) C Bh3 Mh3 (by decide) (by decide) rfl g6 dX12_push_51 rfl (fun αh7 Hh7 Lh7 σh7 eh7 Bh7 Mh7 => ?_)
      replace hf := ms_lE eh7 hf
      refine lv_aload_n hx hb dX12_push_52 rfl (lv_at hl 0 rfl) (hp_n (n := 53) rfl ?_)
      refine m_getr (κ := 40) (k := 0) (pc' := 56) C Bh7 Mh7 fl_X12_7 rfl (by decide) dX12_push_53 rfl ?_
      refine lv_iconst (v := 2) hx hb dX12_push_56 (by decide) (hp_n (n := 57) rfl ?_)
      refine lv_dup2_11 hx hb dX12_push_57 rfl rfl (hp_n (n := 58) rfl ?_)
      obtain ⟨g8, hf⟩ := ms_gE hf
      refine m_ial (κ := 40) (φ := 650) (n := 1980) (pc' := 59) C Bh7 Mh7 (by decide) (by decide) rfl g8 dX12_push_58 rfl ?_
      refine lv_iconst (v := 1) hx hb dX12_push_59 (by decide) (hp_n (n := 60) rfl ?_)
      refine lv_iadd hx hb dX12_push_60 (hp_n (n := 61) rfl ?_)
      obtain ⟨g9, hf⟩ := ms_gE hf
      refine m_ias (κ := 40) (φ := 650) (n := 1980) (pc' := 62) C Bh7 Mh7 (by decide) (by decide) rfl g9 dX12_push_61 rfl (fun αh10 Hh10 Lh10 σh10 eh10 Bh10 Mh10 => ?_)
      replace hf := ms_lE eh10 hf
      refine lv_aload_n hx hb dX12_push_62 rfl (lv_at hl 0 rfl) (hp_n (n := 63) rfl ?_)
      refine m_getr (κ := 40) (k := 0) (pc' := 66) C Bh10 Mh10 fl_X12_7 rfl (by decide) dX12_push_63 rfl ?_
      refine lv_iconst (v := 2) hx hb dX12_push_66 (by decide) (hp_n (n := 67) rfl ?_)
      obtain ⟨g11, hf⟩ := ms_gE hf
      refine m_ial (κ := 40) (φ := 650) (n := 1980) (pc' := 68) C Bh10 Mh10 (by decide) (by decide) rfl g11 dX12_push_67 rfl ?_
      cases hf
      exact q_iret C Bh10 hr hlk ⟨rfl, Bh10.2.2, Mh10⟩ dX12_push_68
    ·
      replace hf := ms_iT c4 hf
      refine lv_iconst (v := (-1)) hx hb dX12_push_35 (by decide) (hp_n (n := 36) rfl ?_)
      cases hf
      exact q_iret C Bh3 hr hlk ⟨rfl, Bh3.2.2, Mh3⟩ dX12_push_36
  refine lv_if_ne (tgt := 13) hx hb dX12_push_6 (by decide) (fun c12 => ?_) (fun c12 => hp_n (n := 9) rfl ?_)
  ·
    replace hf := ms_iF c12 hf
    refine lv_aload_n hx hb dX12_push_13 rfl (lv_at hl 0 rfl) (hp_n (n := 14) rfl ?_)
    refine m_getr (κ := 40) (k := 0) (pc' := 17) C Bh1 hM fl_X12_7 rfl (by decide) dX12_push_14 rfl ?_
    refine lv_iconst (v := 2) hx hb dX12_push_17 (by decide) (hp_n (n := 18) rfl ?_)
    obtain ⟨g13, hf⟩ := ms_gE hf
    refine m_ial (κ := 40) (φ := 650) (n := 1980) (pc' := 19) C Bh1 hM (by decide) (by decide) rfl g13 dX12_push_18 rfl ?_
    refine lv_bipush (v := 64) hx hb dX12_push_19 (by decide) (hp_n (n := 21) rfl ?_)
    refine lv_icmp_ne (tgt := 28) hx hb dX12_push_21 (by decide) (fun c14 => ?_) (fun c14 => hp_n (n := 24) rfl ?_)
    ·
      replace hf := ms_iF c14 hf
      refine lv_iconst (v := 0) hx hb dX12_push_28 (by decide) (hp_n (n := 29) rfl ?_)
      exact J29 α Hh1 Lh1 Bh1 σ hM a1 (0 : Int32) ls (lv_sub hl [0, 1] rfl) hf
    ·
      replace hf := ms_iT c14 hf
      refine lv_iconst (v := 3) hx hb dX12_push_24 (by decide) (hp_n (n := 25) rfl ?_)
      refine lv_goto (tgt := 29) hx hb dX12_push_25 (by decide) ?_
      exact J29 α Hh1 Lh1 Bh1 σ hM a1 (3 : Int32) ls (lv_sub hl [0, 1] rfl) hf
  ·
    replace hf := ms_iT c12 hf
    refine lv_iconst (v := 1) hx hb dX12_push_9 (by decide) (hp_n (n := 10) rfl ?_)
    refine lv_goto (tgt := 29) hx hb dX12_push_10 (by decide) ?_
    exact J29 α Hh1 Lh1 Bh1 σ hM a1 (1 : Int32) ls (lv_sub hl [0, 1] rfl) hf
def f_X12_poke_J32 (n : Nat) (σh1 : ms_T) (v1_h1 : Int32) (v2_h1 : Int32) (w0_h1 : Int32) : Option (Int32 × ms_T) :=
  ms_c (f_X12_is n σh1 w0_h1) fun rh2 σh2 =>
  if rh2 = 0 then
    some ((-1 : Int32), σh2)
  else
    ms_g ((8 : Int32) + v1_h1) 1980 <|
    ms_l ((ms_E σh2 40 (((8 : Int32) + v1_h1)).toNatClampNeg)) fun x5 =>
    ms_g ((8 : Int32) + v1_h1) 1980 <|
    ms_l (ms_sE σh2 40 (((8 : Int32) + v1_h1)).toNatClampNeg v2_h1) fun σh7 =>
    some (x5, σh7)
def f_X12_poke_J13 (n : Nat) (σh8 : ms_T) (v1_h8 : Int32) (v2_h8 : Int32) : Option (Int32 × ms_T) :=
  f_X12_poke_J32 n σh8 v1_h8 v2_h8 (1 : Int32)
def f_X12_poke (n : Nat) (σ : ms_T) (a1 : Int32) (a2 : Int32) : Option (Int32 × ms_T) :=
  if a1 < 0 then
    f_X12_poke_J13 n σ a1 a2
  else
    ms_b (f_X12_isMark n σ a2) fun rh10 =>
    if rh10 = 0 then
      f_X12_poke_J13 n σ a1 a2
    else
      ms_g (2 : Int32) 1980 <|
      if a1 < (ms_E σ 40 ((2 : Int32)).toNatClampNeg) then
        f_X12_poke_J32 n σ a1 a2 (0 : Int32)
      else
        f_X12_poke_J32 n σ a1 a2 (5 : Int32)
set_option maxRecDepth 100000 in
set_option maxHeartbeats 4000000 in
theorem m_X12_poke (n : Nat) (Γ : hp_G) (l : Launch) (α : hp_T) (a0 : Nat) (ρ : Nat → Nat) (σ : ms_T) (hM : hm_M α a0 ρ σ) (a1 : Int32) (a2 : Int32) (res : (Int32 × ms_T)) (hf : f_X12_poke n σ a1 a2 = some res) : Met l yX12_poke (hp_ws yX12_poke cX12_poke 4 (some .int)) (hp_rm 2 0 0) (hp_Pc Γ α [.ref a0, .int a1, .int a2]) (hp_Qi Γ (fun r β => r = res.1 ∧ mo α β ∧ hm_M β a0 ρ res.2)) 0 0 (hp_A Γ) := by
  unfold f_X12_poke at hf
  refine hp_start (by decide) ?_
  intro p e s m below meth c C hr hlk B0 hnm
  have C : hp_C Γ p m c cX12_poke 4 s ([.ref a0, .int a1, .int a2] : List Value).toArray RX12 := C
  have hx := C.1.1
  have hb := C.1.2.1
  have hown := C.1.2.2.2.1
  have hts := C.1.2.2.2.2
  have B : hp_B Γ mo s α α s.heap [] := ⟨B0.1, B0.2.1, mo_rf⟩
  have hl := lv_entry ([.ref a0, .int a1, .int a2]) (n := 4) (Nat.le_of_ble_eq_true rfl)
  show W p l e (hp_rm 2 0 0) s m ([.ref a0, .int a1, .int a2] : List Value).toArray below meth c s.heap [] 0 0 (MQ below (hp_Qi Γ (fun r β => r = res.1 ∧ mo α β ∧ hm_M β a0 ρ res.2)) ([.ref a0, .int a1, .int a2] : List Value).toArray s 0 0 (hp_A Γ)) (entryFrame m ([.ref a0, .int a1, .int a2] : List Value).toArray 4)
  rw [lg_entry_eq]
  generalize (lg_sl ([.ref a0, .int a1, .int a2]) ++ List.replicate (4 - (lg_sl ([.ref a0, .int a1, .int a2])).length) Slot.unset).toArray = ls at hl ⊢
  have hl : lv_has ls 4 [(0, .ref a0), (1, .int a1), (2, .int a2)] := hl
  refine lv_aload_n hx hb dX12_poke_0 rfl (lv_at hl 0 rfl) (hp_n (n := 1) rfl ?_)
  refine lv_iload_n hx hb dX12_poke_1 rfl (lv_at hl 1 rfl) (hp_n (n := 2) rfl ?_)
  have J32 : ∀ (αh1 : hp_T) (Hh1 : Heap) (Lh1 : List Loc) (Bh1 : hp_B Γ mo s α αh1 Hh1 Lh1) (σh1 : ms_T) (Mh1 : hm_M αh1 a0 ρ σh1) (v1_h1 : Int32) (v2_h1 : Int32) (w0_h1 : Int32) (ls : Array Slot) (hl : lv_has ls 4 [(0, .ref a0), (1, .int v1_h1), (2, .int v2_h1)]) (hf : f_X12_poke_J32 n σh1 v1_h1 v2_h1 w0_h1 = some res), W p l e (hp_rm 2 0 0) s m ([.ref a0, .int a1, .int a2] : List Value).toArray below meth c Hh1 Lh1 0 0 (MQ below (hp_Qi Γ (fun r β => r = res.1 ∧ mo α β ∧ hm_M β a0 ρ res.2)) ([.ref a0, .int a1, .int a2] : List Value).toArray s 0 0 (hp_A Γ)) (F0 m 32 ls [.int w0_h1, .ref a0]) := by
    intro αh1 Hh1 Lh1 Bh1 σh1 Mh1 v1_h1 v2_h1 w0_h1 ls hl hf
    unfold f_X12_poke_J32 at hf
    obtain ⟨rh2, σh2, qh2, hf⟩ := ms_cE hf
    refine m_ci (pc' := 35) (a := a0) (ρ := ρ) Bh1 (hp_runV (As := [.int w0_h1]) (rest := []) C Bh1 (m_X12_is n Γ l αh1 a0 ρ σh1 Mh1 w0_h1 (rh2, σh2) qh2) lb_X12_is lv_X12_is lk_X12_309 Mh1.1 rfl (by decide) rfl hl.1 rfl (Nat.le_of_ble_eq_true rfl) dX12_poke_32 ⟨Nat.le_refl _, Nat.le_refl _⟩) rfl (fun αh2 Hh2 Lh2 Bh2 Mh2 => ?_)
    refine lv_if_ne (tgt := 40) hx hb dX12_poke_35 (by decide) (fun c3 => ?_) (fun c3 => hp_n (n := 38) rfl ?_)
    ·
      replace hf := ms_iF c3 hf
      refine lv_aload_n hx hb dX12_poke_40 rfl (lv_at hl 0 rfl) (hp_n (n := 41) rfl ?_)
      refine m_getr (κ := 40) (k := 0) (pc' := 44) C Bh2 Mh2 fl_X12_7 rfl (by decide) dX12_poke_41 rfl ?_
      refine lv_bipush (v := 8) hx hb dX12_poke_44 (by decide) (hp_n (n := 46) rfl ?_)
      refine lv_iload_n hx hb dX12_poke_46 rfl (lv_at hl 1 rfl) (hp_n (n := 47) rfl ?_)
      refine lv_iadd hx hb dX12_poke_47 (hp_n (n := 48) rfl ?_)
      obtain ⟨g4, hf⟩ := ms_gE hf
      refine m_ial (κ := 40) (φ := 650) (n := 1980) (pc' := 49) C Bh2 Mh2 (by decide) (by decide) rfl g4 dX12_poke_48 rfl ?_
      refine lv_topi (fun x5 ex5 => ?_)
      replace hf := ms_lE ex5 hf
      refine lv_istore_n (lv' := [(3, .int x5), (0, .ref a0), (1, .int v1_h1), (2, .int v2_h1)]) hx hb dX12_poke_49 rfl hl (by decide) rfl (fun ls hl => hp_n (n := 50) rfl ?_)
      refine lv_aload_n hx hb dX12_poke_50 rfl (lv_at hl 1 rfl) (hp_n (n := 51) rfl ?_)
      refine m_getr (κ := 40) (k := 0) (pc' := 54) C Bh2 Mh2 fl_X12_7 rfl (by decide) dX12_poke_51 rfl ?_
      refine lv_bipush (v := 8) hx hb dX12_poke_54 (by decide) (hp_n (n := 56) rfl ?_)
      refine lv_iload_n hx hb dX12_poke_56 rfl (lv_at hl 2 rfl) (hp_n (n := 57) rfl ?_)
      refine lv_iadd hx hb dX12_poke_57 (hp_n (n := 58) rfl ?_)
      refine lv_iload_n hx hb dX12_poke_58 rfl (lv_at hl 3 rfl) (hp_n (n := 59) rfl ?_)
      obtain ⟨g6, hf⟩ := ms_gE hf
      refine m_ias (κ := 40) (φ := 650) (n := 1980) (pc' := 60) C Bh2 Mh2 (by decide) (by decide) rfl g6 dX12_poke_59 rfl (fun αh7 Hh7 Lh7 σh7 eh7 Bh7 Mh7 => ?_)
      replace hf := ms_lE eh7 hf
      refine lv_iload_n hx hb dX12_poke_60 rfl (lv_at hl 0 rfl) (hp_n (n := 61) rfl ?_)
      cases hf
      exact q_iret C Bh7 hr hlk ⟨rfl, Bh7.2.2, Mh7⟩ dX12_poke_61
    ·
      replace hf := ms_iT c3 hf
      refine lv_iconst (v := (-1)) hx hb dX12_poke_38 (by decide) (hp_n (n := 39) rfl ?_)
      cases hf
      exact q_iret C Bh2 hr hlk ⟨rfl, Bh2.2.2, Mh2⟩ dX12_poke_39
  have J13 : ∀ (αh8 : hp_T) (Hh8 : Heap) (Lh8 : List Loc) (Bh8 : hp_B Γ mo s α αh8 Hh8 Lh8) (σh8 : ms_T) (Mh8 : hm_M αh8 a0 ρ σh8) (v1_h8 : Int32) (v2_h8 : Int32) (ls : Array Slot) (hl : lv_has ls 4 [(0, .ref a0), (1, .int v1_h8), (2, .int v2_h8)]) (hf : f_X12_poke_J13 n σh8 v1_h8 v2_h8 = some res), W p l e (hp_rm 2 0 0) s m ([.ref a0, .int a1, .int a2] : List Value).toArray below meth c Hh8 Lh8 0 0 (MQ below (hp_Qi Γ (fun r β => r = res.1 ∧ mo α β ∧ hm_M β a0 ρ res.2)) ([.ref a0, .int a1, .int a2] : List Value).toArray s 0 0 (hp_A Γ)) (F0 m 13 ls [.ref a0]) := by
    intro αh8 Hh8 Lh8 Bh8 σh8 Mh8 v1_h8 v2_h8 ls hl hf
    unfold f_X12_poke_J13 at hf
    refine lv_iconst (v := 1) hx hb dX12_poke_13 (by decide) (hp_n (n := 14) rfl ?_)
    refine lv_goto (tgt := 32) hx hb dX12_poke_14 (by decide) ?_
    exact J32 αh8 Hh8 Lh8 Bh8 σh8 Mh8 v1_h8 v2_h8 (1 : Int32) ls (lv_sub hl [0, 1, 2] rfl) hf
  refine lv_if_lt (tgt := 13) hx hb dX12_poke_2 (by decide) (fun c9 => ?_) (fun c9 => hp_n (n := 5) rfl ?_)
  ·
    replace hf := ms_iT c9 hf
    exact J13 α s.heap [] B σ hM a1 a2 ls (lv_sub hl [0, 1, 2] rfl) hf
  ·
    replace hf := ms_iF c9 hf
    refine lv_aload_n hx hb dX12_poke_5 rfl (lv_at hl 0 rfl) (hp_n (n := 6) rfl ?_)
    refine lv_iload_n hx hb dX12_poke_6 rfl (lv_at hl 2 rfl) (hp_n (n := 7) rfl ?_)
    obtain ⟨rh10, qh10, hf⟩ := ms_bE hf
    refine m_cp (pc' := 10) B (hp_runV (As := [.int a2]) (rest := [.ref a0]) C B (m_X12_isMark n Γ l α a0 ρ σ hM a2 rh10 qh10) lb_X12_isMark lv_X12_isMark lk_X12_321 hM.1 rfl (by decide) rfl hl.1 rfl (Nat.le_of_ble_eq_true rfl) dX12_poke_7 ⟨Nat.le_refl _, Nat.le_refl _⟩) rfl (fun Hh10 Lh10 Bh10 => ?_)
    refine lv_if_ne (tgt := 17) hx hb dX12_poke_10 (by decide) (fun c11 => ?_) (fun c11 => hp_n (n := 13) rfl ?_)
    ·
      replace hf := ms_iF c11 hf
      refine lv_iload_n hx hb dX12_poke_17 rfl (lv_at hl 1 rfl) (hp_n (n := 18) rfl ?_)
      refine lv_aload_n hx hb dX12_poke_18 rfl (lv_at hl 0 rfl) (hp_n (n := 19) rfl ?_)
      refine m_getr (κ := 40) (k := 0) (pc' := 22) C Bh10 hM fl_X12_7 rfl (by decide) dX12_poke_19 rfl ?_
      refine lv_iconst (v := 2) hx hb dX12_poke_22 (by decide) (hp_n (n := 23) rfl ?_)
      obtain ⟨g12, hf⟩ := ms_gE hf
      refine m_ial (κ := 40) (φ := 650) (n := 1980) (pc' := 24) C Bh10 hM (by decide) (by decide) rfl g12 dX12_poke_23 rfl ?_
      refine lv_icmp_lt (tgt := 31) hx hb dX12_poke_24 (by decide) (fun c13 => ?_) (fun c13 => hp_n (n := 27) rfl ?_)
      ·
        replace hf := ms_iT c13 hf
        refine lv_iconst (v := 0) hx hb dX12_poke_31 (by decide) (hp_n (n := 32) rfl ?_)
        exact J32 α Hh10 Lh10 Bh10 σ hM a1 a2 (0 : Int32) ls (lv_sub hl [0, 1, 2] rfl) hf
      ·
        replace hf := ms_iF c13 hf
        refine lv_iconst (v := 5) hx hb dX12_poke_27 (by decide) (hp_n (n := 28) rfl ?_)
        refine lv_goto (tgt := 32) hx hb dX12_poke_28 (by decide) ?_
        exact J32 α Hh10 Lh10 Bh10 σ hM a1 a2 (5 : Int32) ls (lv_sub hl [0, 1, 2] rfl) hf
    ·
      replace hf := ms_iT c11 hf
      exact J13 α Hh10 Lh10 Bh10 σ hM a1 a2 ls (lv_sub hl [0, 1, 2] rfl) hf
def f_X12_pad_J24 (n : Nat) (σh1 : ms_T) (v1_h1 : Int32) (w0_h1 : Int32) : Option (Int32 × ms_T) :=
  ms_c (f_X12_is n σh1 w0_h1) fun rh2 σh2 =>
  if rh2 = 0 then
    some ((-1 : Int32), σh2)
  else
    ms_g ((8 : Int32) + v1_h1) 1980 <|
    some ((ms_E σh2 40 (((8 : Int32) + v1_h1)).toNatClampNeg), σh2)
def f_X12_pad (n : Nat) (σ : ms_T) (a1 : Int32) : Option (Int32 × ms_T) :=
  if 0 ≤ a1 then
    ms_g (2 : Int32) 1980 <|
    if a1 < (ms_E σ 40 ((2 : Int32)).toNatClampNeg) then
      f_X12_pad_J24 n σ a1 (0 : Int32)
    else
      f_X12_pad_J24 n σ a1 (5 : Int32)
  else
    f_X12_pad_J24 n σ a1 (1 : Int32)
set_option maxRecDepth 100000 in
set_option maxHeartbeats 4000000 in
theorem m_X12_pad (n : Nat) (Γ : hp_G) (l : Launch) (α : hp_T) (a0 : Nat) (ρ : Nat → Nat) (σ : ms_T) (hM : hm_M α a0 ρ σ) (a1 : Int32) (res : (Int32 × ms_T)) (hf : f_X12_pad n σ a1 = some res) : Met l yX12_pad (hp_ws yX12_pad cX12_pad 2 (some .int)) (hp_rm 1 0 0) (hp_Pc Γ α [.ref a0, .int a1]) (hp_Qi Γ (fun r β => r = res.1 ∧ mo α β ∧ hm_M β a0 ρ res.2)) 0 0 (hp_A Γ) := by
  unfold f_X12_pad at hf
  refine hp_start (by decide) ?_
  intro p e s m below meth c C hr hlk B0 hnm
  have C : hp_C Γ p m c cX12_pad 2 s ([.ref a0, .int a1] : List Value).toArray RX12 := C
  have hx := C.1.1
  have hb := C.1.2.1
  have hown := C.1.2.2.2.1
  have hts := C.1.2.2.2.2
  have B : hp_B Γ mo s α α s.heap [] := ⟨B0.1, B0.2.1, mo_rf⟩
  have hl := lv_entry ([.ref a0, .int a1]) (n := 2) (Nat.le_of_ble_eq_true rfl)
  show W p l e (hp_rm 1 0 0) s m ([.ref a0, .int a1] : List Value).toArray below meth c s.heap [] 0 0 (MQ below (hp_Qi Γ (fun r β => r = res.1 ∧ mo α β ∧ hm_M β a0 ρ res.2)) ([.ref a0, .int a1] : List Value).toArray s 0 0 (hp_A Γ)) (entryFrame m ([.ref a0, .int a1] : List Value).toArray 2)
  rw [lg_entry_eq]
  generalize (lg_sl ([.ref a0, .int a1]) ++ List.replicate (2 - (lg_sl ([.ref a0, .int a1])).length) Slot.unset).toArray = ls at hl ⊢
  have hl : lv_has ls 2 [(0, .ref a0), (1, .int a1)] := hl
  refine lv_aload_n hx hb dX12_pad_0 rfl (lv_at hl 0 rfl) (hp_n (n := 1) rfl ?_)
  refine lv_iload_n hx hb dX12_pad_1 rfl (lv_at hl 1 rfl) (hp_n (n := 2) rfl ?_)
  have J24 : ∀ (αh1 : hp_T) (Hh1 : Heap) (Lh1 : List Loc) (Bh1 : hp_B Γ mo s α αh1 Hh1 Lh1) (σh1 : ms_T) (Mh1 : hm_M αh1 a0 ρ σh1) (v1_h1 : Int32) (w0_h1 : Int32) (ls : Array Slot) (hl : lv_has ls 2 [(0, .ref a0), (1, .int v1_h1)]) (hf : f_X12_pad_J24 n σh1 v1_h1 w0_h1 = some res), W p l e (hp_rm 1 0 0) s m ([.ref a0, .int a1] : List Value).toArray below meth c Hh1 Lh1 0 0 (MQ below (hp_Qi Γ (fun r β => r = res.1 ∧ mo α β ∧ hm_M β a0 ρ res.2)) ([.ref a0, .int a1] : List Value).toArray s 0 0 (hp_A Γ)) (F0 m 24 ls [.int w0_h1, .ref a0]) := by
    intro αh1 Hh1 Lh1 Bh1 σh1 Mh1 v1_h1 w0_h1 ls hl hf
    unfold f_X12_pad_J24 at hf
    obtain ⟨rh2, σh2, qh2, hf⟩ := ms_cE hf
    refine m_ci (pc' := 27) (a := a0) (ρ := ρ) Bh1 (hp_runV (As := [.int w0_h1]) (rest := []) C Bh1 (m_X12_is n Γ l αh1 a0 ρ σh1 Mh1 w0_h1 (rh2, σh2) qh2) lb_X12_is lv_X12_is lk_X12_309 Mh1.1 rfl (by decide) rfl hl.1 rfl (Nat.le_of_ble_eq_true rfl) dX12_pad_24 ⟨Nat.le_refl _, Nat.le_refl _⟩) rfl (fun αh2 Hh2 Lh2 Bh2 Mh2 => ?_)
    refine lv_if_eq (tgt := 42) hx hb dX12_pad_27 (by decide) (fun c3 => ?_) (fun c3 => hp_n (n := 30) rfl ?_)
    ·
      replace hf := ms_iT c3 hf
      refine lv_iconst (v := (-1)) hx hb dX12_pad_42 (by decide) (hp_n (n := 43) rfl ?_)
      cases hf
      exact q_iret C Bh2 hr hlk ⟨rfl, Bh2.2.2, Mh2⟩ dX12_pad_43
    ·
      replace hf := ms_iF c3 hf
      refine lv_aload_n hx hb dX12_pad_30 rfl (lv_at hl 0 rfl) (hp_n (n := 31) rfl ?_)
      refine m_getr (κ := 40) (k := 0) (pc' := 34) C Bh2 Mh2 fl_X12_7 rfl (by decide) dX12_pad_31 rfl ?_
      refine lv_bipush (v := 8) hx hb dX12_pad_34 (by decide) (hp_n (n := 36) rfl ?_)
      refine lv_iload_n hx hb dX12_pad_36 rfl (lv_at hl 1 rfl) (hp_n (n := 37) rfl ?_)
      refine lv_iadd hx hb dX12_pad_37 (hp_n (n := 38) rfl ?_)
      obtain ⟨g4, hf⟩ := ms_gE hf
      refine m_ial (κ := 40) (φ := 650) (n := 1980) (pc' := 39) C Bh2 Mh2 (by decide) (by decide) rfl g4 dX12_pad_38 rfl ?_
      refine lv_goto (tgt := 43) hx hb dX12_pad_39 (by decide) ?_
      cases hf
      exact q_iret C Bh2 hr hlk ⟨rfl, Bh2.2.2, Mh2⟩ dX12_pad_43
  refine lv_if_ge (tgt := 9) hx hb dX12_pad_2 (by decide) (fun c5 => ?_) (fun c5 => hp_n (n := 5) rfl ?_)
  ·
    replace hf := ms_iT c5 hf
    refine lv_iload_n hx hb dX12_pad_9 rfl (lv_at hl 1 rfl) (hp_n (n := 10) rfl ?_)
    refine lv_aload_n hx hb dX12_pad_10 rfl (lv_at hl 0 rfl) (hp_n (n := 11) rfl ?_)
    refine m_getr (κ := 40) (k := 0) (pc' := 14) C B hM fl_X12_7 rfl (by decide) dX12_pad_11 rfl ?_
    refine lv_iconst (v := 2) hx hb dX12_pad_14 (by decide) (hp_n (n := 15) rfl ?_)
    obtain ⟨g6, hf⟩ := ms_gE hf
    refine m_ial (κ := 40) (φ := 650) (n := 1980) (pc' := 16) C B hM (by decide) (by decide) rfl g6 dX12_pad_15 rfl ?_
    refine lv_icmp_lt (tgt := 23) hx hb dX12_pad_16 (by decide) (fun c7 => ?_) (fun c7 => hp_n (n := 19) rfl ?_)
    ·
      replace hf := ms_iT c7 hf
      refine lv_iconst (v := 0) hx hb dX12_pad_23 (by decide) (hp_n (n := 24) rfl ?_)
      exact J24 α s.heap [] B σ hM a1 (0 : Int32) ls (lv_sub hl [0, 1] rfl) hf
    ·
      replace hf := ms_iF c7 hf
      refine lv_iconst (v := 5) hx hb dX12_pad_19 (by decide) (hp_n (n := 20) rfl ?_)
      refine lv_goto (tgt := 24) hx hb dX12_pad_20 (by decide) ?_
      exact J24 α s.heap [] B σ hM a1 (5 : Int32) ls (lv_sub hl [0, 1] rfl) hf
  ·
    replace hf := ms_iF c5 hf
    refine lv_iconst (v := 1) hx hb dX12_pad_5 (by decide) (hp_n (n := 6) rfl ?_)
    refine lv_goto (tgt := 24) hx hb dX12_pad_6 (by decide) ?_
    exact J24 α s.heap [] B σ hM a1 (1 : Int32) ls (lv_sub hl [0, 1] rfl) hf
def f_X12_cut_J24 (n : Nat) (σh1 : ms_T) (v1_h1 : Int32) (w0_h1 : Int32) : Option (Int32 × ms_T) :=
  ms_c (f_X12_is n σh1 w0_h1) fun rh2 σh2 =>
  if rh2 = 0 then
    some ((-1 : Int32), σh2)
  else
    ms_g (2 : Int32) 1980 <|
    ms_l (ms_sE σh2 40 ((2 : Int32)).toNatClampNeg v1_h1) fun σh5 =>
    some (v1_h1, σh5)
def f_X12_cut (n : Nat) (σ : ms_T) (a1 : Int32) : Option (Int32 × ms_T) :=
  if 0 ≤ a1 then
    ms_g (2 : Int32) 1980 <|
    if a1 ≤ (ms_E σ 40 ((2 : Int32)).toNatClampNeg) then
      f_X12_cut_J24 n σ a1 (0 : Int32)
    else
      f_X12_cut_J24 n σ a1 (5 : Int32)
  else
    f_X12_cut_J24 n σ a1 (1 : Int32)
set_option maxRecDepth 100000 in
set_option maxHeartbeats 4000000 in
theorem m_X12_cut (n : Nat) (Γ : hp_G) (l : Launch) (α : hp_T) (a0 : Nat) (ρ : Nat → Nat) (σ : ms_T) (hM : hm_M α a0 ρ σ) (a1 : Int32) (res : (Int32 × ms_T)) (hf : f_X12_cut n σ a1 = some res) : Met l yX12_cut (hp_ws yX12_cut cX12_cut 2 (some .int)) (hp_rm 1 0 0) (hp_Pc Γ α [.ref a0, .int a1]) (hp_Qi Γ (fun r β => r = res.1 ∧ mo α β ∧ hm_M β a0 ρ res.2)) 0 0 (hp_A Γ) := by
  unfold f_X12_cut at hf
  refine hp_start (by decide) ?_
  intro p e s m below meth c C hr hlk B0 hnm
  have C : hp_C Γ p m c cX12_cut 2 s ([.ref a0, .int a1] : List Value).toArray RX12 := C
  have hx := C.1.1
  have hb := C.1.2.1
  have hown := C.1.2.2.2.1
  have hts := C.1.2.2.2.2
  have B : hp_B Γ mo s α α s.heap [] := ⟨B0.1, B0.2.1, mo_rf⟩
  have hl := lv_entry ([.ref a0, .int a1]) (n := 2) (Nat.le_of_ble_eq_true rfl)
  show W p l e (hp_rm 1 0 0) s m ([.ref a0, .int a1] : List Value).toArray below meth c s.heap [] 0 0 (MQ below (hp_Qi Γ (fun r β => r = res.1 ∧ mo α β ∧ hm_M β a0 ρ res.2)) ([.ref a0, .int a1] : List Value).toArray s 0 0 (hp_A Γ)) (entryFrame m ([.ref a0, .int a1] : List Value).toArray 2)
  rw [lg_entry_eq]
  generalize (lg_sl ([.ref a0, .int a1]) ++ List.replicate (2 - (lg_sl ([.ref a0, .int a1])).length) Slot.unset).toArray = ls at hl ⊢
  have hl : lv_has ls 2 [(0, .ref a0), (1, .int a1)] := hl
  refine lv_aload_n hx hb dX12_cut_0 rfl (lv_at hl 0 rfl) (hp_n (n := 1) rfl ?_)
  refine lv_iload_n hx hb dX12_cut_1 rfl (lv_at hl 1 rfl) (hp_n (n := 2) rfl ?_)
  have J24 : ∀ (αh1 : hp_T) (Hh1 : Heap) (Lh1 : List Loc) (Bh1 : hp_B Γ mo s α αh1 Hh1 Lh1) (σh1 : ms_T) (Mh1 : hm_M αh1 a0 ρ σh1) (v1_h1 : Int32) (w0_h1 : Int32) (ls : Array Slot) (hl : lv_has ls 2 [(0, .ref a0), (1, .int v1_h1)]) (hf : f_X12_cut_J24 n σh1 v1_h1 w0_h1 = some res), W p l e (hp_rm 1 0 0) s m ([.ref a0, .int a1] : List Value).toArray below meth c Hh1 Lh1 0 0 (MQ below (hp_Qi Γ (fun r β => r = res.1 ∧ mo α β ∧ hm_M β a0 ρ res.2)) ([.ref a0, .int a1] : List Value).toArray s 0 0 (hp_A Γ)) (F0 m 24 ls [.int w0_h1, .ref a0]) := by
    intro αh1 Hh1 Lh1 Bh1 σh1 Mh1 v1_h1 w0_h1 ls hl hf
    unfold f_X12_cut_J24 at hf
    obtain ⟨rh2, σh2, qh2, hf⟩ := ms_cE hf
    refine m_ci (pc' := 27) (a := a0) (ρ := ρ) Bh1 (hp_runV (As := [.int w0_h1]) (rest := []) C Bh1 (m_X12_is n Γ l αh1 a0 ρ σh1 Mh1 w0_h1 (rh2, σh2) qh2) lb_X12_is lv_X12_is lk_X12_309 Mh1.1 rfl (by decide) rfl hl.1 rfl (Nat.le_of_ble_eq_true rfl) dX12_cut_24 ⟨Nat.le_refl _, Nat.le_refl _⟩) rfl (fun αh2 Hh2 Lh2 Bh2 Mh2 => ?_)
    refine lv_if_ne (tgt := 32) hx hb dX12_cut_27 (by decide) (fun c3 => ?_) (fun c3 => hp_n (n := 30) rfl ?_)
    ·
      replace hf := ms_iF c3 hf
      refine lv_aload_n hx hb dX12_cut_32 rfl (lv_at hl 0 rfl) (hp_n (n := 33) rfl ?_)
      refine m_getr (κ := 40) (k := 0) (pc' := 36) C Bh2 Mh2 fl_X12_7 rfl (by decide) dX12_cut_33 rfl ?_
      refine lv_iconst (v := 2) hx hb dX12_cut_36 (by decide) (hp_n (n := 37) rfl ?_)
      refine lv_iload_n hx hb dX12_cut_37 rfl (lv_at hl 1 rfl) (hp_n (n := 38) rfl ?_)
      obtain ⟨g4, hf⟩ := ms_gE hf
      refine m_ias (κ := 40) (φ := 650) (n := 1980) (pc' := 39) C Bh2 Mh2 (by decide) (by decide) rfl g4 dX12_cut_38 rfl (fun αh5 Hh5 Lh5 σh5 eh5 Bh5 Mh5 => ?_)
      replace hf := ms_lE eh5 hf
      refine lv_iload_n hx hb dX12_cut_39 rfl (lv_at hl 1 rfl) (hp_n (n := 40) rfl ?_)
      cases hf
      exact q_iret C Bh5 hr hlk ⟨rfl, Bh5.2.2, Mh5⟩ dX12_cut_40
    ·
      replace hf := ms_iT c3 hf
      refine lv_iconst (v := (-1)) hx hb dX12_cut_30 (by decide) (hp_n (n := 31) rfl ?_)
      cases hf
      exact q_iret C Bh2 hr hlk ⟨rfl, Bh2.2.2, Mh2⟩ dX12_cut_31
  refine lv_if_ge (tgt := 9) hx hb dX12_cut_2 (by decide) (fun c6 => ?_) (fun c6 => hp_n (n := 5) rfl ?_)
  ·
    replace hf := ms_iT c6 hf
    refine lv_iload_n hx hb dX12_cut_9 rfl (lv_at hl 1 rfl) (hp_n (n := 10) rfl ?_)
    refine lv_aload_n hx hb dX12_cut_10 rfl (lv_at hl 0 rfl) (hp_n (n := 11) rfl ?_)
    refine m_getr (κ := 40) (k := 0) (pc' := 14) C B hM fl_X12_7 rfl (by decide) dX12_cut_11 rfl ?_
    refine lv_iconst (v := 2) hx hb dX12_cut_14 (by decide) (hp_n (n := 15) rfl ?_)
    obtain ⟨g7, hf⟩ := ms_gE hf
    refine m_ial (κ := 40) (φ := 650) (n := 1980) (pc' := 16) C B hM (by decide) (by decide) rfl g7 dX12_cut_15 rfl ?_
    refine lv_icmp_le (tgt := 23) hx hb dX12_cut_16 (by decide) (fun c8 => ?_) (fun c8 => hp_n (n := 19) rfl ?_)
    ·
      replace hf := ms_iT c8 hf
      refine lv_iconst (v := 0) hx hb dX12_cut_23 (by decide) (hp_n (n := 24) rfl ?_)
      exact J24 α s.heap [] B σ hM a1 (0 : Int32) ls (lv_sub hl [0, 1] rfl) hf
    ·
      replace hf := ms_iF c8 hf
      refine lv_iconst (v := 5) hx hb dX12_cut_19 (by decide) (hp_n (n := 20) rfl ?_)
      refine lv_goto (tgt := 24) hx hb dX12_cut_20 (by decide) ?_
      exact J24 α s.heap [] B σ hM a1 (5 : Int32) ls (lv_sub hl [0, 1] rfl) hf
  ·
    replace hf := ms_iF c6 hf
    refine lv_iconst (v := 1) hx hb dX12_cut_5 (by decide) (hp_n (n := 6) rfl ?_)
    refine lv_goto (tgt := 24) hx hb dX12_cut_6 (by decide) ?_
    exact J24 α s.heap [] B σ hM a1 (1 : Int32) ls (lv_sub hl [0, 1] rfl) hf
def f_X12_noEntry_J8 (n : Nat) (σ : ms_T) : Option Int32 :=
  some (1 : Int32)
def f_X12_noEntry_J38 (n : Nat) (σ : ms_T) : Option Int32 :=
  some (5 : Int32)
def f_X12_noEntry (n : Nat) (σ : ms_T) (a1 : Int32) (a2 : Int32) (a3 : Int32) : Option Int32 :=
  if a2 < 0 then
    f_X12_noEntry_J8 n σ 
  else
    if 0 ≤ a3 then
      ms_b (f_X12_isRecord n σ a1) fun rh4 =>
      if rh4 = 0 then
        some (2 : Int32)
      else
        ms_b (f_X12_sizeOf n σ a1) fun rh6 =>
        if rh6 < a3 then
          f_X12_noEntry_J38 n σ 
        else
          if a2 < a3 then
            some (0 : Int32)
          else
            f_X12_noEntry_J38 n σ 
    else
      f_X12_noEntry_J8 n σ 
set_option maxRecDepth 100000 in
set_option maxHeartbeats 4000000 in
theorem m_X12_noEntry (n : Nat) (Γ : hp_G) (l : Launch) (α : hp_T) (a0 : Nat) (ρ : Nat → Nat) (σ : ms_T) (hM : hm_M α a0 ρ σ) (a1 : Int32) (a2 : Int32) (a3 : Int32) (res : Int32) (hf : f_X12_noEntry n σ a1 a2 a3 = some res) : Met l yX12_noEntry (hp_ws yX12_noEntry cX12_noEntry 4 (some .int)) (hp_rm 2 0 0) (hp_Pc Γ α [.ref a0, .int a1, .int a2, .int a3]) (hp_Qi Γ (fun r β => β = α ∧ r = res)) 0 0 (hp_A Γ) := by
  unfold f_X12_noEntry at hf
  refine hp_start (by decide) ?_
  intro p e s m below meth c C hr hlk B0 hnm
  have C : hp_C Γ p m c cX12_noEntry 4 s ([.ref a0, .int a1, .int a2, .int a3] : List Value).toArray RX12 := C
  have hx := C.1.1
  have hb := C.1.2.1
  have hown := C.1.2.2.2.1
  have hts := C.1.2.2.2.2
  have B : hp_B Γ (fun _ _ => True) s α α s.heap [] := ⟨B0.1, B0.2.1, trivial⟩
  have hl := lv_entry ([.ref a0, .int a1, .int a2, .int a3]) (n := 4) (Nat.le_of_ble_eq_true rfl)
  show W p l e (hp_rm 2 0 0) s m ([.ref a0, .int a1, .int a2, .int a3] : List Value).toArray below meth c s.heap [] 0 0 (MQ below (hp_Qi Γ (fun r β => β = α ∧ r = res)) ([.ref a0, .int a1, .int a2, .int a3] : List Value).toArray s 0 0 (hp_A Γ)) (entryFrame m ([.ref a0, .int a1, .int a2, .int a3] : List Value).toArray 4)
  rw [lg_entry_eq]
  generalize (lg_sl ([.ref a0, .int a1, .int a2, .int a3]) ++ List.replicate (4 - (lg_sl ([.ref a0, .int a1, .int a2, .int a3])).length) Slot.unset).toArray = ls at hl ⊢
  have hl : lv_has ls 4 [(0, .ref a0), (1, .int a1), (2, .int a2), (3, .int a3)] := hl
  refine lv_iload_n hx hb dX12_noEntry_0 rfl (lv_at hl 2 rfl) (hp_n (n := 1) rfl ?_)
  have J8 : ∀ (Hh1 : Heap) (Lh1 : List Loc) (Bh1 : hp_B Γ (fun _ _ => True) s α α Hh1 Lh1) (ls : Array Slot) (hl : lv_has ls 4 []) (hf : f_X12_noEntry_J8 n σ  = some res), W p l e (hp_rm 2 0 0) s m ([.ref a0, .int a1, .int a2, .int a3] : List Value).toArray below meth c Hh1 Lh1 0 0 (MQ below (hp_Qi Γ (fun r β => β = α ∧ r = res)) ([.ref a0, .int a1, .int a2, .int a3] : List Value).toArray s 0 0 (hp_A Γ)) (F0 m 8 ls []) := by
    intro Hh1 Lh1 Bh1 ls hl hf
    unfold f_X12_noEntry_J8 at hf
    refine lv_iconst (v := 1) hx hb dX12_noEntry_8 (by decide) (hp_n (n := 9) rfl ?_)
    refine lv_goto (tgt := 43) hx hb dX12_noEntry_9 (by decide) ?_
    cases hf
    exact q_iret C Bh1 hr hlk ⟨rfl, rfl⟩ dX12_noEntry_43
  refine lv_if_lt (tgt := 8) hx hb dX12_noEntry_1 (by decide) (fun c2 => ?_) (fun c2 => hp_n (n := 4) rfl ?_)
  ·
    replace hf := ms_iT c2 hf
    exact J8 s.heap [] B ls (lv_sub hl [] rfl) hf
  ·
    replace hf := ms_iF c2 hf
    refine lv_iload_n hx hb dX12_noEntry_4 rfl (lv_at hl 3 rfl) (hp_n (n := 5) rfl ?_)
    refine lv_if_ge (tgt := 12) hx hb dX12_noEntry_5 (by decide) (fun c3 => ?_) (fun c3 => hp_n (n := 8) rfl ?_)
    ·
      replace hf := ms_iT c3 hf
      refine lv_aload_n hx hb dX12_noEntry_12 rfl (lv_at hl 0 rfl) (hp_n (n := 13) rfl ?_)
      refine lv_iload_n hx hb dX12_noEntry_13 rfl (lv_at hl 1 rfl) (hp_n (n := 14) rfl ?_)
      obtain ⟨rh4, qh4, hf⟩ := ms_bE hf
      refine m_cp (pc' := 17) B (hp_runV (As := [.int a1]) (rest := []) C B (m_X12_isRecord n Γ l α a0 ρ σ hM a1 rh4 qh4) lb_X12_isRecord lv_X12_isRecord lk_X12_344 hM.1 rfl (by decide) rfl hl.1 rfl (Nat.le_of_ble_eq_true rfl) dX12_noEntry_14 ⟨Nat.le_refl _, Nat.le_refl _⟩) rfl (fun Hh4 Lh4 Bh4 => ?_)
      refine lv_if_ne (tgt := 24) hx hb dX12_noEntry_17 (by decide) (fun c5 => ?_) (fun c5 => hp_n (n := 20) rfl ?_)
      ·
        replace hf := ms_iF c5 hf
        refine lv_iload_n hx hb dX12_noEntry_24 rfl (lv_at hl 3 rfl) (hp_n (n := 25) rfl ?_)
        refine lv_aload_n hx hb dX12_noEntry_25 rfl (lv_at hl 0 rfl) (hp_n (n := 26) rfl ?_)
        refine lv_iload_n hx hb dX12_noEntry_26 rfl (lv_at hl 1 rfl) (hp_n (n := 27) rfl ?_)
        obtain ⟨rh6, qh6, hf⟩ := ms_bE hf
        refine m_cp (pc' := 30) Bh4 (hp_runV (As := [.int a1]) (rest := [.int a3]) C Bh4 (m_X12_sizeOf n Γ l α a0 ρ σ hM a1 rh6 qh6) lb_X12_sizeOf lv_X12_sizeOf lk_X12_209 hM.1 rfl (by decide) rfl hl.1 rfl (Nat.le_of_ble_eq_true rfl) dX12_noEntry_27 ⟨Nat.le_refl _, Nat.le_refl _⟩) rfl (fun Hh6 Lh6 Bh6 => ?_)
        have J38 : ∀ (Hh7 : Heap) (Lh7 : List Loc) (Bh7 : hp_B Γ (fun _ _ => True) s α α Hh7 Lh7) (ls : Array Slot) (hl : lv_has ls 4 []) (hf : f_X12_noEntry_J38 n σ  = some res), W p l e (hp_rm 2 0 0) s m ([.ref a0, .int a1, .int a2, .int a3] : List Value).toArray below meth c Hh7 Lh7 0 0 (MQ below (hp_Qi Γ (fun r β => β = α ∧ r = res)) ([.ref a0, .int a1, .int a2, .int a3] : List Value).toArray s 0 0 (hp_A Γ)) (F0 m 38 ls []) := by
          intro Hh7 Lh7 Bh7 ls hl hf
          unfold f_X12_noEntry_J38 at hf
          refine lv_iconst (v := 5) hx hb dX12_noEntry_38 (by decide) (hp_n (n := 39) rfl ?_)
          refine lv_goto (tgt := 43) hx hb dX12_noEntry_39 (by decide) ?_
          cases hf
          exact q_iret C Bh7 hr hlk ⟨rfl, rfl⟩ dX12_noEntry_43
        refine lv_icmp_gt (tgt := 38) hx hb dX12_noEntry_30 (by decide) (fun c8 => ?_) (fun c8 => hp_n (n := 33) rfl ?_)
        ·
          replace hf := ms_iT c8 hf
          exact J38 Hh6 Lh6 Bh6 ls (lv_sub hl [] rfl) hf
        ·
          replace hf := ms_iF c8 hf
          refine lv_iload_n hx hb dX12_noEntry_33 rfl (lv_at hl 2 rfl) (hp_n (n := 34) rfl ?_)
          refine lv_iload_n hx hb dX12_noEntry_34 rfl (lv_at hl 3 rfl) (hp_n (n := 35) rfl ?_)
          refine lv_icmp_lt (tgt := 42) hx hb dX12_noEntry_35 (by decide) (fun c9 => ?_) (fun c9 => hp_n (n := 38) rfl ?_)
          ·
            replace hf := ms_iT c9 hf
            refine lv_iconst (v := 0) hx hb dX12_noEntry_42 (by decide) (hp_n (n := 43) rfl ?_)
            cases hf
            exact q_iret C Bh6 hr hlk ⟨rfl, rfl⟩ dX12_noEntry_43
          ·
            replace hf := ms_iF c9 hf
            exact J38 Hh6 Lh6 Bh6 ls (lv_sub hl [] rfl) hf
      ·
        replace hf := ms_iT c5 hf
        refine lv_iconst (v := 2) hx hb dX12_noEntry_20 (by decide) (hp_n (n := 21) rfl ?_)
        refine lv_goto (tgt := 43) hx hb dX12_noEntry_21 (by decide) ?_
        cases hf
        exact q_iret C Bh4 hr hlk ⟨rfl, rfl⟩ dX12_noEntry_43
    ·
      replace hf := ms_iF c3 hf
      exact J8 s.heap [] B ls (lv_sub hl [] rfl) hf
def f_X12_include (n : Nat) (σ : ms_T) (a1 : Int32) (a2 : Int32) (a3 : Int32) : Option (Int32 × ms_T) :=
  ms_b (f_X12_noEntry n σ a1 a2 a3) fun rh1 =>
  ms_c (f_X12_is n σ rh1) fun rh2 σh2 =>
  if rh2 = 0 then
    some ((-1 : Int32), σh2)
  else
    ms_b (f_X12_inclusion n σh2 a2 a3) fun σh4 =>
    ms_c (f_X12_pads n σh4 a1) fun rh5 σh5 =>
    some (rh5, σh5)
set_option maxRecDepth 100000 in
set_option maxHeartbeats 4000000 in
theorem m_X12_include (n : Nat) (Γ : hp_G) (l : Launch) (α : hp_T) (a0 : Nat) (ρ : Nat → Nat) (σ : ms_T) (hM : hm_M α a0 ρ σ) (a1 : Int32) (a2 : Int32) (a3 : Int32) (res : (Int32 × ms_T)) (hf : f_X12_include n σ a1 a2 a3 = some res) : Met l yX12_include (hp_ws yX12_include cX12_include 4 (some .int)) (hp_rm 44 0 0) (hp_Pc Γ α [.ref a0, .int a1, .int a2, .int a3]) (hp_Qi Γ (fun r β => r = res.1 ∧ mo α β ∧ hm_M β a0 ρ res.2)) 0 0 (hp_A Γ) := by
  unfold f_X12_include at hf
  refine hp_start (by decide) ?_
  intro p e s m below meth c C hr hlk B0 hnm
  have C : hp_C Γ p m c cX12_include 4 s ([.ref a0, .int a1, .int a2, .int a3] : List Value).toArray RX12 := C
  have hx := C.1.1
  have hb := C.1.2.1
  have hown := C.1.2.2.2.1
  have hts := C.1.2.2.2.2
  have B : hp_B Γ mo s α α s.heap [] := ⟨B0.1, B0.2.1, mo_rf⟩
  have hl := lv_entry ([.ref a0, .int a1, .int a2, .int a3]) (n := 4) (Nat.le_of_ble_eq_true rfl)
  show W p l e (hp_rm 44 0 0) s m ([.ref a0, .int a1, .int a2, .int a3] : List Value).toArray below meth c s.heap [] 0 0 (MQ below (hp_Qi Γ (fun r β => r = res.1 ∧ mo α β ∧ hm_M β a0 ρ res.2)) ([.ref a0, .int a1, .int a2, .int a3] : List Value).toArray s 0 0 (hp_A Γ)) (entryFrame m ([.ref a0, .int a1, .int a2, .int a3] : List Value).toArray 4)
  rw [lg_entry_eq]
  generalize (lg_sl ([.ref a0, .int a1, .int a2, .int a3]) ++ List.replicate (4 - (lg_sl ([.ref a0, .int a1, .int a2, .int a3])).length) Slot.unset).toArray = ls at hl ⊢
  have hl : lv_has ls 4 [(0, .ref a0), (1, .int a1), (2, .int a2), (3, .int a3)] := hl
  refine lv_aload_n hx hb dX12_include_0 rfl (lv_at hl 0 rfl) (hp_n (n := 1) rfl ?_)
  refine lv_aload_n hx hb dX12_include_1 rfl (lv_at hl 0 rfl) (hp_n (n := 2) rfl ?_)
  refine lv_iload_n hx hb dX12_include_2 rfl (lv_at hl 1 rfl) (hp_n (n := 3) rfl ?_)
  refine lv_iload_n hx hb dX12_include_3 rfl (lv_at hl 2 rfl) (hp_n (n := 4) rfl ?_)
  refine lv_iload_n hx hb dX12_include_4 rfl (lv_at hl 3 rfl) (hp_n (n := 5) rfl ?_)
  obtain ⟨rh1, qh1, hf⟩ := ms_bE hf
  refine m_cp (pc' := 8) B (hp_runV (As := [.int a1, .int a2, .int a3]) (rest := [.ref a0]) C B (m_X12_noEntry n Γ l α a0 ρ σ hM a1 a2 a3 rh1 qh1) lb_X12_noEntry lv_X12_noEntry lk_X12_362 hM.1 rfl (by decide) rfl hl.1 rfl (Nat.le_of_ble_eq_true rfl) dX12_include_5 ⟨Nat.le_refl _, Nat.le_refl _⟩) rfl (fun Hh1 Lh1 Bh1 => ?_)
  obtain ⟨rh2, σh2, qh2, hf⟩ := ms_cE hf
  refine m_ci (pc' := 11) (a := a0) (ρ := ρ) Bh1 (hp_runV (As := [.int rh1]) (rest := []) C Bh1 (m_X12_is n Γ l α a0 ρ σ hM rh1 (rh2, σh2) qh2) lb_X12_is lv_X12_is lk_X12_309 hM.1 rfl (by decide) rfl hl.1 rfl (Nat.le_of_ble_eq_true rfl) dX12_include_8 ⟨Nat.le_refl _, Nat.le_refl _⟩) rfl (fun αh2 Hh2 Lh2 Bh2 Mh2 => ?_)
  refine lv_if_ne (tgt := 16) hx hb dX12_include_11 (by decide) (fun c3 => ?_) (fun c3 => hp_n (n := 14) rfl ?_)
  ·
    replace hf := ms_iF c3 hf
    refine lv_aload_n hx hb dX12_include_16 rfl (lv_at hl 0 rfl) (hp_n (n := 17) rfl ?_)
    refine lv_iload_n hx hb dX12_include_17 rfl (lv_at hl 2 rfl) (hp_n (n := 18) rfl ?_)
    refine lv_iload_n hx hb dX12_include_18 rfl (lv_at hl 3 rfl) (hp_n (n := 19) rfl ?_)
    obtain ⟨σh4, qh4, hf⟩ := ms_bE hf
    refine m_cv (pc' := 22) (a := a0) (ρ := ρ) Bh2 (hp_runV (As := [.int a2, .int a3]) (rest := []) C Bh2 (m_X12_inclusion n Γ l αh2 a0 ρ σh2 Mh2 a2 a3 σh4 qh4) lb_X12_inclusion lv_X12_inclusion lk_X12_171 Mh2.1 rfl (by decide) rfl hl.1 rfl (Nat.le_of_ble_eq_true rfl) dX12_include_19 ⟨Nat.le_refl _, Nat.le_refl _⟩) rfl (fun αh4 Hh4 Lh4 Bh4 Mh4 => ?_)
    refine lv_aload_n hx hb dX12_include_22 rfl (lv_at hl 0 rfl) (hp_n (n := 23) rfl ?_)
    refine lv_iload_n hx hb dX12_include_23 rfl (lv_at hl 1 rfl) (hp_n (n := 24) rfl ?_)
    obtain ⟨rh5, σh5, qh5, hf⟩ := ms_cE hf
    refine m_ci (pc' := 27) (a := a0) (ρ := ρ) Bh4 (hp_runV (As := [.int a1]) (rest := []) C Bh4 (m_X12_pads n Γ l αh4 a0 ρ σh4 Mh4 a1 (rh5, σh5) qh5) lb_X12_pads lv_X12_pads lk_X12_365 Mh4.1 rfl (by decide) rfl hl.1 rfl (Nat.le_of_ble_eq_true rfl) dX12_include_24 ⟨Nat.le_refl _, Nat.le_refl _⟩) rfl (fun αh5 Hh5 Lh5 Bh5 Mh5 => ?_)
    cases hf
    exact q_iret C Bh5 hr hlk ⟨rfl, Bh5.2.2, Mh5⟩ dX12_include_27
  ·
    replace hf := ms_iT c3 hf
    refine lv_iconst (v := (-1)) hx hb dX12_include_14 (by decide) (hp_n (n := 15) rfl ?_)
    cases hf
    exact q_iret C Bh2 hr hlk ⟨rfl, Bh2.2.2, Mh2⟩ dX12_include_15
def f_X12_grow_J20 (n : Nat) (σh1 : ms_T) (v1_h1 : Int32) (v2_h1 : Int32) (v3_h1 : Int32) (w0_h1 : Int32) : Option (Int32 × ms_T) :=
  ms_c (f_X12_is n σh1 w0_h1) fun rh2 σh2 =>
  if rh2 = 0 then
    some ((-1 : Int32), σh2)
  else
    ms_b (f_X12_growth n σh2 v2_h1 v3_h1) fun σh4 =>
    ms_c (f_X12_pads n σh4 v1_h1) fun rh5 σh5 =>
    some (rh5, σh5)
def f_X12_grow_J10 (n : Nat) (σh6 : ms_T) (v1_h6 : Int32) (v2_h6 : Int32) (v3_h6 : Int32) : Option (Int32 × ms_T) :=
  f_X12_grow_J20 n σh6 v1_h6 v2_h6 v3_h6 (1 : Int32)
def f_X12_grow (n : Nat) (σ : ms_T) (a1 : Int32) (a2 : Int32) (a3 : Int32) : Option (Int32 × ms_T) :=
  if a2 < 0 then
    f_X12_grow_J10 n σ a1 a2 a3
  else
    if a2 ≤ a3 then
      ms_b (f_X12_noSize n σ a1 a3) fun rh9 =>
      f_X12_grow_J20 n σ a1 a2 a3 rh9
    else
      f_X12_grow_J10 n σ a1 a2 a3
set_option maxRecDepth 100000 in
set_option maxHeartbeats 4000000 in
theorem m_X12_grow (n : Nat) (Γ : hp_G) (l : Launch) (α : hp_T) (a0 : Nat) (ρ : Nat → Nat) (σ : ms_T) (hM : hm_M α a0 ρ σ) (a1 : Int32) (a2 : Int32) (a3 : Int32) (res : (Int32 × ms_T)) (hf : f_X12_grow n σ a1 a2 a3 = some res) : Met l yX12_grow (hp_ws yX12_grow cX12_grow 4 (some .int)) (hp_rm 44 0 0) (hp_Pc Γ α [.ref a0, .int a1, .int a2, .int a3]) (hp_Qi Γ (fun r β => r = res.1 ∧ mo α β ∧ hm_M β a0 ρ res.2)) 0 0 (hp_A Γ) := by
  unfold f_X12_grow at hf
  refine hp_start (by decide) ?_
  intro p e s m below meth c C hr hlk B0 hnm
  have C : hp_C Γ p m c cX12_grow 4 s ([.ref a0, .int a1, .int a2, .int a3] : List Value).toArray RX12 := C
  have hx := C.1.1
  have hb := C.1.2.1
  have hown := C.1.2.2.2.1
  have hts := C.1.2.2.2.2
  have B : hp_B Γ mo s α α s.heap [] := ⟨B0.1, B0.2.1, mo_rf⟩
  have hl := lv_entry ([.ref a0, .int a1, .int a2, .int a3]) (n := 4) (Nat.le_of_ble_eq_true rfl)
  show W p l e (hp_rm 44 0 0) s m ([.ref a0, .int a1, .int a2, .int a3] : List Value).toArray below meth c s.heap [] 0 0 (MQ below (hp_Qi Γ (fun r β => r = res.1 ∧ mo α β ∧ hm_M β a0 ρ res.2)) ([.ref a0, .int a1, .int a2, .int a3] : List Value).toArray s 0 0 (hp_A Γ)) (entryFrame m ([.ref a0, .int a1, .int a2, .int a3] : List Value).toArray 4)
  rw [lg_entry_eq]
  generalize (lg_sl ([.ref a0, .int a1, .int a2, .int a3]) ++ List.replicate (4 - (lg_sl ([.ref a0, .int a1, .int a2, .int a3])).length) Slot.unset).toArray = ls at hl ⊢
  have hl : lv_has ls 4 [(0, .ref a0), (1, .int a1), (2, .int a2), (3, .int a3)] := hl
  refine lv_aload_n hx hb dX12_grow_0 rfl (lv_at hl 0 rfl) (hp_n (n := 1) rfl ?_)
  refine lv_iload_n hx hb dX12_grow_1 rfl (lv_at hl 2 rfl) (hp_n (n := 2) rfl ?_)
  have J20 : ∀ (αh1 : hp_T) (Hh1 : Heap) (Lh1 : List Loc) (Bh1 : hp_B Γ mo s α αh1 Hh1 Lh1) (σh1 : ms_T) (Mh1 : hm_M αh1 a0 ρ σh1) (v1_h1 : Int32) (v2_h1 : Int32) (v3_h1 : Int32) (w0_h1 : Int32) (ls : Array Slot) (hl : lv_has ls 4 [(0, .ref a0), (1, .int v1_h1), (2, .int v2_h1), (3, .int v3_h1)]) (hf : f_X12_grow_J20 n σh1 v1_h1 v2_h1 v3_h1 w0_h1 = some res), W p l e (hp_rm 44 0 0) s m ([.ref a0, .int a1, .int a2, .int a3] : List Value).toArray below meth c Hh1 Lh1 0 0 (MQ below (hp_Qi Γ (fun r β => r = res.1 ∧ mo α β ∧ hm_M β a0 ρ res.2)) ([.ref a0, .int a1, .int a2, .int a3] : List Value).toArray s 0 0 (hp_A Γ)) (F0 m 20 ls [.int w0_h1, .ref a0]) := by
    intro αh1 Hh1 Lh1 Bh1 σh1 Mh1 v1_h1 v2_h1 v3_h1 w0_h1 ls hl hf
    unfold f_X12_grow_J20 at hf
    obtain ⟨rh2, σh2, qh2, hf⟩ := ms_cE hf
    refine m_ci (pc' := 23) (a := a0) (ρ := ρ) Bh1 (hp_runV (As := [.int w0_h1]) (rest := []) C Bh1 (m_X12_is n Γ l αh1 a0 ρ σh1 Mh1 w0_h1 (rh2, σh2) qh2) lb_X12_is lv_X12_is lk_X12_309 Mh1.1 rfl (by decide) rfl hl.1 rfl (Nat.le_of_ble_eq_true rfl) dX12_grow_20 ⟨Nat.le_refl _, Nat.le_refl _⟩) rfl (fun αh2 Hh2 Lh2 Bh2 Mh2 => ?_)
    refine lv_if_ne (tgt := 28) hx hb dX12_grow_23 (by decide) (fun c3 => ?_) (fun c3 => hp_n (n := 26) rfl ?_)
    ·
      replace hf := ms_iF c3 hf
      refine lv_aload_n hx hb dX12_grow_28 rfl (lv_at hl 0 rfl) (hp_n (n := 29) rfl ?_)
      refine lv_iload_n hx hb dX12_grow_29 rfl (lv_at hl 2 rfl) (hp_n (n := 30) rfl ?_)
      refine lv_iload_n hx hb dX12_grow_30 rfl (lv_at hl 3 rfl) (hp_n (n := 31) rfl ?_)
      obtain ⟨σh4, qh4, hf⟩ := ms_bE hf
      refine m_cv (pc' := 34) (a := a0) (ρ := ρ) Bh2 (hp_runV (As := [.int v2_h1, .int v3_h1]) (rest := []) C Bh2 (m_X12_growth n Γ l αh2 a0 ρ σh2 Mh2 v2_h1 v3_h1 σh4 qh4) lb_X12_growth lv_X12_growth lk_X12_190 Mh2.1 rfl (by decide) rfl hl.1 rfl (Nat.le_of_ble_eq_true rfl) dX12_grow_31 ⟨Nat.le_refl _, Nat.le_refl _⟩) rfl (fun αh4 Hh4 Lh4 Bh4 Mh4 => ?_)
      refine lv_aload_n hx hb dX12_grow_34 rfl (lv_at hl 0 rfl) (hp_n (n := 35) rfl ?_)
      refine lv_iload_n hx hb dX12_grow_35 rfl (lv_at hl 1 rfl) (hp_n (n := 36) rfl ?_)
      obtain ⟨rh5, σh5, qh5, hf⟩ := ms_cE hf
      refine m_ci (pc' := 39) (a := a0) (ρ := ρ) Bh4 (hp_runV (As := [.int v1_h1]) (rest := []) C Bh4 (m_X12_pads n Γ l αh4 a0 ρ σh4 Mh4 v1_h1 (rh5, σh5) qh5) lb_X12_pads lv_X12_pads lk_X12_365 Mh4.1 rfl (by decide) rfl hl.1 rfl (Nat.le_of_ble_eq_true rfl) dX12_grow_36 ⟨Nat.le_refl _, Nat.le_refl _⟩) rfl (fun αh5 Hh5 Lh5 Bh5 Mh5 => ?_)
      cases hf
      exact q_iret C Bh5 hr hlk ⟨rfl, Bh5.2.2, Mh5⟩ dX12_grow_39
    ·
      replace hf := ms_iT c3 hf
      refine lv_iconst (v := (-1)) hx hb dX12_grow_26 (by decide) (hp_n (n := 27) rfl ?_)
      cases hf
      exact q_iret C Bh2 hr hlk ⟨rfl, Bh2.2.2, Mh2⟩ dX12_grow_27
  have J10 : ∀ (αh6 : hp_T) (Hh6 : Heap) (Lh6 : List Loc) (Bh6 : hp_B Γ mo s α αh6 Hh6 Lh6) (σh6 : ms_T) (Mh6 : hm_M αh6 a0 ρ σh6) (v1_h6 : Int32) (v2_h6 : Int32) (v3_h6 : Int32) (ls : Array Slot) (hl : lv_has ls 4 [(0, .ref a0), (1, .int v1_h6), (2, .int v2_h6), (3, .int v3_h6)]) (hf : f_X12_grow_J10 n σh6 v1_h6 v2_h6 v3_h6 = some res), W p l e (hp_rm 44 0 0) s m ([.ref a0, .int a1, .int a2, .int a3] : List Value).toArray below meth c Hh6 Lh6 0 0 (MQ below (hp_Qi Γ (fun r β => r = res.1 ∧ mo α β ∧ hm_M β a0 ρ res.2)) ([.ref a0, .int a1, .int a2, .int a3] : List Value).toArray s 0 0 (hp_A Γ)) (F0 m 10 ls [.ref a0]) := by
    intro αh6 Hh6 Lh6 Bh6 σh6 Mh6 v1_h6 v2_h6 v3_h6 ls hl hf
    unfold f_X12_grow_J10 at hf
    refine lv_iconst (v := 1) hx hb dX12_grow_10 (by decide) (hp_n (n := 11) rfl ?_)
    refine lv_goto (tgt := 20) hx hb dX12_grow_11 (by decide) ?_
    exact J20 αh6 Hh6 Lh6 Bh6 σh6 Mh6 v1_h6 v2_h6 v3_h6 (1 : Int32) ls (lv_sub hl [0, 1, 2, 3] rfl) hf
  refine lv_if_lt (tgt := 10) hx hb dX12_grow_2 (by decide) (fun c7 => ?_) (fun c7 => hp_n (n := 5) rfl ?_)
  ·
    replace hf := ms_iT c7 hf
    exact J10 α s.heap [] B σ hM a1 a2 a3 ls (lv_sub hl [0, 1, 2, 3] rfl) hf
  ·
    replace hf := ms_iF c7 hf
    refine lv_iload_n hx hb dX12_grow_5 rfl (lv_at hl 2 rfl) (hp_n (n := 6) rfl ?_)
    refine lv_iload_n hx hb dX12_grow_6 rfl (lv_at hl 3 rfl) (hp_n (n := 7) rfl ?_)
    refine lv_icmp_le (tgt := 14) hx hb dX12_grow_7 (by decide) (fun c8 => ?_) (fun c8 => hp_n (n := 10) rfl ?_)
    ·
      replace hf := ms_iT c8 hf
      refine lv_aload_n hx hb dX12_grow_14 rfl (lv_at hl 0 rfl) (hp_n (n := 15) rfl ?_)
      refine lv_iload_n hx hb dX12_grow_15 rfl (lv_at hl 1 rfl) (hp_n (n := 16) rfl ?_)
      refine lv_iload_n hx hb dX12_grow_16 rfl (lv_at hl 3 rfl) (hp_n (n := 17) rfl ?_)
      obtain ⟨rh9, qh9, hf⟩ := ms_bE hf
      refine m_cp (pc' := 20) B (hp_runV (As := [.int a1, .int a3]) (rest := [.ref a0]) C B (m_X12_noSize n Γ l α a0 ρ σ hM a1 a3 rh9 qh9) lb_X12_noSize lv_X12_noSize lk_X12_347 hM.1 rfl (by decide) rfl hl.1 rfl (Nat.le_of_ble_eq_true rfl) dX12_grow_17 ⟨Nat.le_refl _, Nat.le_refl _⟩) rfl (fun Hh9 Lh9 Bh9 => ?_)
      exact J20 α Hh9 Lh9 Bh9 σ hM a1 a2 a3 rh9 ls (lv_sub hl [0, 1, 2, 3] rfl) hf
    ·
      replace hf := ms_iF c8 hf
      exact J10 α s.heap [] B σ hM a1 a2 a3 ls (lv_sub hl [0, 1, 2, 3] rfl) hf
def f_X12_isBeyond_J30 (n : Nat) (rec2 : Int32 → Int32 → Int32 → Option Int32) (v0_h3 : Int32) (v1_h3 : Int32) (v2_h3 : Int32) : Option Int32 :=
  ms_l (v2_h3 + 1) fun x4 =>
  rec2 v0_h3 v1_h3 x4
def f_X12_isBeyond_L2 (n : Nat) : Nat → Int32 → Int32 → Int32 → Option Int32
  | 0, _, _, _ => none
  | k2 + 1, v0_h1, v1_h1, v2_h1 =>
    if (31 : Int32) ≤ v2_h1 then
      some (0 : Int32)
    else
      if ((v0_h1 >>> (v2_h1 &&& 31)) &&& (1 : Int32)) = (1 : Int32) then
        if v1_h1 ≤ v2_h1 then
          some (1 : Int32)
        else
          if v2_h1 < (30 : Int32) then
            f_X12_isBeyond_J30 n (f_X12_isBeyond_L2 n k2) v0_h1 v1_h1 v2_h1
          else
            some (1 : Int32)
      else
        f_X12_isBeyond_J30 n (f_X12_isBeyond_L2 n k2) v0_h1 v1_h1 v2_h1
def f_X12_isBeyond (n : Nat) (a0 : Int32) (a1 : Int32) : Option Int32 :=
  f_X12_isBeyond_L2 n n a0 a1 (0 : Int32)
set_option maxRecDepth 100000 in
set_option maxHeartbeats 4000000 in
theorem m_X12_isBeyond (n : Nat) (Γ : hp_G) (l : Launch) (α : hp_T) (a0 : Int32) (a1 : Int32) (res : Int32) (hf : f_X12_isBeyond n a0 a1 = some res) : Met l yX12_isBeyond (hp_ws yX12_isBeyond cX12_isBeyond 3 (some .boolean)) (hp_rm 0 0 0) (hp_Pc Γ α [.int a0, .int a1]) (hp_Qi Γ (fun r β => β = α ∧ r = res)) 0 0 (hp_A Γ) := by
  unfold f_X12_isBeyond at hf
  refine hp_start (by decide) ?_
  intro p e s m below meth c C hr hlk B0 hnm
  have C : hp_C Γ p m c cX12_isBeyond 3 s ([.int a0, .int a1] : List Value).toArray RX12 := C
  have hx := C.1.1
  have hb := C.1.2.1
  have hown := C.1.2.2.2.1
  have hts := C.1.2.2.2.2
  have B : hp_B Γ (fun _ _ => True) s α α s.heap [] := ⟨B0.1, B0.2.1, trivial⟩
  have hl := lv_entry ([.int a0, .int a1]) (n := 3) (Nat.le_of_ble_eq_true rfl)
  show W p l e (hp_rm 0 0 0) s m ([.int a0, .int a1] : List Value).toArray below meth c s.heap [] 0 0 (MQ below (hp_Qi Γ (fun r β => β = α ∧ r = res)) ([.int a0, .int a1] : List Value).toArray s 0 0 (hp_A Γ)) (entryFrame m ([.int a0, .int a1] : List Value).toArray 3)
  rw [lg_entry_eq]
  generalize (lg_sl ([.int a0, .int a1]) ++ List.replicate (3 - (lg_sl ([.int a0, .int a1])).length) Slot.unset).toArray = ls at hl ⊢
  have hl : lv_has ls 3 [(0, .int a0), (1, .int a1)] := hl
  refine lv_iconst (v := 0) hx hb dX12_isBeyond_0 (by decide) (hp_n (n := 1) rfl ?_)
  have J2 : ∀ (k2 : Nat) (Hh1 : Heap) (Lh1 : List Loc) (Bh1 : hp_B Γ (fun _ _ => True) s α α Hh1 Lh1) (v0_h1 : Int32) (v1_h1 : Int32) (v2_h1 : Int32) (ls : Array Slot) (hl : lv_has ls 3 [(0, .int v0_h1), (1, .int v1_h1), (2, .int v2_h1)]) (hf : f_X12_isBeyond_L2 n k2 v0_h1 v1_h1 v2_h1 = some res), W p l e (hp_rm 0 0 0) s m ([.int a0, .int a1] : List Value).toArray below meth c Hh1 Lh1 0 0 (MQ below (hp_Qi Γ (fun r β => β = α ∧ r = res)) ([.int a0, .int a1] : List Value).toArray s 0 0 (hp_A Γ)) (F0 m 2 ls []) := by
    intro k2
    induction k2 with
    | zero => intro Hh1 Lh1 Bh1 v0_h1 v1_h1 v2_h1 ls hl hf; rw [f_X12_isBeyond_L2.eq_1] at hf; cases hf
    | succ k2 ih2 =>
      intro Hh1 Lh1 Bh1 v0_h1 v1_h1 v2_h1 ls hl hf
      rw [f_X12_isBeyond_L2.eq_2] at hf
      refine lv_iload_n hx hb dX12_isBeyond_2 rfl (lv_at hl 2 rfl) (hp_n (n := 3) rfl ?_)
      refine lv_bipush (v := 31) hx hb dX12_isBeyond_3 (by decide) (hp_n (n := 5) rfl ?_)
      refine lv_icmp_ge (tgt := 36) hx hb dX12_isBeyond_5 (by decide) (fun c2 => ?_) (fun c2 => hp_n (n := 8) rfl ?_)
      ·
        replace hf := ms_iT c2 hf
        refine lv_iconst (v := 0) hx hb dX12_isBeyond_36 (by decide) (hp_n (n := 37) rfl ?_)
        cases hf
        exact q_zret C Bh1 hr hlk (by decide) ⟨rfl, rfl⟩ dX12_isBeyond_37
      ·
        replace hf := ms_iF c2 hf
        refine lv_iload_n hx hb dX12_isBeyond_8 rfl (lv_at hl 0 rfl) (hp_n (n := 9) rfl ?_)
        refine lv_iload_n hx hb dX12_isBeyond_9 rfl (lv_at hl 2 rfl) (hp_n (n := 10) rfl ?_)
        refine lv_ishr hx hb dX12_isBeyond_10 (hp_n (n := 11) rfl ?_)
        refine lv_iconst (v := 1) hx hb dX12_isBeyond_11 (by decide) (hp_n (n := 12) rfl ?_)
        refine lv_iand hx hb dX12_isBeyond_12 (hp_n (n := 13) rfl ?_)
        refine lv_iconst (v := 1) hx hb dX12_isBeyond_13 (by decide) (hp_n (n := 14) rfl ?_)
        have J30 : ∀ (Hh3 : Heap) (Lh3 : List Loc) (Bh3 : hp_B Γ (fun _ _ => True) s α α Hh3 Lh3) (v0_h3 : Int32) (v1_h3 : Int32) (v2_h3 : Int32) (ls : Array Slot) (hl : lv_has ls 3 [(0, .int v0_h3), (1, .int v1_h3), (2, .int v2_h3)]) (hf : f_X12_isBeyond_J30 n (f_X12_isBeyond_L2 n k2) v0_h3 v1_h3 v2_h3 = some res), W p l e (hp_rm 0 0 0) s m ([.int a0, .int a1] : List Value).toArray below meth c Hh3 Lh3 0 0 (MQ below (hp_Qi Γ (fun r β => β = α ∧ r = res)) ([.int a0, .int a1] : List Value).toArray s 0 0 (hp_A Γ)) (F0 m 30 ls []) := by
          intro Hh3 Lh3 Bh3 v0_h3 v1_h3 v2_h3 ls hl hf
          unfold f_X12_isBeyond_J30 at hf
          obtain ⟨x4, ex4⟩ : ∃ y : Int32, y = v2_h3 + 1 := ⟨_, rfl⟩
          replace hf := ms_lE ex4 hf
          refine lv_iinc (v := x4) (lv' := [(2, .int x4), (0, .int v0_h3), (1, .int v1_h3)]) hx hb dX12_isBeyond_30 hl (k := 2) rfl (by rw [ex4]; rfl) (by decide) rfl (fun ls hl => hp_n (n := 33) rfl ?_)
          refine lv_goto (tgt := 2) hx hb dX12_isBeyond_33 (by decide) ?_
          exact ih2 Hh3 Lh3 Bh3 v0_h3 v1_h3 x4 ls (lv_sub hl [1, 2, 0] rfl) hf
        refine lv_icmp_ne (tgt := 30) hx hb dX12_isBeyond_14 (by decide) (fun c5 => ?_) (fun c5 => hp_n (n := 17) rfl ?_)
        ·
          replace hf := ms_iF c5 hf
          exact J30 Hh1 Lh1 Bh1 v0_h1 v1_h1 v2_h1 ls (lv_sub hl [0, 1, 2] rfl) hf
        ·
          replace hf := ms_iT c5 hf
          refine lv_iload_n hx hb dX12_isBeyond_17 rfl (lv_at hl 2 rfl) (hp_n (n := 18) rfl ?_)
          refine lv_iload_n hx hb dX12_isBeyond_18 rfl (lv_at hl 1 rfl) (hp_n (n := 19) rfl ?_)
          refine lv_icmp_ge (tgt := 28) hx hb dX12_isBeyond_19 (by decide) (fun c6 => ?_) (fun c6 => hp_n (n := 22) rfl ?_)
          ·
            replace hf := ms_iT c6 hf
            refine lv_iconst (v := 1) hx hb dX12_isBeyond_28 (by decide) (hp_n (n := 29) rfl ?_)
            cases hf
            exact q_zret C Bh1 hr hlk (by decide) ⟨rfl, rfl⟩ dX12_isBeyond_29
          ·
            replace hf := ms_iF c6 hf
            refine lv_iload_n hx hb dX12_isBeyond_22 rfl (lv_at hl 2 rfl) (hp_n (n := 23) rfl ?_)
            refine lv_bipush (v := 30) hx hb dX12_isBeyond_23 (by decide) (hp_n (n := 25) rfl ?_)
            refine lv_icmp_lt (tgt := 30) hx hb dX12_isBeyond_25 (by decide) (fun c7 => ?_) (fun c7 => hp_n (n := 28) rfl ?_)
            ·
              replace hf := ms_iT c7 hf
              exact J30 Hh1 Lh1 Bh1 v0_h1 v1_h1 v2_h1 ls (lv_sub hl [0, 1, 2] rfl) hf
            ·
              replace hf := ms_iF c7 hf
              refine lv_iconst (v := 1) hx hb dX12_isBeyond_28 (by decide) (hp_n (n := 29) rfl ?_)
              cases hf
              exact q_zret C Bh1 hr hlk (by decide) ⟨rfl, rfl⟩ dX12_isBeyond_29
  refine lv_istore_n (lv' := [(2, .int (0 : Int32)), (0, .int a0), (1, .int a1)]) hx hb dX12_isBeyond_1 rfl hl (by decide) rfl (fun ls hl => hp_n (n := 2) rfl ?_)
  exact J2 n s.heap [] B a0 a1 (0 : Int32) ls (lv_sub hl [1, 2, 0] rfl) hf
def f_X12_bundle_J19 (n : Nat) (σh1 : ms_T) (v1_h1 : Int32) (v2_h1 : Int32) (v3_h1 : Int32) (w0_h1 : Int32) : Option (Int32 × ms_T) :=
  ms_c (f_X12_is n σh1 w0_h1) fun rh2 σh2 =>
  if rh2 = 0 then
    some ((-1 : Int32), σh2)
  else
    ms_b (f_X12_isBeyond n v2_h1 v3_h1) fun rh4 =>
    if rh4 = 0 then
      ms_b (f_X12_bundleOf n σh2 v2_h1 v3_h1) fun σh6 =>
      ms_c (f_X12_pads n σh6 v1_h1) fun rh7 σh7 =>
      some (rh7, σh7)
    else
      ms_c (f_X12_refuse n σh2 (5 : Int32)) fun rh8 σh8 =>
      some (rh8, σh8)
def f_X12_bundle_J9 (n : Nat) (σh9 : ms_T) (v1_h9 : Int32) (v2_h9 : Int32) (v3_h9 : Int32) : Option (Int32 × ms_T) :=
  f_X12_bundle_J19 n σh9 v1_h9 v2_h9 v3_h9 (1 : Int32)
def f_X12_bundle (n : Nat) (σ : ms_T) (a1 : Int32) (a2 : Int32) (a3 : Int32) : Option (Int32 × ms_T) :=
  if a3 < 0 then
    f_X12_bundle_J9 n σ a1 a2 a3
  else
    if 0 < a2 then
      ms_b (f_X12_noSize n σ a1 a3) fun rh12 =>
      f_X12_bundle_J19 n σ a1 a2 a3 rh12
    else
      f_X12_bundle_J9 n σ a1 a2 a3
set_option maxRecDepth 100000 in
set_option maxHeartbeats 4000000 in
theorem m_X12_bundle (n : Nat) (Γ : hp_G) (l : Launch) (α : hp_T) (a0 : Nat) (ρ : Nat → Nat) (σ : ms_T) (hM : hm_M α a0 ρ σ) (a1 : Int32) (a2 : Int32) (a3 : Int32) (res : (Int32 × ms_T)) (hf : f_X12_bundle n σ a1 a2 a3 = some res) : Met l yX12_bundle (hp_ws yX12_bundle cX12_bundle 4 (some .int)) (hp_rm 44 0 0) (hp_Pc Γ α [.ref a0, .int a1, .int a2, .int a3]) (hp_Qi Γ (fun r β => r = res.1 ∧ mo α β ∧ hm_M β a0 ρ res.2)) 0 0 (hp_A Γ) := by
  unfold f_X12_bundle at hf
  refine hp_start (by decide) ?_
  intro p e s m below meth c C hr hlk B0 hnm
  have C : hp_C Γ p m c cX12_bundle 4 s ([.ref a0, .int a1, .int a2, .int a3] : List Value).toArray RX12 := C
  have hx := C.1.1
  have hb := C.1.2.1
  have hown := C.1.2.2.2.1
  have hts := C.1.2.2.2.2
  have B : hp_B Γ mo s α α s.heap [] := ⟨B0.1, B0.2.1, mo_rf⟩
  have hl := lv_entry ([.ref a0, .int a1, .int a2, .int a3]) (n := 4) (Nat.le_of_ble_eq_true rfl)
  show W p l e (hp_rm 44 0 0) s m ([.ref a0, .int a1, .int a2, .int a3] : List Value).toArray below meth c s.heap [] 0 0 (MQ below (hp_Qi Γ (fun r β => r = res.1 ∧ mo α β ∧ hm_M β a0 ρ res.2)) ([.ref a0, .int a1, .int a2, .int a3] : List Value).toArray s 0 0 (hp_A Γ)) (entryFrame m ([.ref a0, .int a1, .int a2, .int a3] : List Value).toArray 4)
  rw [lg_entry_eq]
  generalize (lg_sl ([.ref a0, .int a1, .int a2, .int a3]) ++ List.replicate (4 - (lg_sl ([.ref a0, .int a1, .int a2, .int a3])).length) Slot.unset).toArray = ls at hl ⊢
  have hl : lv_has ls 4 [(0, .ref a0), (1, .int a1), (2, .int a2), (3, .int a3)] := hl
  refine lv_aload_n hx hb dX12_bundle_0 rfl (lv_at hl 0 rfl) (hp_n (n := 1) rfl ?_)
  refine lv_iload_n hx hb dX12_bundle_1 rfl (lv_at hl 3 rfl) (hp_n (n := 2) rfl ?_)
  have J19 : ∀ (αh1 : hp_T) (Hh1 : Heap) (Lh1 : List Loc) (Bh1 : hp_B Γ mo s α αh1 Hh1 Lh1) (σh1 : ms_T) (Mh1 : hm_M αh1 a0 ρ σh1) (v1_h1 : Int32) (v2_h1 : Int32) (v3_h1 : Int32) (w0_h1 : Int32) (ls : Array Slot) (hl : lv_has ls 4 [(0, .ref a0), (1, .int v1_h1), (2, .int v2_h1), (3, .int v3_h1)]) (hf : f_X12_bundle_J19 n σh1 v1_h1 v2_h1 v3_h1 w0_h1 = some res), W p l e (hp_rm 44 0 0) s m ([.ref a0, .int a1, .int a2, .int a3] : List Value).toArray below meth c Hh1 Lh1 0 0 (MQ below (hp_Qi Γ (fun r β => r = res.1 ∧ mo α β ∧ hm_M β a0 ρ res.2)) ([.ref a0, .int a1, .int a2, .int a3] : List Value).toArray s 0 0 (hp_A Γ)) (F0 m 19 ls [.int w0_h1, .ref a0]) := by
    intro αh1 Hh1 Lh1 Bh1 σh1 Mh1 v1_h1 v2_h1 v3_h1 w0_h1 ls hl hf
    unfold f_X12_bundle_J19 at hf
    obtain ⟨rh2, σh2, qh2, hf⟩ := ms_cE hf
    refine m_ci (pc' := 22) (a := a0) (ρ := ρ) Bh1 (hp_runV (As := [.int w0_h1]) (rest := []) C Bh1 (m_X12_is n Γ l αh1 a0 ρ σh1 Mh1 w0_h1 (rh2, σh2) qh2) lb_X12_is lv_X12_is lk_X12_309 Mh1.1 rfl (by decide) rfl hl.1 rfl (Nat.le_of_ble_eq_true rfl) dX12_bundle_19 ⟨Nat.le_refl _, Nat.le_refl _⟩) rfl (fun αh2 Hh2 Lh2 Bh2 Mh2 => ?_)
    refine lv_if_ne (tgt := 27) hx hb dX12_bundle_22 (by decide) (fun c3 => ?_) (fun c3 => hp_n (n := 25) rfl ?_)
    ·
      replace hf := ms_iF c3 hf
      refine lv_iload_n hx hb dX12_bundle_27 rfl (lv_at hl 2 rfl) (hp_n (n := 28) rfl ?_)
      refine lv_iload_n hx hb dX12_bundle_28 rfl (lv_at hl 3 rfl) (hp_n (n := 29) rfl ?_)
      obtain ⟨rh4, qh4, hf⟩ := ms_bE hf
      refine m_cp (pc' := 32) Bh2 (hp_runS (As := [.int v2_h1, .int v3_h1]) (rest := []) C Bh2 (m_X12_isBeyond n Γ l αh2 v2_h1 v3_h1 rh4 qh4) lb_X12_isBeyond ls_X12_isBeyond lk_X12_368 rfl (by decide) rfl hl.1 rfl (Nat.le_of_ble_eq_true rfl) dX12_bundle_29 ⟨Nat.le_refl _, Nat.le_refl _⟩) rfl (fun Hh4 Lh4 Bh4 => ?_)
      refine lv_if_eq (tgt := 41) hx hb dX12_bundle_32 (by decide) (fun c5 => ?_) (fun c5 => hp_n (n := 35) rfl ?_)
      ·
        replace hf := ms_iT c5 hf
        refine lv_aload_n hx hb dX12_bundle_41 rfl (lv_at hl 0 rfl) (hp_n (n := 42) rfl ?_)
        refine lv_iload_n hx hb dX12_bundle_42 rfl (lv_at hl 2 rfl) (hp_n (n := 43) rfl ?_)
        refine lv_iload_n hx hb dX12_bundle_43 rfl (lv_at hl 3 rfl) (hp_n (n := 44) rfl ?_)
        obtain ⟨σh6, qh6, hf⟩ := ms_bE hf
        refine m_cv (pc' := 47) (a := a0) (ρ := ρ) Bh4 (hp_runV (As := [.int v2_h1, .int v3_h1]) (rest := []) C Bh4 (m_X12_bundleOf n Γ l αh2 a0 ρ σh2 Mh2 v2_h1 v3_h1 σh6 qh6) lb_X12_bundleOf lv_X12_bundleOf lk_X12_372 Mh2.1 rfl (by decide) rfl hl.1 rfl (Nat.le_of_ble_eq_true rfl) dX12_bundle_44 ⟨Nat.le_refl _, Nat.le_refl _⟩) rfl (fun αh6 Hh6 Lh6 Bh6 Mh6 => ?_)
        refine lv_aload_n hx hb dX12_bundle_47 rfl (lv_at hl 0 rfl) (hp_n (n := 48) rfl ?_)
        refine lv_iload_n hx hb dX12_bundle_48 rfl (lv_at hl 1 rfl) (hp_n (n := 49) rfl ?_)
        obtain ⟨rh7, σh7, qh7, hf⟩ := ms_cE hf
        refine m_ci (pc' := 52) (a := a0) (ρ := ρ) Bh6 (hp_runV (As := [.int v1_h1]) (rest := []) C Bh6 (m_X12_pads n Γ l αh6 a0 ρ σh6 Mh6 v1_h1 (rh7, σh7) qh7) lb_X12_pads lv_X12_pads lk_X12_365 Mh6.1 rfl (by decide) rfl hl.1 rfl (Nat.le_of_ble_eq_true rfl) dX12_bundle_49 ⟨Nat.le_refl _, Nat.le_refl _⟩) rfl (fun αh7 Hh7 Lh7 Bh7 Mh7 => ?_)
        cases hf
        exact q_iret C Bh7 hr hlk ⟨rfl, Bh7.2.2, Mh7⟩ dX12_bundle_52
      ·
        replace hf := ms_iF c5 hf
        refine lv_aload_n hx hb dX12_bundle_35 rfl (lv_at hl 0 rfl) (hp_n (n := 36) rfl ?_)
        refine lv_iconst (v := 5) hx hb dX12_bundle_36 (by decide) (hp_n (n := 37) rfl ?_)
        obtain ⟨rh8, σh8, qh8, hf⟩ := ms_cE hf
        refine m_ci (pc' := 40) (a := a0) (ρ := ρ) Bh4 (hp_runV (As := [.int (5 : Int32)]) (rest := []) C Bh4 (m_X12_refuse n Γ l αh2 a0 ρ σh2 Mh2 (5 : Int32) (rh8, σh8) qh8) lb_X12_refuse lv_X12_refuse lk_X12_212 Mh2.1 rfl (by decide) rfl hl.1 rfl (Nat.le_of_ble_eq_true rfl) dX12_bundle_37 ⟨Nat.le_refl _, Nat.le_refl _⟩) rfl (fun αh8 Hh8 Lh8 Bh8 Mh8 => ?_)
        cases hf
        exact q_iret C Bh8 hr hlk ⟨rfl, Bh8.2.2, Mh8⟩ dX12_bundle_40
    ·
      replace hf := ms_iT c3 hf
      refine lv_iconst (v := (-1)) hx hb dX12_bundle_25 (by decide) (hp_n (n := 26) rfl ?_)
      cases hf
      exact q_iret C Bh2 hr hlk ⟨rfl, Bh2.2.2, Mh2⟩ dX12_bundle_26
  have J9 : ∀ (αh9 : hp_T) (Hh9 : Heap) (Lh9 : List Loc) (Bh9 : hp_B Γ mo s α αh9 Hh9 Lh9) (σh9 : ms_T) (Mh9 : hm_M αh9 a0 ρ σh9) (v1_h9 : Int32) (v2_h9 : Int32) (v3_h9 : Int32) (ls : Array Slot) (hl : lv_has ls 4 [(0, .ref a0), (1, .int v1_h9), (2, .int v2_h9), (3, .int v3_h9)]) (hf : f_X12_bundle_J9 n σh9 v1_h9 v2_h9 v3_h9 = some res), W p l e (hp_rm 44 0 0) s m ([.ref a0, .int a1, .int a2, .int a3] : List Value).toArray below meth c Hh9 Lh9 0 0 (MQ below (hp_Qi Γ (fun r β => r = res.1 ∧ mo α β ∧ hm_M β a0 ρ res.2)) ([.ref a0, .int a1, .int a2, .int a3] : List Value).toArray s 0 0 (hp_A Γ)) (F0 m 9 ls [.ref a0]) := by
    intro αh9 Hh9 Lh9 Bh9 σh9 Mh9 v1_h9 v2_h9 v3_h9 ls hl hf
    unfold f_X12_bundle_J9 at hf
    refine lv_iconst (v := 1) hx hb dX12_bundle_9 (by decide) (hp_n (n := 10) rfl ?_)
    refine lv_goto (tgt := 19) hx hb dX12_bundle_10 (by decide) ?_
    exact J19 αh9 Hh9 Lh9 Bh9 σh9 Mh9 v1_h9 v2_h9 v3_h9 (1 : Int32) ls (lv_sub hl [0, 1, 2, 3] rfl) hf
  refine lv_if_lt (tgt := 9) hx hb dX12_bundle_2 (by decide) (fun c10 => ?_) (fun c10 => hp_n (n := 5) rfl ?_)
  ·
    replace hf := ms_iT c10 hf
    exact J9 α s.heap [] B σ hM a1 a2 a3 ls (lv_sub hl [0, 1, 2, 3] rfl) hf
  ·
    replace hf := ms_iF c10 hf
    refine lv_iload_n hx hb dX12_bundle_5 rfl (lv_at hl 2 rfl) (hp_n (n := 6) rfl ?_)
    refine lv_if_gt (tgt := 13) hx hb dX12_bundle_6 (by decide) (fun c11 => ?_) (fun c11 => hp_n (n := 9) rfl ?_)
    ·
      replace hf := ms_iT c11 hf
      refine lv_aload_n hx hb dX12_bundle_13 rfl (lv_at hl 0 rfl) (hp_n (n := 14) rfl ?_)
      refine lv_iload_n hx hb dX12_bundle_14 rfl (lv_at hl 1 rfl) (hp_n (n := 15) rfl ?_)
      refine lv_iload_n hx hb dX12_bundle_15 rfl (lv_at hl 3 rfl) (hp_n (n := 16) rfl ?_)
      obtain ⟨rh12, qh12, hf⟩ := ms_bE hf
      refine m_cp (pc' := 19) B (hp_runV (As := [.int a1, .int a3]) (rest := [.ref a0]) C B (m_X12_noSize n Γ l α a0 ρ σ hM a1 a3 rh12 qh12) lb_X12_noSize lv_X12_noSize lk_X12_347 hM.1 rfl (by decide) rfl hl.1 rfl (Nat.le_of_ble_eq_true rfl) dX12_bundle_16 ⟨Nat.le_refl _, Nat.le_refl _⟩) rfl (fun Hh12 Lh12 Bh12 => ?_)
      exact J19 α Hh12 Lh12 Bh12 σ hM a1 a2 a3 rh12 ls (lv_sub hl [0, 1, 2, 3] rfl) hf
    ·
      replace hf := ms_iF c11 hf
      exact J9 α s.heap [] B σ hM a1 a2 a3 ls (lv_sub hl [0, 1, 2, 3] rfl) hf
def f_X12_peaks (n : Nat) (σ : ms_T) (a1 : Int32) (a2 : Int32) : Option (Int32 × ms_T) :=
  ms_b (f_X12_noSize n σ a1 a2) fun rh1 =>
  ms_c (f_X12_is n σ rh1) fun rh2 σh2 =>
  if rh2 = 0 then
    some ((-1 : Int32), σh2)
  else
    ms_b (f_X12_peaksOf n σh2 a2) fun σh4 =>
    ms_c (f_X12_pads n σh4 a1) fun rh5 σh5 =>
    some (rh5, σh5)
set_option maxRecDepth 100000 in
set_option maxHeartbeats 4000000 in
theorem m_X12_peaks (n : Nat) (Γ : hp_G) (l : Launch) (α : hp_T) (a0 : Nat) (ρ : Nat → Nat) (σ : ms_T) (hM : hm_M α a0 ρ σ) (a1 : Int32) (a2 : Int32) (res : (Int32 × ms_T)) (hf : f_X12_peaks n σ a1 a2 = some res) : Met l yX12_peaks (hp_ws yX12_peaks cX12_peaks 3 (some .int)) (hp_rm 44 0 0) (hp_Pc Γ α [.ref a0, .int a1, .int a2]) (hp_Qi Γ (fun r β => r = res.1 ∧ mo α β ∧ hm_M β a0 ρ res.2)) 0 0 (hp_A Γ) := by
  unfold f_X12_peaks at hf
  refine hp_start (by decide) ?_
  intro p e s m below meth c C hr hlk B0 hnm
  have C : hp_C Γ p m c cX12_peaks 3 s ([.ref a0, .int a1, .int a2] : List Value).toArray RX12 := C
  have hx := C.1.1
  have hb := C.1.2.1
  have hown := C.1.2.2.2.1
  have hts := C.1.2.2.2.2
  have B : hp_B Γ mo s α α s.heap [] := ⟨B0.1, B0.2.1, mo_rf⟩
  have hl := lv_entry ([.ref a0, .int a1, .int a2]) (n := 3) (Nat.le_of_ble_eq_true rfl)
  show W p l e (hp_rm 44 0 0) s m ([.ref a0, .int a1, .int a2] : List Value).toArray below meth c s.heap [] 0 0 (MQ below (hp_Qi Γ (fun r β => r = res.1 ∧ mo α β ∧ hm_M β a0 ρ res.2)) ([.ref a0, .int a1, .int a2] : List Value).toArray s 0 0 (hp_A Γ)) (entryFrame m ([.ref a0, .int a1, .int a2] : List Value).toArray 3)
  rw [lg_entry_eq]
  generalize (lg_sl ([.ref a0, .int a1, .int a2]) ++ List.replicate (3 - (lg_sl ([.ref a0, .int a1, .int a2])).length) Slot.unset).toArray = ls at hl ⊢
  have hl : lv_has ls 3 [(0, .ref a0), (1, .int a1), (2, .int a2)] := hl
  refine lv_aload_n hx hb dX12_peaks_0 rfl (lv_at hl 0 rfl) (hp_n (n := 1) rfl ?_)
  refine lv_aload_n hx hb dX12_peaks_1 rfl (lv_at hl 0 rfl) (hp_n (n := 2) rfl ?_)
  refine lv_iload_n hx hb dX12_peaks_2 rfl (lv_at hl 1 rfl) (hp_n (n := 3) rfl ?_)
  refine lv_iload_n hx hb dX12_peaks_3 rfl (lv_at hl 2 rfl) (hp_n (n := 4) rfl ?_)
  obtain ⟨rh1, qh1, hf⟩ := ms_bE hf
  refine m_cp (pc' := 7) B (hp_runV (As := [.int a1, .int a2]) (rest := [.ref a0]) C B (m_X12_noSize n Γ l α a0 ρ σ hM a1 a2 rh1 qh1) lb_X12_noSize lv_X12_noSize lk_X12_347 hM.1 rfl (by decide) rfl hl.1 rfl (Nat.le_of_ble_eq_true rfl) dX12_peaks_4 ⟨Nat.le_refl _, Nat.le_refl _⟩) rfl (fun Hh1 Lh1 Bh1 => ?_)
  obtain ⟨rh2, σh2, qh2, hf⟩ := ms_cE hf
  refine m_ci (pc' := 10) (a := a0) (ρ := ρ) Bh1 (hp_runV (As := [.int rh1]) (rest := []) C Bh1 (m_X12_is n Γ l α a0 ρ σ hM rh1 (rh2, σh2) qh2) lb_X12_is lv_X12_is lk_X12_309 hM.1 rfl (by decide) rfl hl.1 rfl (Nat.le_of_ble_eq_true rfl) dX12_peaks_7 ⟨Nat.le_refl _, Nat.le_refl _⟩) rfl (fun αh2 Hh2 Lh2 Bh2 Mh2 => ?_)
  refine lv_if_ne (tgt := 15) hx hb dX12_peaks_10 (by decide) (fun c3 => ?_) (fun c3 => hp_n (n := 13) rfl ?_)
  ·
    replace hf := ms_iF c3 hf
    refine lv_aload_n hx hb dX12_peaks_15 rfl (lv_at hl 0 rfl) (hp_n (n := 16) rfl ?_)
    refine lv_iload_n hx hb dX12_peaks_16 rfl (lv_at hl 2 rfl) (hp_n (n := 17) rfl ?_)
    obtain ⟨σh4, qh4, hf⟩ := ms_bE hf
    refine m_cv (pc' := 20) (a := a0) (ρ := ρ) Bh2 (hp_runV (As := [.int a2]) (rest := []) C Bh2 (m_X12_peaksOf n Γ l αh2 a0 ρ σh2 Mh2 a2 σh4 qh4) lb_X12_peaksOf lv_X12_peaksOf lk_X12_218 Mh2.1 rfl (by decide) rfl hl.1 rfl (Nat.le_of_ble_eq_true rfl) dX12_peaks_17 ⟨Nat.le_refl _, Nat.le_refl _⟩) rfl (fun αh4 Hh4 Lh4 Bh4 Mh4 => ?_)
    refine lv_aload_n hx hb dX12_peaks_20 rfl (lv_at hl 0 rfl) (hp_n (n := 21) rfl ?_)
    refine lv_iload_n hx hb dX12_peaks_21 rfl (lv_at hl 1 rfl) (hp_n (n := 22) rfl ?_)
    obtain ⟨rh5, σh5, qh5, hf⟩ := ms_cE hf
    refine m_ci (pc' := 25) (a := a0) (ρ := ρ) Bh4 (hp_runV (As := [.int a1]) (rest := []) C Bh4 (m_X12_pads n Γ l αh4 a0 ρ σh4 Mh4 a1 (rh5, σh5) qh5) lb_X12_pads lv_X12_pads lk_X12_365 Mh4.1 rfl (by decide) rfl hl.1 rfl (Nat.le_of_ble_eq_true rfl) dX12_peaks_22 ⟨Nat.le_refl _, Nat.le_refl _⟩) rfl (fun αh5 Hh5 Lh5 Bh5 Mh5 => ?_)
    cases hf
    exact q_iret C Bh5 hr hlk ⟨rfl, Bh5.2.2, Mh5⟩ dX12_peaks_25
  ·
    replace hf := ms_iT c3 hf
    refine lv_iconst (v := (-1)) hx hb dX12_peaks_13 (by decide) (hp_n (n := 14) rfl ?_)
    cases hf
    exact q_iret C Bh2 hr hlk ⟨rfl, Bh2.2.2, Mh2⟩ dX12_peaks_14
def f_J6_bitCount_0f7a4 (n : Nat) (a0 : Int32) : Option Int32 :=
  ms_l ((a0 - (((a0).toUInt32 >>> (((1 : Int32)).toUInt32 &&& Int32.toUInt32 31)).toInt32 &&& (1431655765 : Int32)))) fun x1 =>
  ms_l (((x1 &&& (858993459 : Int32)) + (((x1).toUInt32 >>> (((2 : Int32)).toUInt32 &&& Int32.toUInt32 31)).toInt32 &&& (858993459 : Int32)))) fun x2 =>
  ms_l (((x2 + ((x2).toUInt32 >>> (((4 : Int32)).toUInt32 &&& Int32.toUInt32 31)).toInt32) &&& (252645135 : Int32))) fun x3 =>
  ms_l ((x3 + ((x3).toUInt32 >>> (((8 : Int32)).toUInt32 &&& Int32.toUInt32 31)).toInt32)) fun x4 =>
  ms_l ((x4 + ((x4).toUInt32 >>> (((16 : Int32)).toUInt32 &&& Int32.toUInt32 31)).toInt32)) fun x5 =>
  some (x5 &&& (63 : Int32))
set_option maxRecDepth 100000 in
set_option maxHeartbeats 4000000 in
theorem m_J6_bitCount_0f7a4 (n : Nat) (Γ : hp_G) (l : Launch) (α : hp_T) (a0 : Int32) (res : Int32) (hf : f_J6_bitCount_0f7a4 n a0 = some res) : Met l yJ6_bitCount_0f7a4 (hp_ws yJ6_bitCount_0f7a4 cJ6_bitCount_0f7a4 1 (some .int)) (hp_rm 0 0 0) (hp_Pc Γ α [.int a0]) (hp_Qi Γ (fun r β => β = α ∧ r = res)) 0 0 (hp_A Γ) := by
  unfold f_J6_bitCount_0f7a4 at hf
  refine hp_start (by decide) ?_
  intro p e s m below meth c C hr hlk B0 hnm
  have C : hp_C Γ p m c cJ6_bitCount_0f7a4 1 s ([.int a0] : List Value).toArray RJ6 := C
  have hx := C.1.1
  have hb := C.1.2.1
  have hown := C.1.2.2.2.1
  have hts := C.1.2.2.2.2
  have B : hp_B Γ (fun _ _ => True) s α α s.heap [] := ⟨B0.1, B0.2.1, trivial⟩
  have hl := lv_entry ([.int a0]) (n := 1) (Nat.le_of_ble_eq_true rfl)
  show W p l e (hp_rm 0 0 0) s m ([.int a0] : List Value).toArray below meth c s.heap [] 0 0 (MQ below (hp_Qi Γ (fun r β => β = α ∧ r = res)) ([.int a0] : List Value).toArray s 0 0 (hp_A Γ)) (entryFrame m ([.int a0] : List Value).toArray 1)
  rw [lg_entry_eq]
  generalize (lg_sl ([.int a0]) ++ List.replicate (1 - (lg_sl ([.int a0])).length) Slot.unset).toArray = ls at hl ⊢
  have hl : lv_has ls 1 [(0, .int a0)] := hl
  refine lv_iload_n hx hb dJ6_bitCount_0f7a4_0 rfl (lv_at hl 0 rfl) (hp_n (n := 1) rfl ?_)
  refine lv_iload_n hx hb dJ6_bitCount_0f7a4_1 rfl (lv_at hl 0 rfl) (hp_n (n := 2) rfl ?_)
  refine lv_iconst (v := 1) hx hb dJ6_bitCount_0f7a4_2 (by decide) (hp_n (n := 3) rfl ?_)
  refine lv_iushr hx hb dJ6_bitCount_0f7a4_3 rfl (hp_n (n := 4) rfl ?_)
  refine lv_ldcw hx hb hown (hts _ kc_J6_265) dJ6_bitCount_0f7a4_4 (hp_n (n := 7) rfl ?_)
  refine lv_iand hx hb dJ6_bitCount_0f7a4_7 (hp_n (n := 8) rfl ?_)
  refine lv_isub hx hb dJ6_bitCount_0f7a4_8 (hp_n (n := 9) rfl ?_)
  refine lv_topi (fun x1 ex1 => ?_)
  replace hf := ms_lE ex1 hf
  refine lv_istore_n (lv' := [(0, .int x1)]) hx hb dJ6_bitCount_0f7a4_9 rfl hl (by decide) rfl (fun ls hl => hp_n (n := 10) rfl ?_)
  refine lv_iload_n hx hb dJ6_bitCount_0f7a4_10 rfl (lv_at hl 0 rfl) (hp_n (n := 11) rfl ?_)
  refine lv_ldcw hx hb hown (hts _ kc_J6_266) dJ6_bitCount_0f7a4_11 (hp_n (n := 14) rfl ?_)
  refine lv_iand hx hb dJ6_bitCount_0f7a4_14 (hp_n (n := 15) rfl ?_)
  refine lv_iload_n hx hb dJ6_bitCount_0f7a4_15 rfl (lv_at hl 0 rfl) (hp_n (n := 16) rfl ?_)
  refine lv_iconst (v := 2) hx hb dJ6_bitCount_0f7a4_16 (by decide) (hp_n (n := 17) rfl ?_)
  refine lv_iushr hx hb dJ6_bitCount_0f7a4_17 rfl (hp_n (n := 18) rfl ?_)
  refine lv_ldcw hx hb hown (hts _ kc_J6_266) dJ6_bitCount_0f7a4_18 (hp_n (n := 21) rfl ?_)
  refine lv_iand hx hb dJ6_bitCount_0f7a4_21 (hp_n (n := 22) rfl ?_)
  refine lv_iadd hx hb dJ6_bitCount_0f7a4_22 (hp_n (n := 23) rfl ?_)
  refine lv_topi (fun x2 ex2 => ?_)
  replace hf := ms_lE ex2 hf
  refine lv_istore_n (lv' := [(0, .int x2)]) hx hb dJ6_bitCount_0f7a4_23 rfl hl (by decide) rfl (fun ls hl => hp_n (n := 24) rfl ?_)
  refine lv_iload_n hx hb dJ6_bitCount_0f7a4_24 rfl (lv_at hl 0 rfl) (hp_n (n := 25) rfl ?_)
  refine lv_iload_n hx hb dJ6_bitCount_0f7a4_25 rfl (lv_at hl 0 rfl) (hp_n (n := 26) rfl ?_)
  refine lv_iconst (v := 4) hx hb dJ6_bitCount_0f7a4_26 (by decide) (hp_n (n := 27) rfl ?_)
  refine lv_iushr hx hb dJ6_bitCount_0f7a4_27 rfl (hp_n (n := 28) rfl ?_)
  refine lv_iadd hx hb dJ6_bitCount_0f7a4_28 (hp_n (n := 29) rfl ?_)
  refine lv_ldcw hx hb hown (hts _ kc_J6_267) dJ6_bitCount_0f7a4_29 (hp_n (n := 32) rfl ?_)
  refine lv_iand hx hb dJ6_bitCount_0f7a4_32 (hp_n (n := 33) rfl ?_)
  refine lv_topi (fun x3 ex3 => ?_)
  replace hf := ms_lE ex3 hf
  refine lv_istore_n (lv' := [(0, .int x3)]) hx hb dJ6_bitCount_0f7a4_33 rfl hl (by decide) rfl (fun ls hl => hp_n (n := 34) rfl ?_)
  refine lv_iload_n hx hb dJ6_bitCount_0f7a4_34 rfl (lv_at hl 0 rfl) (hp_n (n := 35) rfl ?_)
  refine lv_iload_n hx hb dJ6_bitCount_0f7a4_35 rfl (lv_at hl 0 rfl) (hp_n (n := 36) rfl ?_)
  refine lv_bipush (v := 8) hx hb dJ6_bitCount_0f7a4_36 (by decide) (hp_n (n := 38) rfl ?_)
  refine lv_iushr hx hb dJ6_bitCount_0f7a4_38 rfl (hp_n (n := 39) rfl ?_)
  refine lv_iadd hx hb dJ6_bitCount_0f7a4_39 (hp_n (n := 40) rfl ?_)
  refine lv_topi (fun x4 ex4 => ?_)
  replace hf := ms_lE ex4 hf
  refine lv_istore_n (lv' := [(0, .int x4)]) hx hb dJ6_bitCount_0f7a4_40 rfl hl (by decide) rfl (fun ls hl => hp_n (n := 41) rfl ?_)
  refine lv_iload_n hx hb dJ6_bitCount_0f7a4_41 rfl (lv_at hl 0 rfl) (hp_n (n := 42) rfl ?_)
  refine lv_iload_n hx hb dJ6_bitCount_0f7a4_42 rfl (lv_at hl 0 rfl) (hp_n (n := 43) rfl ?_)
  refine lv_bipush (v := 16) hx hb dJ6_bitCount_0f7a4_43 (by decide) (hp_n (n := 45) rfl ?_)
  refine lv_iushr hx hb dJ6_bitCount_0f7a4_45 rfl (hp_n (n := 46) rfl ?_)
  refine lv_iadd hx hb dJ6_bitCount_0f7a4_46 (hp_n (n := 47) rfl ?_)
  refine lv_topi (fun x5 ex5 => ?_)
  replace hf := ms_lE ex5 hf
  refine lv_istore_n (lv' := [(0, .int x5)]) hx hb dJ6_bitCount_0f7a4_47 rfl hl (by decide) rfl (fun ls hl => hp_n (n := 48) rfl ?_)
  refine lv_iload_n hx hb dJ6_bitCount_0f7a4_48 rfl (lv_at hl 0 rfl) (hp_n (n := 49) rfl ?_)
  refine lv_bipush (v := 63) hx hb dJ6_bitCount_0f7a4_49 (by decide) (hp_n (n := 51) rfl ?_)
  refine lv_iand hx hb dJ6_bitCount_0f7a4_51 (hp_n (n := 52) rfl ?_)
  cases hf
  exact q_iret C B hr hlk ⟨rfl, rfl⟩ dJ6_bitCount_0f7a4_52
def f_X12_extend_L55 (n : Nat) : Nat → ms_T → Int32 → Int32 → Option (Int32 × ms_T)
  | 0, _, _, _ => none
  | k55 + 1, σh5, v3_h5, v4_h5 =>
    if (v4_h5 - v4_h5 / (2 : Int32) * (2 : Int32)) = (1 : Int32) then
      ms_g (2 : Int32) 1980 <|
      ms_g (2 : Int32) 1980 <|
      ms_l (ms_sE σh5 40 ((2 : Int32)).toNatClampNeg ((ms_E σh5 40 ((2 : Int32)).toNatClampNeg) - (1 : Int32))) fun σh16 =>
      ms_g (2 : Int32) 1980 <|
      ms_g ((8 : Int32) + (ms_E σh16 40 ((2 : Int32)).toNatClampNeg)) 1980 <|
      ms_b (f_X12_both n σh16 (ms_E σh16 40 (((8 : Int32) + (ms_E σh16 40 ((2 : Int32)).toNatClampNeg))).toNatClampNeg) v3_h5) fun rh19 =>
      ms_l ((v4_h5 / (2 : Int32))) fun x20 =>
      (f_X12_extend_L55 n k55) σh16 rh19 x20
    else
      ms_g (2 : Int32) 1980 <|
      ms_g ((8 : Int32) + (ms_E σh5 40 ((2 : Int32)).toNatClampNeg)) 1980 <|
      ms_l (ms_sE σh5 40 (((8 : Int32) + (ms_E σh5 40 ((2 : Int32)).toNatClampNeg))).toNatClampNeg v3_h5) fun σh9 =>
      ms_g (2 : Int32) 1980 <|
      ms_g (2 : Int32) 1980 <|
      ms_l (ms_sE σh9 40 ((2 : Int32)).toNatClampNeg ((ms_E σh9 40 ((2 : Int32)).toNatClampNeg) + (1 : Int32))) fun σh12 =>
      ms_g (2 : Int32) 1980 <|
      some ((ms_E σh12 40 ((2 : Int32)).toNatClampNeg), σh12)
def f_X12_extend_J42 (n : Nat) (σh2 : ms_T) (v1_h2 : Int32) (v2_h2 : Int32) (w0_h2 : Int32) : Option (Int32 × ms_T) :=
  ms_c (f_X12_is n σh2 w0_h2) fun rh3 σh3 =>
  if rh3 = 0 then
    some ((-1 : Int32), σh3)
  else
    f_X12_extend_L55 n n σh3 v2_h2 v1_h2
def f_X12_extend_J20 (n : Nat) (σh21 : ms_T) (v1_h21 : Int32) (v2_h21 : Int32) : Option (Int32 × ms_T) :=
  f_X12_extend_J42 n σh21 v1_h21 v2_h21 (1 : Int32)
def f_X12_extend (n : Nat) (σ : ms_T) (a1 : Int32) (a2 : Int32) : Option (Int32 × ms_T) :=
  ms_b (f_X12_isIn n a1 (0 : Int32) (1000000 : Int32)) fun rh1 =>
  if rh1 = 0 then
    f_X12_extend_J20 n σ a1 a2
  else
    ms_b (f_X12_isMark n σ a2) fun rh23 =>
    if rh23 = 0 then
      f_X12_extend_J20 n σ a1 a2
    else
      ms_b (f_J6_bitCount_0f7a4 n a1) fun rh25 =>
      ms_g (2 : Int32) 1980 <|
      if rh25 = (ms_E σ 40 ((2 : Int32)).toNatClampNeg) then
        f_X12_extend_J42 n σ a1 a2 (0 : Int32)
      else
        f_X12_extend_J42 n σ a1 a2 (5 : Int32)
set_option maxRecDepth 100000 in
set_option maxHeartbeats 4000000 in
theorem m_X12_extend (n : Nat) (Γ : hp_G) (l : Launch) (α : hp_T) (a0 : Nat) (ρ : Nat → Nat) (σ : ms_T) (hM : hm_M α a0 ρ σ) (a1 : Int32) (a2 : Int32) (res : (Int32 × ms_T)) (hf : f_X12_extend n σ a1 a2 = some res) : Met l yX12_extend (hp_ws yX12_extend cX12_extend 5 (some .int)) (hp_rm 2 0 0) (hp_Pc Γ α [.ref a0, .int a1, .int a2]) (hp_Qi Γ (fun r β => r = res.1 ∧ mo α β ∧ hm_M β a0 ρ res.2)) 0 0 (hp_A Γ) := by
  unfold f_X12_extend at hf
  refine hp_start (by decide) ?_
  intro p e s m below meth c C hr hlk B0 hnm
  have C : hp_C Γ p m c cX12_extend 5 s ([.ref a0, .int a1, .int a2] : List Value).toArray RX12 := C
  have hx := C.1.1
  have hb := C.1.2.1
  have hown := C.1.2.2.2.1
  have hts := C.1.2.2.2.2
  have B : hp_B Γ mo s α α s.heap [] := ⟨B0.1, B0.2.1, mo_rf⟩
  have hl := lv_entry ([.ref a0, .int a1, .int a2]) (n := 5) (Nat.le_of_ble_eq_true rfl)
  show W p l e (hp_rm 2 0 0) s m ([.ref a0, .int a1, .int a2] : List Value).toArray below meth c s.heap [] 0 0 (MQ below (hp_Qi Γ (fun r β => r = res.1 ∧ mo α β ∧ hm_M β a0 ρ res.2)) ([.ref a0, .int a1, .int a2] : List Value).toArray s 0 0 (hp_A Γ)) (entryFrame m ([.ref a0, .int a1, .int a2] : List Value).toArray 5)
  rw [lg_entry_eq]
  generalize (lg_sl ([.ref a0, .int a1, .int a2]) ++ List.replicate (5 - (lg_sl ([.ref a0, .int a1, .int a2])).length) Slot.unset).toArray = ls at hl ⊢
  have hl : lv_has ls 5 [(0, .ref a0), (1, .int a1), (2, .int a2)] := hl
  refine lv_aload_n hx hb dX12_extend_0 rfl (lv_at hl 0 rfl) (hp_n (n := 1) rfl ?_)
  refine lv_iload_n hx hb dX12_extend_1 rfl (lv_at hl 1 rfl) (hp_n (n := 2) rfl ?_)
  refine lv_iconst (v := 0) hx hb dX12_extend_2 (by decide) (hp_n (n := 3) rfl ?_)
  refine lv_ldcw hx hb hown (hts _ kc_X12_375) dX12_extend_3 (hp_n (n := 6) rfl ?_)
  obtain ⟨rh1, qh1, hf⟩ := ms_bE hf
  refine m_cp (pc' := 9) B (hp_runS (As := [.int a1, .int (0 : Int32), .int (1000000 : Int32)]) (rest := [.ref a0]) C B (m_X12_isIn n Γ l α a1 (0 : Int32) (1000000 : Int32) rh1 qh1) lb_X12_isIn ls_X12_isIn lk_X12_113 rfl (by decide) rfl hl.1 rfl (Nat.le_of_ble_eq_true rfl) dX12_extend_6 ⟨Nat.le_refl _, Nat.le_refl _⟩) rfl (fun Hh1 Lh1 Bh1 => ?_)
  have J42 : ∀ (αh2 : hp_T) (Hh2 : Heap) (Lh2 : List Loc) (Bh2 : hp_B Γ mo s α αh2 Hh2 Lh2) (σh2 : ms_T) (Mh2 : hm_M αh2 a0 ρ σh2) (v1_h2 : Int32) (v2_h2 : Int32) (w0_h2 : Int32) (ls : Array Slot) (hl : lv_has ls 5 [(0, .ref a0), (1, .int v1_h2), (2, .int v2_h2)]) (hf : f_X12_extend_J42 n σh2 v1_h2 v2_h2 w0_h2 = some res), W p l e (hp_rm 2 0 0) s m ([.ref a0, .int a1, .int a2] : List Value).toArray below meth c Hh2 Lh2 0 0 (MQ below (hp_Qi Γ (fun r β => r = res.1 ∧ mo α β ∧ hm_M β a0 ρ res.2)) ([.ref a0, .int a1, .int a2] : List Value).toArray s 0 0 (hp_A Γ)) (F0 m 42 ls [.int w0_h2, .ref a0]) := by
    intro αh2 Hh2 Lh2 Bh2 σh2 Mh2 v1_h2 v2_h2 w0_h2 ls hl hf
    unfold f_X12_extend_J42 at hf
    obtain ⟨rh3, σh3, qh3, hf⟩ := ms_cE hf
    refine m_ci (pc' := 45) (a := a0) (ρ := ρ) Bh2 (hp_runV (As := [.int w0_h2]) (rest := []) C Bh2 (m_X12_is n Γ l αh2 a0 ρ σh2 Mh2 w0_h2 (rh3, σh3) qh3) lb_X12_is lv_X12_is lk_X12_309 Mh2.1 rfl (by decide) rfl hl.1 rfl (Nat.le_of_ble_eq_true rfl) dX12_extend_42 ⟨Nat.le_refl _, Nat.le_refl _⟩) rfl (fun αh3 Hh3 Lh3 Bh3 Mh3 => ?_)
    refine lv_if_ne (tgt := 50) hx hb dX12_extend_45 (by decide) (fun c4 => ?_) (fun c4 => hp_n (n := 48) rfl ?_)
    ·
      replace hf := ms_iF c4 hf
      refine lv_iload_n hx hb dX12_extend_50 rfl (lv_at hl 2 rfl) (hp_n (n := 51) rfl ?_)
      refine lv_istore_n (lv' := [(3, .int v2_h2), (0, .ref a0), (1, .int v1_h2), (2, .int v2_h2)]) hx hb dX12_extend_51 rfl hl (by decide) rfl (fun ls hl => hp_n (n := 52) rfl ?_)
      refine lv_iload_n hx hb dX12_extend_52 rfl (lv_at hl 2 rfl) (hp_n (n := 53) rfl ?_)
      have J55 : ∀ (k55 : Nat) (αh5 : hp_T) (Hh5 : Heap) (Lh5 : List Loc) (Bh5 : hp_B Γ mo s α αh5 Hh5 Lh5) (σh5 : ms_T) (Mh5 : hm_M αh5 a0 ρ σh5) (v3_h5 : Int32) (v4_h5 : Int32) (ls : Array Slot) (hl : lv_has ls 5 [(0, .ref a0), (3, .int v3_h5), (4, .int v4_h5)]) (hf : f_X12_extend_L55 n k55 σh5 v3_h5 v4_h5 = some res), W p l e (hp_rm 2 0 0) s m ([.ref a0, .int a1, .int a2] : List Value).toArray below meth c Hh5 Lh5 0 0 (MQ below (hp_Qi Γ (fun r β => r = res.1 ∧ mo α β ∧ hm_M β a0 ρ res.2)) ([.ref a0, .int a1, .int a2] : List Value).toArray s 0 0 (hp_A Γ)) (F0 m 55 ls []) := by
        intro k55
        induction k55 with
        | zero => intro αh5 Hh5 Lh5 Bh5 σh5 Mh5 v3_h5 v4_h5 ls hl hf; rw [f_X12_extend_L55.eq_1] at hf; cases hf
        | succ k55 ih55 =>
          intro αh5 Hh5 Lh5 Bh5 σh5 Mh5 v3_h5 v4_h5 ls hl hf
          rw [f_X12_extend_L55.eq_2] at hf
          refine lv_iload hx hb dX12_extend_55 (lv_at hl 2 rfl) (hp_n (n := 57) rfl ?_)
          refine lv_iconst (v := 2) hx hb dX12_extend_57 (by decide) (hp_n (n := 58) rfl ?_)
          refine lv_irem hx hb dX12_extend_58 (by decide) (hp_n (n := 59) rfl ?_)
          refine lv_iconst (v := 1) hx hb dX12_extend_59 (by decide) (hp_n (n := 60) rfl ?_)
          refine lv_icmp_ne (tgt := 102) hx hb dX12_extend_60 (by decide) (fun c6 => ?_) (fun c6 => hp_n (n := 63) rfl ?_)
          ·
            replace hf := ms_iF c6 hf
            refine lv_aload_n hx hb dX12_extend_102 rfl (lv_at hl 0 rfl) (hp_n (n := 103) rfl ?_)
            refine m_getr (κ := 40) (k := 0) (pc' := 106) C Bh5 Mh5 fl_X12_7 rfl (by decide) dX12_extend_103 rfl ?_
            refine lv_bipush (v := 8) hx hb dX12_extend_106 (by decide) (hp_n (n := 108) rfl ?_)
            refine lv_aload_n hx hb dX12_extend_108 rfl (lv_at hl 0 rfl) (hp_n (n := 109) rfl ?_)
            refine m_getr (κ := 40) (k := 0) (pc' := 112) C Bh5 Mh5 fl_X12_7 rfl (by decide) dX12_extend_109 rfl ?_
            refine lv_iconst (v := 2) hx hb dX12_extend_112 (by decide) (hp_n (n := 113) rfl ?_)
            obtain ⟨g7, hf⟩ := ms_gE hf
            refine m_ial (κ := 40) (φ := 650) (n := 1980) (pc' := 114) C Bh5 Mh5 (by decide) (by decide) rfl g7 dX12_extend_113 rfl ?_
            refine lv_iadd hx hb dX12_extend_114 (hp_n (n := 115) rfl ?_)
            refine lv_iload_n hx hb dX12_extend_115 rfl (lv_at hl 1 rfl) (hp_n (n := 116) rfl ?_)
            obtain ⟨g8, hf⟩ := ms_gE hf
            refine m_ias (κ := 40) (φ := 650) (n := 1980) (pc' := 117) C Bh5 Mh5 (by decide) (by decide) rfl g8 dX12_extend_116 rfl (fun αh9 Hh9 Lh9 σh9 eh9 Bh9 Mh9 => ?_)
            replace hf := ms_lE eh9 hf
            refine lv_aload_n hx hb dX12_extend_117 rfl (lv_at hl 0 rfl) (hp_n (n := 118) rfl ?_)
            refine m_getr (κ := 40) (k := 0) (pc' := 121) C Bh9 Mh9 fl_X12_7 rfl (by decide) dX12_extend_118 rfl ?_
            refine lv_iconst (v := 2) hx hb dX12_extend_121 (by decide) (hp_n (n := 122) rfl ?_)
            refine lv_dup2_11 hx hb dX12_extend_122 rfl rfl (hp_n (n := 123) rfl ?_)
            obtain ⟨g10, hf⟩ := ms_gE hf
            refine m_ial (κ := 40) (φ := 650) (n := 1980) (pc' := 124) C Bh9 Mh9 (by decide) (by decide) rfl g10 dX12_extend_123 rfl ?_
            refine lv_iconst (v := 1) hx hb dX12_extend_124 (by decide) (hp_n (n := 125) rfl ?_)
            refine lv_iadd hx hb dX12_extend_125 (hp_n (n := 126) rfl ?_)
            obtain ⟨g11, hf⟩ := ms_gE hf
            refine m_ias (κ := 40) (φ := 650) (n := 1980) (pc' := 127) C Bh9 Mh9 (by decide) (by decide) rfl g11 dX12_extend_126 rfl (fun αh12 Hh12 Lh12 σh12 eh12 Bh12 Mh12 => ?_)
            replace hf := ms_lE eh12 hf
            refine lv_aload_n hx hb dX12_extend_127 rfl (lv_at hl 0 rfl) (hp_n (n := 128) rfl ?_)
            refine m_getr (κ := 40) (k := 0) (pc' := 131) C Bh12 Mh12 fl_X12_7 rfl (by decide) dX12_extend_128 rfl ?_
            refine lv_iconst (v := 2) hx hb dX12_extend_131 (by decide) (hp_n (n := 132) rfl ?_)
            obtain ⟨g13, hf⟩ := ms_gE hf
            refine m_ial (κ := 40) (φ := 650) (n := 1980) (pc' := 133) C Bh12 Mh12 (by decide) (by decide) rfl g13 dX12_extend_132 rfl ?_
            cases hf
            exact q_iret C Bh12 hr hlk ⟨rfl, Bh12.2.2, Mh12⟩ dX12_extend_133
          ·
            replace hf := ms_iT c6 hf
            refine lv_aload_n hx hb dX12_extend_63 rfl (lv_at hl 0 rfl) (hp_n (n := 64) rfl ?_)
            refine m_getr (κ := 40) (k := 0) (pc' := 67) C Bh5 Mh5 fl_X12_7 rfl (by decide) dX12_extend_64 rfl ?_
            refine lv_iconst (v := 2) hx hb dX12_extend_67 (by decide) (hp_n (n := 68) rfl ?_)
            refine lv_dup2_11 hx hb dX12_extend_68 rfl rfl (hp_n (n := 69) rfl ?_)
            obtain ⟨g14, hf⟩ := ms_gE hf
            refine m_ial (κ := 40) (φ := 650) (n := 1980) (pc' := 70) C Bh5 Mh5 (by decide) (by decide) rfl g14 dX12_extend_69 rfl ?_
            refine lv_iconst (v := 1) hx hb dX12_extend_70 (by decide) (hp_n (n := 71) rfl ?_)
            refine lv_isub hx hb dX12_extend_71 (hp_n (n := 72) rfl ?_)
            obtain ⟨g15, hf⟩ := ms_gE hf
            refine m_ias (κ := 40) (φ := 650) (n := 1980) (pc' := 73) C Bh5 Mh5 (by decide) (by decide) rfl g15 dX12_extend_72 rfl (fun αh16 Hh16 Lh16 σh16 eh16 Bh16 Mh16 => ?_)
            replace hf := ms_lE eh16 hf
            refine lv_aload_n hx hb dX12_extend_73 rfl (lv_at hl 0 rfl) (hp_n (n := 74) rfl ?_)
            refine lv_aload_n hx hb dX12_extend_74 rfl (lv_at hl 0 rfl) (hp_n (n := 75) rfl ?_)
            refine m_getr (κ := 40) (k := 0) (pc' := 78) C Bh16 Mh16 fl_X12_7 rfl (by decide) dX12_extend_75 rfl ?_
            refine lv_bipush (v := 8) hx hb dX12_extend_78 (by decide) (hp_n (n := 80) rfl ?_)
            refine lv_aload_n hx hb dX12_extend_80 rfl (lv_at hl 0 rfl) (hp_n (n := 81) rfl ?_)
            refine m_getr (κ := 40) (k := 0) (pc' := 84) C Bh16 Mh16 fl_X12_7 rfl (by decide) dX12_extend_81 rfl ?_
            refine lv_iconst (v := 2) hx hb dX12_extend_84 (by decide) (hp_n (n := 85) rfl ?_)
            obtain ⟨g17, hf⟩ := ms_gE hf
            refine m_ial (κ := 40) (φ := 650) (n := 1980) (pc' := 86) C Bh16 Mh16 (by decide) (by decide) rfl g17 dX12_extend_85 rfl ?_
            refine lv_iadd hx hb dX12_extend_86 (hp_n (n := 87) rfl ?_)
            obtain ⟨g18, hf⟩ := ms_gE hf
            refine m_ial (κ := 40) (φ := 650) (n := 1980) (pc' := 88) C Bh16 Mh16 (by decide) (by decide) rfl g18 dX12_extend_87 rfl ?_
            refine lv_iload_n hx hb dX12_extend_88 rfl (lv_at hl 1 rfl) (hp_n (n := 89) rfl ?_)
            obtain ⟨rh19, qh19, hf⟩ := ms_bE hf
            refine m_cp (pc' := 92) Bh16 (hp_runV (As := [.int (ms_E σh16 40 (((8 : Int32) + (ms_E σh16 40 ((2 : Int32)).toNatClampNeg))).toNatClampNeg), .int v3_h5]) (rest := []) C Bh16 (m_X12_both n Γ l αh16 a0 ρ σh16 Mh16 (ms_E σh16 40 (((8 : Int32) + (ms_E σh16 40 ((2 : Int32)).toNatClampNeg))).toNatClampNeg) v3_h5 rh19 qh19) lb_X12_both lv_X12_both lk_X12_136 Mh16.1 rfl (by decide) rfl hl.1 rfl (Nat.le_of_ble_eq_true rfl) dX12_extend_89 ⟨Nat.le_refl _, Nat.le_refl _⟩) rfl (fun Hh19 Lh19 Bh19 => ?_)
            refine lv_istore_n (lv' := [(3, .int rh19), (0, .ref a0), (4, .int v4_h5)]) hx hb dX12_extend_92 rfl hl (by decide) rfl (fun ls hl => hp_n (n := 93) rfl ?_)
            refine lv_iload hx hb dX12_extend_93 (lv_at hl 2 rfl) (hp_n (n := 95) rfl ?_)
            refine lv_iconst (v := 2) hx hb dX12_extend_95 (by decide) (hp_n (n := 96) rfl ?_)
            refine lv_idiv hx hb dX12_extend_96 (by decide) (hp_n (n := 97) rfl ?_)
            refine lv_topi (fun x20 ex20 => ?_)
            replace hf := ms_lE ex20 hf
            refine lv_istore (lv' := [(4, .int x20), (3, .int rh19), (0, .ref a0)]) hx hb dX12_extend_97 hl (by decide) rfl (fun ls hl => hp_n (n := 99) rfl ?_)
            refine lv_goto (tgt := 55) hx hb dX12_extend_99 (by decide) ?_
            exact ih55 αh16 Hh19 Lh19 Bh19 σh16 Mh16 rh19 x20 ls (lv_sub hl [2, 1, 0] rfl) hf
      refine lv_istore (lv' := [(4, .int v1_h2), (3, .int v2_h2), (0, .ref a0), (1, .int v1_h2), (2, .int v2_h2)]) hx hb dX12_extend_53 hl (by decide) rfl (fun ls hl => hp_n (n := 55) rfl ?_)
      exact J55 n αh3 Hh3 Lh3 Bh3 σh3 Mh3 v2_h2 v1_h2 ls (lv_sub hl [2, 1, 0] rfl) hf
    ·
      replace hf := ms_iT c4 hf
      refine lv_iconst (v := (-1)) hx hb dX12_extend_48 (by decide) (hp_n (n := 49) rfl ?_)
      cases hf
      exact q_iret C Bh3 hr hlk ⟨rfl, Bh3.2.2, Mh3⟩ dX12_extend_49
  have J20 : ∀ (αh21 : hp_T) (Hh21 : Heap) (Lh21 : List Loc) (Bh21 : hp_B Γ mo s α αh21 Hh21 Lh21) (σh21 : ms_T) (Mh21 : hm_M αh21 a0 ρ σh21) (v1_h21 : Int32) (v2_h21 : Int32) (ls : Array Slot) (hl : lv_has ls 5 [(0, .ref a0), (1, .int v1_h21), (2, .int v2_h21)]) (hf : f_X12_extend_J20 n σh21 v1_h21 v2_h21 = some res), W p l e (hp_rm 2 0 0) s m ([.ref a0, .int a1, .int a2] : List Value).toArray below meth c Hh21 Lh21 0 0 (MQ below (hp_Qi Γ (fun r β => r = res.1 ∧ mo α β ∧ hm_M β a0 ρ res.2)) ([.ref a0, .int a1, .int a2] : List Value).toArray s 0 0 (hp_A Γ)) (F0 m 20 ls [.ref a0]) := by
    intro αh21 Hh21 Lh21 Bh21 σh21 Mh21 v1_h21 v2_h21 ls hl hf
    unfold f_X12_extend_J20 at hf
    refine lv_iconst (v := 1) hx hb dX12_extend_20 (by decide) (hp_n (n := 21) rfl ?_)
    refine lv_goto (tgt := 42) hx hb dX12_extend_21 (by decide) ?_
    exact J42 αh21 Hh21 Lh21 Bh21 σh21 Mh21 v1_h21 v2_h21 (1 : Int32) ls (lv_sub hl [0, 1, 2] rfl) hf
  refine lv_if_eq (tgt := 20) hx hb dX12_extend_9 (by decide) (fun c22 => ?_) (fun c22 => hp_n (n := 12) rfl ?_)
  ·
    replace hf := ms_iT c22 hf
    exact J20 α Hh1 Lh1 Bh1 σ hM a1 a2 ls (lv_sub hl [0, 1, 2] rfl) hf
  ·
    replace hf := ms_iF c22 hf
    refine lv_aload_n hx hb dX12_extend_12 rfl (lv_at hl 0 rfl) (hp_n (n := 13) rfl ?_)
    refine lv_iload_n hx hb dX12_extend_13 rfl (lv_at hl 2 rfl) (hp_n (n := 14) rfl ?_)
    obtain ⟨rh23, qh23, hf⟩ := ms_bE hf
    refine m_cp (pc' := 17) Bh1 (hp_runV (As := [.int a2]) (rest := [.ref a0]) C Bh1 (m_X12_isMark n Γ l α a0 ρ σ hM a2 rh23 qh23) lb_X12_isMark lv_X12_isMark lk_X12_321 hM.1 rfl (by decide) rfl hl.1 rfl (Nat.le_of_ble_eq_true rfl) dX12_extend_14 ⟨Nat.le_refl _, Nat.le_refl _⟩) rfl (fun Hh23 Lh23 Bh23 => ?_)
    refine lv_if_ne (tgt := 24) hx hb dX12_extend_17 (by decide) (fun c24 => ?_) (fun c24 => hp_n (n := 20) rfl ?_)
    ·
      replace hf := ms_iF c24 hf
      refine lv_iload_n hx hb dX12_extend_24 rfl (lv_at hl 1 rfl) (hp_n (n := 25) rfl ?_)
      obtain ⟨rh25, qh25, hf⟩ := ms_bE hf
      refine m_cp (pc' := 28) Bh23 (hp_runS (As := [.int a1]) (rest := [.ref a0]) C Bh23 (m_J6_bitCount_0f7a4 n Γ l α a1 rh25 qh25) lb_J6_bitCount_0f7a4 ls_J6_bitCount_0f7a4 lk_X12_376 rfl (by decide) rfl hl.1 rfl (Nat.le_of_ble_eq_true rfl) dX12_extend_25 ⟨Nat.le_refl _, Nat.le_refl _⟩) rfl (fun Hh25 Lh25 Bh25 => ?_)
      refine lv_aload_n hx hb dX12_extend_28 rfl (lv_at hl 0 rfl) (hp_n (n := 29) rfl ?_)
      refine m_getr (κ := 40) (k := 0) (pc' := 32) C Bh25 hM fl_X12_7 rfl (by decide) dX12_extend_29 rfl ?_
      refine lv_iconst (v := 2) hx hb dX12_extend_32 (by decide) (hp_n (n := 33) rfl ?_)
      obtain ⟨g26, hf⟩ := ms_gE hf
      refine m_ial (κ := 40) (φ := 650) (n := 1980) (pc' := 34) C Bh25 hM (by decide) (by decide) rfl g26 dX12_extend_33 rfl ?_
      refine lv_icmp_eq (tgt := 41) hx hb dX12_extend_34 (by decide) (fun c27 => ?_) (fun c27 => hp_n (n := 37) rfl ?_)
      ·
        replace hf := ms_iT c27 hf
        refine lv_iconst (v := 0) hx hb dX12_extend_41 (by decide) (hp_n (n := 42) rfl ?_)
        exact J42 α Hh25 Lh25 Bh25 σ hM a1 a2 (0 : Int32) ls (lv_sub hl [0, 1, 2] rfl) hf
      ·
        replace hf := ms_iF c27 hf
        refine lv_iconst (v := 5) hx hb dX12_extend_37 (by decide) (hp_n (n := 38) rfl ?_)
        refine lv_goto (tgt := 42) hx hb dX12_extend_38 (by decide) ?_
        exact J42 α Hh25 Lh25 Bh25 σ hM a1 a2 (5 : Int32) ls (lv_sub hl [0, 1, 2] rfl) hf
    ·
      replace hf := ms_iT c24 hf
      exact J20 α Hh23 Lh23 Bh23 σ hM a1 a2 ls (lv_sub hl [0, 1, 2] rfl) hf
def f_X12_isThing (n : Nat) (σ : ms_T) (a1 : Int32) (a2 : Int32) : Option Int32 :=
  if a1 < 0 then
    some (0 : Int32)
  else
    if a2 ≤ a1 then
      some (0 : Int32)
    else
      some (1 : Int32)
set_option maxRecDepth 100000 in
set_option maxHeartbeats 4000000 in
theorem m_X12_isThing (n : Nat) (Γ : hp_G) (l : Launch) (α : hp_T) (a0 : Nat) (ρ : Nat → Nat) (σ : ms_T) (hM : hm_M α a0 ρ σ) (a1 : Int32) (a2 : Int32) (res : Int32) (hf : f_X12_isThing n σ a1 a2 = some res) : Met l yX12_isThing (hp_ws yX12_isThing cX12_isThing 3 (some .boolean)) (hp_rm 0 0 0) (hp_Pc Γ α [.ref a0, .int a1, .int a2]) (hp_Qi Γ (fun r β => β = α ∧ r = res)) 0 0 (hp_A Γ) := by
  unfold f_X12_isThing at hf
  refine hp_start (by decide) ?_
  intro p e s m below meth c C hr hlk B0 hnm
  have C : hp_C Γ p m c cX12_isThing 3 s ([.ref a0, .int a1, .int a2] : List Value).toArray RX12 := C
  have hx := C.1.1
  have hb := C.1.2.1
  have hown := C.1.2.2.2.1
  have hts := C.1.2.2.2.2
  have B : hp_B Γ (fun _ _ => True) s α α s.heap [] := ⟨B0.1, B0.2.1, trivial⟩
  have hl := lv_entry ([.ref a0, .int a1, .int a2]) (n := 3) (Nat.le_of_ble_eq_true rfl)
  show W p l e (hp_rm 0 0 0) s m ([.ref a0, .int a1, .int a2] : List Value).toArray below meth c s.heap [] 0 0 (MQ below (hp_Qi Γ (fun r β => β = α ∧ r = res)) ([.ref a0, .int a1, .int a2] : List Value).toArray s 0 0 (hp_A Γ)) (entryFrame m ([.ref a0, .int a1, .int a2] : List Value).toArray 3)
  rw [lg_entry_eq]
  generalize (lg_sl ([.ref a0, .int a1, .int a2]) ++ List.replicate (3 - (lg_sl ([.ref a0, .int a1, .int a2])).length) Slot.unset).toArray = ls at hl ⊢
  have hl : lv_has ls 3 [(0, .ref a0), (1, .int a1), (2, .int a2)] := hl
  refine lv_iload_n hx hb dX12_isThing_0 rfl (lv_at hl 1 rfl) (hp_n (n := 1) rfl ?_)
  refine lv_if_lt (tgt := 13) hx hb dX12_isThing_1 (by decide) (fun c1 => ?_) (fun c1 => hp_n (n := 4) rfl ?_)
  ·
    replace hf := ms_iT c1 hf
    refine lv_iconst (v := 0) hx hb dX12_isThing_13 (by decide) (hp_n (n := 14) rfl ?_)
    cases hf
    exact q_zret C B hr hlk (by decide) ⟨rfl, rfl⟩ dX12_isThing_14
  ·
    replace hf := ms_iF c1 hf
    refine lv_iload_n hx hb dX12_isThing_4 rfl (lv_at hl 1 rfl) (hp_n (n := 5) rfl ?_)
    refine lv_iload_n hx hb dX12_isThing_5 rfl (lv_at hl 2 rfl) (hp_n (n := 6) rfl ?_)
    refine lv_icmp_ge (tgt := 13) hx hb dX12_isThing_6 (by decide) (fun c2 => ?_) (fun c2 => hp_n (n := 9) rfl ?_)
    ·
      replace hf := ms_iT c2 hf
      refine lv_iconst (v := 0) hx hb dX12_isThing_13 (by decide) (hp_n (n := 14) rfl ?_)
      cases hf
      exact q_zret C B hr hlk (by decide) ⟨rfl, rfl⟩ dX12_isThing_14
    ·
      replace hf := ms_iF c2 hf
      refine lv_iconst (v := 1) hx hb dX12_isThing_9 (by decide) (hp_n (n := 10) rfl ?_)
      refine lv_goto (tgt := 14) hx hb dX12_isThing_10 (by decide) ?_
      cases hf
      exact q_zret C B hr hlk (by decide) ⟨rfl, rfl⟩ dX12_isThing_14
def f_X12_checks_J32 (n : Nat) (σh2 : ms_T) (v1_h2 : Int32) (v2_h2 : Int32) (v3_h2 : Int32) (v4_h2 : Int32) (w0_h2 : Int32) : Option (Int32 × ms_T) :=
  ms_c (f_X12_is n σh2 w0_h2) fun rh3 σh3 =>
  if rh3 = 0 then
    some ((-1 : Int32), σh3)
  else
    ms_c (f_X12_fromPad n σh3) fun rh5 σh5 =>
    ms_c (f_X12_whyIn n σh5 rh5 v1_h2 v2_h2 v3_h2 v4_h2) fun rh6 σh6 =>
    some (rh6, σh6)
def f_X12_checks_J31 (n : Nat) (σh7 : ms_T) (v1_h7 : Int32) (v2_h7 : Int32) (v3_h7 : Int32) (v4_h7 : Int32) : Option (Int32 × ms_T) :=
  f_X12_checks_J32 n σh7 v1_h7 v2_h7 v3_h7 v4_h7 (1 : Int32)
def f_X12_checks (n : Nat) (σ : ms_T) (a1 : Int32) (a2 : Int32) (a3 : Int32) (a4 : Int32) : Option (Int32 × ms_T) :=
  ms_b (f_X12_isThing n σ a2 a3) fun rh1 =>
  if rh1 = 0 then
    f_X12_checks_J31 n σ a1 a2 a3 a4
  else
    ms_b (f_X12_isMark n σ a1) fun rh9 =>
    if rh9 = 0 then
      f_X12_checks_J31 n σ a1 a2 a3 a4
    else
      ms_b (f_X12_isMark n σ a4) fun rh11 =>
      if rh11 = 0 then
        f_X12_checks_J31 n σ a1 a2 a3 a4
      else
        f_X12_checks_J32 n σ a1 a2 a3 a4 (0 : Int32)
set_option maxRecDepth 100000 in
set_option maxHeartbeats 4000000 in
theorem m_X12_checks (n : Nat) (Γ : hp_G) (l : Launch) (α : hp_T) (a0 : Nat) (ρ : Nat → Nat) (σ : ms_T) (hM : hm_M α a0 ρ σ) (a1 : Int32) (a2 : Int32) (a3 : Int32) (a4 : Int32) (res : (Int32 × ms_T)) (hf : f_X12_checks n σ a1 a2 a3 a4 = some res) : Met l yX12_checks (hp_ws yX12_checks cX12_checks 5 (some .int)) (hp_rm 44 0 0) (hp_Pc Γ α [.ref a0, .int a1, .int a2, .int a3, .int a4]) (hp_Qi Γ (fun r β => r = res.1 ∧ mo α β ∧ hm_M β a0 ρ res.2)) 0 0 (hp_A Γ) := by
  unfold f_X12_checks at hf
  refine hp_start (by decide) ?_
  intro p e s m below meth c C hr hlk B0 hnm
  have C : hp_C Γ p m c cX12_checks 5 s ([.ref a0, .int a1, .int a2, .int a3, .int a4] : List Value).toArray RX12 := C
  have hx := C.1.1
  have hb := C.1.2.1
  have hown := C.1.2.2.2.1
  have hts := C.1.2.2.2.2
  have B : hp_B Γ mo s α α s.heap [] := ⟨B0.1, B0.2.1, mo_rf⟩
  have hl := lv_entry ([.ref a0, .int a1, .int a2, .int a3, .int a4]) (n := 5) (Nat.le_of_ble_eq_true rfl)
  show W p l e (hp_rm 44 0 0) s m ([.ref a0, .int a1, .int a2, .int a3, .int a4] : List Value).toArray below meth c s.heap [] 0 0 (MQ below (hp_Qi Γ (fun r β => r = res.1 ∧ mo α β ∧ hm_M β a0 ρ res.2)) ([.ref a0, .int a1, .int a2, .int a3, .int a4] : List Value).toArray s 0 0 (hp_A Γ)) (entryFrame m ([.ref a0, .int a1, .int a2, .int a3, .int a4] : List Value).toArray 5)
  rw [lg_entry_eq]
  generalize (lg_sl ([.ref a0, .int a1, .int a2, .int a3, .int a4]) ++ List.replicate (5 - (lg_sl ([.ref a0, .int a1, .int a2, .int a3, .int a4])).length) Slot.unset).toArray = ls at hl ⊢
  have hl : lv_has ls 5 [(0, .ref a0), (1, .int a1), (2, .int a2), (3, .int a3), (4, .int a4)] := hl
  refine lv_aload_n hx hb dX12_checks_0 rfl (lv_at hl 0 rfl) (hp_n (n := 1) rfl ?_)
  refine lv_aload_n hx hb dX12_checks_1 rfl (lv_at hl 0 rfl) (hp_n (n := 2) rfl ?_)
  refine lv_iload_n hx hb dX12_checks_2 rfl (lv_at hl 2 rfl) (hp_n (n := 3) rfl ?_)
  refine lv_iload_n hx hb dX12_checks_3 rfl (lv_at hl 3 rfl) (hp_n (n := 4) rfl ?_)
  obtain ⟨rh1, qh1, hf⟩ := ms_bE hf
  refine m_cp (pc' := 7) B (hp_runV (As := [.int a2, .int a3]) (rest := [.ref a0]) C B (m_X12_isThing n Γ l α a0 ρ σ hM a2 a3 rh1 qh1) lb_X12_isThing lv_X12_isThing lk_X12_381 hM.1 rfl (by decide) rfl hl.1 rfl (Nat.le_of_ble_eq_true rfl) dX12_checks_4 ⟨Nat.le_refl _, Nat.le_refl _⟩) rfl (fun Hh1 Lh1 Bh1 => ?_)
  have J32 : ∀ (αh2 : hp_T) (Hh2 : Heap) (Lh2 : List Loc) (Bh2 : hp_B Γ mo s α αh2 Hh2 Lh2) (σh2 : ms_T) (Mh2 : hm_M αh2 a0 ρ σh2) (v1_h2 : Int32) (v2_h2 : Int32) (v3_h2 : Int32) (v4_h2 : Int32) (w0_h2 : Int32) (ls : Array Slot) (hl : lv_has ls 5 [(0, .ref a0), (1, .int v1_h2), (2, .int v2_h2), (3, .int v3_h2), (4, .int v4_h2)]) (hf : f_X12_checks_J32 n σh2 v1_h2 v2_h2 v3_h2 v4_h2 w0_h2 = some res), W p l e (hp_rm 44 0 0) s m ([.ref a0, .int a1, .int a2, .int a3, .int a4] : List Value).toArray below meth c Hh2 Lh2 0 0 (MQ below (hp_Qi Γ (fun r β => r = res.1 ∧ mo α β ∧ hm_M β a0 ρ res.2)) ([.ref a0, .int a1, .int a2, .int a3, .int a4] : List Value).toArray s 0 0 (hp_A Γ)) (F0 m 32 ls [.int w0_h2, .ref a0]) := by
    intro αh2 Hh2 Lh2 Bh2 σh2 Mh2 v1_h2 v2_h2 v3_h2 v4_h2 w0_h2 ls hl hf
    unfold f_X12_checks_J32 at hf
    obtain ⟨rh3, σh3, qh3, hf⟩ := ms_cE hf
    refine m_ci (pc' := 35) (a := a0) (ρ := ρ) Bh2 (hp_runV (As := [.int w0_h2]) (rest := []) C Bh2 (m_X12_is n Γ l αh2 a0 ρ σh2 Mh2 w0_h2 (rh3, σh3) qh3) lb_X12_is lv_X12_is lk_X12_309 Mh2.1 rfl (by decide) rfl hl.1 rfl (Nat.le_of_ble_eq_true rfl) dX12_checks_32 ⟨Nat.le_refl _, Nat.le_refl _⟩) rfl (fun αh3 Hh3 Lh3 Bh3 Mh3 => ?_)
    refine lv_if_ne (tgt := 40) hx hb dX12_checks_35 (by decide) (fun c4 => ?_) (fun c4 => hp_n (n := 38) rfl ?_)
    ·
      replace hf := ms_iF c4 hf
      refine lv_aload_n hx hb dX12_checks_40 rfl (lv_at hl 0 rfl) (hp_n (n := 41) rfl ?_)
      refine lv_aload_n hx hb dX12_checks_41 rfl (lv_at hl 0 rfl) (hp_n (n := 42) rfl ?_)
      obtain ⟨rh5, σh5, qh5, hf⟩ := ms_cE hf
      refine m_ci (pc' := 45) (a := a0) (ρ := ρ) Bh3 (hp_runV (As := []) (rest := [.ref a0]) C Bh3 (m_X12_fromPad n Γ l αh3 a0 ρ σh3 Mh3  (rh5, σh5) qh5) lb_X12_fromPad lv_X12_fromPad lk_X12_384 Mh3.1 rfl (by decide) rfl hl.1 rfl (Nat.le_of_ble_eq_true rfl) dX12_checks_42 ⟨Nat.le_refl _, Nat.le_refl _⟩) rfl (fun αh5 Hh5 Lh5 Bh5 Mh5 => ?_)
      refine lv_iload_n hx hb dX12_checks_45 rfl (lv_at hl 1 rfl) (hp_n (n := 46) rfl ?_)
      refine lv_iload_n hx hb dX12_checks_46 rfl (lv_at hl 2 rfl) (hp_n (n := 47) rfl ?_)
      refine lv_iload_n hx hb dX12_checks_47 rfl (lv_at hl 3 rfl) (hp_n (n := 48) rfl ?_)
      refine lv_iload hx hb dX12_checks_48 (lv_at hl 4 rfl) (hp_n (n := 50) rfl ?_)
      obtain ⟨rh6, σh6, qh6, hf⟩ := ms_cE hf
      refine m_ci (pc' := 53) (a := a0) (ρ := ρ) Bh5 (hp_runV (As := [.int rh5, .int v1_h2, .int v2_h2, .int v3_h2, .int v4_h2]) (rest := []) C Bh5 (m_X12_whyIn n Γ l αh5 a0 ρ σh5 Mh5 rh5 v1_h2 v2_h2 v3_h2 v4_h2 (rh6, σh6) qh6) lb_X12_whyIn lv_X12_whyIn lk_X12_332 Mh5.1 rfl (by decide) rfl hl.1 rfl (Nat.le_of_ble_eq_true rfl) dX12_checks_50 ⟨Nat.le_refl _, Nat.le_refl _⟩) rfl (fun αh6 Hh6 Lh6 Bh6 Mh6 => ?_)
      cases hf
      exact q_iret C Bh6 hr hlk ⟨rfl, Bh6.2.2, Mh6⟩ dX12_checks_53
    ·
      replace hf := ms_iT c4 hf
      refine lv_iconst (v := (-1)) hx hb dX12_checks_38 (by decide) (hp_n (n := 39) rfl ?_)
      cases hf
      exact q_iret C Bh3 hr hlk ⟨rfl, Bh3.2.2, Mh3⟩ dX12_checks_39
  have J31 : ∀ (αh7 : hp_T) (Hh7 : Heap) (Lh7 : List Loc) (Bh7 : hp_B Γ mo s α αh7 Hh7 Lh7) (σh7 : ms_T) (Mh7 : hm_M αh7 a0 ρ σh7) (v1_h7 : Int32) (v2_h7 : Int32) (v3_h7 : Int32) (v4_h7 : Int32) (ls : Array Slot) (hl : lv_has ls 5 [(0, .ref a0), (1, .int v1_h7), (2, .int v2_h7), (3, .int v3_h7), (4, .int v4_h7)]) (hf : f_X12_checks_J31 n σh7 v1_h7 v2_h7 v3_h7 v4_h7 = some res), W p l e (hp_rm 44 0 0) s m ([.ref a0, .int a1, .int a2, .int a3, .int a4] : List Value).toArray below meth c Hh7 Lh7 0 0 (MQ below (hp_Qi Γ (fun r β => r = res.1 ∧ mo α β ∧ hm_M β a0 ρ res.2)) ([.ref a0, .int a1, .int a2, .int a3, .int a4] : List Value).toArray s 0 0 (hp_A Γ)) (F0 m 31 ls [.ref a0]) := by
    intro αh7 Hh7 Lh7 Bh7 σh7 Mh7 v1_h7 v2_h7 v3_h7 v4_h7 ls hl hf
    unfold f_X12_checks_J31 at hf
    refine lv_iconst (v := 1) hx hb dX12_checks_31 (by decide) (hp_n (n := 32) rfl ?_)
    exact J32 αh7 Hh7 Lh7 Bh7 σh7 Mh7 v1_h7 v2_h7 v3_h7 v4_h7 (1 : Int32) ls (lv_sub hl [0, 1, 2, 3, 4] rfl) hf
  refine lv_if_eq (tgt := 31) hx hb dX12_checks_7 (by decide) (fun c8 => ?_) (fun c8 => hp_n (n := 10) rfl ?_)
  ·
    replace hf := ms_iT c8 hf
    exact J31 α Hh1 Lh1 Bh1 σ hM a1 a2 a3 a4 ls (lv_sub hl [0, 1, 2, 3, 4] rfl) hf
  ·
    replace hf := ms_iF c8 hf
    refine lv_aload_n hx hb dX12_checks_10 rfl (lv_at hl 0 rfl) (hp_n (n := 11) rfl ?_)
    refine lv_iload_n hx hb dX12_checks_11 rfl (lv_at hl 1 rfl) (hp_n (n := 12) rfl ?_)
    obtain ⟨rh9, qh9, hf⟩ := ms_bE hf
    refine m_cp (pc' := 15) Bh1 (hp_runV (As := [.int a1]) (rest := [.ref a0]) C Bh1 (m_X12_isMark n Γ l α a0 ρ σ hM a1 rh9 qh9) lb_X12_isMark lv_X12_isMark lk_X12_321 hM.1 rfl (by decide) rfl hl.1 rfl (Nat.le_of_ble_eq_true rfl) dX12_checks_12 ⟨Nat.le_refl _, Nat.le_refl _⟩) rfl (fun Hh9 Lh9 Bh9 => ?_)
    refine lv_if_eq (tgt := 31) hx hb dX12_checks_15 (by decide) (fun c10 => ?_) (fun c10 => hp_n (n := 18) rfl ?_)
    ·
      replace hf := ms_iT c10 hf
      exact J31 α Hh9 Lh9 Bh9 σ hM a1 a2 a3 a4 ls (lv_sub hl [0, 1, 2, 3, 4] rfl) hf
    ·
      replace hf := ms_iF c10 hf
      refine lv_aload_n hx hb dX12_checks_18 rfl (lv_at hl 0 rfl) (hp_n (n := 19) rfl ?_)
      refine lv_iload hx hb dX12_checks_19 (lv_at hl 4 rfl) (hp_n (n := 21) rfl ?_)
      obtain ⟨rh11, qh11, hf⟩ := ms_bE hf
      refine m_cp (pc' := 24) Bh9 (hp_runV (As := [.int a4]) (rest := [.ref a0]) C Bh9 (m_X12_isMark n Γ l α a0 ρ σ hM a4 rh11 qh11) lb_X12_isMark lv_X12_isMark lk_X12_321 hM.1 rfl (by decide) rfl hl.1 rfl (Nat.le_of_ble_eq_true rfl) dX12_checks_21 ⟨Nat.le_refl _, Nat.le_refl _⟩) rfl (fun Hh11 Lh11 Bh11 => ?_)
      refine lv_if_eq (tgt := 31) hx hb dX12_checks_24 (by decide) (fun c12 => ?_) (fun c12 => hp_n (n := 27) rfl ?_)
      ·
        replace hf := ms_iT c12 hf
        exact J31 α Hh11 Lh11 Bh11 σ hM a1 a2 a3 a4 ls (lv_sub hl [0, 1, 2, 3, 4] rfl) hf
      ·
        replace hf := ms_iF c12 hf
        refine lv_iconst (v := 0) hx hb dX12_checks_27 (by decide) (hp_n (n := 28) rfl ?_)
        refine lv_goto (tgt := 32) hx hb dX12_checks_28 (by decide) ?_
        exact J32 α Hh11 Lh11 Bh11 σ hM a1 a2 a3 a4 (0 : Int32) ls (lv_sub hl [0, 1, 2, 3, 4] rfl) hf
def f_X12_growth__J32 (n : Nat) (σh1 : ms_T) (v1_h1 : Int32) (v2_h1 : Int32) (v3_h1 : Int32) (v4_h1 : Int32) (w0_h1 : Int32) : Option (Int32 × ms_T) :=
  ms_c (f_X12_is n σh1 w0_h1) fun rh2 σh2 =>
  if rh2 = 0 then
    some ((-1 : Int32), σh2)
  else
    ms_c (f_X12_fromPad n σh2) fun rh4 σh4 =>
    ms_c (f_X12_whyGrown n σh4 rh4 v1_h1 v2_h1 v3_h1 v4_h1) fun rh5 σh5 =>
    some (rh5, σh5)
def f_X12_growth__J31 (n : Nat) (σh6 : ms_T) (v1_h6 : Int32) (v2_h6 : Int32) (v3_h6 : Int32) (v4_h6 : Int32) : Option (Int32 × ms_T) :=
  f_X12_growth__J32 n σh6 v1_h6 v2_h6 v3_h6 v4_h6 (1 : Int32)
def f_X12_growth_ (n : Nat) (σ : ms_T) (a1 : Int32) (a2 : Int32) (a3 : Int32) (a4 : Int32) : Option (Int32 × ms_T) :=
  if a1 < 0 then
    f_X12_growth__J31 n σ a1 a2 a3 a4
  else
    if a3 < a1 then
      f_X12_growth__J31 n σ a1 a2 a3 a4
    else
      ms_b (f_X12_isMark n σ a2) fun rh9 =>
      if rh9 = 0 then
        f_X12_growth__J31 n σ a1 a2 a3 a4
      else
        ms_b (f_X12_isMark n σ a4) fun rh11 =>
        if rh11 = 0 then
          f_X12_growth__J31 n σ a1 a2 a3 a4
        else
          f_X12_growth__J32 n σ a1 a2 a3 a4 (0 : Int32)
set_option maxRecDepth 100000 in
set_option maxHeartbeats 4000000 in
theorem m_X12_growth_ (n : Nat) (Γ : hp_G) (l : Launch) (α : hp_T) (a0 : Nat) (ρ : Nat → Nat) (σ : ms_T) (hM : hm_M α a0 ρ σ) (a1 : Int32) (a2 : Int32) (a3 : Int32) (a4 : Int32) (res : (Int32 × ms_T)) (hf : f_X12_growth_ n σ a1 a2 a3 a4 = some res) : Met l yX12_growth_ (hp_ws yX12_growth_ cX12_growth_ 5 (some .int)) (hp_rm 43 0 0) (hp_Pc Γ α [.ref a0, .int a1, .int a2, .int a3, .int a4]) (hp_Qi Γ (fun r β => r = res.1 ∧ mo α β ∧ hm_M β a0 ρ res.2)) 0 0 (hp_A Γ) := by
  unfold f_X12_growth_ at hf
  refine hp_start (by decide) ?_
  intro p e s m below meth c C hr hlk B0 hnm
  have C : hp_C Γ p m c cX12_growth_ 5 s ([.ref a0, .int a1, .int a2, .int a3, .int a4] : List Value).toArray RX12 := C
  have hx := C.1.1
  have hb := C.1.2.1
  have hown := C.1.2.2.2.1
  have hts := C.1.2.2.2.2
  have B : hp_B Γ mo s α α s.heap [] := ⟨B0.1, B0.2.1, mo_rf⟩
  have hl := lv_entry ([.ref a0, .int a1, .int a2, .int a3, .int a4]) (n := 5) (Nat.le_of_ble_eq_true rfl)
  show W p l e (hp_rm 43 0 0) s m ([.ref a0, .int a1, .int a2, .int a3, .int a4] : List Value).toArray below meth c s.heap [] 0 0 (MQ below (hp_Qi Γ (fun r β => r = res.1 ∧ mo α β ∧ hm_M β a0 ρ res.2)) ([.ref a0, .int a1, .int a2, .int a3, .int a4] : List Value).toArray s 0 0 (hp_A Γ)) (entryFrame m ([.ref a0, .int a1, .int a2, .int a3, .int a4] : List Value).toArray 5)
  rw [lg_entry_eq]
  generalize (lg_sl ([.ref a0, .int a1, .int a2, .int a3, .int a4]) ++ List.replicate (5 - (lg_sl ([.ref a0, .int a1, .int a2, .int a3, .int a4])).length) Slot.unset).toArray = ls at hl ⊢
  have hl : lv_has ls 5 [(0, .ref a0), (1, .int a1), (2, .int a2), (3, .int a3), (4, .int a4)] := hl
  refine lv_aload_n hx hb dX12_growth__0 rfl (lv_at hl 0 rfl) (hp_n (n := 1) rfl ?_)
  refine lv_iload_n hx hb dX12_growth__1 rfl (lv_at hl 1 rfl) (hp_n (n := 2) rfl ?_)
  have J32 : ∀ (αh1 : hp_T) (Hh1 : Heap) (Lh1 : List Loc) (Bh1 : hp_B Γ mo s α αh1 Hh1 Lh1) (σh1 : ms_T) (Mh1 : hm_M αh1 a0 ρ σh1) (v1_h1 : Int32) (v2_h1 : Int32) (v3_h1 : Int32) (v4_h1 : Int32) (w0_h1 : Int32) (ls : Array Slot) (hl : lv_has ls 5 [(0, .ref a0), (1, .int v1_h1), (2, .int v2_h1), (3, .int v3_h1), (4, .int v4_h1)]) (hf : f_X12_growth__J32 n σh1 v1_h1 v2_h1 v3_h1 v4_h1 w0_h1 = some res), W p l e (hp_rm 43 0 0) s m ([.ref a0, .int a1, .int a2, .int a3, .int a4] : List Value).toArray below meth c Hh1 Lh1 0 0 (MQ below (hp_Qi Γ (fun r β => r = res.1 ∧ mo α β ∧ hm_M β a0 ρ res.2)) ([.ref a0, .int a1, .int a2, .int a3, .int a4] : List Value).toArray s 0 0 (hp_A Γ)) (F0 m 32 ls [.int w0_h1, .ref a0]) := by
    intro αh1 Hh1 Lh1 Bh1 σh1 Mh1 v1_h1 v2_h1 v3_h1 v4_h1 w0_h1 ls hl hf
    unfold f_X12_growth__J32 at hf
    obtain ⟨rh2, σh2, qh2, hf⟩ := ms_cE hf
    refine m_ci (pc' := 35) (a := a0) (ρ := ρ) Bh1 (hp_runV (As := [.int w0_h1]) (rest := []) C Bh1 (m_X12_is n Γ l αh1 a0 ρ σh1 Mh1 w0_h1 (rh2, σh2) qh2) lb_X12_is lv_X12_is lk_X12_309 Mh1.1 rfl (by decide) rfl hl.1 rfl (Nat.le_of_ble_eq_true rfl) dX12_growth__32 ⟨Nat.le_refl _, Nat.le_refl _⟩) rfl (fun αh2 Hh2 Lh2 Bh2 Mh2 => ?_)
    refine lv_if_ne (tgt := 40) hx hb dX12_growth__35 (by decide) (fun c3 => ?_) (fun c3 => hp_n (n := 38) rfl ?_)
    ·
      replace hf := ms_iF c3 hf
      refine lv_aload_n hx hb dX12_growth__40 rfl (lv_at hl 0 rfl) (hp_n (n := 41) rfl ?_)
      refine lv_aload_n hx hb dX12_growth__41 rfl (lv_at hl 0 rfl) (hp_n (n := 42) rfl ?_)
      obtain ⟨rh4, σh4, qh4, hf⟩ := ms_cE hf
      refine m_ci (pc' := 45) (a := a0) (ρ := ρ) Bh2 (hp_runV (As := []) (rest := [.ref a0]) C Bh2 (m_X12_fromPad n Γ l αh2 a0 ρ σh2 Mh2  (rh4, σh4) qh4) lb_X12_fromPad lv_X12_fromPad lk_X12_384 Mh2.1 rfl (by decide) rfl hl.1 rfl (Nat.le_of_ble_eq_true rfl) dX12_growth__42 ⟨Nat.le_refl _, Nat.le_refl _⟩) rfl (fun αh4 Hh4 Lh4 Bh4 Mh4 => ?_)
      refine lv_iload_n hx hb dX12_growth__45 rfl (lv_at hl 1 rfl) (hp_n (n := 46) rfl ?_)
      refine lv_iload_n hx hb dX12_growth__46 rfl (lv_at hl 2 rfl) (hp_n (n := 47) rfl ?_)
      refine lv_iload_n hx hb dX12_growth__47 rfl (lv_at hl 3 rfl) (hp_n (n := 48) rfl ?_)
      refine lv_iload hx hb dX12_growth__48 (lv_at hl 4 rfl) (hp_n (n := 50) rfl ?_)
      obtain ⟨rh5, σh5, qh5, hf⟩ := ms_cE hf
      refine m_ci (pc' := 53) (a := a0) (ρ := ρ) Bh4 (hp_runV (As := [.int rh4, .int v1_h1, .int v2_h1, .int v3_h1, .int v4_h1]) (rest := []) C Bh4 (m_X12_whyGrown n Γ l αh4 a0 ρ σh4 Mh4 rh4 v1_h1 v2_h1 v3_h1 v4_h1 (rh5, σh5) qh5) lb_X12_whyGrown lv_X12_whyGrown lk_X12_199 Mh4.1 rfl (by decide) rfl hl.1 rfl (Nat.le_of_ble_eq_true rfl) dX12_growth__50 ⟨Nat.le_refl _, Nat.le_refl _⟩) rfl (fun αh5 Hh5 Lh5 Bh5 Mh5 => ?_)
      cases hf
      exact q_iret C Bh5 hr hlk ⟨rfl, Bh5.2.2, Mh5⟩ dX12_growth__53
    ·
      replace hf := ms_iT c3 hf
      refine lv_iconst (v := (-1)) hx hb dX12_growth__38 (by decide) (hp_n (n := 39) rfl ?_)
      cases hf
      exact q_iret C Bh2 hr hlk ⟨rfl, Bh2.2.2, Mh2⟩ dX12_growth__39
  have J31 : ∀ (αh6 : hp_T) (Hh6 : Heap) (Lh6 : List Loc) (Bh6 : hp_B Γ mo s α αh6 Hh6 Lh6) (σh6 : ms_T) (Mh6 : hm_M αh6 a0 ρ σh6) (v1_h6 : Int32) (v2_h6 : Int32) (v3_h6 : Int32) (v4_h6 : Int32) (ls : Array Slot) (hl : lv_has ls 5 [(0, .ref a0), (1, .int v1_h6), (2, .int v2_h6), (3, .int v3_h6), (4, .int v4_h6)]) (hf : f_X12_growth__J31 n σh6 v1_h6 v2_h6 v3_h6 v4_h6 = some res), W p l e (hp_rm 43 0 0) s m ([.ref a0, .int a1, .int a2, .int a3, .int a4] : List Value).toArray below meth c Hh6 Lh6 0 0 (MQ below (hp_Qi Γ (fun r β => r = res.1 ∧ mo α β ∧ hm_M β a0 ρ res.2)) ([.ref a0, .int a1, .int a2, .int a3, .int a4] : List Value).toArray s 0 0 (hp_A Γ)) (F0 m 31 ls [.ref a0]) := by
    intro αh6 Hh6 Lh6 Bh6 σh6 Mh6 v1_h6 v2_h6 v3_h6 v4_h6 ls hl hf
    unfold f_X12_growth__J31 at hf
    refine lv_iconst (v := 1) hx hb dX12_growth__31 (by decide) (hp_n (n := 32) rfl ?_)
    exact J32 αh6 Hh6 Lh6 Bh6 σh6 Mh6 v1_h6 v2_h6 v3_h6 v4_h6 (1 : Int32) ls (lv_sub hl [0, 1, 2, 3, 4] rfl) hf
  refine lv_if_lt (tgt := 31) hx hb dX12_growth__2 (by decide) (fun c7 => ?_) (fun c7 => hp_n (n := 5) rfl ?_)
  ·
    replace hf := ms_iT c7 hf
    exact J31 α s.heap [] B σ hM a1 a2 a3 a4 ls (lv_sub hl [0, 1, 2, 3, 4] rfl) hf
  ·
    replace hf := ms_iF c7 hf
    refine lv_iload_n hx hb dX12_growth__5 rfl (lv_at hl 1 rfl) (hp_n (n := 6) rfl ?_)
    refine lv_iload_n hx hb dX12_growth__6 rfl (lv_at hl 3 rfl) (hp_n (n := 7) rfl ?_)
    refine lv_icmp_gt (tgt := 31) hx hb dX12_growth__7 (by decide) (fun c8 => ?_) (fun c8 => hp_n (n := 10) rfl ?_)
    ·
      replace hf := ms_iT c8 hf
      exact J31 α s.heap [] B σ hM a1 a2 a3 a4 ls (lv_sub hl [0, 1, 2, 3, 4] rfl) hf
    ·
      replace hf := ms_iF c8 hf
      refine lv_aload_n hx hb dX12_growth__10 rfl (lv_at hl 0 rfl) (hp_n (n := 11) rfl ?_)
      refine lv_iload_n hx hb dX12_growth__11 rfl (lv_at hl 2 rfl) (hp_n (n := 12) rfl ?_)
      obtain ⟨rh9, qh9, hf⟩ := ms_bE hf
      refine m_cp (pc' := 15) B (hp_runV (As := [.int a2]) (rest := [.ref a0]) C B (m_X12_isMark n Γ l α a0 ρ σ hM a2 rh9 qh9) lb_X12_isMark lv_X12_isMark lk_X12_321 hM.1 rfl (by decide) rfl hl.1 rfl (Nat.le_of_ble_eq_true rfl) dX12_growth__12 ⟨Nat.le_refl _, Nat.le_refl _⟩) rfl (fun Hh9 Lh9 Bh9 => ?_)
      refine lv_if_eq (tgt := 31) hx hb dX12_growth__15 (by decide) (fun c10 => ?_) (fun c10 => hp_n (n := 18) rfl ?_)
      ·
        replace hf := ms_iT c10 hf
        exact J31 α Hh9 Lh9 Bh9 σ hM a1 a2 a3 a4 ls (lv_sub hl [0, 1, 2, 3, 4] rfl) hf
      ·
        replace hf := ms_iF c10 hf
        refine lv_aload_n hx hb dX12_growth__18 rfl (lv_at hl 0 rfl) (hp_n (n := 19) rfl ?_)
        refine lv_iload hx hb dX12_growth__19 (lv_at hl 4 rfl) (hp_n (n := 21) rfl ?_)
        obtain ⟨rh11, qh11, hf⟩ := ms_bE hf
        refine m_cp (pc' := 24) Bh9 (hp_runV (As := [.int a4]) (rest := [.ref a0]) C Bh9 (m_X12_isMark n Γ l α a0 ρ σ hM a4 rh11 qh11) lb_X12_isMark lv_X12_isMark lk_X12_321 hM.1 rfl (by decide) rfl hl.1 rfl (Nat.le_of_ble_eq_true rfl) dX12_growth__21 ⟨Nat.le_refl _, Nat.le_refl _⟩) rfl (fun Hh11 Lh11 Bh11 => ?_)
        refine lv_if_eq (tgt := 31) hx hb dX12_growth__24 (by decide) (fun c12 => ?_) (fun c12 => hp_n (n := 27) rfl ?_)
        ·
          replace hf := ms_iT c12 hf
          exact J31 α Hh11 Lh11 Bh11 σ hM a1 a2 a3 a4 ls (lv_sub hl [0, 1, 2, 3, 4] rfl) hf
        ·
          replace hf := ms_iF c12 hf
          refine lv_iconst (v := 0) hx hb dX12_growth__27 (by decide) (hp_n (n := 28) rfl ?_)
          refine lv_goto (tgt := 32) hx hb dX12_growth__28 (by decide) ?_
          exact J32 α Hh11 Lh11 Bh11 σ hM a1 a2 a3 a4 (0 : Int32) ls (lv_sub hl [0, 1, 2, 3, 4] rfl) hf
def f_X12_bundled_J104 (n : Nat) (σh10 : ms_T) (w0_h10 : Int32) (w1_h10 : Int32) (w2_h10 : Int32) : Option (Int32 × ms_T) :=
  ms_b (f_X12_why n σh10 w2_h10 w1_h10 w0_h10) fun rh11 =>
  some (rh11, σh10)
def f_X12_bundled_J99 (n : Nat) (σh12 : ms_T) (w0_h12 : Int32) (w1_h12 : Int32) : Option (Int32 × ms_T) :=
  f_X12_bundled_J104 n σh12 (1 : Int32) w0_h12 w1_h12
def f_X12_bundled_J30 (n : Nat) (σh1 : ms_T) (v1_h1 : Int32) (v2_h1 : Int32) (v3_h1 : Int32) (w0_h1 : Int32) : Option (Int32 × ms_T) :=
  ms_c (f_X12_is n σh1 w0_h1) fun rh2 σh2 =>
  if rh2 = 0 then
    some ((-1 : Int32), σh2)
  else
    ms_b (f_X12_bundleOf n σh2 v1_h1 v2_h1) fun σh4 =>
    ms_b (f_J6_bitCount_0f7a4 n v1_h1) fun rh5 =>
    ms_l ((rh5 + (ms_I σh4 657))) fun x6 =>
    ms_c (f_X12_fromPad n σh4) fun rh7 σh7 =>
    ms_l (ms_sI σh7 658 rh5) fun σh8 =>
    ms_l (ms_sI σh8 661 (0 : Int32)) fun σh9 =>
    if rh7 = x6 then
      ms_c (f_X12_foldsBundle n 40 σh9 v1_h1 (0 : Int32) v2_h1) fun rh14 σh14 =>
      if rh14 = v3_h1 then
        f_X12_bundled_J99 n σh14 x6 rh7
      else
        f_X12_bundled_J104 n σh14 (0 : Int32) x6 rh7
    else
      f_X12_bundled_J99 n σh9 x6 rh7
def f_X12_bundled_J25 (n : Nat) (σh16 : ms_T) (v1_h16 : Int32) (v2_h16 : Int32) (v3_h16 : Int32) : Option (Int32 × ms_T) :=
  f_X12_bundled_J30 n σh16 v1_h16 v2_h16 v3_h16 (1 : Int32)
def f_X12_bundled (n : Nat) (σ : ms_T) (a1 : Int32) (a2 : Int32) (a3 : Int32) : Option (Int32 × ms_T) :=
  if a2 < 0 then
    f_X12_bundled_J25 n σ a1 a2 a3
  else
    if a1 ≤ 0 then
      f_X12_bundled_J25 n σ a1 a2 a3
    else
      ms_b (f_X12_isBeyond n a1 a2) fun rh19 =>
      if rh19 = 0 then
        ms_b (f_X12_isMark n σ a3) fun rh21 =>
        if rh21 = 0 then
          f_X12_bundled_J25 n σ a1 a2 a3
        else
          f_X12_bundled_J30 n σ a1 a2 a3 (0 : Int32)
      else
        f_X12_bundled_J25 n σ a1 a2 a3
set_option maxRecDepth 100000 in
set_option maxHeartbeats 4000000 in
theorem m_X12_bundled (n : Nat) (Γ : hp_G) (l : Launch) (α : hp_T) (a0 : Nat) (ρ : Nat → Nat) (σ : ms_T) (hM : hm_M α a0 ρ σ) (a1 : Int32) (a2 : Int32) (a3 : Int32) (res : (Int32 × ms_T)) (hf : f_X12_bundled n σ a1 a2 a3 = some res) : Met l yX12_bundled (hp_ws yX12_bundled cX12_bundled 7 (some .int)) (hp_rm 42 0 0) (hp_Pc Γ α [.ref a0, .int a1, .int a2, .int a3]) (hp_Qi Γ (fun r β => r = res.1 ∧ mo α β ∧ hm_M β a0 ρ res.2)) 0 0 (hp_A Γ) := by
  unfold f_X12_bundled at hf
  refine hp_start (by decide) ?_
  intro p e s m below meth c C hr hlk B0 hnm
  have C : hp_C Γ p m c cX12_bundled 7 s ([.ref a0, .int a1, .int a2, .int a3] : List Value).toArray RX12 := C
  have hx := C.1.1
  have hb := C.1.2.1
  have hown := C.1.2.2.2.1
  have hts := C.1.2.2.2.2
  have B : hp_B Γ mo s α α s.heap [] := ⟨B0.1, B0.2.1, mo_rf⟩
  have hl := lv_entry ([.ref a0, .int a1, .int a2, .int a3]) (n := 7) (Nat.le_of_ble_eq_true rfl)
  show W p l e (hp_rm 42 0 0) s m ([.ref a0, .int a1, .int a2, .int a3] : List Value).toArray below meth c s.heap [] 0 0 (MQ below (hp_Qi Γ (fun r β => r = res.1 ∧ mo α β ∧ hm_M β a0 ρ res.2)) ([.ref a0, .int a1, .int a2, .int a3] : List Value).toArray s 0 0 (hp_A Γ)) (entryFrame m ([.ref a0, .int a1, .int a2, .int a3] : List Value).toArray 7)
  rw [lg_entry_eq]
  generalize (lg_sl ([.ref a0, .int a1, .int a2, .int a3]) ++ List.replicate (7 - (lg_sl ([.ref a0, .int a1, .int a2, .int a3])).length) Slot.unset).toArray = ls at hl ⊢
  have hl : lv_has ls 7 [(0, .ref a0), (1, .int a1), (2, .int a2), (3, .int a3)] := hl
  refine lv_aload_n hx hb dX12_bundled_0 rfl (lv_at hl 0 rfl) (hp_n (n := 1) rfl ?_)
  refine lv_iload_n hx hb dX12_bundled_1 rfl (lv_at hl 2 rfl) (hp_n (n := 2) rfl ?_)
  have J30 : ∀ (αh1 : hp_T) (Hh1 : Heap) (Lh1 : List Loc) (Bh1 : hp_B Γ mo s α αh1 Hh1 Lh1) (σh1 : ms_T) (Mh1 : hm_M αh1 a0 ρ σh1) (v1_h1 : Int32) (v2_h1 : Int32) (v3_h1 : Int32) (w0_h1 : Int32) (ls : Array Slot) (hl : lv_has ls 7 [(0, .ref a0), (1, .int v1_h1), (2, .int v2_h1), (3, .int v3_h1)]) (hf : f_X12_bundled_J30 n σh1 v1_h1 v2_h1 v3_h1 w0_h1 = some res), W p l e (hp_rm 42 0 0) s m ([.ref a0, .int a1, .int a2, .int a3] : List Value).toArray below meth c Hh1 Lh1 0 0 (MQ below (hp_Qi Γ (fun r β => r = res.1 ∧ mo α β ∧ hm_M β a0 ρ res.2)) ([.ref a0, .int a1, .int a2, .int a3] : List Value).toArray s 0 0 (hp_A Γ)) (F0 m 30 ls [.int w0_h1, .ref a0]) := by
    intro αh1 Hh1 Lh1 Bh1 σh1 Mh1 v1_h1 v2_h1 v3_h1 w0_h1 ls hl hf
    unfold f_X12_bundled_J30 at hf
    obtain ⟨rh2, σh2, qh2, hf⟩ := ms_cE hf
    refine m_ci (pc' := 33) (a := a0) (ρ := ρ) Bh1 (hp_runV (As := [.int w0_h1]) (rest := []) C Bh1 (m_X12_is n Γ l αh1 a0 ρ σh1 Mh1 w0_h1 (rh2, σh2) qh2) lb_X12_is lv_X12_is lk_X12_309 Mh1.1 rfl (by decide) rfl hl.1 rfl (Nat.le_of_ble_eq_true rfl) dX12_bundled_30 ⟨Nat.le_refl _, Nat.le_refl _⟩) rfl (fun αh2 Hh2 Lh2 Bh2 Mh2 => ?_)
    refine lv_if_ne (tgt := 38) hx hb dX12_bundled_33 (by decide) (fun c3 => ?_) (fun c3 => hp_n (n := 36) rfl ?_)
    ·
      replace hf := ms_iF c3 hf
      refine lv_aload_n hx hb dX12_bundled_38 rfl (lv_at hl 0 rfl) (hp_n (n := 39) rfl ?_)
      refine lv_iload_n hx hb dX12_bundled_39 rfl (lv_at hl 1 rfl) (hp_n (n := 40) rfl ?_)
      refine lv_iload_n hx hb dX12_bundled_40 rfl (lv_at hl 2 rfl) (hp_n (n := 41) rfl ?_)
      obtain ⟨σh4, qh4, hf⟩ := ms_bE hf
      refine m_cv (pc' := 44) (a := a0) (ρ := ρ) Bh2 (hp_runV (As := [.int v1_h1, .int v2_h1]) (rest := []) C Bh2 (m_X12_bundleOf n Γ l αh2 a0 ρ σh2 Mh2 v1_h1 v2_h1 σh4 qh4) lb_X12_bundleOf lv_X12_bundleOf lk_X12_372 Mh2.1 rfl (by decide) rfl hl.1 rfl (Nat.le_of_ble_eq_true rfl) dX12_bundled_41 ⟨Nat.le_refl _, Nat.le_refl _⟩) rfl (fun αh4 Hh4 Lh4 Bh4 Mh4 => ?_)
      refine lv_iload_n hx hb dX12_bundled_44 rfl (lv_at hl 1 rfl) (hp_n (n := 45) rfl ?_)
      obtain ⟨rh5, qh5, hf⟩ := ms_bE hf
      refine m_cp (pc' := 48) Bh4 (hp_runS (As := [.int v1_h1]) (rest := []) C Bh4 (m_J6_bitCount_0f7a4 n Γ l αh4 v1_h1 rh5 qh5) lb_J6_bitCount_0f7a4 ls_J6_bitCount_0f7a4 lk_X12_376 rfl (by decide) rfl hl.1 rfl (Nat.le_of_ble_eq_true rfl) dX12_bundled_45 ⟨Nat.le_refl _, Nat.le_refl _⟩) rfl (fun Hh5 Lh5 Bh5 => ?_)
      refine lv_istore (lv' := [(4, .int rh5), (0, .ref a0), (1, .int v1_h1), (2, .int v2_h1), (3, .int v3_h1)]) hx hb dX12_bundled_48 hl (by decide) rfl (fun ls hl => hp_n (n := 50) rfl ?_)
      refine lv_iload hx hb dX12_bundled_50 (lv_at hl 0 rfl) (hp_n (n := 52) rfl ?_)
      refine lv_aload_n hx hb dX12_bundled_52 rfl (lv_at hl 1 rfl) (hp_n (n := 53) rfl ?_)
      refine m_geti (k := 7) (φ := 657) (pc' := 56) C Bh5 Mh4 fl_X12_139 rfl rfl dX12_bundled_53 rfl ?_
      refine lv_iadd hx hb dX12_bundled_56 (hp_n (n := 57) rfl ?_)
      refine lv_topi (fun x6 ex6 => ?_)
      replace hf := ms_lE ex6 hf
      refine lv_istore (lv' := [(5, .int x6), (4, .int rh5), (0, .ref a0), (1, .int v1_h1), (2, .int v2_h1), (3, .int v3_h1)]) hx hb dX12_bundled_57 hl (by decide) rfl (fun ls hl => hp_n (n := 59) rfl ?_)
      refine lv_aload_n hx hb dX12_bundled_59 rfl (lv_at hl 2 rfl) (hp_n (n := 60) rfl ?_)
      obtain ⟨rh7, σh7, qh7, hf⟩ := ms_cE hf
      refine m_ci (pc' := 63) (a := a0) (ρ := ρ) Bh5 (hp_runV (As := []) (rest := []) C Bh5 (m_X12_fromPad n Γ l αh4 a0 ρ σh4 Mh4  (rh7, σh7) qh7) lb_X12_fromPad lv_X12_fromPad lk_X12_384 Mh4.1 rfl (by decide) rfl hl.1 rfl (Nat.le_of_ble_eq_true rfl) dX12_bundled_60 ⟨Nat.le_refl _, Nat.le_refl _⟩) rfl (fun αh7 Hh7 Lh7 Bh7 Mh7 => ?_)
      refine lv_istore (lv' := [(6, .int rh7), (5, .int x6), (4, .int rh5), (0, .ref a0), (1, .int v1_h1), (2, .int v2_h1), (3, .int v3_h1)]) hx hb dX12_bundled_63 hl (by decide) rfl (fun ls hl => hp_n (n := 65) rfl ?_)
      refine lv_aload_n hx hb dX12_bundled_65 rfl (lv_at hl 3 rfl) (hp_n (n := 66) rfl ?_)
      refine lv_iload hx hb dX12_bundled_66 (lv_at hl 2 rfl) (hp_n (n := 68) rfl ?_)
      refine m_puti (k := 8) (φ := 658) (pc' := 71) C Bh7 Mh7 fl_X12_168 rfl rfl rfl rfl rfl dX12_bundled_68 rfl (fun αh8 Hh8 Lh8 σh8 eh8 Bh8 Mh8 => ?_)
      replace hf := ms_lE eh8 hf
      refine lv_aload_n hx hb dX12_bundled_71 rfl (lv_at hl 3 rfl) (hp_n (n := 72) rfl ?_)
      refine lv_iconst (v := 0) hx hb dX12_bundled_72 (by decide) (hp_n (n := 73) rfl ?_)
      refine m_puti (k := 11) (φ := 661) (pc' := 76) C Bh8 Mh8 fl_X12_193 rfl rfl rfl rfl rfl dX12_bundled_73 rfl (fun αh9 Hh9 Lh9 σh9 eh9 Bh9 Mh9 => ?_)
      replace hf := ms_lE eh9 hf
      refine lv_aload_n hx hb dX12_bundled_76 rfl (lv_at hl 3 rfl) (hp_n (n := 77) rfl ?_)
      refine lv_iload hx hb dX12_bundled_77 (lv_at hl 0 rfl) (hp_n (n := 79) rfl ?_)
      refine lv_iload hx hb dX12_bundled_79 (lv_at hl 1 rfl) (hp_n (n := 81) rfl ?_)
      refine lv_iload hx hb dX12_bundled_81 (lv_at hl 0 rfl) (hp_n (n := 83) rfl ?_)
      refine lv_iload hx hb dX12_bundled_83 (lv_at hl 1 rfl) (hp_n (n := 85) rfl ?_)
      have J104 : ∀ (αh10 : hp_T) (Hh10 : Heap) (Lh10 : List Loc) (Bh10 : hp_B Γ mo s α αh10 Hh10 Lh10) (σh10 : ms_T) (Mh10 : hm_M αh10 a0 ρ σh10) (w0_h10 : Int32) (w1_h10 : Int32) (w2_h10 : Int32) (ls : Array Slot) (hl : lv_has ls 7 []) (hf : f_X12_bundled_J104 n σh10 w0_h10 w1_h10 w2_h10 = some res), W p l e (hp_rm 42 0 0) s m ([.ref a0, .int a1, .int a2, .int a3] : List Value).toArray below meth c Hh10 Lh10 0 0 (MQ below (hp_Qi Γ (fun r β => r = res.1 ∧ mo α β ∧ hm_M β a0 ρ res.2)) ([.ref a0, .int a1, .int a2, .int a3] : List Value).toArray s 0 0 (hp_A Γ)) (F0 m 104 ls [.int w0_h10, .int w1_h10, .int w2_h10, .ref a0]) := by
        intro αh10 Hh10 Lh10 Bh10 σh10 Mh10 w0_h10 w1_h10 w2_h10 ls hl hf
        unfold f_X12_bundled_J104 at hf
        obtain ⟨rh11, qh11, hf⟩ := ms_bE hf
        refine m_cp (pc' := 107) Bh10 (hp_runV (As := [.int w2_h10, .int w1_h10, .int w0_h10]) (rest := []) C Bh10 (m_X12_why n Γ l αh10 a0 ρ σh10 Mh10 w2_h10 w1_h10 w0_h10 rh11 qh11) lb_X12_why lv_X12_why lk_X12_177 Mh10.1 rfl (by decide) rfl hl.1 rfl (Nat.le_of_ble_eq_true rfl) dX12_bundled_104 ⟨Nat.le_refl _, Nat.le_refl _⟩) rfl (fun Hh11 Lh11 Bh11 => ?_)
        cases hf
        exact q_iret C Bh11 hr hlk ⟨rfl, Bh11.2.2, Mh10⟩ dX12_bundled_107
      have J99 : ∀ (αh12 : hp_T) (Hh12 : Heap) (Lh12 : List Loc) (Bh12 : hp_B Γ mo s α αh12 Hh12 Lh12) (σh12 : ms_T) (Mh12 : hm_M αh12 a0 ρ σh12) (w0_h12 : Int32) (w1_h12 : Int32) (ls : Array Slot) (hl : lv_has ls 7 []) (hf : f_X12_bundled_J99 n σh12 w0_h12 w1_h12 = some res), W p l e (hp_rm 42 0 0) s m ([.ref a0, .int a1, .int a2, .int a3] : List Value).toArray below meth c Hh12 Lh12 0 0 (MQ below (hp_Qi Γ (fun r β => r = res.1 ∧ mo α β ∧ hm_M β a0 ρ res.2)) ([.ref a0, .int a1, .int a2, .int a3] : List Value).toArray s 0 0 (hp_A Γ)) (F0 m 99 ls [.int w0_h12, .int w1_h12, .ref a0]) := by
        intro αh12 Hh12 Lh12 Bh12 σh12 Mh12 w0_h12 w1_h12 ls hl hf
        unfold f_X12_bundled_J99 at hf
        refine lv_iconst (v := 1) hx hb dX12_bundled_99 (by decide) (hp_n (n := 100) rfl ?_)
        refine lv_goto (tgt := 104) hx hb dX12_bundled_100 (by decide) ?_
        exact J104 αh12 Hh12 Lh12 Bh12 σh12 Mh12 (1 : Int32) w0_h12 w1_h12 ls (lv_sub hl [] rfl) hf
      refine lv_icmp_ne (tgt := 99) hx hb dX12_bundled_85 (by decide) (fun c13 => ?_) (fun c13 => hp_n (n := 88) rfl ?_)
      ·
        replace hf := ms_iF c13 hf
        exact J99 αh9 Hh9 Lh9 Bh9 σh9 Mh9 x6 rh7 ls (lv_sub hl [] rfl) hf
      ·
        replace hf := ms_iT c13 hf
        refine lv_aload_n hx hb dX12_bundled_88 rfl (lv_at hl 3 rfl) (hp_n (n := 89) rfl ?_)
        refine lv_iload_n hx hb dX12_bundled_89 rfl (lv_at hl 4 rfl) (hp_n (n := 90) rfl ?_)
        refine lv_iconst (v := 0) hx hb dX12_bundled_90 (by decide) (hp_n (n := 91) rfl ?_)
        refine lv_iload_n hx hb dX12_bundled_91 rfl (lv_at hl 5 rfl) (hp_n (n := 92) rfl ?_)
        obtain ⟨rh14, σh14, qh14, hf⟩ := ms_cE hf
        refine m_ci (pc' := 95) (a := a0) (ρ := ρ) Bh9 (hp_runV (As := [.int v1_h1, .int (0 : Int32), .int v2_h1]) (rest := [.int x6, .int rh7, .ref a0]) C Bh9 (m_X12_foldsBundle n 40 Γ l αh9 a0 ρ σh9 Mh9 v1_h1 (0 : Int32) v2_h1 (rh14, σh14) qh14) lb_X12_foldsBundle lv_X12_foldsBundle lk_X12_196 Mh9.1 rfl (by decide) rfl hl.1 rfl (Nat.le_of_ble_eq_true rfl) dX12_bundled_92 ⟨Nat.le_refl _, Nat.le_refl _⟩) rfl (fun αh14 Hh14 Lh14 Bh14 Mh14 => ?_)
        refine lv_iload_n hx hb dX12_bundled_95 rfl (lv_at hl 6 rfl) (hp_n (n := 96) rfl ?_)
        refine lv_icmp_ne (tgt := 103) hx hb dX12_bundled_96 (by decide) (fun c15 => ?_) (fun c15 => hp_n (n := 99) rfl ?_)
        ·
          replace hf := ms_iF c15 hf
          refine lv_iconst (v := 0) hx hb dX12_bundled_103 (by decide) (hp_n (n := 104) rfl ?_)
          exact J104 αh14 Hh14 Lh14 Bh14 σh14 Mh14 (0 : Int32) x6 rh7 ls (lv_sub hl [] rfl) hf
        ·
          replace hf := ms_iT c15 hf
          exact J99 αh14 Hh14 Lh14 Bh14 σh14 Mh14 x6 rh7 ls (lv_sub hl [] rfl) hf
    ·
      replace hf := ms_iT c3 hf
      refine lv_iconst (v := (-1)) hx hb dX12_bundled_36 (by decide) (hp_n (n := 37) rfl ?_)
      cases hf
      exact q_iret C Bh2 hr hlk ⟨rfl, Bh2.2.2, Mh2⟩ dX12_bundled_37
  have J25 : ∀ (αh16 : hp_T) (Hh16 : Heap) (Lh16 : List Loc) (Bh16 : hp_B Γ mo s α αh16 Hh16 Lh16) (σh16 : ms_T) (Mh16 : hm_M αh16 a0 ρ σh16) (v1_h16 : Int32) (v2_h16 : Int32) (v3_h16 : Int32) (ls : Array Slot) (hl : lv_has ls 7 [(0, .ref a0), (1, .int v1_h16), (2, .int v2_h16), (3, .int v3_h16)]) (hf : f_X12_bundled_J25 n σh16 v1_h16 v2_h16 v3_h16 = some res), W p l e (hp_rm 42 0 0) s m ([.ref a0, .int a1, .int a2, .int a3] : List Value).toArray below meth c Hh16 Lh16 0 0 (MQ below (hp_Qi Γ (fun r β => r = res.1 ∧ mo α β ∧ hm_M β a0 ρ res.2)) ([.ref a0, .int a1, .int a2, .int a3] : List Value).toArray s 0 0 (hp_A Γ)) (F0 m 25 ls [.ref a0]) := by
    intro αh16 Hh16 Lh16 Bh16 σh16 Mh16 v1_h16 v2_h16 v3_h16 ls hl hf
    unfold f_X12_bundled_J25 at hf
    refine lv_iconst (v := 1) hx hb dX12_bundled_25 (by decide) (hp_n (n := 26) rfl ?_)
    refine lv_goto (tgt := 30) hx hb dX12_bundled_26 (by decide) ?_
    exact J30 αh16 Hh16 Lh16 Bh16 σh16 Mh16 v1_h16 v2_h16 v3_h16 (1 : Int32) ls (lv_sub hl [0, 1, 2, 3] rfl) hf
  refine lv_if_lt (tgt := 25) hx hb dX12_bundled_2 (by decide) (fun c17 => ?_) (fun c17 => hp_n (n := 5) rfl ?_)
  ·
    replace hf := ms_iT c17 hf
    exact J25 α s.heap [] B σ hM a1 a2 a3 ls (lv_sub hl [0, 1, 2, 3] rfl) hf
  ·
    replace hf := ms_iF c17 hf
    refine lv_iload_n hx hb dX12_bundled_5 rfl (lv_at hl 1 rfl) (hp_n (n := 6) rfl ?_)
    refine lv_if_le (tgt := 25) hx hb dX12_bundled_6 (by decide) (fun c18 => ?_) (fun c18 => hp_n (n := 9) rfl ?_)
    ·
      replace hf := ms_iT c18 hf
      exact J25 α s.heap [] B σ hM a1 a2 a3 ls (lv_sub hl [0, 1, 2, 3] rfl) hf
    ·
      replace hf := ms_iF c18 hf
      refine lv_iload_n hx hb dX12_bundled_9 rfl (lv_at hl 1 rfl) (hp_n (n := 10) rfl ?_)
      refine lv_iload_n hx hb dX12_bundled_10 rfl (lv_at hl 2 rfl) (hp_n (n := 11) rfl ?_)
      obtain ⟨rh19, qh19, hf⟩ := ms_bE hf
      refine m_cp (pc' := 14) B (hp_runS (As := [.int a1, .int a2]) (rest := [.ref a0]) C B (m_X12_isBeyond n Γ l α a1 a2 rh19 qh19) lb_X12_isBeyond ls_X12_isBeyond lk_X12_368 rfl (by decide) rfl hl.1 rfl (Nat.le_of_ble_eq_true rfl) dX12_bundled_11 ⟨Nat.le_refl _, Nat.le_refl _⟩) rfl (fun Hh19 Lh19 Bh19 => ?_)
      refine lv_if_ne (tgt := 25) hx hb dX12_bundled_14 (by decide) (fun c20 => ?_) (fun c20 => hp_n (n := 17) rfl ?_)
      ·
        replace hf := ms_iF c20 hf
        exact J25 α Hh19 Lh19 Bh19 σ hM a1 a2 a3 ls (lv_sub hl [0, 1, 2, 3] rfl) hf
      ·
        replace hf := ms_iT c20 hf
        refine lv_aload_n hx hb dX12_bundled_17 rfl (lv_at hl 0 rfl) (hp_n (n := 18) rfl ?_)
        refine lv_iload_n hx hb dX12_bundled_18 rfl (lv_at hl 3 rfl) (hp_n (n := 19) rfl ?_)
        obtain ⟨rh21, qh21, hf⟩ := ms_bE hf
        refine m_cp (pc' := 22) Bh19 (hp_runV (As := [.int a3]) (rest := [.ref a0]) C Bh19 (m_X12_isMark n Γ l α a0 ρ σ hM a3 rh21 qh21) lb_X12_isMark lv_X12_isMark lk_X12_321 hM.1 rfl (by decide) rfl hl.1 rfl (Nat.le_of_ble_eq_true rfl) dX12_bundled_19 ⟨Nat.le_refl _, Nat.le_refl _⟩) rfl (fun Hh21 Lh21 Bh21 => ?_)
        refine lv_if_ne (tgt := 29) hx hb dX12_bundled_22 (by decide) (fun c22 => ?_) (fun c22 => hp_n (n := 25) rfl ?_)
        ·
          replace hf := ms_iF c22 hf
          refine lv_iconst (v := 0) hx hb dX12_bundled_29 (by decide) (hp_n (n := 30) rfl ?_)
          exact J30 α Hh21 Lh21 Bh21 σ hM a1 a2 a3 (0 : Int32) ls (lv_sub hl [0, 1, 2, 3] rfl) hf
        ·
          replace hf := ms_iT c22 hf
          exact J25 α Hh21 Lh21 Bh21 σ hM a1 a2 a3 ls (lv_sub hl [0, 1, 2, 3] rfl) hf
def f_X12_fold_L43 (n : Nat) : Nat → ms_T → Int32 → Int32 → Option (Int32 × ms_T)
  | 0, _, _, _ => none
  | k43 + 1, σh8, v1_h8, v2_h8 =>
    if v2_h8 < 0 then
      some (v1_h8, σh8)
    else
      ms_g ((8 : Int32) + v2_h8) 1980 <|
      ms_b (f_X12_both n σh8 (ms_E σh8 40 (((8 : Int32) + v2_h8)).toNatClampNeg) v1_h8) fun rh11 =>
      ms_l (v2_h8 + (-1)) fun x12 =>
      (f_X12_fold_L43 n k43) σh8 rh11 x12
def f_X12_fold (n : Nat) (σ : ms_T) : Option (Int32 × ms_T) :=
  ms_c (f_X12_is n σ (0 : Int32)) fun rh1 σh1 =>
  ms_g (2 : Int32) 1980 <|
  if (ms_E σh1 40 ((2 : Int32)).toNatClampNeg) = 0 then
    some ((0 : Int32), σh1)
  else
    ms_g (2 : Int32) 1980 <|
    ms_g (((8 : Int32) + (ms_E σh1 40 ((2 : Int32)).toNatClampNeg)) - (1 : Int32)) 1980 <|
    ms_l ((ms_E σh1 40 ((((8 : Int32) + (ms_E σh1 40 ((2 : Int32)).toNatClampNeg)) - (1 : Int32))).toNatClampNeg)) fun x6 =>
    ms_g (2 : Int32) 1980 <|
    ms_l (((ms_E σh1 40 ((2 : Int32)).toNatClampNeg) - (2 : Int32))) fun x13 =>
    f_X12_fold_L43 n n σh1 x6 x13
set_option maxRecDepth 100000 in
set_option maxHeartbeats 4000000 in
theorem m_X12_fold (n : Nat) (Γ : hp_G) (l : Launch) (α : hp_T) (a0 : Nat) (ρ : Nat → Nat) (σ : ms_T) (hM : hm_M α a0 ρ σ)  (res : (Int32 × ms_T)) (hf : f_X12_fold n σ = some res) : Met l yX12_fold (hp_ws yX12_fold cX12_fold 3 (some .int)) (hp_rm 2 0 0) (hp_Pc Γ α [.ref a0]) (hp_Qi Γ (fun r β => r = res.1 ∧ mo α β ∧ hm_M β a0 ρ res.2)) 0 0 (hp_A Γ) := by
  unfold f_X12_fold at hf
  refine hp_start (by decide) ?_
  intro p e s m below meth c C hr hlk B0 hnm
  have C : hp_C Γ p m c cX12_fold 3 s ([.ref a0] : List Value).toArray RX12 := C
  have hx := C.1.1
  have hb := C.1.2.1
  have hown := C.1.2.2.2.1
  have hts := C.1.2.2.2.2
  have B : hp_B Γ mo s α α s.heap [] := ⟨B0.1, B0.2.1, mo_rf⟩
  have hl := lv_entry ([.ref a0]) (n := 3) (Nat.le_of_ble_eq_true rfl)
  show W p l e (hp_rm 2 0 0) s m ([.ref a0] : List Value).toArray below meth c s.heap [] 0 0 (MQ below (hp_Qi Γ (fun r β => r = res.1 ∧ mo α β ∧ hm_M β a0 ρ res.2)) ([.ref a0] : List Value).toArray s 0 0 (hp_A Γ)) (entryFrame m ([.ref a0] : List Value).toArray 3)
  rw [lg_entry_eq]
  generalize (lg_sl ([.ref a0]) ++ List.replicate (3 - (lg_sl ([.ref a0])).length) Slot.unset).toArray = ls at hl ⊢
  have hl : lv_has ls 3 [(0, .ref a0)] := hl
  refine lv_aload_n hx hb dX12_fold_0 rfl (lv_at hl 0 rfl) (hp_n (n := 1) rfl ?_)
  refine lv_iconst (v := 0) hx hb dX12_fold_1 (by decide) (hp_n (n := 2) rfl ?_)
  obtain ⟨rh1, σh1, qh1, hf⟩ := ms_cE hf
  refine m_ci (pc' := 5) (a := a0) (ρ := ρ) B (hp_runV (As := [.int (0 : Int32)]) (rest := []) C B (m_X12_is n Γ l α a0 ρ σ hM (0 : Int32) (rh1, σh1) qh1) lb_X12_is lv_X12_is lk_X12_309 hM.1 rfl (by decide) rfl hl.1 rfl (Nat.le_of_ble_eq_true rfl) dX12_fold_2 ⟨Nat.le_refl _, Nat.le_refl _⟩) rfl (fun αh1 Hh1 Lh1 Bh1 Mh1 => ?_)
  refine lv_pop hx hb dX12_fold_5 rfl (hp_n (n := 6) rfl ?_)
  refine lv_aload_n hx hb dX12_fold_6 rfl (lv_at hl 0 rfl) (hp_n (n := 7) rfl ?_)
  refine m_getr (κ := 40) (k := 0) (pc' := 10) C Bh1 Mh1 fl_X12_7 rfl (by decide) dX12_fold_7 rfl ?_
  refine lv_iconst (v := 2) hx hb dX12_fold_10 (by decide) (hp_n (n := 11) rfl ?_)
  obtain ⟨g2, hf⟩ := ms_gE hf
  refine m_ial (κ := 40) (φ := 650) (n := 1980) (pc' := 12) C Bh1 Mh1 (by decide) (by decide) rfl g2 dX12_fold_11 rfl ?_
  refine lv_if_ne (tgt := 17) hx hb dX12_fold_12 (by decide) (fun c3 => ?_) (fun c3 => hp_n (n := 15) rfl ?_)
  ·
    replace hf := ms_iF c3 hf
    refine lv_aload_n hx hb dX12_fold_17 rfl (lv_at hl 0 rfl) (hp_n (n := 18) rfl ?_)
    refine m_getr (κ := 40) (k := 0) (pc' := 21) C Bh1 Mh1 fl_X12_7 rfl (by decide) dX12_fold_18 rfl ?_
    refine lv_bipush (v := 8) hx hb dX12_fold_21 (by decide) (hp_n (n := 23) rfl ?_)
    refine lv_aload_n hx hb dX12_fold_23 rfl (lv_at hl 0 rfl) (hp_n (n := 24) rfl ?_)
    refine m_getr (κ := 40) (k := 0) (pc' := 27) C Bh1 Mh1 fl_X12_7 rfl (by decide) dX12_fold_24 rfl ?_
    refine lv_iconst (v := 2) hx hb dX12_fold_27 (by decide) (hp_n (n := 28) rfl ?_)
    obtain ⟨g4, hf⟩ := ms_gE hf
    refine m_ial (κ := 40) (φ := 650) (n := 1980) (pc' := 29) C Bh1 Mh1 (by decide) (by decide) rfl g4 dX12_fold_28 rfl ?_
    refine lv_iadd hx hb dX12_fold_29 (hp_n (n := 30) rfl ?_)
    refine lv_iconst (v := 1) hx hb dX12_fold_30 (by decide) (hp_n (n := 31) rfl ?_)
    refine lv_isub hx hb dX12_fold_31 (hp_n (n := 32) rfl ?_)
    obtain ⟨g5, hf⟩ := ms_gE hf
    refine m_ial (κ := 40) (φ := 650) (n := 1980) (pc' := 33) C Bh1 Mh1 (by decide) (by decide) rfl g5 dX12_fold_32 rfl ?_
    refine lv_topi (fun x6 ex6 => ?_)
    replace hf := ms_lE ex6 hf
    refine lv_istore_n (lv' := [(1, .int x6), (0, .ref a0)]) hx hb dX12_fold_33 rfl hl (by decide) rfl (fun ls hl => hp_n (n := 34) rfl ?_)
    refine lv_aload_n hx hb dX12_fold_34 rfl (lv_at hl 1 rfl) (hp_n (n := 35) rfl ?_)
    refine m_getr (κ := 40) (k := 0) (pc' := 38) C Bh1 Mh1 fl_X12_7 rfl (by decide) dX12_fold_35 rfl ?_
    refine lv_iconst (v := 2) hx hb dX12_fold_38 (by decide) (hp_n (n := 39) rfl ?_)
    obtain ⟨g7, hf⟩ := ms_gE hf
    refine m_ial (κ := 40) (φ := 650) (n := 1980) (pc' := 40) C Bh1 Mh1 (by decide) (by decide) rfl g7 dX12_fold_39 rfl ?_
    refine lv_iconst (v := 2) hx hb dX12_fold_40 (by decide) (hp_n (n := 41) rfl ?_)
    refine lv_isub hx hb dX12_fold_41 (hp_n (n := 42) rfl ?_)
    have J43 : ∀ (k43 : Nat) (αh8 : hp_T) (Hh8 : Heap) (Lh8 : List Loc) (Bh8 : hp_B Γ mo s α αh8 Hh8 Lh8) (σh8 : ms_T) (Mh8 : hm_M αh8 a0 ρ σh8) (v1_h8 : Int32) (v2_h8 : Int32) (ls : Array Slot) (hl : lv_has ls 3 [(0, .ref a0), (1, .int v1_h8), (2, .int v2_h8)]) (hf : f_X12_fold_L43 n k43 σh8 v1_h8 v2_h8 = some res), W p l e (hp_rm 2 0 0) s m ([.ref a0] : List Value).toArray below meth c Hh8 Lh8 0 0 (MQ below (hp_Qi Γ (fun r β => r = res.1 ∧ mo α β ∧ hm_M β a0 ρ res.2)) ([.ref a0] : List Value).toArray s 0 0 (hp_A Γ)) (F0 m 43 ls []) := by
      intro k43
      induction k43 with
      | zero => intro αh8 Hh8 Lh8 Bh8 σh8 Mh8 v1_h8 v2_h8 ls hl hf; rw [f_X12_fold_L43.eq_1] at hf; cases hf
      | succ k43 ih43 =>
        intro αh8 Hh8 Lh8 Bh8 σh8 Mh8 v1_h8 v2_h8 ls hl hf
        rw [f_X12_fold_L43.eq_2] at hf
        refine lv_iload_n hx hb dX12_fold_43 rfl (lv_at hl 2 rfl) (hp_n (n := 44) rfl ?_)
        refine lv_if_lt (tgt := 68) hx hb dX12_fold_44 (by decide) (fun c9 => ?_) (fun c9 => hp_n (n := 47) rfl ?_)
        ·
          replace hf := ms_iT c9 hf
          refine lv_iload_n hx hb dX12_fold_68 rfl (lv_at hl 1 rfl) (hp_n (n := 69) rfl ?_)
          cases hf
          exact q_iret C Bh8 hr hlk ⟨rfl, Bh8.2.2, Mh8⟩ dX12_fold_69
        ·
          replace hf := ms_iF c9 hf
          refine lv_aload_n hx hb dX12_fold_47 rfl (lv_at hl 0 rfl) (hp_n (n := 48) rfl ?_)
          refine lv_aload_n hx hb dX12_fold_48 rfl (lv_at hl 0 rfl) (hp_n (n := 49) rfl ?_)
          refine m_getr (κ := 40) (k := 0) (pc' := 52) C Bh8 Mh8 fl_X12_7 rfl (by decide) dX12_fold_49 rfl ?_
          refine lv_bipush (v := 8) hx hb dX12_fold_52 (by decide) (hp_n (n := 54) rfl ?_)
          refine lv_iload_n hx hb dX12_fold_54 rfl (lv_at hl 2 rfl) (hp_n (n := 55) rfl ?_)
          refine lv_iadd hx hb dX12_fold_55 (hp_n (n := 56) rfl ?_)
          obtain ⟨g10, hf⟩ := ms_gE hf
          refine m_ial (κ := 40) (φ := 650) (n := 1980) (pc' := 57) C Bh8 Mh8 (by decide) (by decide) rfl g10 dX12_fold_56 rfl ?_
          refine lv_iload_n hx hb dX12_fold_57 rfl (lv_at hl 1 rfl) (hp_n (n := 58) rfl ?_)
          obtain ⟨rh11, qh11, hf⟩ := ms_bE hf
          refine m_cp (pc' := 61) Bh8 (hp_runV (As := [.int (ms_E σh8 40 (((8 : Int32) + v2_h8)).toNatClampNeg), .int v1_h8]) (rest := []) C Bh8 (m_X12_both n Γ l αh8 a0 ρ σh8 Mh8 (ms_E σh8 40 (((8 : Int32) + v2_h8)).toNatClampNeg) v1_h8 rh11 qh11) lb_X12_both lv_X12_both lk_X12_136 Mh8.1 rfl (by decide) rfl hl.1 rfl (Nat.le_of_ble_eq_true rfl) dX12_fold_58 ⟨Nat.le_refl _, Nat.le_refl _⟩) rfl (fun Hh11 Lh11 Bh11 => ?_)
          refine lv_istore_n (lv' := [(1, .int rh11), (0, .ref a0), (2, .int v2_h8)]) hx hb dX12_fold_61 rfl hl (by decide) rfl (fun ls hl => hp_n (n := 62) rfl ?_)
          obtain ⟨x12, ex12⟩ : ∃ y : Int32, y = v2_h8 + (-1) := ⟨_, rfl⟩
          replace hf := ms_lE ex12 hf
          refine lv_iinc (v := x12) (lv' := [(2, .int x12), (1, .int rh11), (0, .ref a0)]) hx hb dX12_fold_62 hl (k := 2) rfl (by rw [ex12]; rfl) (by decide) rfl (fun ls hl => hp_n (n := 65) rfl ?_)
          refine lv_goto (tgt := 43) hx hb dX12_fold_65 (by decide) ?_
          exact ih43 αh8 Hh11 Lh11 Bh11 σh8 Mh8 rh11 x12 ls (lv_sub hl [2, 1, 0] rfl) hf
    refine lv_topi (fun x13 ex13 => ?_)
    replace hf := ms_lE ex13 hf
    refine lv_istore_n (lv' := [(2, .int x13), (1, .int x6), (0, .ref a0)]) hx hb dX12_fold_42 rfl hl (by decide) rfl (fun ls hl => hp_n (n := 43) rfl ?_)
    exact J43 n αh1 Hh1 Lh1 Bh1 σh1 Mh1 x6 x13 ls (lv_sub hl [2, 1, 0] rfl) hf
  ·
    replace hf := ms_iT c3 hf
    refine lv_iconst (v := 0) hx hb dX12_fold_15 (by decide) (hp_n (n := 16) rfl ?_)
    cases hf
    exact q_iret C Bh1 hr hlk ⟨rfl, Bh1.2.2, Mh1⟩ dX12_fold_16
def f_X12_steps_J15 (n : Nat) (σh2 : ms_T) (v1_h2 : Int32) (v2_h2 : Int32) (w0_h2 : Int32) : Option (Int32 × ms_T) :=
  ms_c (f_X12_is n σh2 w0_h2) fun rh3 σh3 =>
  if rh3 = 0 then
    some ((-1 : Int32), σh3)
  else
    ms_b (f_X12_inclusion n σh3 v1_h2 v2_h2) fun σh5 =>
    some ((ms_I σh5 657), σh5)
def f_X12_steps (n : Nat) (σ : ms_T) (a1 : Int32) (a2 : Int32) : Option (Int32 × ms_T) :=
  ms_b (f_X12_isThing n σ a1 a2) fun rh1 =>
  if rh1 = 0 then
    f_X12_steps_J15 n σ a1 a2 (1 : Int32)
  else
    f_X12_steps_J15 n σ a1 a2 (0 : Int32)
set_option maxRecDepth 100000 in
set_option maxHeartbeats 4000000 in
theorem m_X12_steps (n : Nat) (Γ : hp_G) (l : Launch) (α : hp_T) (a0 : Nat) (ρ : Nat → Nat) (σ : ms_T) (hM : hm_M α a0 ρ σ) (a1 : Int32) (a2 : Int32) (res : (Int32 × ms_T)) (hf : f_X12_steps n σ a1 a2 = some res) : Met l yX12_steps (hp_ws yX12_steps cX12_steps 3 (some .int)) (hp_rm 42 0 0) (hp_Pc Γ α [.ref a0, .int a1, .int a2]) (hp_Qi Γ (fun r β => r = res.1 ∧ mo α β ∧ hm_M β a0 ρ res.2)) 0 0 (hp_A Γ) := by
  unfold f_X12_steps at hf
  refine hp_start (by decide) ?_
  intro p e s m below meth c C hr hlk B0 hnm
  have C : hp_C Γ p m c cX12_steps 3 s ([.ref a0, .int a1, .int a2] : List Value).toArray RX12 := C
  have hx := C.1.1
  have hb := C.1.2.1
  have hown := C.1.2.2.2.1
  have hts := C.1.2.2.2.2
  have B : hp_B Γ mo s α α s.heap [] := ⟨B0.1, B0.2.1, mo_rf⟩
  have hl := lv_entry ([.ref a0, .int a1, .int a2]) (n := 3) (Nat.le_of_ble_eq_true rfl)
  show W p l e (hp_rm 42 0 0) s m ([.ref a0, .int a1, .int a2] : List Value).toArray below meth c s.heap [] 0 0 (MQ below (hp_Qi Γ (fun r β => r = res.1 ∧ mo α β ∧ hm_M β a0 ρ res.2)) ([.ref a0, .int a1, .int a2] : List Value).toArray s 0 0 (hp_A Γ)) (entryFrame m ([.ref a0, .int a1, .int a2] : List Value).toArray 3)
  rw [lg_entry_eq]
  generalize (lg_sl ([.ref a0, .int a1, .int a2]) ++ List.replicate (3 - (lg_sl ([.ref a0, .int a1, .int a2])).length) Slot.unset).toArray = ls at hl ⊢
  have hl : lv_has ls 3 [(0, .ref a0), (1, .int a1), (2, .int a2)] := hl
  refine lv_aload_n hx hb dX12_steps_0 rfl (lv_at hl 0 rfl) (hp_n (n := 1) rfl ?_)
  refine lv_aload_n hx hb dX12_steps_1 rfl (lv_at hl 0 rfl) (hp_n (n := 2) rfl ?_)
  refine lv_iload_n hx hb dX12_steps_2 rfl (lv_at hl 1 rfl) (hp_n (n := 3) rfl ?_)
  refine lv_iload_n hx hb dX12_steps_3 rfl (lv_at hl 2 rfl) (hp_n (n := 4) rfl ?_)
  obtain ⟨rh1, qh1, hf⟩ := ms_bE hf
  refine m_cp (pc' := 7) B (hp_runV (As := [.int a1, .int a2]) (rest := [.ref a0]) C B (m_X12_isThing n Γ l α a0 ρ σ hM a1 a2 rh1 qh1) lb_X12_isThing lv_X12_isThing lk_X12_381 hM.1 rfl (by decide) rfl hl.1 rfl (Nat.le_of_ble_eq_true rfl) dX12_steps_4 ⟨Nat.le_refl _, Nat.le_refl _⟩) rfl (fun Hh1 Lh1 Bh1 => ?_)
  have J15 : ∀ (αh2 : hp_T) (Hh2 : Heap) (Lh2 : List Loc) (Bh2 : hp_B Γ mo s α αh2 Hh2 Lh2) (σh2 : ms_T) (Mh2 : hm_M αh2 a0 ρ σh2) (v1_h2 : Int32) (v2_h2 : Int32) (w0_h2 : Int32) (ls : Array Slot) (hl : lv_has ls 3 [(0, .ref a0), (1, .int v1_h2), (2, .int v2_h2)]) (hf : f_X12_steps_J15 n σh2 v1_h2 v2_h2 w0_h2 = some res), W p l e (hp_rm 42 0 0) s m ([.ref a0, .int a1, .int a2] : List Value).toArray below meth c Hh2 Lh2 0 0 (MQ below (hp_Qi Γ (fun r β => r = res.1 ∧ mo α β ∧ hm_M β a0 ρ res.2)) ([.ref a0, .int a1, .int a2] : List Value).toArray s 0 0 (hp_A Γ)) (F0 m 15 ls [.int w0_h2, .ref a0]) := by
    intro αh2 Hh2 Lh2 Bh2 σh2 Mh2 v1_h2 v2_h2 w0_h2 ls hl hf
    unfold f_X12_steps_J15 at hf
    obtain ⟨rh3, σh3, qh3, hf⟩ := ms_cE hf
    refine m_ci (pc' := 18) (a := a0) (ρ := ρ) Bh2 (hp_runV (As := [.int w0_h2]) (rest := []) C Bh2 (m_X12_is n Γ l αh2 a0 ρ σh2 Mh2 w0_h2 (rh3, σh3) qh3) lb_X12_is lv_X12_is lk_X12_309 Mh2.1 rfl (by decide) rfl hl.1 rfl (Nat.le_of_ble_eq_true rfl) dX12_steps_15 ⟨Nat.le_refl _, Nat.le_refl _⟩) rfl (fun αh3 Hh3 Lh3 Bh3 Mh3 => ?_)
    refine lv_if_ne (tgt := 23) hx hb dX12_steps_18 (by decide) (fun c4 => ?_) (fun c4 => hp_n (n := 21) rfl ?_)
    ·
      replace hf := ms_iF c4 hf
      refine lv_aload_n hx hb dX12_steps_23 rfl (lv_at hl 0 rfl) (hp_n (n := 24) rfl ?_)
      refine lv_iload_n hx hb dX12_steps_24 rfl (lv_at hl 1 rfl) (hp_n (n := 25) rfl ?_)
      refine lv_iload_n hx hb dX12_steps_25 rfl (lv_at hl 2 rfl) (hp_n (n := 26) rfl ?_)
      obtain ⟨σh5, qh5, hf⟩ := ms_bE hf
      refine m_cv (pc' := 29) (a := a0) (ρ := ρ) Bh3 (hp_runV (As := [.int v1_h2, .int v2_h2]) (rest := []) C Bh3 (m_X12_inclusion n Γ l αh3 a0 ρ σh3 Mh3 v1_h2 v2_h2 σh5 qh5) lb_X12_inclusion lv_X12_inclusion lk_X12_171 Mh3.1 rfl (by decide) rfl hl.1 rfl (Nat.le_of_ble_eq_true rfl) dX12_steps_26 ⟨Nat.le_refl _, Nat.le_refl _⟩) rfl (fun αh5 Hh5 Lh5 Bh5 Mh5 => ?_)
      refine lv_aload_n hx hb dX12_steps_29 rfl (lv_at hl 0 rfl) (hp_n (n := 30) rfl ?_)
      refine m_geti (k := 7) (φ := 657) (pc' := 33) C Bh5 Mh5 fl_X12_139 rfl rfl dX12_steps_30 rfl ?_
      cases hf
      exact q_iret C Bh5 hr hlk ⟨rfl, Bh5.2.2, Mh5⟩ dX12_steps_33
    ·
      replace hf := ms_iT c4 hf
      refine lv_iconst (v := (-1)) hx hb dX12_steps_21 (by decide) (hp_n (n := 22) rfl ?_)
      cases hf
      exact q_iret C Bh3 hr hlk ⟨rfl, Bh3.2.2, Mh3⟩ dX12_steps_22
  refine lv_if_eq (tgt := 14) hx hb dX12_steps_7 (by decide) (fun c6 => ?_) (fun c6 => hp_n (n := 10) rfl ?_)
  ·
    replace hf := ms_iT c6 hf
    refine lv_iconst (v := 1) hx hb dX12_steps_14 (by decide) (hp_n (n := 15) rfl ?_)
    exact J15 α Hh1 Lh1 Bh1 σ hM a1 a2 (1 : Int32) ls (lv_sub hl [0, 1, 2] rfl) hf
  ·
    replace hf := ms_iF c6 hf
    refine lv_iconst (v := 0) hx hb dX12_steps_10 (by decide) (hp_n (n := 11) rfl ?_)
    refine lv_goto (tgt := 15) hx hb dX12_steps_11 (by decide) ?_
    exact J15 α Hh1 Lh1 Bh1 σ hM a1 a2 (0 : Int32) ls (lv_sub hl [0, 1, 2] rfl) hf
def f_X12_climbs_J15 (n : Nat) (σh1 : ms_T) (v1_h1 : Int32) (v2_h1 : Int32) (w0_h1 : Int32) : Option (Int32 × ms_T) :=
  ms_c (f_X12_is n σh1 w0_h1) fun rh2 σh2 =>
  if rh2 = 0 then
    some ((-1 : Int32), σh2)
  else
    ms_b (f_X12_growth n σh2 v1_h1 v2_h1) fun σh4 =>
    some ((ms_I σh4 657), σh4)
def f_X12_climbs_J14 (n : Nat) (σh5 : ms_T) (v1_h5 : Int32) (v2_h5 : Int32) : Option (Int32 × ms_T) :=
  f_X12_climbs_J15 n σh5 v1_h5 v2_h5 (1 : Int32)
def f_X12_climbs (n : Nat) (σ : ms_T) (a1 : Int32) (a2 : Int32) : Option (Int32 × ms_T) :=
  if a1 < 0 then
    f_X12_climbs_J14 n σ a1 a2
  else
    if a2 < a1 then
      f_X12_climbs_J14 n σ a1 a2
    else
      f_X12_climbs_J15 n σ a1 a2 (0 : Int32)
set_option maxRecDepth 100000 in
set_option maxHeartbeats 4000000 in
theorem m_X12_climbs (n : Nat) (Γ : hp_G) (l : Launch) (α : hp_T) (a0 : Nat) (ρ : Nat → Nat) (σ : ms_T) (hM : hm_M α a0 ρ σ) (a1 : Int32) (a2 : Int32) (res : (Int32 × ms_T)) (hf : f_X12_climbs n σ a1 a2 = some res) : Met l yX12_climbs (hp_ws yX12_climbs cX12_climbs 3 (some .int)) (hp_rm 42 0 0) (hp_Pc Γ α [.ref a0, .int a1, .int a2]) (hp_Qi Γ (fun r β => r = res.1 ∧ mo α β ∧ hm_M β a0 ρ res.2)) 0 0 (hp_A Γ) := by
  unfold f_X12_climbs at hf
  refine hp_start (by decide) ?_
  intro p e s m below meth c C hr hlk B0 hnm
  have C : hp_C Γ p m c cX12_climbs 3 s ([.ref a0, .int a1, .int a2] : List Value).toArray RX12 := C
  have hx := C.1.1
  have hb := C.1.2.1
  have hown := C.1.2.2.2.1
  have hts := C.1.2.2.2.2
  have B : hp_B Γ mo s α α s.heap [] := ⟨B0.1, B0.2.1, mo_rf⟩
  have hl := lv_entry ([.ref a0, .int a1, .int a2]) (n := 3) (Nat.le_of_ble_eq_true rfl)
  show W p l e (hp_rm 42 0 0) s m ([.ref a0, .int a1, .int a2] : List Value).toArray below meth c s.heap [] 0 0 (MQ below (hp_Qi Γ (fun r β => r = res.1 ∧ mo α β ∧ hm_M β a0 ρ res.2)) ([.ref a0, .int a1, .int a2] : List Value).toArray s 0 0 (hp_A Γ)) (entryFrame m ([.ref a0, .int a1, .int a2] : List Value).toArray 3)
  rw [lg_entry_eq]
  generalize (lg_sl ([.ref a0, .int a1, .int a2]) ++ List.replicate (3 - (lg_sl ([.ref a0, .int a1, .int a2])).length) Slot.unset).toArray = ls at hl ⊢
  have hl : lv_has ls 3 [(0, .ref a0), (1, .int a1), (2, .int a2)] := hl
  refine lv_aload_n hx hb dX12_climbs_0 rfl (lv_at hl 0 rfl) (hp_n (n := 1) rfl ?_)
  refine lv_iload_n hx hb dX12_climbs_1 rfl (lv_at hl 1 rfl) (hp_n (n := 2) rfl ?_)
  have J15 : ∀ (αh1 : hp_T) (Hh1 : Heap) (Lh1 : List Loc) (Bh1 : hp_B Γ mo s α αh1 Hh1 Lh1) (σh1 : ms_T) (Mh1 : hm_M αh1 a0 ρ σh1) (v1_h1 : Int32) (v2_h1 : Int32) (w0_h1 : Int32) (ls : Array Slot) (hl : lv_has ls 3 [(0, .ref a0), (1, .int v1_h1), (2, .int v2_h1)]) (hf : f_X12_climbs_J15 n σh1 v1_h1 v2_h1 w0_h1 = some res), W p l e (hp_rm 42 0 0) s m ([.ref a0, .int a1, .int a2] : List Value).toArray below meth c Hh1 Lh1 0 0 (MQ below (hp_Qi Γ (fun r β => r = res.1 ∧ mo α β ∧ hm_M β a0 ρ res.2)) ([.ref a0, .int a1, .int a2] : List Value).toArray s 0 0 (hp_A Γ)) (F0 m 15 ls [.int w0_h1, .ref a0]) := by
    intro αh1 Hh1 Lh1 Bh1 σh1 Mh1 v1_h1 v2_h1 w0_h1 ls hl hf
    unfold f_X12_climbs_J15 at hf
    obtain ⟨rh2, σh2, qh2, hf⟩ := ms_cE hf
    refine m_ci (pc' := 18) (a := a0) (ρ := ρ) Bh1 (hp_runV (As := [.int w0_h1]) (rest := []) C Bh1 (m_X12_is n Γ l αh1 a0 ρ σh1 Mh1 w0_h1 (rh2, σh2) qh2) lb_X12_is lv_X12_is lk_X12_309 Mh1.1 rfl (by decide) rfl hl.1 rfl (Nat.le_of_ble_eq_true rfl) dX12_climbs_15 ⟨Nat.le_refl _, Nat.le_refl _⟩) rfl (fun αh2 Hh2 Lh2 Bh2 Mh2 => ?_)
    refine lv_if_ne (tgt := 23) hx hb dX12_climbs_18 (by decide) (fun c3 => ?_) (fun c3 => hp_n (n := 21) rfl ?_)
    ·
      replace hf := ms_iF c3 hf
      refine lv_aload_n hx hb dX12_climbs_23 rfl (lv_at hl 0 rfl) (hp_n (n := 24) rfl ?_)
      refine lv_iload_n hx hb dX12_climbs_24 rfl (lv_at hl 1 rfl) (hp_n (n := 25) rfl ?_)
      refine lv_iload_n hx hb dX12_climbs_25 rfl (lv_at hl 2 rfl) (hp_n (n := 26) rfl ?_)
      obtain ⟨σh4, qh4, hf⟩ := ms_bE hf
      refine m_cv (pc' := 29) (a := a0) (ρ := ρ) Bh2 (hp_runV (As := [.int v1_h1, .int v2_h1]) (rest := []) C Bh2 (m_X12_growth n Γ l αh2 a0 ρ σh2 Mh2 v1_h1 v2_h1 σh4 qh4) lb_X12_growth lv_X12_growth lk_X12_190 Mh2.1 rfl (by decide) rfl hl.1 rfl (Nat.le_of_ble_eq_true rfl) dX12_climbs_26 ⟨Nat.le_refl _, Nat.le_refl _⟩) rfl (fun αh4 Hh4 Lh4 Bh4 Mh4 => ?_)
      refine lv_aload_n hx hb dX12_climbs_29 rfl (lv_at hl 0 rfl) (hp_n (n := 30) rfl ?_)
      refine m_geti (k := 7) (φ := 657) (pc' := 33) C Bh4 Mh4 fl_X12_139 rfl rfl dX12_climbs_30 rfl ?_
      cases hf
      exact q_iret C Bh4 hr hlk ⟨rfl, Bh4.2.2, Mh4⟩ dX12_climbs_33
    ·
      replace hf := ms_iT c3 hf
      refine lv_iconst (v := (-1)) hx hb dX12_climbs_21 (by decide) (hp_n (n := 22) rfl ?_)
      cases hf
      exact q_iret C Bh2 hr hlk ⟨rfl, Bh2.2.2, Mh2⟩ dX12_climbs_22
  have J14 : ∀ (αh5 : hp_T) (Hh5 : Heap) (Lh5 : List Loc) (Bh5 : hp_B Γ mo s α αh5 Hh5 Lh5) (σh5 : ms_T) (Mh5 : hm_M αh5 a0 ρ σh5) (v1_h5 : Int32) (v2_h5 : Int32) (ls : Array Slot) (hl : lv_has ls 3 [(0, .ref a0), (1, .int v1_h5), (2, .int v2_h5)]) (hf : f_X12_climbs_J14 n σh5 v1_h5 v2_h5 = some res), W p l e (hp_rm 42 0 0) s m ([.ref a0, .int a1, .int a2] : List Value).toArray below meth c Hh5 Lh5 0 0 (MQ below (hp_Qi Γ (fun r β => r = res.1 ∧ mo α β ∧ hm_M β a0 ρ res.2)) ([.ref a0, .int a1, .int a2] : List Value).toArray s 0 0 (hp_A Γ)) (F0 m 14 ls [.ref a0]) := by
    intro αh5 Hh5 Lh5 Bh5 σh5 Mh5 v1_h5 v2_h5 ls hl hf
    unfold f_X12_climbs_J14 at hf
    refine lv_iconst (v := 1) hx hb dX12_climbs_14 (by decide) (hp_n (n := 15) rfl ?_)
    exact J15 αh5 Hh5 Lh5 Bh5 σh5 Mh5 v1_h5 v2_h5 (1 : Int32) ls (lv_sub hl [0, 1, 2] rfl) hf
  refine lv_if_lt (tgt := 14) hx hb dX12_climbs_2 (by decide) (fun c6 => ?_) (fun c6 => hp_n (n := 5) rfl ?_)
  ·
    replace hf := ms_iT c6 hf
    exact J14 α s.heap [] B σ hM a1 a2 ls (lv_sub hl [0, 1, 2] rfl) hf
  ·
    replace hf := ms_iF c6 hf
    refine lv_iload_n hx hb dX12_climbs_5 rfl (lv_at hl 1 rfl) (hp_n (n := 6) rfl ?_)
    refine lv_iload_n hx hb dX12_climbs_6 rfl (lv_at hl 2 rfl) (hp_n (n := 7) rfl ?_)
    refine lv_icmp_gt (tgt := 14) hx hb dX12_climbs_7 (by decide) (fun c7 => ?_) (fun c7 => hp_n (n := 10) rfl ?_)
    ·
      replace hf := ms_iT c7 hf
      exact J14 α s.heap [] B σ hM a1 a2 ls (lv_sub hl [0, 1, 2] rfl) hf
    ·
      replace hf := ms_iF c7 hf
      refine lv_iconst (v := 0) hx hb dX12_climbs_10 (by decide) (hp_n (n := 11) rfl ?_)
      refine lv_goto (tgt := 15) hx hb dX12_climbs_11 (by decide) ?_
      exact J15 α s.heap [] B σ hM a1 a2 (0 : Int32) ls (lv_sub hl [0, 1, 2] rfl) hf
def f_X12_isHead (n : Nat) (σ : ms_T) (a1 : Int32) (a2 : Int32) (a3 : Int32) : Option Int32 :=
  ms_b (f_X12_sizeOf n σ a1) fun rh1 =>
  if rh1 < a2 then
    some (0 : Int32)
  else
    ms_b (f_X12_headOf n σ a1 a2) fun rh3 =>
    if rh3 = a3 then
      some (1 : Int32)
    else
      some (0 : Int32)
set_option maxRecDepth 100000 in
set_option maxHeartbeats 4000000 in
theorem m_X12_isHead (n : Nat) (Γ : hp_G) (l : Launch) (α : hp_T) (a0 : Nat) (ρ : Nat → Nat) (σ : ms_T) (hM : hm_M α a0 ρ σ) (a1 : Int32) (a2 : Int32) (a3 : Int32) (res : Int32) (hf : f_X12_isHead n σ a1 a2 a3 = some res) : Met l yX12_isHead (hp_ws yX12_isHead cX12_isHead 4 (some .boolean)) (hp_rm 43 0 0) (hp_Pc Γ α [.ref a0, .int a1, .int a2, .int a3]) (hp_Qi Γ (fun r β => β = α ∧ r = res)) 0 0 (hp_A Γ) := by
  unfold f_X12_isHead at hf
  refine hp_start (by decide) ?_
  intro p e s m below meth c C hr hlk B0 hnm
  have C : hp_C Γ p m c cX12_isHead 4 s ([.ref a0, .int a1, .int a2, .int a3] : List Value).toArray RX12 := C
  have hx := C.1.1
  have hb := C.1.2.1
  have hown := C.1.2.2.2.1
  have hts := C.1.2.2.2.2
  have B : hp_B Γ (fun _ _ => True) s α α s.heap [] := ⟨B0.1, B0.2.1, trivial⟩
  have hl := lv_entry ([.ref a0, .int a1, .int a2, .int a3]) (n := 4) (Nat.le_of_ble_eq_true rfl)
  show W p l e (hp_rm 43 0 0) s m ([.ref a0, .int a1, .int a2, .int a3] : List Value).toArray below meth c s.heap [] 0 0 (MQ below (hp_Qi Γ (fun r β => β = α ∧ r = res)) ([.ref a0, .int a1, .int a2, .int a3] : List Value).toArray s 0 0 (hp_A Γ)) (entryFrame m ([.ref a0, .int a1, .int a2, .int a3] : List Value).toArray 4)
  rw [lg_entry_eq]
  generalize (lg_sl ([.ref a0, .int a1, .int a2, .int a3]) ++ List.replicate (4 - (lg_sl ([.ref a0, .int a1, .int a2, .int a3])).length) Slot.unset).toArray = ls at hl ⊢
  have hl : lv_has ls 4 [(0, .ref a0), (1, .int a1), (2, .int a2), (3, .int a3)] := hl
  refine lv_iload_n hx hb dX12_isHead_0 rfl (lv_at hl 2 rfl) (hp_n (n := 1) rfl ?_)
  refine lv_aload_n hx hb dX12_isHead_1 rfl (lv_at hl 0 rfl) (hp_n (n := 2) rfl ?_)
  refine lv_iload_n hx hb dX12_isHead_2 rfl (lv_at hl 1 rfl) (hp_n (n := 3) rfl ?_)
  obtain ⟨rh1, qh1, hf⟩ := ms_bE hf
  refine m_cp (pc' := 6) B (hp_runV (As := [.int a1]) (rest := [.int a2]) C B (m_X12_sizeOf n Γ l α a0 ρ σ hM a1 rh1 qh1) lb_X12_sizeOf lv_X12_sizeOf lk_X12_209 hM.1 rfl (by decide) rfl hl.1 rfl (Nat.le_of_ble_eq_true rfl) dX12_isHead_3 ⟨Nat.le_refl _, Nat.le_refl _⟩) rfl (fun Hh1 Lh1 Bh1 => ?_)
  refine lv_icmp_gt (tgt := 23) hx hb dX12_isHead_6 (by decide) (fun c2 => ?_) (fun c2 => hp_n (n := 9) rfl ?_)
  ·
    replace hf := ms_iT c2 hf
    refine lv_iconst (v := 0) hx hb dX12_isHead_23 (by decide) (hp_n (n := 24) rfl ?_)
    cases hf
    exact q_zret C Bh1 hr hlk (by decide) ⟨rfl, rfl⟩ dX12_isHead_24
  ·
    replace hf := ms_iF c2 hf
    refine lv_aload_n hx hb dX12_isHead_9 rfl (lv_at hl 0 rfl) (hp_n (n := 10) rfl ?_)
    refine lv_iload_n hx hb dX12_isHead_10 rfl (lv_at hl 1 rfl) (hp_n (n := 11) rfl ?_)
    refine lv_iload_n hx hb dX12_isHead_11 rfl (lv_at hl 2 rfl) (hp_n (n := 12) rfl ?_)
    obtain ⟨rh3, qh3, hf⟩ := ms_bE hf
    refine m_cp (pc' := 15) Bh1 (hp_runV (As := [.int a1, .int a2]) (rest := []) C Bh1 (m_X12_headOf n Γ l α a0 ρ σ hM a1 a2 rh3 qh3) lb_X12_headOf lv_X12_headOf lk_X12_215 hM.1 rfl (by decide) rfl hl.1 rfl (Nat.le_of_ble_eq_true rfl) dX12_isHead_12 ⟨Nat.le_refl _, Nat.le_refl _⟩) rfl (fun Hh3 Lh3 Bh3 => ?_)
    refine lv_iload_n hx hb dX12_isHead_15 rfl (lv_at hl 3 rfl) (hp_n (n := 16) rfl ?_)
    refine lv_icmp_ne (tgt := 23) hx hb dX12_isHead_16 (by decide) (fun c4 => ?_) (fun c4 => hp_n (n := 19) rfl ?_)
    ·
      replace hf := ms_iF c4 hf
      refine lv_iconst (v := 0) hx hb dX12_isHead_23 (by decide) (hp_n (n := 24) rfl ?_)
      cases hf
      exact q_zret C Bh3 hr hlk (by decide) ⟨rfl, rfl⟩ dX12_isHead_24
    ·
      replace hf := ms_iT c4 hf
      refine lv_iconst (v := 1) hx hb dX12_isHead_19 (by decide) (hp_n (n := 20) rfl ?_)
      refine lv_goto (tgt := 24) hx hb dX12_isHead_20 (by decide) ?_
      cases hf
      exact q_zret C Bh3 hr hlk (by decide) ⟨rfl, rfl⟩ dX12_isHead_24
