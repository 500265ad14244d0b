section JN6_0
def f_X12_spoil_J69 (n : Nat) (σh1 : ms_T) (v1_h1 : Int32) (v2_h1 : Int32) (v3_h1 : Int32) (v4_h1 : Int32) (w0_h1 : Int32) : Option (Int32 × ms_T) :=
  ms_c (f_X12_is n σh1 w0_h1) fun rh2 σh2 =>
  if rh2 = 0 then
    some ((-1 : Int32), σh2)
  else
    ms_l ((((444 : Int32) + ((8 : Int32) * (((48 : Int32) * v1_h1) + v2_h1))) + v3_h1)) fun x4 =>
    ms_g x4 1980 <|
    ms_l ((ms_E σh2 40 (x4).toNatClampNeg)) fun x6 =>
    if x6 = v4_h1 then
      ms_c (f_X12_refuse n σh2 (5 : Int32)) fun rh13 σh13 =>
      some (rh13, σh13)
    else
      ms_g x4 1980 <|
      ms_l (ms_sE σh2 40 (x4).toNatClampNeg v4_h1) fun σh9 =>
      ms_g (4 : Int32) 1980 <|
      ms_g (4 : Int32) 1980 <|
      ms_l (ms_sE σh9 40 ((4 : Int32)).toNatClampNeg ((ms_E σh9 40 ((4 : Int32)).toNatClampNeg) + (1 : Int32))) fun σh12 =>
      some (x6, σh12)
def f_X12_spoil_J20 (n : Nat) (σh14 : ms_T) (v1_h14 : Int32) (v2_h14 : Int32) (v3_h14 : Int32) (v4_h14 : Int32) : Option (Int32 × ms_T) :=
  f_X12_spoil_J69 n σh14 v1_h14 v2_h14 v3_h14 v4_h14 (1 : Int32)
def f_X12_spoil_J64 (n : Nat) (σh22 : ms_T) (v1_h22 : Int32) (v2_h22 : Int32) (v3_h22 : Int32) (v4_h22 : Int32) : Option (Int32 × ms_T) :=
  f_X12_spoil_J69 n σh22 v1_h22 v2_h22 v3_h22 v4_h22 (5 : Int32)
def f_X12_spoil (n : Nat) (σ : ms_T) (a1 : Int32) (a2 : Int32) (a3 : Int32) (a4 : Int32) : Option (Int32 × ms_T) :=
  if a2 < 0 then
    f_X12_spoil_J20 n σ a1 a2 a3 a4
  else
    if a3 < 0 then
      f_X12_spoil_J20 n σ a1 a2 a3 a4
    else
      ms_b (f_X12_isIn n a4 (1 : Int32) (26 : Int32)) fun rh17 =>
      if rh17 = 0 then
        f_X12_spoil_J20 n σ a1 a2 a3 a4
      else
        ms_b (f_X12_isRecord n σ a1) fun rh19 =>
        if rh19 = 0 then
          f_X12_spoil_J69 n σ a1 a2 a3 a4 (2 : Int32)
        else
          ms_b (f_X12_sizeOf n σ a1) fun rh21 =>
          if rh21 ≤ a2 then
            f_X12_spoil_J64 n σ a1 a2 a3 a4
          else
            ms_g (((252 : Int32) + ((48 : Int32) * a1)) + a2) 1980 <|
            if a3 < (ms_E σ 40 ((((252 : Int32) + ((48 : Int32) * a1)) + a2)).toNatClampNeg) then
              f_X12_spoil_J69 n σ a1 a2 a3 a4 (0 : Int32)
            else
              f_X12_spoil_J64 n σ a1 a2 a3 a4
set_option maxRecDepth 100000 in
set_option maxHeartbeats 4000000 in
theorem m_X12_spoil (n : Nat) (Γ : hp_G) (l : Launch) (α : hp_T) (a0 : Nat) (ρ : Nat → Nat) (σ : ms_T) (hM : hm_M α a0 ρ σ) (a1 : Int32) (a2 : Int32) (a3 : Int32) (a4 : Int32) (res : (Int32 × ms_T)) (hf : f_X12_spoil n σ a1 a2 a3 a4 = some res) : Met l yX12_spoil (hp_ws yX12_spoil cX12_spoil 7 (some .int)) (hp_rm 2 0 0) (hp_Pc Γ α [.ref a0, .int a1, .int a2, .int a3, .int a4]) (hp_Qi Γ (fun r β => r = res.1 ∧ mo α β ∧ hm_M β a0 ρ res.2)) 0 0 (hp_A Γ) := by
  unfold f_X12_spoil at hf
  refine hp_start (by decide) ?_
  intro p e s m below meth c C hr hlk B0 hnm
  have C : hp_C Γ p m c cX12_spoil 7 s ([.ref a0, .int a1, .int a2, .int a3, .int a4] : List Value).toArray RX12 := C
  have hx := C.1.1
  have hb := C.1.2.1
  have hown := C.1.2.2.2.1
  have hts := C.1.2.2.2.2
  have B : hp_B Γ mo s α α s.heap [] := ⟨B0.1, B0.2.1, mo_rf⟩
  have hl := lv_entry ([.ref a0, .int a1, .int a2, .int a3, .int a4]) (n := 7) (Nat.le_of_ble_eq_true rfl)
  show W p l e (hp_rm 2 0 0) s m ([.ref a0, .int a1, .int a2, .int a3, .int a4] : List Value).toArray below meth c s.heap [] 0 0 (MQ below (hp_Qi Γ (fun r β => r = res.1 ∧ mo α β ∧ hm_M β a0 ρ res.2)) ([.ref a0, .int a1, .int a2, .int a3, .int a4] : List Value).toArray s 0 0 (hp_A Γ)) (entryFrame m ([.ref a0, .int a1, .int a2, .int a3, .int a4] : List Value).toArray 7)
  rw [lg_entry_eq]
  generalize (lg_sl ([.ref a0, .int a1, .int a2, .int a3, .int a4]) ++ List.replicate (7 - (lg_sl ([.ref a0, .int a1, .int a2, .int a3, .int a4])).length) Slot.unset).toArray = ls at hl ⊢
  have hl : lv_has ls 7 [(0, .ref a0), (1, .int a1), (2, .int a2), (3, .int a3), (4, .int a4)] := hl
  refine lv_aload_n hx hb dX12_spoil_0 rfl (lv_at hl 0 rfl) (hp_n (n := 1) rfl ?_)
  refine lv_iload_n hx hb dX12_spoil_1 rfl (lv_at hl 2 rfl) (hp_n (n := 2) rfl ?_)
  have J69 : ∀ (αh1 : hp_T) (Hh1 : Heap) (Lh1 : List Loc) (Bh1 : hp_B Γ mo s α αh1 Hh1 Lh1) (σh1 : ms_T) (Mh1 : hm_M αh1 a0 ρ σh1) (v1_h1 : Int32) (v2_h1 : Int32) (v3_h1 : Int32) (v4_h1 : Int32) (w0_h1 : Int32) (ls : Array Slot) (hl : lv_has ls 7 [(0, .ref a0), (1, .int v1_h1), (2, .int v2_h1), (3, .int v3_h1), (4, .int v4_h1)]) (hf : f_X12_spoil_J69 n σh1 v1_h1 v2_h1 v3_h1 v4_h1 w0_h1 = some res), W p l e (hp_rm 2 0 0) s m ([.ref a0, .int a1, .int a2, .int a3, .int a4] : List Value).toArray below meth c Hh1 Lh1 0 0 (MQ below (hp_Qi Γ (fun r β => r = res.1 ∧ mo α β ∧ hm_M β a0 ρ res.2)) ([.ref a0, .int a1, .int a2, .int a3, .int a4] : List Value).toArray s 0 0 (hp_A Γ)) (F0 m 69 ls [.int w0_h1, .ref a0]) := by
    intro αh1 Hh1 Lh1 Bh1 σh1 Mh1 v1_h1 v2_h1 v3_h1 v4_h1 w0_h1 ls hl hf
    unfold f_X12_spoil_J69 at hf
    obtain ⟨rh2, σh2, qh2, hf⟩ := ms_cE hf
    refine m_ci (pc' := 72) (a := a0) (ρ := ρ) Bh1 (hp_runV (As := [.int w0_h1]) (rest := []) C Bh1 (m_X12_is n Γ l αh1 a0 ρ σh1 Mh1 w0_h1 (rh2, σh2) qh2) lb_X12_is lv_X12_is lk_X12_309 Mh1.1 rfl (by decide) rfl hl.1 rfl (Nat.le_of_ble_eq_true rfl) dX12_spoil_69 ⟨Nat.le_refl _, Nat.le_refl _⟩) rfl (fun αh2 Hh2 Lh2 Bh2 Mh2 => ?_)
    refine lv_if_ne (tgt := 77) hx hb dX12_spoil_72 (by decide) (fun c3 => ?_) (fun c3 => hp_n (n := 75) rfl ?_)
    ·
      replace hf := ms_iF c3 hf
      refine lv_sipush (v := 444) hx hb dX12_spoil_77 (by decide) (hp_n (n := 80) rfl ?_)
      refine lv_bipush (v := 8) hx hb dX12_spoil_80 (by decide) (hp_n (n := 82) rfl ?_)
      refine lv_bipush (v := 48) hx hb dX12_spoil_82 (by decide) (hp_n (n := 84) rfl ?_)
      refine lv_iload_n hx hb dX12_spoil_84 rfl (lv_at hl 1 rfl) (hp_n (n := 85) rfl ?_)
      refine lv_imul hx hb dX12_spoil_85 (hp_n (n := 86) rfl ?_)
      refine lv_iload_n hx hb dX12_spoil_86 rfl (lv_at hl 2 rfl) (hp_n (n := 87) rfl ?_)
      refine lv_iadd hx hb dX12_spoil_87 (hp_n (n := 88) rfl ?_)
      refine lv_imul hx hb dX12_spoil_88 (hp_n (n := 89) rfl ?_)
      refine lv_iadd hx hb dX12_spoil_89 (hp_n (n := 90) rfl ?_)
      refine lv_iload_n hx hb dX12_spoil_90 rfl (lv_at hl 3 rfl) (hp_n (n := 91) rfl ?_)
      refine lv_iadd hx hb dX12_spoil_91 (hp_n (n := 92) rfl ?_)
      refine lv_topi (fun x4 ex4 => ?_)
      replace hf := ms_lE ex4 hf
      refine lv_istore (lv' := [(5, .int x4), (0, .ref a0), (1, .int v1_h1), (2, .int v2_h1), (3, .int v3_h1), (4, .int v4_h1)]) hx hb dX12_spoil_92 hl (by decide) rfl (fun ls hl => hp_n (n := 94) rfl ?_)
      refine lv_aload_n hx hb dX12_spoil_94 rfl (lv_at hl 1 rfl) (hp_n (n := 95) rfl ?_)
      refine m_getr (κ := 40) (k := 0) (pc' := 98) C Bh2 Mh2 fl_X12_7 rfl (by decide) dX12_spoil_95 rfl ?_
      refine lv_iload hx hb dX12_spoil_98 (lv_at hl 0 rfl) (hp_n (n := 100) rfl ?_)
      obtain ⟨g5, hf⟩ := ms_gE hf
      refine m_ial (κ := 40) (φ := 650) (n := 1980) (pc' := 101) C Bh2 Mh2 (by decide) (by decide) rfl g5 dX12_spoil_100 rfl ?_
      refine lv_topi (fun x6 ex6 => ?_)
      replace hf := ms_lE ex6 hf
      refine lv_istore (lv' := [(6, .int x6), (5, .int x4), (0, .ref a0), (1, .int v1_h1), (2, .int v2_h1), (3, .int v3_h1), (4, .int v4_h1)]) hx hb dX12_spoil_101 hl (by decide) rfl (fun ls hl => hp_n (n := 103) rfl ?_)
      refine lv_iload hx hb dX12_spoil_103 (lv_at hl 0 rfl) (hp_n (n := 105) rfl ?_)
      refine lv_iload hx hb dX12_spoil_105 (lv_at hl 6 rfl) (hp_n (n := 107) rfl ?_)
      refine lv_icmp_ne (tgt := 116) hx hb dX12_spoil_107 (by decide) (fun c7 => ?_) (fun c7 => hp_n (n := 110) rfl ?_)
      ·
        replace hf := ms_iF c7 hf
        refine lv_aload_n hx hb dX12_spoil_116 rfl (lv_at hl 2 rfl) (hp_n (n := 117) rfl ?_)
        refine m_getr (κ := 40) (k := 0) (pc' := 120) C Bh2 Mh2 fl_X12_7 rfl (by decide) dX12_spoil_117 rfl ?_
        refine lv_iload hx hb dX12_spoil_120 (lv_at hl 1 rfl) (hp_n (n := 122) rfl ?_)
        refine lv_iload hx hb dX12_spoil_122 (lv_at hl 6 rfl) (hp_n (n := 124) rfl ?_)
        obtain ⟨g8, hf⟩ := ms_gE hf
        refine m_ias (κ := 40) (φ := 650) (n := 1980) (pc' := 125) C Bh2 Mh2 (by decide) (by decide) rfl g8 dX12_spoil_124 rfl (fun αh9 Hh9 Lh9 σh9 eh9 Bh9 Mh9 => ?_)
        replace hf := ms_lE eh9 hf
        refine lv_aload_n hx hb dX12_spoil_125 rfl (lv_at hl 2 rfl) (hp_n (n := 126) rfl ?_)
        refine m_getr (κ := 40) (k := 0) (pc' := 129) C Bh9 Mh9 fl_X12_7 rfl (by decide) dX12_spoil_126 rfl ?_
        refine lv_iconst (v := 4) hx hb dX12_spoil_129 (by decide) (hp_n (n := 130) rfl ?_)
        refine lv_dup2_11 hx hb dX12_spoil_130 rfl rfl (hp_n (n := 131) rfl ?_)
        obtain ⟨g10, hf⟩ := ms_gE hf
        refine m_ial (κ := 40) (φ := 650) (n := 1980) (pc' := 132) C Bh9 Mh9 (by decide) (by decide) rfl g10 dX12_spoil_131 rfl ?_
        refine lv_iconst (v := 1) hx hb dX12_spoil_132 (by decide) (hp_n (n := 133) rfl ?_)
        refine lv_iadd hx hb dX12_spoil_133 (hp_n (n := 134) rfl ?_)
        obtain ⟨g11, hf⟩ := ms_gE hf
        refine m_ias (κ := 40) (φ := 650) (n := 1980) (pc' := 135) C Bh9 Mh9 (by decide) (by decide) rfl g11 dX12_spoil_134 rfl (fun αh12 Hh12 Lh12 σh12 eh12 Bh12 Mh12 => ?_)
        replace hf := ms_lE eh12 hf
        refine lv_iload hx hb dX12_spoil_135 (lv_at hl 0 rfl) (hp_n (n := 137) rfl ?_)
        cases hf
        exact q_iret C Bh12 hr hlk ⟨rfl, Bh12.2.2, Mh12⟩ dX12_spoil_137
      ·
        replace hf := ms_iT c7 hf
        refine lv_aload_n hx hb dX12_spoil_110 rfl (lv_at hl 2 rfl) (hp_n (n := 111) rfl ?_)
        refine lv_iconst (v := 5) hx hb dX12_spoil_111 (by decide) (hp_n (n := 112) rfl ?_)
        obtain ⟨rh13, σh13, qh13, hf⟩ := ms_cE hf
        refine m_ci (pc' := 115) (a := a0) (ρ := ρ) Bh2 (hp_runV (As := [.int (5 : Int32)]) (rest := []) C Bh2 (m_X12_refuse n Γ l αh2 a0 ρ σh2 Mh2 (5 : Int32) (rh13, σh13) qh13) lb_X12_refuse lv_X12_refuse lk_X12_212 Mh2.1 rfl (by decide) rfl hl.1 rfl (Nat.le_of_ble_eq_true rfl) dX12_spoil_112 ⟨Nat.le_refl _, Nat.le_refl _⟩) rfl (fun αh13 Hh13 Lh13 Bh13 Mh13 => ?_)
        cases hf
        exact q_iret C Bh13 hr hlk ⟨rfl, Bh13.2.2, Mh13⟩ dX12_spoil_115
    ·
      replace hf := ms_iT c3 hf
      refine lv_iconst (v := (-1)) hx hb dX12_spoil_75 (by decide) (hp_n (n := 76) rfl ?_)
      cases hf
      exact q_iret C Bh2 hr hlk ⟨rfl, Bh2.2.2, Mh2⟩ dX12_spoil_76
  have J20 : ∀ (αh14 : hp_T) (Hh14 : Heap) (Lh14 : List Loc) (Bh14 : hp_B Γ mo s α αh14 Hh14 Lh14) (σh14 : ms_T) (Mh14 : hm_M αh14 a0 ρ σh14) (v1_h14 : Int32) (v2_h14 : Int32) (v3_h14 : Int32) (v4_h14 : Int32) (ls : Array Slot) (hl : lv_has ls 7 [(0, .ref a0), (1, .int v1_h14), (2, .int v2_h14), (3, .int v3_h14), (4, .int v4_h14)]) (hf : f_X12_spoil_J20 n σh14 v1_h14 v2_h14 v3_h14 v4_h14 = some res), W p l e (hp_rm 2 0 0) s m ([.ref a0, .int a1, .int a2, .int a3, .int a4] : List Value).toArray below meth c Hh14 Lh14 0 0 (MQ below (hp_Qi Γ (fun r β => r = res.1 ∧ mo α β ∧ hm_M β a0 ρ res.2)) ([.ref a0, .int a1, .int a2, .int a3, .int a4] : List Value).toArray s 0 0 (hp_A Γ)) (F0 m 20 ls [.ref a0]) := by
    intro αh14 Hh14 Lh14 Bh14 σh14 Mh14 v1_h14 v2_h14 v3_h14 v4_h14 ls hl hf
    unfold f_X12_spoil_J20 at hf
    refine lv_iconst (v := 1) hx hb dX12_spoil_20 (by decide) (hp_n (n := 21) rfl ?_)
    refine lv_goto (tgt := 69) hx hb dX12_spoil_21 (by decide) ?_
    exact J69 αh14 Hh14 Lh14 Bh14 σh14 Mh14 v1_h14 v2_h14 v3_h14 v4_h14 (1 : Int32) ls (lv_sub hl [0, 1, 2, 3, 4] rfl) hf
  refine lv_if_lt (tgt := 20) hx hb dX12_spoil_2 (by decide) (fun c15 => ?_) (fun c15 => hp_n (n := 5) rfl ?_)
  ·
    replace hf := ms_iT c15 hf
    exact J20 α s.heap [] B σ hM a1 a2 a3 a4 ls (lv_sub hl [0, 1, 2, 3, 4] rfl) hf
  ·
    replace hf := ms_iF c15 hf
    refine lv_iload_n hx hb dX12_spoil_5 rfl (lv_at hl 3 rfl) (hp_n (n := 6) rfl ?_)
    refine lv_if_lt (tgt := 20) hx hb dX12_spoil_6 (by decide) (fun c16 => ?_) (fun c16 => hp_n (n := 9) rfl ?_)
    ·
      replace hf := ms_iT c16 hf
      exact J20 α s.heap [] B σ hM a1 a2 a3 a4 ls (lv_sub hl [0, 1, 2, 3, 4] rfl) hf
    ·
      replace hf := ms_iF c16 hf
      refine lv_iload hx hb dX12_spoil_9 (lv_at hl 4 rfl) (hp_n (n := 11) rfl ?_)
      refine lv_iconst (v := 1) hx hb dX12_spoil_11 (by decide) (hp_n (n := 12) rfl ?_)
      refine lv_bipush (v := 26) hx hb dX12_spoil_12 (by decide) (hp_n (n := 14) rfl ?_)
      obtain ⟨rh17, qh17, hf⟩ := ms_bE hf
      refine m_cp (pc' := 17) B (hp_runS (As := [.int a4, .int (1 : Int32), .int (26 : Int32)]) (rest := [.ref a0]) C B (m_X12_isIn n Γ l α a4 (1 : Int32) (26 : Int32) rh17 qh17) lb_X12_isIn ls_X12_isIn lk_X12_113 rfl (by decide) rfl hl.1 rfl (Nat.le_of_ble_eq_true rfl) dX12_spoil_14 ⟨Nat.le_refl _, Nat.le_refl _⟩) rfl (fun Hh17 Lh17 Bh17 => ?_)
      refine lv_if_ne (tgt := 24) hx hb dX12_spoil_17 (by decide) (fun c18 => ?_) (fun c18 => hp_n (n := 20) rfl ?_)
      ·
        replace hf := ms_iF c18 hf
        refine lv_aload_n hx hb dX12_spoil_24 rfl (lv_at hl 0 rfl) (hp_n (n := 25) rfl ?_)
        refine lv_iload_n hx hb dX12_spoil_25 rfl (lv_at hl 1 rfl) (hp_n (n := 26) rfl ?_)
        obtain ⟨rh19, qh19, hf⟩ := ms_bE hf
        refine m_cp (pc' := 29) Bh17 (hp_runV (As := [.int a1]) (rest := [.ref a0]) C Bh17 (m_X12_isRecord n Γ l α a0 ρ σ hM a1 rh19 qh19) lb_X12_isRecord lv_X12_isRecord lk_X12_344 hM.1 rfl (by decide) rfl hl.1 rfl (Nat.le_of_ble_eq_true rfl) dX12_spoil_26 ⟨Nat.le_refl _, Nat.le_refl _⟩) rfl (fun Hh19 Lh19 Bh19 => ?_)
        refine lv_if_ne (tgt := 36) hx hb dX12_spoil_29 (by decide) (fun c20 => ?_) (fun c20 => hp_n (n := 32) rfl ?_)
        ·
          replace hf := ms_iF c20 hf
          refine lv_iload_n hx hb dX12_spoil_36 rfl (lv_at hl 2 rfl) (hp_n (n := 37) rfl ?_)
          refine lv_aload_n hx hb dX12_spoil_37 rfl (lv_at hl 0 rfl) (hp_n (n := 38) rfl ?_)
          refine lv_iload_n hx hb dX12_spoil_38 rfl (lv_at hl 1 rfl) (hp_n (n := 39) rfl ?_)
          obtain ⟨rh21, qh21, hf⟩ := ms_bE hf
          refine m_cp (pc' := 42) Bh19 (hp_runV (As := [.int a1]) (rest := [.int a2, .ref a0]) C Bh19 (m_X12_sizeOf n Γ l α a0 ρ σ hM a1 rh21 qh21) lb_X12_sizeOf lv_X12_sizeOf lk_X12_209 hM.1 rfl (by decide) rfl hl.1 rfl (Nat.le_of_ble_eq_true rfl) dX12_spoil_39 ⟨Nat.le_refl _, Nat.le_refl _⟩) rfl (fun Hh21 Lh21 Bh21 => ?_)
          have J64 : ∀ (αh22 : hp_T) (Hh22 : Heap) (Lh22 : List Loc) (Bh22 : hp_B Γ mo s α αh22 Hh22 Lh22) (σh22 : ms_T) (Mh22 : hm_M αh22 a0 ρ σh22) (v1_h22 : Int32) (v2_h22 : Int32) (v3_h22 : Int32) (v4_h22 : Int32) (ls : Array Slot) (hl : lv_has ls 7 [(0, .ref a0), (1, .int v1_h22), (2, .int v2_h22), (3, .int v3_h22), (4, .int v4_h22)]) (hf : f_X12_spoil_J64 n σh22 v1_h22 v2_h22 v3_h22 v4_h22 = some res), W p l e (hp_rm 2 0 0) s m ([.ref a0, .int a1, .int a2, .int a3, .int a4] : List Value).toArray below meth c Hh22 Lh22 0 0 (MQ below (hp_Qi Γ (fun r β => r = res.1 ∧ mo α β ∧ hm_M β a0 ρ res.2)) ([.ref a0, .int a1, .int a2, .int a3, .int a4] : List Value).toArray s 0 0 (hp_A Γ)) (F0 m 64 ls [.ref a0]) := by
            intro αh22 Hh22 Lh22 Bh22 σh22 Mh22 v1_h22 v2_h22 v3_h22 v4_h22 ls hl hf
            unfold f_X12_spoil_J64 at hf
            refine lv_iconst (v := 5) hx hb dX12_spoil_64 (by decide) (hp_n (n := 65) rfl ?_)
            refine lv_goto (tgt := 69) hx hb dX12_spoil_65 (by decide) ?_
            exact J69 αh22 Hh22 Lh22 Bh22 σh22 Mh22 v1_h22 v2_h22 v3_h22 v4_h22 (5 : Int32) ls (lv_sub hl [0, 1, 2, 3, 4] rfl) hf
          refine lv_icmp_ge (tgt := 64) hx hb dX12_spoil_42 (by decide) (fun c23 => ?_) (fun c23 => hp_n (n := 45) rfl ?_)
          ·
            replace hf := ms_iT c23 hf
            exact J64 α Hh21 Lh21 Bh21 σ hM a1 a2 a3 a4 ls (lv_sub hl [0, 1, 2, 3, 4] rfl) hf
          ·
            replace hf := ms_iF c23 hf
            refine lv_iload_n hx hb dX12_spoil_45 rfl (lv_at hl 3 rfl) (hp_n (n := 46) rfl ?_)
            refine lv_aload_n hx hb dX12_spoil_46 rfl (lv_at hl 0 rfl) (hp_n (n := 47) rfl ?_)
            refine m_getr (κ := 40) (k := 0) (pc' := 50) C Bh21 hM fl_X12_7 rfl (by decide) dX12_spoil_47 rfl ?_
            refine lv_sipush (v := 252) hx hb dX12_spoil_50 (by decide) (hp_n (n := 53) rfl ?_)
            refine lv_bipush (v := 48) hx hb dX12_spoil_53 (by decide) (hp_n (n := 55) rfl ?_)
            refine lv_iload_n hx hb dX12_spoil_55 rfl (lv_at hl 1 rfl) (hp_n (n := 56) rfl ?_)
            refine lv_imul hx hb dX12_spoil_56 (hp_n (n := 57) rfl ?_)
            refine lv_iadd hx hb dX12_spoil_57 (hp_n (n := 58) rfl ?_)
            refine lv_iload_n hx hb dX12_spoil_58 rfl (lv_at hl 2 rfl) (hp_n (n := 59) rfl ?_)
            refine lv_iadd hx hb dX12_spoil_59 (hp_n (n := 60) rfl ?_)
            obtain ⟨g24, hf⟩ := ms_gE hf
            refine m_ial (κ := 40) (φ := 650) (n := 1980) (pc' := 61) C Bh21 hM (by decide) (by decide) rfl g24 dX12_spoil_60 rfl ?_
            refine lv_icmp_lt (tgt := 68) hx hb dX12_spoil_61 (by decide) (fun c25 => ?_) (fun c25 => hp_n (n := 64) rfl ?_)
            ·
              replace hf := ms_iT c25 hf
              refine lv_iconst (v := 0) hx hb dX12_spoil_68 (by decide) (hp_n (n := 69) rfl ?_)
              exact J69 α Hh21 Lh21 Bh21 σ hM a1 a2 a3 a4 (0 : Int32) ls (lv_sub hl [0, 1, 2, 3, 4] rfl) hf
            ·
              replace hf := ms_iF c25 hf
              exact J64 α Hh21 Lh21 Bh21 σ hM a1 a2 a3 a4 ls (lv_sub hl [0, 1, 2, 3, 4] rfl) hf
        ·
          replace hf := ms_iT c20 hf
          refine lv_iconst (v := 2) hx hb dX12_spoil_32 (by decide) (hp_n (n := 33) rfl ?_)
          refine lv_goto (tgt := 69) hx hb dX12_spoil_33 (by decide) ?_
          exact J69 α Hh19 Lh19 Bh19 σ hM a1 a2 a3 a4 (2 : Int32) ls (lv_sub hl [0, 1, 2, 3, 4] rfl) hf
      ·
        replace hf := ms_iT c18 hf
        exact J20 α Hh17 Lh17 Bh17 σ hM a1 a2 a3 a4 ls (lv_sub hl [0, 1, 2, 3, 4] rfl) hf
def f_X12_push_J29 (n : Nat) (σh2 : ms_T) (v1_h2 : Int32) (w0_h2 : Int32) : Option (Int32 × ms_T) :=
  ms_c (f_X12_is n σh2 w0_h2) fun rh3 σh3 =>
  if rh3 = 0 then
    some ((-1 : Int32), σh3)
  else
    ms_g (2 : Int32) 1980 <|
    ms_g ((8 : Int32) + (ms_E σh3 40 ((2 : Int32)).toNatClampNeg)) 1980 <|
    ms_l (ms_sE σh3 40 (((8 : Int32) + (ms_E σh3 40 ((2 : Int32)).toNatClampNeg))).toNatClampNeg v1_h2) fun σh7 =>
    ms_g (2 : Int32) 1980 <|
    ms_g (2 : Int32) 1980 <|
    ms_l (ms_sE σh7 40 ((2 : Int32)).toNatClampNeg ((ms_E σh7 40 ((2 : Int32)).toNatClampNeg) + (1 : Int32))) fun σh10 =>
    ms_g (2 : Int32) 1980 <|
    some ((ms_E σh10 40 ((2 : Int32)).toNatClampNeg), σh10)
def f_X12_push (n : Nat) (σ : ms_T) (a1 : Int32) : Option (Int32 × ms_T) :=
  ms_b (f_X12_isMark n σ a1) fun rh1 =>
  if rh1 = 0 then
    f_X12_push_J29 n σ a1 (1 : Int32)
  else
    ms_g (2 : Int32) 1980 <|
    if (ms_E σ 40 ((2 : Int32)).toNatClampNeg) = (64 : Int32) then
      f_X12_push_J29 n σ a1 (3 : Int32)
    else
      f_X12_push_J29 n σ a1 (0 : Int32)
set_option maxRecDepth 100000 in
set_option maxHeartbeats 4000000 in
theorem m_X12_push (n : Nat) (Γ : hp_G) (l : Launch) (α : hp_T) (a0 : Nat) (ρ : Nat → Nat) (σ : ms_T) (hM : hm_M α a0 ρ σ) (a1 : Int32) (res : (Int32 × ms_T)) (hf : f_X12_push n σ a1 = some res) : Met l yX12_push (hp_ws yX12_push cX12_push 2 (some .int)) (hp_rm 2 0 0) (hp_Pc Γ α [.ref a0, .int a1]) (hp_Qi Γ (fun r β => r = res.1 ∧ mo α β ∧ hm_M β a0 ρ res.2)) 0 0 (hp_A Γ) := by
  unfold f_X12_push at hf
  refine hp_start (by decide) ?_
  intro p e s m below meth c C hr hlk B0 hnm
  have C : hp_C Γ p m c cX12_push 2 s ([.ref a0, .int a1] : List Value).toArray RX12 := C
  have hx := C.1.1
  have hb := C.1.2.1
  have hown := C.1.2.2.2.1
  have hts := C.1.2.2.2.2
  have B : hp_B Γ mo s α α s.heap [] := ⟨B0.1, B0.2.1, mo_rf⟩
  have hl := lv_entry ([.ref a0, .int a1]) (n := 2) (Nat.le_of_ble_eq_true rfl)
  show W p l e (hp_rm 2 0 0) s m ([.ref a0, .int a1] : List Value).toArray below meth c s.heap [] 0 0 (MQ below (hp_Qi Γ (fun r β => r = res.1 ∧ mo α β ∧ hm_M β a0 ρ res.2)) ([.ref a0, .int a1] : List Value).toArray s 0 0 (hp_A Γ)) (entryFrame m ([.ref a0, .int a1] : List Value).toArray 2)
  rw [lg_entry_eq]
  generalize (lg_sl ([.ref a0, .int a1]) ++ List.replicate (2 - (lg_sl ([.ref a0, .int a1])).length) Slot.unset).toArray = ls at hl ⊢
  have hl : lv_has ls 2 [(0, .ref a0), (1, .int a1)] := hl
  refine lv_aload_n hx hb dX12_push_0 rfl (lv_at hl 0 rfl) (hp_n (n := 1) rfl ?_)
  refine lv_aload_n hx hb dX12_push_1 rfl (lv_at hl 0 rfl) (hp_n (n := 2) rfl ?_)
  refine lv_iload_n hx hb dX12_push_2 rfl (lv_at hl 1 rfl) (hp_n (n := 3) rfl ?_)
  obtain ⟨rh1, qh1, hf⟩ := ms_bE hf
  refine m_cp (pc' := 6) B (hp_runV (As := [.int a1]) (rest := [.ref a0]) C B (m_X12_isMark n Γ l α a0 ρ σ hM a1 rh1 qh1) lb_X12_isMark lv_X12_isMark lk_X12_321 hM.1 rfl (by decide) rfl hl.1 rfl (Nat.le_of_ble_eq_true rfl) dX12_push_3 ⟨Nat.le_refl _, Nat.le_refl _⟩) rfl (fun Hh1 Lh1 Bh1 => ?_)
  have J29 : ∀ (αh2 : hp_T) (Hh2 : Heap) (Lh2 : List Loc) (Bh2 : hp_B Γ mo s α αh2 Hh2 Lh2) (σh2 : ms_T) (Mh2 : hm_M αh2 a0 ρ σh2) (v1_h2 : Int32) (w0_h2 : Int32) (ls : Array Slot) (hl : lv_has ls 2 [(0, .ref a0), (1, .int v1_h2)]) (hf : f_X12_push_J29 n σh2 v1_h2 w0_h2 = some res), W p l e (hp_rm 2 0 0) s m ([.ref a0, .int a1] : List Value).toArray below meth c Hh2 Lh2 0 0 (MQ below (hp_Qi Γ (fun r β => r = res.1 ∧ mo α β ∧ hm_M β a0 ρ res.2)) ([.ref a0, .int a1] : List Value).toArray s 0 0 (hp_A Γ)) (F0 m 29 ls [.int w0_h2, .ref a0]) := by
    intro αh2 Hh2 Lh2 Bh2 σh2 Mh2 v1_h2 w0_h2 ls hl hf
    unfold f_X12_push_J29 at hf
    obtain ⟨rh3, σh3, qh3, hf⟩ := ms_cE hf
    refine m_ci (pc' := 32) (a := a0) (ρ := ρ) Bh2 (hp_runV (As := [.int w0_h2]) (rest := []) C Bh2 (m_X12_is n Γ l αh2 a0 ρ σh2 Mh2 w0_h2 (rh3, σh3) qh3) lb_X12_is lv_X12_is lk_X12_309 Mh2.1 rfl (by decide) rfl hl.1 rfl (Nat.le_of_ble_eq_true rfl) dX12_push_29 ⟨Nat.le_refl _, Nat.le_refl _⟩) rfl (fun αh3 Hh3 Lh3 Bh3 Mh3 => ?_)
    refine lv_if_ne (tgt := 37) hx hb dX12_push_32 (by decide) (fun c4 => ?_) (fun c4 => hp_n (n := 35) rfl ?_)
    ·
      replace hf := ms_iF c4 hf
      refine lv_aload_n hx hb dX12_push_37 rfl (lv_at hl 0 rfl) (hp_n (n := 38) rfl ?_)
      refine m_getr (κ := 40) (k := 0) (pc' := 41) C Bh3 Mh3 fl_X12_7 rfl (by decide) dX12_push_38 rfl ?_
      refine lv_bipush (v := 8) hx hb dX12_push_41 (by decide) (hp_n (n := 43) rfl ?_)
      refine lv_aload_n hx hb dX12_push_43 rfl (lv_at hl 0 rfl) (hp_n (n := 44) rfl ?_)
      refine m_getr (κ := 40) (k := 0) (pc' := 47) C Bh3 Mh3 fl_X12_7 rfl (by decide) dX12_push_44 rfl ?_
      refine lv_iconst (v := 2) hx hb dX12_push_47 (by decide) (hp_n (n := 48) rfl ?_)
      obtain ⟨g5, hf⟩ := ms_gE hf
      refine m_ial (κ := 40) (φ := 650) (n := 1980) (pc' := 49) C Bh3 Mh3 (by decide) (by decide) rfl g5 dX12_push_48 rfl ?_
      refine lv_iadd hx hb dX12_push_49 (hp_n (n := 50) rfl ?_)
      refine lv_iload_n hx hb dX12_push_50 rfl (lv_at hl 1 rfl) (hp_n (n := 51) rfl ?_)
      obtain ⟨g6, hf⟩ := ms_gE hf
      refine m_ias (κ := 40) (φ := 650) (n := 1980) (pc' := 52) C Bh3 Mh3 (by decide) (by decide) rfl g6 dX12_push_51 rfl (fun αh7 Hh7 Lh7 σh7 eh7 Bh7 Mh7 => ?_)
      replace hf := ms_lE eh7 hf
      refine lv_aload_n hx hb dX12_push_52 rfl (lv_at hl 0 rfl) (hp_n (n := 53) rfl ?_)
      refine m_getr (κ := 40) (k := 0) (pc' := 56) C Bh7 Mh7 fl_X12_7 rfl (by decide) dX12_push_53 rfl ?_
      refine lv_iconst (v := 2) hx hb dX12_push_56 (by decide) (hp_n (n := 57) rfl ?_)
      refine lv_dup2_11 hx hb dX12_push_57 rfl rfl (hp_n (n := 58) rfl ?_)
      obtain ⟨g8, hf⟩ := ms_gE hf
      refine m_ial (κ := 40) (φ := 650) (n := 1980) (pc' := 59) C Bh7 Mh7 (by decide) (by decide) rfl g8 dX12_push_58 rfl ?_
      refine lv_iconst (v := 1) hx hb dX12_push_59 (by decide) (hp_n (n := 60) rfl ?_)
      refine lv_iadd hx hb dX12_push_60 (hp_n (n := 61) rfl ?_)
      obtain ⟨g9, hf⟩ := ms_gE hf
      refine m_ias (κ := 40) (φ := 650) (n := 1980) (pc' := 62) C Bh7 Mh7 (by decide) (by decide) rfl g9 dX12_push_61 rfl (fun αh10 Hh10 Lh10 σh10 eh10 Bh10 Mh10 => ?_)
      replace hf := ms_lE eh10 hf
      refine lv_aload_n hx hb dX12_push_62 rfl (lv_at hl 0 rfl) (hp_n (n := 63) rfl ?_)
      refine m_getr (κ := 40) (k := 0) (pc' := 66) C Bh10 Mh10 fl_X12_7 rfl (by decide) dX12_push_63 rfl ?_
      refine lv_iconst (v := 2) hx hb dX12_push_66 (by decide) (hp_n (n := 67) rfl ?_)
      obtain ⟨g11, hf⟩ := ms_gE hf
      refine m_ial (κ := 40) (φ := 650) (n := 1980) (pc' := 68) C Bh10 Mh10 (by decide) (by decide) rfl g11 dX12_push_67 rfl ?_
      cases hf
      exact q_iret C Bh10 hr hlk ⟨rfl, Bh10.2.2, Mh10⟩ dX12_push_68
    ·
      replace hf := ms_iT c4 hf
      refine lv_iconst (v := (-1)) hx hb dX12_push_35 (by decide) (hp_n (n := 36) rfl ?_)
      cases hf
      exact q_iret C Bh3 hr hlk ⟨rfl, Bh3.2.2, Mh3⟩ dX12_push_36
  refine lv_if_ne (tgt := 13) hx hb dX12_push_6 (by decide) (fun c12 => ?_) (fun c12 => hp_n (n := 9) rfl ?_)
  ·
    replace hf := ms_iF c12 hf
    refine lv_aload_n hx hb dX12_push_13 rfl (lv_at hl 0 rfl) (hp_n (n := 14) rfl ?_)
    refine m_getr (κ := 40) (k := 0) (pc' := 17) C Bh1 hM fl_X12_7 rfl (by decide) dX12_push_14 rfl ?_
    refine lv_iconst (v := 2) hx hb dX12_push_17 (by decide) (hp_n (n := 18) rfl ?_)
    obtain ⟨g13, hf⟩ := ms_gE hf
    refine m_ial (κ := 40) (φ := 650) (n := 1980) (pc' := 19) C Bh1 hM (by decide) (by decide) rfl g13 dX12_push_18 rfl ?_
    refine lv_bipush (v := 64) hx hb dX12_push_19 (by decide) (hp_n (n := 21) rfl ?_)
    refine lv_icmp_ne (tgt := 28) hx hb dX12_push_21 (by decide) (fun c14 => ?_) (fun c14 => hp_n (n := 24) rfl ?_)
    ·
      replace hf := ms_iF c14 hf
      refine lv_iconst (v := 0) hx hb dX12_push_28 (by decide) (hp_n (n := 29) rfl ?_)
      exact J29 α Hh1 Lh1 Bh1 σ hM a1 (0 : Int32) ls (lv_sub hl [0, 1] rfl) hf
    ·
      replace hf := ms_iT c14 hf
      refine lv_iconst (v := 3) hx hb dX12_push_24 (by decide) (hp_n (n := 25) rfl ?_)
      refine lv_goto (tgt := 29) hx hb dX12_push_25 (by decide) ?_
      exact J29 α Hh1 Lh1 Bh1 σ hM a1 (3 : Int32) ls (lv_sub hl [0, 1] rfl) hf
  ·
    replace hf := ms_iT c12 hf
    refine lv_iconst (v := 1) hx hb dX12_push_9 (by decide) (hp_n (n := 10) rfl ?_)
    refine lv_goto (tgt := 29) hx hb dX12_push_10 (by decide) ?_
    exact J29 α Hh1 Lh1 Bh1 σ hM a1 (1 : Int32) ls (lv_sub hl [0, 1] rfl) hf
def f_X12_poke_J32 (n : Nat) (σh1 : ms_T) (v1_h1 : Int32) (v2_h1 : Int32) (w0_h1 : Int32) : Option (Int32 × ms_T) :=
  ms_c (f_X12_is n σh1 w0_h1) fun rh2 σh2 =>
  if rh2 = 0 then
    some ((-1 : Int32), σh2)
  else
    ms_g ((8 : Int32) + v1_h1) 1980 <|
    ms_l ((ms_E σh2 40 (((8 : Int32) + v1_h1)).toNatClampNeg)) fun x5 =>
    ms_g ((8 : Int32) + v1_h1) 1980 <|
    ms_l (ms_sE σh2 40 (((8 : Int32) + v1_h1)).toNatClampNeg v2_h1) fun σh7 =>
    some (x5, σh7)
def f_X12_poke_J13 (n : Nat) (σh8 : ms_T) (v1_h8 : Int32) (v2_h8 : Int32) : Option (Int32 × ms_T) :=
  f_X12_poke_J32 n σh8 v1_h8 v2_h8 (1 : Int32)
def f_X12_poke (n : Nat) (σ : ms_T) (a1 : Int32) (a2 : Int32) : Option (Int32 × ms_T) :=
  if a1 < 0 then
    f_X12_poke_J13 n σ a1 a2
  else
    ms_b (f_X12_isMark n σ a2) fun rh10 =>
    if rh10 = 0 then
      f_X12_poke_J13 n σ a1 a2
    else
      ms_g (2 : Int32) 1980 <|
      if a1 < (ms_E σ 40 ((2 : Int32)).toNatClampNeg) then
        f_X12_poke_J32 n σ a1 a2 (0 : Int32)
      else
        f_X12_poke_J32 n σ a1 a2 (5 : Int32)
set_option maxRecDepth 100000 in
set_option maxHeartbeats 4000000 in
theorem m_X12_poke (n : Nat) (Γ : hp_G) (l : Launch) (α : hp_T) (a0 : Nat) (ρ : Nat → Nat) (σ : ms_T) (hM : hm_M α a0 ρ σ) (a1 : Int32) (a2 : Int32) (res : (Int32 × ms_T)) (hf : f_X12_poke n σ a1 a2 = some res) : Met l yX12_poke (hp_ws yX12_poke cX12_poke 4 (some .int)) (hp_rm 2 0 0) (hp_Pc Γ α [.ref a0, .int a1, .int a2]) (hp_Qi Γ (fun r β => r = res.1 ∧ mo α β ∧ hm_M β a0 ρ res.2)) 0 0 (hp_A Γ) := by
  unfold f_X12_poke at hf
  refine hp_start (by decide) ?_
  intro p e s m below meth c C hr hlk B0 hnm
  have C : hp_C Γ p m c cX12_poke 4 s ([.ref a0, .int a1, .int a2] : List Value).toArray RX12 := C
  have hx := C.1.1
  have hb := C.1.2.1
  have hown := C.1.2.2.2.1
  have hts := C.1.2.2.2.2
  have B : hp_B Γ mo s α α s.heap [] := ⟨B0.1, B0.2.1, mo_rf⟩
  have hl := lv_entry ([.ref a0, .int a1, .int a2]) (n := 4) (Nat.le_of_ble_eq_true rfl)
  show W p l e (hp_rm 2 0 0) s m ([.ref a0, .int a1, .int a2] : List Value).toArray below meth c s.heap [] 0 0 (MQ below (hp_Qi Γ (fun r β => r = res.1 ∧ mo α β ∧ hm_M β a0 ρ res.2)) ([.ref a0, .int a1, .int a2] : List Value).toArray s 0 0 (hp_A Γ)) (entryFrame m ([.ref a0, .int a1, .int a2] : List Value).toArray 4)
  rw [lg_entry_eq]
  generalize (lg_sl ([.ref a0, .int a1, .int a2]) ++ List.replicate (4 - (lg_sl ([.ref a0, .int a1, .int a2])).length) Slot.unset).toArray = ls at hl ⊢
  have hl : lv_has ls 4 [(0, .ref a0), (1, .int a1), (2, .int a2)] := hl
  refine lv_aload_n hx hb dX12_poke_0 rfl (lv_at hl 0 rfl) (hp_n (n := 1) rfl ?_)
  refine lv_iload_n hx hb dX12_poke_1 rfl (lv_at hl 1 rfl) (hp_n (n := 2) rfl ?_)
  have J32 : ∀ (αh1 : hp_T) (Hh1 : Heap) (Lh1 : List Loc) (Bh1 : hp_B Γ mo s α αh1 Hh1 Lh1) (σh1 : ms_T) (Mh1 : hm_M αh1 a0 ρ σh1) (v1_h1 : Int32) (v2_h1 : Int32) (w0_h1 : Int32) (ls : Array Slot) (hl : lv_has ls 4 [(0, .ref a0), (1, .int v1_h1), (2, .int v2_h1)]) (hf : f_X12_poke_J32 n σh1 v1_h1 v2_h1 w0_h1 = some res), W p l e (hp_rm 2 0 0) s m ([.ref a0, .int a1, .int a2] : List Value).toArray below meth c Hh1 Lh1 0 0 (MQ below (hp_Qi Γ (fun r β => r = res.1 ∧ mo α β ∧ hm_M β a0 ρ res.2)) ([.ref a0, .int a1, .int a2] : List Value).toArray s 0 0 (hp_A Γ)) (F0 m 32 ls [.int w0_h1, .ref a0]) := by
    intro αh1 Hh1 Lh1 Bh1 σh1 Mh1 v1_h1 v2_h1 w0_h1 ls hl hf
    unfold f_X12_poke_J32 at hf
    obtain ⟨rh2, σh2, qh2, hf⟩ := ms_cE hf
    refine m_ci (pc' := 35) (a := a0) (ρ := ρ) Bh1 (hp_runV (As := [.int w0_h1]) (rest := []) C Bh1 (m_X12_is n Γ l αh1 a0 ρ σh1 Mh1 w0_h1 (rh2, σh2) qh2) lb_X12_is lv_X12_is lk_X12_309 Mh1.1 rfl (by decide) rfl hl.1 rfl (Nat.le_of_ble_eq_true rfl) dX12_poke_32 ⟨Nat.le_refl _, Nat.le_refl _⟩) rfl (fun αh2 Hh2 Lh2 Bh2 Mh2 => ?_)
    refine lv_if_ne (tgt := 40) hx hb dX12_poke_35 (by decide) (fun c3 => ?_) (fun c3 => hp_n (n := 38) rfl ?_)
    ·
      replace hf := ms_iF c3 hf
      refine lv_aload_n hx hb dX12_poke_40 rfl (lv_at hl 0 rfl) (hp_n (n := 41) rfl ?_)
      refine m_getr (κ := 40) (k := 0) (pc' := 44) C Bh2 Mh2 fl_X12_7 rfl (by decide) dX12_poke_41 rfl ?_
      refine lv_bipush (v := 8) hx hb dX12_poke_44 (by decide) (hp_n (n := 46) rfl ?_)
      refine lv_iload_n hx hb dX12_poke_46 rfl (lv_at hl 1 rfl) (hp_n (n := 47) rfl ?_)
      refine lv_iadd hx hb dX12_poke_47 (hp_n (n := 48) rfl ?_)
      obtain ⟨g4, hf⟩ := ms_gE hf
      refine m_ial (κ := 40) (φ := 650) (n := 1980) (pc' := 49) C Bh2 Mh2 (by decide) (by decide) rfl g4 dX12_poke_48 rfl ?_
      refine lv_topi (fun x5 ex5 => ?_)
      replace hf := ms_lE ex5 hf
      refine lv_istore_n (lv' := [(3, .int x5), (0, .ref a0), (1, .int v1_h1), (2, .int v2_h1)]) hx hb dX12_poke_49 rfl hl (by decide) rfl (fun ls hl => hp_n (n := 50) rfl ?_)
      refine lv_aload_n hx hb dX12_poke_50 rfl (lv_at hl 1 rfl) (hp_n (n := 51) rfl ?_)
      refine m_getr (κ := 40) (k := 0) (pc' := 54) C Bh2 Mh2 fl_X12_7 rfl (by decide) dX12_poke_51 rfl ?_
      refine lv_bipush (v := 8) hx hb dX12_poke_54 (by decide) (hp_n (n := 56) rfl ?_)
      refine lv_iload_n hx hb dX12_poke_56 rfl (lv_at hl 2 rfl) (hp_n (n := 57) rfl ?_)
      refine lv_iadd hx hb dX12_poke_57 (hp_n (n := 58) rfl ?_)
      refine lv_iload_n hx hb dX12_poke_58 rfl (lv_at hl 3 rfl) (hp_n (n := 59) rfl ?_)
      obtain ⟨g6, hf⟩ := ms_gE hf
      refine m_ias (κ := 40) (φ := 650) (n := 1980) (pc' := 60) C Bh2 Mh2 (by decide) (by decide) rfl g6 dX12_poke_59 rfl (fun αh7 Hh7 Lh7 σh7 eh7 Bh7 Mh7 => ?_)
      replace hf := ms_lE eh7 hf
      refine lv_iload_n hx hb dX12_poke_60 rfl (lv_at hl 0 rfl) (hp_n (n := 61) rfl ?_)
      cases hf
      exact q_iret C Bh7 hr hlk ⟨rfl, Bh7.2.2, Mh7⟩ dX12_poke_61
    ·
      replace hf := ms_iT c3 hf
      refine lv_iconst (v := (-1)) hx hb dX12_poke_38 (by decide) (hp_n (n := 39) rfl ?_)
      cases hf
      exact q_iret C Bh2 hr hlk ⟨rfl, Bh2.2.2, Mh2⟩ dX12_poke_39
  have J13 : ∀ (αh8 : hp_T) (Hh8 : Heap) (Lh8 : List Loc) (Bh8 : hp_B Γ mo s α αh8 Hh8 Lh8) (σh8 : ms_T) (Mh8 : hm_M αh8 a0 ρ σh8) (v1_h8 : Int32) (v2_h8 : Int32) (ls : Array Slot) (hl : lv_has ls 4 [(0, .ref a0), (1, .int v1_h8), (2, .int v2_h8)]) (hf : f_X12_poke_J13 n σh8 v1_h8 v2_h8 = some res), W p l e (hp_rm 2 0 0) s m ([.ref a0, .int a1, .int a2] : List Value).toArray below meth c Hh8 Lh8 0 0 (MQ below (hp_Qi Γ (fun r β => r = res.1 ∧ mo α β ∧ hm_M β a0 ρ res.2)) ([.ref a0, .int a1, .int a2] : List Value).toArray s 0 0 (hp_A Γ)) (F0 m 13 ls [.ref a0]) := by
    intro αh8 Hh8 Lh8 Bh8 σh8 Mh8 v1_h8 v2_h8 ls hl hf
    unfold f_X12_poke_J13 at hf
    refine lv_iconst (v := 1) hx hb dX12_poke_13 (by decide) (hp_n (n := 14) rfl ?_)
    refine lv_goto (tgt := 32) hx hb dX12_poke_14 (by decide) ?_
    exact J32 αh8 Hh8 Lh8 Bh8 σh8 Mh8 v1_h8 v2_h8 (1 : Int32) ls (lv_sub hl [0, 1, 2] rfl) hf
  refine lv_if_lt (tgt := 13) hx hb dX12_poke_2 (by decide) (fun c9 => ?_) (fun c9 => hp_n (n := 5) rfl ?_)
  ·
    replace hf := ms_iT c9 hf
    exact J13 α s.heap [] B σ hM a1 a2 ls (lv_sub hl [0, 1, 2] rfl) hf
  ·
    replace hf := ms_iF c9 hf
    refine lv_aload_n hx hb dX12_poke_5 rfl (lv_at hl 0 rfl) (hp_n (n := 6) rfl ?_)
    refine lv_iload_n hx hb dX12_poke_6 rfl (lv_at hl 2 rfl) (hp_n (n := 7) rfl ?_)
    obtain ⟨rh10, qh10, hf⟩ := ms_bE hf
    refine m_cp (pc' := 10) B (hp_runV (As := [.int a2]) (rest := [.ref a0]) C B (m_X12_isMark n Γ l α a0 ρ σ hM a2 rh10 qh10) lb_X12_isMark lv_X12_isMark lk_X12_321 hM.1 rfl (by decide) rfl hl.1 rfl (Nat.le_of_ble_eq_true rfl) dX12_poke_7 ⟨Nat.le_refl _, Nat.le_refl _⟩) rfl (fun Hh10 Lh10 Bh10 => ?_)
    refine lv_if_ne (tgt := 17) hx hb dX12_poke_10 (by decide) (fun c11 => ?_) (fun c11 => hp_n (n := 13) rfl ?_)
    ·
      replace hf := ms_iF c11 hf
      refine lv_iload_n hx hb dX12_poke_17 rfl (lv_at hl 1 rfl) (hp_n (n := 18) rfl ?_)
      refine lv_aload_n hx hb dX12_poke_18 rfl (lv_at hl 0 rfl) (hp_n (n := 19) rfl ?_)
      refine m_getr (κ := 40) (k := 0) (pc' := 22) C Bh10 hM fl_X12_7 rfl (by decide) dX12_poke_19 rfl ?_
      refine lv_iconst (v := 2) hx hb dX12_poke_22 (by decide) (hp_n (n := 23) rfl ?_)
      obtain ⟨g12, hf⟩ := ms_gE hf
      refine m_ial (κ := 40) (φ := 650) (n := 1980) (pc' := 24) C Bh10 hM (by decide) (by decide) rfl g12 dX12_poke_23 rfl ?_
      refine lv_icmp_lt (tgt := 31) hx hb dX12_poke_24 (by decide) (fun c13 => ?_) (fun c13 => hp_n (n := 27) rfl ?_)
      ·
        replace hf := ms_iT c13 hf
        refine lv_iconst (v := 0) hx hb dX12_poke_31 (by decide) (hp_n (n := 32) rfl ?_)
        exact J32 α Hh10 Lh10 Bh10 σ hM a1 a2 (0 : Int32) ls (lv_sub hl [0, 1, 2] rfl) hf
      ·
        replace hf := ms_iF c13 hf
        refine lv_iconst (v := 5) hx hb dX12_poke_27 (by decide) (hp_n (n := 28) rfl ?_)
        refine lv_goto (tgt := 32) hx hb dX12_poke_28 (by decide) ?_
        exact J32 α Hh10 Lh10 Bh10 σ hM a1 a2 (5 : Int32) ls (lv_sub hl [0, 1, 2] rfl) hf
    ·
      replace hf := ms_iT c11 hf
      exact J13 α Hh10 Lh10 Bh10 σ hM a1 a2 ls (lv_sub hl [0, 1, 2] rfl) hf
def f_X12_pad_J24 (n : Nat) (σh1 : ms_T) (v1_h1 : Int32) (w0_h1 : Int32) : Option (Int32 × ms_T) :=
  ms_c (f_X12_is n σh1 w0_h1) fun rh2 σh2 =>
  if rh2 = 0 then
    some ((-1 : Int32), σh2)
  else
    ms_g ((8 : Int32) + v1_h1) 1980 <|
    some ((ms_E σh2 40 (((8 : Int32) + v1_h1)).toNatClampNeg), σh2)
def f_X12_pad (n : Nat) (σ : ms_T) (a1 : Int32) : Option (Int32 × ms_T) :=
  if 0 ≤ a1 then
    ms_g (2 : Int32) 1980 <|
    if a1 < (ms_E σ 40 ((2 : Int32)).toNatClampNeg) then
      f_X12_pad_J24 n σ a1 (0 : Int32)
    else
      f_X12_pad_J24 n σ a1 (5 : Int32)
  else
    f_X12_pad_J24 n σ a1 (1 : Int32)
set_option maxRecDepth 100000 in
set_option maxHeartbeats 4000000 in
theorem m_X12_pad (n : Nat) (Γ : hp_G) (l : Launch) (α : hp_T) (a0 : Nat) (ρ : Nat → Nat) (σ : ms_T) (hM : hm_M α a0 ρ σ) (a1 : Int32) (res : (Int32 × ms_T)) (hf : f_X12_pad n σ a1 = some res) : Met l yX12_pad (hp_ws yX12_pad cX12_pad 2 (some .int)) (hp_rm 1 0 0) (hp_Pc Γ α [.ref a0, .int a1]) (hp_Qi Γ (fun r β => r = res.1 ∧ mo α β ∧ hm_M β a0 ρ res.2)) 0 0 (hp_A Γ) := by
  unfold f_X12_pad at hf
  refine hp_start (by decide) ?_
  intro p e s m below meth c C hr hlk B0 hnm
  have C : hp_C Γ p m c cX12_pad 2 s ([.ref a0, .int a1] : List Value).toArray RX12 := C
  have hx := C.1.1
  have hb := C.1.2.1
  have hown := C.1.2.2.2.1
  have hts := C.1.2.2.2.2
  have B : hp_B Γ mo s α α s.heap [] := ⟨B0.1, B0.2.1, mo_rf⟩
  have hl := lv_entry ([.ref a0, .int a1]) (n := 2) (Nat.le_of_ble_eq_true rfl)
  show W p l e (hp_rm 1 0 0) s m ([.ref a0, .int a1] : List Value).toArray below meth c s.heap [] 0 0 (MQ below (hp_Qi Γ (fun r β => r = res.1 ∧ mo α β ∧ hm_M β a0 ρ res.2)) ([.ref a0, .int a1] : List Value).toArray s 0 0 (hp_A Γ)) (entryFrame m ([.ref a0, .int a1] : List Value).toArray 2)
  rw [lg_entry_eq]
  generalize (lg_sl ([.ref a0, .int a1]) ++ List.replicate (2 - (lg_sl ([.ref a0, .int a1])).length) Slot.unset).toArray = ls at hl ⊢
  have hl : lv_has ls 2 [(0, .ref a0), (1, .int a1)] := hl
  refine lv_aload_n hx hb dX12_pad_0 rfl (lv_at hl 0 rfl) (hp_n (n := 1) rfl ?_)
  refine lv_iload_n hx hb dX12_pad_1 rfl (lv_at hl 1 rfl) (hp_n (n := 2) rfl ?_)
  have J24 : ∀ (αh1 : hp_T) (Hh1 : Heap) (Lh1 : List Loc) (Bh1 : hp_B Γ mo s α αh1 Hh1 Lh1) (σh1 : ms_T) (Mh1 : hm_M αh1 a0 ρ σh1) (v1_h1 : Int32) (w0_h1 : Int32) (ls : Array Slot) (hl : lv_has ls 2 [(0, .ref a0), (1, .int v1_h1)]) (hf : f_X12_pad_J24 n σh1 v1_h1 w0_h1 = some res), W p l e (hp_rm 1 0 0) s m ([.ref a0, .int a1] : List Value).toArray below meth c Hh1 Lh1 0 0 (MQ below (hp_Qi Γ (fun r β => r = res.1 ∧ mo α β ∧ hm_M β a0 ρ res.2)) ([.ref a0, .int a1] : List Value).toArray s 0 0 (hp_A Γ)) (F0 m 24 ls [.int w0_h1, .ref a0]) := by
    intro αh1 Hh1 Lh1 Bh1 σh1 Mh1 v1_h1 w0_h1 ls hl hf
    unfold f_X12_pad_J24 at hf
    obtain ⟨rh2, σh2, qh2, hf⟩ := ms_cE hf
    refine m_ci (pc' := 27) (a := a0) (ρ := ρ) Bh1 (hp_runV (As := [.int w0_h1]) (rest := []) C Bh1 (m_X12_is n Γ l αh1 a0 ρ σh1 Mh1 w0_h1 (rh2, σh2) qh2) lb_X12_is lv_X12_is lk_X12_309 Mh1.1 rfl (by decide) rfl hl.1 rfl (Nat.le_of_ble_eq_true rfl) dX12_pad_24 ⟨Nat.le_refl _, Nat.le_refl _⟩) rfl (fun αh2 Hh2 Lh2 Bh2 Mh2 => ?_)
    refine lv_if_eq (tgt := 42) hx hb dX12_pad_27 (by decide) (fun c3 => ?_) (fun c3 => hp_n (n := 30) rfl ?_)
    ·
      replace hf := ms_iT c3 hf
      refine lv_iconst (v := (-1)) hx hb dX12_pad_42 (by decide) (hp_n (n := 43) rfl ?_)
      cases hf
      exact q_iret C Bh2 hr hlk ⟨rfl, Bh2.2.2, Mh2⟩ dX12_pad_43
    ·
      replace hf := ms_iF c3 hf
      refine lv_aload_n hx hb dX12_pad_30 rfl (lv_at hl 0 rfl) (hp_n (n := 31) rfl ?_)
      refine m_getr (κ := 40) (k := 0) (pc' := 34) C Bh2 Mh2 fl_X12_7 rfl (by decide) dX12_pad_31 rfl ?_
      refine lv_bipush (v := 8) hx hb dX12_pad_34 (by decide) (hp_n (n := 36) rfl ?_)
      refine lv_iload_n hx hb dX12_pad_36 rfl (lv_at hl 1 rfl) (hp_n (n := 37) rfl ?_)
      refine lv_iadd hx hb dX12_pad_37 (hp_n (n := 38) rfl ?_)
      obtain ⟨g4, hf⟩ := ms_gE hf
      refine m_ial (κ := 40) (φ := 650) (n := 1980) (pc' := 39) C Bh2 Mh2 (by decide) (by decide) rfl g4 dX12_pad_38 rfl ?_
      refine lv_goto (tgt := 43) hx hb dX12_pad_39 (by decide) ?_
      cases hf
      exact q_iret C Bh2 hr hlk ⟨rfl, Bh2.2.2, Mh2⟩ dX12_pad_43
  refine lv_if_ge (tgt := 9) hx hb dX12_pad_2 (by decide) (fun c5 => ?_) (fun c5 => hp_n (n := 5) rfl ?_)
  ·
    replace hf := ms_iT c5 hf
    refine lv_iload_n hx hb dX12_pad_9 rfl (lv_at hl 1 rfl) (hp_n (n := 10) rfl ?_)
    refine lv_aload_n hx hb dX12_pad_10 rfl (lv_at hl 0 rfl) (hp_n (n := 11) rfl ?_)
    refine m_getr (κ := 40) (k := 0) (pc' := 14) C B hM fl_X12_7 rfl (by decide) dX12_pad_11 rfl ?_
    refine lv_iconst (v := 2) hx hb dX12_pad_14 (by decide) (hp_n (n := 15) rfl ?_)
    obtain ⟨g6, hf⟩ := ms_gE hf
    refine m_ial (κ := 40) (φ := 650) (n := 1980) (pc' := 16) C B hM (by decide) (by decide) rfl g6 dX12_pad_15 rfl ?_
    refine lv_icmp_lt (tgt := 23) hx hb dX12_pad_16 (by decide) (fun c7 => ?_) (fun c7 => hp_n (n := 19) rfl ?_)
    ·
      replace hf := ms_iT c7 hf
      refine lv_iconst (v := 0) hx hb dX12_pad_23 (by decide) (hp_n (n := 24) rfl ?_)
      exact J24 α s.heap [] B σ hM a1 (0 : Int32) ls (lv_sub hl [0, 1] rfl) hf
    ·
      replace hf := ms_iF c7 hf
      refine lv_iconst (v := 5) hx hb dX12_pad_19 (by decide) (hp_n (n := 20) rfl ?_)
      refine lv_goto (tgt := 24) hx hb dX12_pad_20 (by decide) ?_
      exact J24 α s.heap [] B σ hM a1 (5 : Int32) ls (lv_sub hl [0, 1] rfl) hf
  ·
    replace hf := ms_iF c5 hf
    refine lv_iconst (v := 1) hx hb dX12_pad_5 (by decide) (hp_n (n := 6) rfl ?_)
    refine lv_goto (tgt := 24) hx hb dX12_pad_6 (by decide) ?_
    exact J24 α s.heap [] B σ hM a1 (1 : Int32) ls (lv_sub hl [0, 1] rfl) hf
def f_X12_cut_J24 (n : Nat) (σh1 : ms_T) (v1_h1 : Int32) (w0_h1 : Int32) : Option (Int32 × ms_T) :=
  ms_c (f_X12_is n σh1 w0_h1) fun rh2 σh2 =>
  if rh2 = 0 then
    some ((-1 : Int32), σh2)
  else
    ms_g (2 : Int32) 1980 <|
    ms_l (ms_sE σh2 40 ((2 : Int32)).toNatClampNeg v1_h1) fun σh5 =>
    some (v1_h1, σh5)
def f_X12_cut (n : Nat) (σ : ms_T) (a1 : Int32) : Option (Int32 × ms_T) :=
  if 0 ≤ a1 then
    ms_g (2 : Int32) 1980 <|
    if a1 ≤ (ms_E σ 40 ((2 : Int32)).toNatClampNeg) then
      f_X12_cut_J24 n σ a1 (0 : Int32)
    else
      f_X12_cut_J24 n σ a1 (5 : Int32)
  else
    f_X12_cut_J24 n σ a1 (1 : Int32)
set_option maxRecDepth 100000 in
set_option maxHeartbeats 4000000 in
theorem m_X12_cut (n : Nat) (Γ : hp_G) (l : Launch) (α : hp_T) (a0 : Nat) (ρ : Nat → Nat) (σ : ms_T) (hM : hm_M α a0 ρ σ) (a1 : Int32) (res : (Int32 × ms_T)) (hf : f_X12_cut n σ a1 = some res) : Met l yX12_cut (hp_ws yX12_cut cX12_cut 2 (some .int)) (hp_rm 1 0 0) (hp_Pc Γ α [.ref a0, .int a1]) (hp_Qi Γ (fun r β => r = res.1 ∧ mo α β ∧ hm_M β a0 ρ res.2)) 0 0 (hp_A Γ) := by
  unfold f_X12_cut at hf
  refine hp_start (by decide) ?_
  intro p e s m below meth c C hr hlk B0 hnm
  have C : hp_C Γ p m c cX12_cut 2 s ([.ref a0, .int a1] : List Value).toArray RX12 := C
  have hx := C.1.1
  have hb := C.1.2.1
  have hown := C.1.2.2.2.1
  have hts := C.1.2.2.2.2
  have B : hp_B Γ mo s α α s.heap [] := ⟨B0.1, B0.2.1, mo_rf⟩
  have hl := lv_entry ([.ref a0, .int a1]) (n := 2) (Nat.le_of_ble_eq_true rfl)
  show W p l e (hp_rm 1 0 0) s m ([.ref a0, .int a1] : List Value).toArray below meth c s.heap [] 0 0 (MQ below (hp_Qi Γ (fun r β => r = res.1 ∧ mo α β ∧ hm_M β a0 ρ res.2)) ([.ref a0, .int a1] : List Value).toArray s 0 0 (hp_A Γ)) (entryFrame m ([.ref a0, .int a1] : List Value).toArray 2)
  rw [lg_entry_eq]
  generalize (lg_sl ([.ref a0, .int a1]) ++ List.replicate (2 - (lg_sl ([.ref a0, .int a1])).length) Slot.unset).toArray = ls at hl ⊢
  have hl : lv_has ls 2 [(0, .ref a0), (1, .int a1)] := hl
  refine lv_aload_n hx hb dX12_cut_0 rfl (lv_at hl 0 rfl) (hp_n (n := 1) rfl ?_)
  refine lv_iload_n hx hb dX12_cut_1 rfl (lv_at hl 1 rfl) (hp_n (n := 2) rfl ?_)
  have J24 : ∀ (αh1 : hp_T) (Hh1 : Heap) (Lh1 : List Loc) (Bh1 : hp_B Γ mo s α αh1 Hh1 Lh1) (σh1 : ms_T) (Mh1 : hm_M αh1 a0 ρ σh1) (v1_h1 : Int32) (w0_h1 : Int32) (ls : Array Slot) (hl : lv_has ls 2 [(0, .ref a0), (1, .int v1_h1)]) (hf : f_X12_cut_J24 n σh1 v1_h1 w0_h1 = some res), W p l e (hp_rm 1 0 0) s m ([.ref a0, .int a1] : List Value).toArray below meth c Hh1 Lh1 0 0 (MQ below (hp_Qi Γ (fun r β => r = res.1 ∧ mo α β ∧ hm_M β a0 ρ res.2)) ([.ref a0, .int a1] : List Value).toArray s 0 0 (hp_A Γ)) (F0 m 24 ls [.int w0_h1, .ref a0]) := by
    intro αh1 Hh1 Lh1 Bh1 σh1 Mh1 v1_h1 w0_h1 ls hl hf
    unfold f_X12_cut_J24 at hf
    obtain ⟨rh2, σh2, qh2, hf⟩ := ms_cE hf
    refine m_ci (pc' := 27) (a := a0) (ρ := ρ) Bh1 (hp_runV (As := [.int w0_h1]) (rest := []) C Bh1 (m_X12_is n Γ l αh1 a0 ρ σh1 Mh1 w0_h1 (rh2, σh2) qh2) lb_X12_is lv_X12_is lk_X12_309 Mh1.1 rfl (by decide) rfl hl.1 rfl (Nat.le_of_ble_eq_true rfl) dX12_cut_24 ⟨Nat.le_refl _, Nat.le_refl _⟩) rfl (fun αh2 Hh2 Lh2 Bh2 Mh2 => ?_)
    refine lv_if_ne (tgt := 32) hx hb dX12_cut_27 (by decide) (fun c3 => ?_) (fun c3 => hp_n (n := 30) rfl ?_)
    ·
      replace hf := ms_iF c3 hf
      refine lv_aload_n hx hb dX12_cut_32 rfl (lv_at hl 0 rfl) (hp_n (n := 33) rfl ?_)
      refine m_getr (κ := 40) (k := 0) (pc' := 36) C Bh2 Mh2 fl_X12_7 rfl (by decide) dX12_cut_33 rfl ?_
      refine lv_iconst (v := 2) hx hb dX12_cut_36 (by decide) (hp_n (n := 37) rfl ?_)
      refine lv_iload_n hx hb dX12_cut_37 rfl (lv_at hl 1 rfl) (hp_n (n := 38) rfl ?_)
      obtain ⟨g4, hf⟩ := ms_gE hf
      refine m_ias (κ := 40) (φ := 650) (n := 1980) (pc' := 39) C Bh2 Mh2 (by decide) (by decide) rfl g4 dX12_cut_38 rfl (fun αh5 Hh5 Lh5 σh5 eh5 Bh5 Mh5 => ?_)
      replace hf := ms_lE eh5 hf
      refine lv_iload_n hx hb dX12_cut_39 rfl (lv_at hl 1 rfl) (hp_n (n := 40) rfl ?_)
      cases hf
      exact q_iret C Bh5 hr hlk ⟨rfl, Bh5.2.2, Mh5⟩ dX12_cut_40
    ·
      replace hf := ms_iT c3 hf
      refine lv_iconst (v := (-1)) hx hb dX12_cut_30 (by decide) (hp_n (n := 31) rfl ?_)
      cases hf
      exact q_iret C Bh2 hr hlk ⟨rfl, Bh2.2.2, Mh2⟩ dX12_cut_31
  refine lv_if_ge (tgt := 9) hx hb dX12_cut_2 (by decide) (fun c6 => ?_) (fun c6 => hp_n (n := 5) rfl ?_)
  ·
    replace hf := ms_iT c6 hf
    refine lv_iload_n hx hb dX12_cut_9 rfl (lv_at hl 1 rfl) (hp_n (n := 10) rfl ?_)
    refine lv_aload_n hx hb dX12_cut_10 rfl (lv_at hl 0 rfl) (hp_n (n := 11) rfl ?_)
    refine m_getr (κ := 40) (k := 0) (pc' := 14) C B hM fl_X12_7 rfl (by decide) dX12_cut_11 rfl ?_
    refine lv_iconst (v := 2) hx hb dX12_cut_14 (by decide) (hp_n (n := 15) rfl ?_)
    obtain ⟨g7, hf⟩ := ms_gE hf
    refine m_ial (κ := 40) (φ := 650) (n := 1980) (pc' := 16) C B hM (by decide) (by decide) rfl g7 dX12_cut_15 rfl ?_
    refine lv_icmp_le (tgt := 23) hx hb dX12_cut_16 (by decide) (fun c8 => ?_) (fun c8 => hp_n (n := 19) rfl ?_)
    ·
      replace hf := ms_iT c8 hf
      refine lv_iconst (v := 0) hx hb dX12_cut_23 (by decide) (hp_n (n := 24) rfl ?_)
      exact J24 α s.heap [] B σ hM a1 (0 : Int32) ls (lv_sub hl [0, 1] rfl) hf
    ·
      replace hf := ms_iF c8 hf
      refine lv_iconst (v := 5) hx hb dX12_cut_19 (by decide) (hp_n (n := 20) rfl ?_)
      refine lv_goto (tgt := 24) hx hb dX12_cut_20 (by decide) ?_
      exact J24 α s.heap [] B σ hM a1 (5 : Int32) ls (lv_sub hl [0, 1] rfl) hf
  ·
    replace hf := ms_iF c6 hf
    refine lv_iconst (v := 1) hx hb dX12_cut_5 (by decide) (hp_n (n := 6) rfl ?_)
    refine lv_goto (tgt := 24) hx hb dX12_cut_6 (by decide) ?_
    exact J24 α s.heap [] B σ hM a1 (1 : Int32) ls (lv_sub hl [0, 1] rfl) hf
def f_X12_noEntry_J8 (n : Nat) (σ : ms_T) : Option Int32 :=
  some (1 : Int32)
def f_X12_noEntry_J38 (n : Nat) (σ : ms_T) : Option Int32 :=
  some (5 : Int32)
def f_X12_noEntry (n : Nat) (σ : ms_T) (a1 : Int32) (a2 : Int32) (a3 : Int32) : Option Int32 :=
  if a2 < 0 then
    f_X12_noEntry_J8 n σ 
  else
    if 0 ≤ a3 then
      ms_b (f_X12_isRecord n σ a1) fun rh4 =>
      if rh4 = 0 then
        some (2 : Int32)
      else
        ms_b (f_X12_sizeOf n σ a1) fun rh6 =>
        if rh6 < a3 then
          f_X12_noEntry_J38 n σ 
        else
          if a2 < a3 then
            some (0 : Int32)
          else
            f_X12_noEntry_J38 n σ 
    else
      f_X12_noEntry_J8 n σ 
set_option maxRecDepth 100000 in
set_option maxHeartbeats 4000000 in
theorem m_X12_noEntry (n : Nat) (Γ : hp_G) (l : Launch) (α : hp_T) (a0 : Nat) (ρ : Nat → Nat) (σ : ms_T) (hM : hm_M α a0 ρ σ) (a1 : Int32) (a2 : Int32) (a3 : Int32) (res : Int32) (hf : f_X12_noEntry n σ a1 a2 a3 = some res) : Met l yX12_noEntry (hp_ws yX12_noEntry cX12_noEntry 4 (some .int)) (hp_rm 2 0 0) (hp_Pc Γ α [.ref a0, .int a1, .int a2, .int a3]) (hp_Qi Γ (fun r β => β = α ∧ r = res)) 0 0 (hp_A Γ) := by
  unfold f_X12_noEntry at hf
  refine hp_start (by decide) ?_
  intro p e s m below meth c C hr hlk B0 hnm
  have C : hp_C Γ p m c cX12_noEntry 4 s ([.ref a0, .int a1, .int a2, .int a3] : List Value).toArray RX12 := C
  have hx := C.1.1
  have hb := C.1.2.1
  have hown := C.1.2.2.2.1
  have hts := C.1.2.2.2.2
  have B : hp_B Γ (fun _ _ => True) s α α s.heap [] := ⟨B0.1, B0.2.1, trivial⟩
  have hl := lv_entry ([.ref a0, .int a1, .int a2, .int a3]) (n := 4) (Nat.le_of_ble_eq_true rfl)
  show W p l e (hp_rm 2 0 0) s m ([.ref a0, .int a1, .int a2, .int a3] : List Value).toArray below meth c s.heap [] 0 0 (MQ below (hp_Qi Γ (fun r β => β = α ∧ r = res)) ([.ref a0, .int a1, .int a2, .int a3] : List Value).toArray s 0 0 (hp_A Γ)) (entryFrame m ([.ref a0, .int a1, .int a2, .int a3] : List Value).toArray 4)
  rw [lg_entry_eq]
  generalize (lg_sl ([.ref a0, .int a1, .int a2, .int a3]) ++ List.replicate (4 - (lg_sl ([.ref a0, .int a1, .int a2, .int a3])).length) Slot.unset).toArray = ls at hl ⊢
  have hl : lv_has ls 4 [(0, .ref a0), (1, .int a1), (2, .int a2), (3, .int a3)] := hl
  refine lv_iload_n hx hb dX12_noEntry_0 rfl (lv_at hl 2 rfl) (hp_n (n := 1) rfl ?_)
  have J8 : ∀ (Hh1 : Heap) (Lh1 : List Loc) (Bh1 : hp_B Γ (fun _ _ => True) s α α Hh1 Lh1) (ls : Array Slot) (hl : lv_has ls 4 []) (hf : f_X12_noEntry_J8 n σ  = some res), W p l e (hp_rm 2 0 0) s m ([.ref a0, .int a1, .int a2, .int a3] : List Value).toArray below meth c Hh1 Lh1 0 0 (MQ below (hp_Qi Γ (fun r β => β = α ∧ r = res)) ([.ref a0, .int a1, .int a2, .int a3] : List Value).toArray s 0 0 (hp_A Γ)) (F0 m 8 ls []) := by
    intro Hh1 Lh1 Bh1 ls hl hf
    unfold f_X12_noEntry_J8 at hf
    refine lv_iconst (v := 1) hx hb dX12_noEntry_8 (by decide) (hp_n (n := 9) rfl ?_)
    refine lv_goto (tgt := 43) hx hb dX12_noEntry_9 (by decide) ?_
    cases hf
    exact q_iret C Bh1 hr hlk ⟨rfl, rfl⟩ dX12_noEntry_43
  refine lv_if_lt (tgt := 8) hx hb dX12_noEntry_1 (by decide) (fun c2 => ?_) (fun c2 => hp_n (n := 4) rfl ?_)
  ·
    replace hf := ms_iT c2 hf
    exact J8 s.heap [] B ls (lv_sub hl [] rfl) hf
  ·
    replace hf := ms_iF c2 hf
    refine lv_iload_n hx hb dX12_noEntry_4 rfl (lv_at hl 3 rfl) (hp_n (n := 5) rfl ?_)
    refine lv_if_ge (tgt := 12) hx hb dX12_noEntry_5 (by decide) (fun c3 => ?_) (fun c3 => hp_n (n := 8) rfl ?_)
    ·
      replace hf := ms_iT c3 hf
      refine lv_aload_n hx hb dX12_noEntry_12 rfl (lv_at hl 0 rfl) (hp_n (n := 13) rfl ?_)
      refine lv_iload_n hx hb dX12_noEntry_13 rfl (lv_at hl 1 rfl) (hp_n (n := 14) rfl ?_)
      obtain ⟨rh4, qh4, hf⟩ := ms_bE hf
      refine m_cp (pc' := 17) B (hp_runV (As := [.int a1]) (rest := []) C B (m_X12_isRecord n Γ l α a0 ρ σ hM a1 rh4 qh4) lb_X12_isRecord lv_X12_isRecord lk_X12_344 hM.1 rfl (by decide) rfl hl.1 rfl (Nat.le_of_ble_eq_true rfl) dX12_noEntry_14 ⟨Nat.le_refl _, Nat.le_refl _⟩) rfl (fun Hh4 Lh4 Bh4 => ?_)
      refine lv_if_ne (tgt := 24) hx hb dX12_noEntry_17 (by decide) (fun c5 => ?_) (fun c5 => hp_n (n := 20) rfl ?_)
      ·
        replace hf := ms_iF c5 hf
        refine lv_iload_n hx hb dX12_noEntry_24 rfl (lv_at hl 3 rfl) (hp_n (n := 25) rfl ?_)
        refine lv_aload_n hx hb dX12_noEntry_25 rfl (lv_at hl 0 rfl) (hp_n (n := 26) rfl ?_)
        refine lv_iload_n hx hb dX12_noEntry_26 rfl (lv_at hl 1 rfl) (hp_n (n := 27) rfl ?_)
        obtain ⟨rh6, qh6, hf⟩ := ms_bE hf
        refine m_cp (pc' := 30) Bh4 (hp_runV (As := [.int a1]) (rest := [.int a3]) C Bh4 (m_X12_sizeOf n Γ l α a0 ρ σ hM a1 rh6 qh6) lb_X12_sizeOf lv_X12_sizeOf lk_X12_209 hM.1 rfl (by decide) rfl hl.1 rfl (Nat.le_of_ble_eq_true rfl) dX12_noEntry_27 ⟨Nat.le_refl _, Nat.le_refl _⟩) rfl (fun Hh6 Lh6 Bh6 => ?_)
        have J38 : ∀ (Hh7 : Heap) (Lh7 : List Loc) (Bh7 : hp_B Γ (fun _ _ => True) s α α Hh7 Lh7) (ls : Array Slot) (hl : lv_has ls 4 []) (hf : f_X12_noEntry_J38 n σ  = some res), W p l e (hp_rm 2 0 0) s m ([.ref a0, .int a1, .int a2, .int a3] : List Value).toArray below meth c Hh7 Lh7 0 0 (MQ below (hp_Qi Γ (fun r β => β = α ∧ r = res)) ([.ref a0, .int a1, .int a2, .int a3] : List Value).toArray s 0 0 (hp_A Γ)) (F0 m 38 ls []) := by
          intro Hh7 Lh7 Bh7 ls hl hf
          unfold f_X12_noEntry_J38 at hf
          refine lv_iconst (v := 5) hx hb dX12_noEntry_38 (by decide) (hp_n (n := 39) rfl ?_)
          refine lv_goto (tgt := 43) hx hb dX12_noEntry_39 (by decide) ?_
          cases hf
          exact q_iret C Bh7 hr hlk ⟨rfl, rfl⟩ dX12_noEntry_43
        refine lv_icmp_gt (tgt := 38) hx hb dX12_noEntry_30 (by decide) (fun c8 => ?_) (fun c8 => hp_n (n := 33) rfl ?_)
        ·
          replace hf := ms_iT c8 hf
          exact J38 Hh6 Lh6 Bh6 ls (lv_sub hl [] rfl) hf
        ·
          replace hf := ms_iF c8 hf
          refine lv_iload_n hx hb dX12_noEntry_33 rfl (lv_at hl 2 rfl) (hp_n (n := 34) rfl ?_)
          refine lv_iload_n hx hb dX12_noEntry_34 rfl (lv_at hl 3 rfl) (hp_n (n := 35) rfl ?_)
          refine lv_icmp_lt (tgt := 42) hx hb dX12_noEntry_35 (by decide) (fun c9 => ?_) (fun c9 => hp_n (n := 38) rfl ?_)
          ·
            replace hf := ms_iT c9 hf
            refine lv_iconst (v := 0) hx hb dX12_noEntry_42 (by decide) (hp_n (n := 43) rfl ?_)
            cases hf
            exact q_iret C Bh6 hr hlk ⟨rfl, rfl⟩ dX12_noEntry_43
          ·
            replace hf := ms_iF c9 hf
            exact J38 Hh6 Lh6 Bh6 ls (lv_sub hl [] rfl) hf
      ·
        replace hf := ms_iT c5 hf
        refine lv_iconst (v := 2) hx hb dX12_noEntry_20 (by decide) (hp_n (n := 21) rfl ?_)
        refine lv_goto (tgt := 43) hx hb dX12_noEntry_21 (by decide) ?_
        cases hf
        exact q_iret C Bh4 hr hlk ⟨rfl, rfl⟩ dX12_noEntry_43
    ·
      replace hf := ms_iF c3 hf
      exact J8 s.heap [] B ls (lv_sub hl [] rfl) hf
def f_X12_include (n : Nat) (σ : ms_T) (a1 : Int32) (a2 : Int32) (a3 : Int32) : Option (Int32 × ms_T) :=
  ms_b (f_X12_noEntry n σ a1 a2 a3) fun rh1 =>
  ms_c (f_X12_is n σ rh1) fun rh2 σh2 =>
  if rh2 = 0 then
    some ((-1 : Int32), σh2)
  else
    ms_b (f_X12_inclusion n σh2 a2 a3) fun σh4 =>
    ms_c (f_X12_pads n σh4 a1) fun rh5 σh5 =>
    some (rh5, σh5)
set_option maxRecDepth 100000 in
set_option maxHeartbeats 4000000 in
theorem m_X12_include (n : Nat) (Γ : hp_G) (l : Launch) (α : hp_T) (a0 : Nat) (ρ : Nat → Nat) (σ : ms_T) (hM : hm_M α a0 ρ σ) (a1 : Int32) (a2 : Int32) (a3 : Int32) (res : (Int32 × ms_T)) (hf : f_X12_include n σ a1 a2 a3 = some res) : Met l yX12_include (hp_ws yX12_include cX12_include 4 (some .int)) (hp_rm 44 0 0) (hp_Pc Γ α [.ref a0, .int a1, .int a2, .int a3]) (hp_Qi Γ (fun r β => r = res.1 ∧ mo α β ∧ hm_M β a0 ρ res.2)) 0 0 (hp_A Γ) := by
  unfold f_X12_include at hf
  refine hp_start (by decide) ?_
  intro p e s m below meth c C hr hlk B0 hnm
  have C : hp_C Γ p m c cX12_include 4 s ([.ref a0, .int a1, .int a2, .int a3] : List Value).toArray RX12 := C
  have hx := C.1.1
  have hb := C.1.2.1
  have hown := C.1.2.2.2.1
  have hts := C.1.2.2.2.2
  have B : hp_B Γ mo s α α s.heap [] := ⟨B0.1, B0.2.1, mo_rf⟩
  have hl := lv_entry ([.ref a0, .int a1, .int a2, .int a3]) (n := 4) (Nat.le_of_ble_eq_true rfl)
  show W p l e (hp_rm 44 0 0) s m ([.ref a0, .int a1, .int a2, .int a3] : List Value).toArray below meth c s.heap [] 0 0 (MQ below (hp_Qi Γ (fun r β => r = res.1 ∧ mo α β ∧ hm_M β a0 ρ res.2)) ([.ref a0, .int a1, .int a2, .int a3] : List Value).toArray s 0 0 (hp_A Γ)) (entryFrame m ([.ref a0, .int a1, .int a2, .int a3] : List Value).toArray 4)
  rw [lg_entry_eq]
  generalize (lg_sl ([.ref a0, .int a1, .int a2, .int a3]) ++ List.replicate (4 - (lg_sl ([.ref a0, .int a1, .int a2, .int a3])).length) Slot.unset).toArray = ls at hl ⊢
  have hl : lv_has ls 4 [(0, .ref a0), (1, .int a1), (2, .int a2), (3, .int a3)] := hl
  refine lv_aload_n hx hb dX12_include_0 rfl (lv_at hl 0 rfl) (hp_n (n := 1) rfl ?_)
  refine lv_aload_n hx hb dX12_include_1 rfl (lv_at hl 0 rfl) (hp_n (n := 2) rfl ?_)
  refine lv_iload_n hx hb dX12_include_2 rfl (lv_at hl 1 rfl) (hp_n (n := 3) rfl ?_)
  refine lv_iload_n hx hb dX12_include_3 rfl (lv_at hl 2 rfl) (hp_n (n := 4) rfl ?_)
  refine lv_iload_n hx hb dX12_include_4 rfl (lv_at hl 3 rfl) (hp_n (n := 5) rfl ?_)
  obtain ⟨rh1, qh1, hf⟩ := ms_bE hf
  refine m_cp (pc' := 8) B (hp_runV (As := [.int a1, .int a2, .int a3]) (rest := [.ref a0]) C B (m_X12_noEntry n Γ l α a0 ρ σ hM a1 a2 a3 rh1 qh1) lb_X12_noEntry lv_X12_noEntry lk_X12_362 hM.1 rfl (by decide) rfl hl.1 rfl (Nat.le_of_ble_eq_true rfl) dX12_include_5 ⟨Nat.le_refl _, Nat.le_refl _⟩) rfl (fun Hh1 Lh1 Bh1 => ?_)
  obtain ⟨rh2, σh2, qh2, hf⟩ := ms_cE hf
  refine m_ci (pc' := 11) (a := a0) (ρ := ρ) Bh1 (hp_runV (As := [.int rh1]) (rest := []) C Bh1 (m_X12_is n Γ l α a0 ρ σ hM rh1 (rh2, σh2) qh2) lb_X12_is lv_X12_is lk_X12_309 hM.1 rfl (by decide) rfl hl.1 rfl (Nat.le_of_ble_eq_true rfl) dX12_include_8 ⟨Nat.le_refl _, Nat.le_refl _⟩) rfl (fun αh2 Hh2 Lh2 Bh2 Mh2 => ?_)
  refine lv_if_ne (tgt := 16) hx hb dX12_include_11 (by decide) (fun c3 => ?_) (fun c3 => hp_n (n := 14) rfl ?_)
  ·
    replace hf := ms_iF c3 hf
    refine lv_aload_n hx hb dX12_include_16 rfl (lv_at hl 0 rfl) (hp_n (n := 17) rfl ?_)
    refine lv_iload_n hx hb dX12_include_17 rfl (lv_at hl 2 rfl) (hp_n (n := 18) rfl ?_)
    refine lv_iload_n hx hb dX12_include_18 rfl (lv_at hl 3 rfl) (hp_n (n := 19) rfl ?_)
    obtain ⟨σh4, qh4, hf⟩ := ms_bE hf
    refine m_cv (pc' := 22) (a := a0) (ρ := ρ) Bh2 (hp_runV (As := [.int a2, .int a3]) (rest := []) C Bh2 (m_X12_inclusion n Γ l αh2 a0 ρ σh2 Mh2 a2 a3 σh4 qh4) lb_X12_inclusion lv_X12_inclusion lk_X12_171 Mh2.1 rfl (by decide) rfl hl.1 rfl (Nat.le_of_ble_eq_true rfl) dX12_include_19 ⟨Nat.le_refl _, Nat.le_refl _⟩) rfl (fun αh4 Hh4 Lh4 Bh4 Mh4 => ?_)
    refine lv_aload_n hx hb dX12_include_22 rfl (lv_at hl 0 rfl) (hp_n (n := 23) rfl ?_)
    refine lv_iload_n hx hb dX12_include_23 rfl (lv_at hl 1 rfl) (hp_n (n := 24) rfl ?_)
    obtain ⟨rh5, σh5, qh5, hf⟩ := ms_cE hf
    refine m_ci (pc' := 27) (a := a0) (ρ := ρ) Bh4 (hp_runV (As := [.int a1]) (rest := []) C Bh4 (m_X12_pads n Γ l αh4 a0 ρ σh4 Mh4 a1 (rh5, σh5) qh5) lb_X12_pads lv_X12_pads lk_X12_365 Mh4.1 rfl (by decide) rfl hl.1 rfl (Nat.le_of_ble_eq_true rfl) dX12_include_24 ⟨Nat.le_refl _, Nat.le_refl _⟩) rfl (fun αh5 Hh5 Lh5 Bh5 Mh5 => ?_)
    cases hf
    exact q_iret C Bh5 hr hlk ⟨rfl, Bh5.2.2, Mh5⟩ dX12_include_27
  ·
    replace hf := ms_iT c3 hf
    refine lv_iconst (v := (-1)) hx hb dX12_include_14 (by decide) (hp_n (n := 15) rfl ?_)
    cases hf
    exact q_iret C Bh2 hr hlk ⟨rfl, Bh2.2.2, Mh2⟩ dX12_include_15
def f_X12_grow_J20 (n : Nat) (σh1 : ms_T) (v1_h1 : Int32) (v2_h1 : Int32) (v3_h1 : Int32) (w0_h1 : Int32) : Option (Int32 × ms_T) :=
  ms_c (f_X12_is n σh1 w0_h1) fun rh2 σh2 =>
  if rh2 = 0 then
    some ((-1 : Int32), σh2)
  else
    ms_b (f_X12_growth n σh2 v2_h1 v3_h1) fun σh4 =>
    ms_c (f_X12_pads n σh4 v1_h1) fun rh5 σh5 =>
    some (rh5, σh5)
def f_X12_grow_J10 (n : Nat) (σh6 : ms_T) (v1_h6 : Int32) (v2_h6 : Int32) (v3_h6 : Int32) : Option (Int32 × ms_T) :=
  f_X12_grow_J20 n σh6 v1_h6 v2_h6 v3_h6 (1 : Int32)
def f_X12_grow (n : Nat) (σ : ms_T) (a1 : Int32) (a2 : Int32) (a3 : Int32) : Option (Int32 × ms_T) :=
  if a2 < 0 then
    f_X12_grow_J10 n σ a1 a2 a3
  else
    if a2 ≤ a3 then
      ms_b (f_X12_noSize n σ a1 a3) fun rh9 =>
      f_X12_grow_J20 n σ a1 a2 a3 rh9
    else
      f_X12_grow_J10 n σ a1 a2 a3
set_option maxRecDepth 100000 in
set_option maxHeartbeats 4000000 in
theorem m_X12_grow (n : Nat) (Γ : hp_G) (l : Launch) (α : hp_T) (a0 : Nat) (ρ : Nat → Nat) (σ : ms_T) (hM : hm_M α a0 ρ σ) (a1 : Int32) (a2 : Int32) (a3 : Int32) (res : (Int32 × ms_T)) (hf : f_X12_grow n σ a1 a2 a3 = some res) : Met l yX12_grow (hp_ws yX12_grow cX12_grow 4 (some .int)) (hp_rm 44 0 0) (hp_Pc Γ α [.ref a0, .int a1, .int a2, .int a3]) (hp_Qi Γ (fun r β => r = res.1 ∧ mo α β ∧ hm_M β a0 ρ res.2)) 0 0 (hp_A Γ) := by
  unfold f_X12_grow at hf
  refine hp_start (by decide) ?_
  intro p e s m below meth c C hr hlk B0 hnm
  have C : hp_C Γ p m c cX12_grow 4 s ([.ref a0, .int a1, .int a2, .int a3] : List Value).toArray RX12 := C
  have hx := C.1.1
  have hb := C.1.2.1
  have hown := C.1.2.2.2.1
  have hts := C.1.2.2.2.2
  have B : hp_B Γ mo s α α s.heap [] := ⟨B0.1, B0.2.1, mo_rf⟩
  have hl := lv_entry ([.ref a0, .int a1, .int a2, .int a3]) (n := 4) (Nat.le_of_ble_eq_true rfl)
  show W p l e (hp_rm 44 0 0) s m ([.ref a0, .int a1, .int a2, .int a3] : List Value).toArray below meth c s.heap [] 0 0 (MQ below (hp_Qi Γ (fun r β => r = res.1 ∧ mo α β ∧ hm_M β a0 ρ res.2)) ([.ref a0, .int a1, .int a2, .int a3] : List Value).toArray s 0 0 (hp_A Γ)) (entryFrame m ([.ref a0, .int a1, .int a2, .int a3] : List Value).toArray 4)
  rw [lg_entry_eq]
  generalize (lg_sl ([.ref a0, .int a1, .int a2, .int a3]) ++ List.replicate (4 - (lg_sl ([.ref a0, .int a1, .int a2, .int a3])).length) Slot.unset).toArray = ls at hl ⊢
  have hl : lv_has ls 4 [(0, .ref a0), (1, .int a1), (2, .int a2), (3, .int a3)] := hl
  refine lv_aload_n hx hb dX12_grow_0 rfl (lv_at hl 0 rfl) (hp_n (n := 1) rfl ?_)
  refine lv_iload_n hx hb dX12_grow_1 rfl (lv_at hl 2 rfl) (hp_n (n := 2) rfl ?_)
  have J20 : ∀ (αh1 : hp_T) (Hh1 : Heap) (Lh1 : List Loc) (Bh1 : hp_B Γ mo s α αh1 Hh1 Lh1) (σh1 : ms_T) (Mh1 : hm_M αh1 a0 ρ σh1) (v1_h1 : Int32) (v2_h1 : Int32) (v3_h1 : Int32) (w0_h1 : Int32) (ls : Array Slot) (hl : lv_has ls 4 [(0, .ref a0), (1, .int v1_h1), (2, .int v2_h1), (3, .int v3_h1)]) (hf : f_X12_grow_J20 n σh1 v1_h1 v2_h1 v3_h1 w0_h1 = some res), W p l e (hp_rm 44 0 0) s m ([.ref a0, .int a1, .int a2, .int a3] : List Value).toArray below meth c Hh1 Lh1 0 0 (MQ below (hp_Qi Γ (fun r β => r = res.1 ∧ mo α β ∧ hm_M β a0 ρ res.2)) ([.ref a0, .int a1, .int a2, .int a3] : List Value).toArray s 0 0 (hp_A Γ)) (F0 m 20 ls [.int w0_h1, .ref a0]) := by
    intro αh1 Hh1 Lh1 Bh1 σh1 Mh1 v1_h1 v2_h1 v3_h1 w0_h1 ls hl hf
    unfold f_X12_grow_J20 at hf
    obtain ⟨rh2, σh2, qh2, hf⟩ := ms_cE hf
    refine m_ci (pc' := 23) (a := a0) (ρ := ρ) Bh1 (hp_runV (As := [.int w0_h1]) (rest := []) C Bh1 (m_X12_is n Γ l αh1 a0 ρ σh1 Mh1 w0_h1 (rh2, σh2) qh2) lb_X12_is lv_X12_is lk_X12_309 Mh1.1 rfl (by decide) rfl hl.1 rfl (Nat.le_of_ble_eq_true rfl) dX12_grow_20 ⟨Nat.le_refl _, Nat.le_refl _⟩) rfl (fun αh2 Hh2 Lh2 Bh2 Mh2 => ?_)
    refine lv_if_ne (tgt := 28) hx hb dX12_grow_23 (by decide) (fun c3 => ?_) (fun c3 => hp_n (n := 26) rfl ?_)
    ·
      replace hf := ms_iF c3 hf
      refine lv_aload_n hx hb dX12_grow_28 rfl (lv_at hl 0 rfl) (hp_n (n := 29) rfl ?_)
      refine lv_iload_n hx hb dX12_grow_29 rfl (lv_at hl 2 rfl) (hp_n (n := 30) rfl ?_)
      refine lv_iload_n hx hb dX12_grow_30 rfl (lv_at hl 3 rfl) (hp_n (n := 31) rfl ?_)
      obtain ⟨σh4, qh4, hf⟩ := ms_bE hf
      refine m_cv (pc' := 34) (a := a0) (ρ := ρ) Bh2 (hp_runV (As := [.int v2_h1, .int v3_h1]) (rest := []) C Bh2 (m_X12_growth n Γ l αh2 a0 ρ σh2 Mh2 v2_h1 v3_h1 σh4 qh4) lb_X12_growth lv_X12_growth lk_X12_190 Mh2.1 rfl (by decide) rfl hl.1 rfl (Nat.le_of_ble_eq_true rfl) dX12_grow_31 ⟨Nat.le_refl _, Nat.le_refl _⟩) rfl (fun αh4 Hh4 Lh4 Bh4 Mh4 => ?_)
      refine lv_aload_n hx hb dX12_grow_34 rfl (lv_at hl 0 rfl) (hp_n (n := 35) rfl ?_)
      refine lv_iload_n hx hb dX12_grow_35 rfl (lv_at hl 1 rfl) (hp_n (n := 36) rfl ?_)
      obtain ⟨rh5, σh5, qh5, hf⟩ := ms_cE hf
      refine m_ci (pc' := 39) (a := a0) (ρ := ρ) Bh4 (hp_runV (As := [.int v1_h1]) (rest := []) C Bh4 (m_X12_pads n Γ l αh4 a0 ρ σh4 Mh4 v1_h1 (rh5, σh5) qh5) lb_X12_pads lv_X12_pads lk_X12_365 Mh4.1 rfl (by decide) rfl hl.1 rfl (Nat.le_of_ble_eq_true rfl) dX12_grow_36 ⟨Nat.le_refl _, Nat.le_refl _⟩) rfl (fun αh5 Hh5 Lh5 Bh5 Mh5 => ?_)
      cases hf
      exact q_iret C Bh5 hr hlk ⟨rfl, Bh5.2.2, Mh5⟩ dX12_grow_39
    ·
      replace hf := ms_iT c3 hf
      refine lv_iconst (v := (-1)) hx hb dX12_grow_26 (by decide) (hp_n (n := 27) rfl ?_)
      cases hf
      exact q_iret C Bh2 hr hlk ⟨rfl, Bh2.2.2, Mh2⟩ dX12_grow_27
  have J10 : ∀ (αh6 : hp_T) (Hh6 : Heap) (Lh6 : List Loc) (Bh6 : hp_B Γ mo s α αh6 Hh6 Lh6) (σh6 : ms_T) (Mh6 : hm_M αh6 a0 ρ σh6) (v1_h6 : Int32) (v2_h6 : Int32) (v3_h6 : Int32) (ls : Array Slot) (hl : lv_has ls 4 [(0, .ref a0), (1, .int v1_h6), (2, .int v2_h6), (3, .int v3_h6)]) (hf : f_X12_grow_J10 n σh6 v1_h6 v2_h6 v3_h6 = some res), W p l e (hp_rm 44 0 0) s m ([.ref a0, .int a1, .int a2, .int a3] : List Value).toArray below meth c Hh6 Lh6 0 0 (MQ below (hp_Qi Γ (fun r β => r = res.1 ∧ mo α β ∧ hm_M β a0 ρ res.2)) ([.ref a0, .int a1, .int a2, .int a3] : List Value).toArray s 0 0 (hp_A Γ)) (F0 m 10 ls [.ref a0]) := by
    intro αh6 Hh6 Lh6 Bh6 σh6 Mh6 v1_h6 v2_h6 v3_h6 ls hl hf
    unfold f_X12_grow_J10 at hf
    refine lv_iconst (v := 1) hx hb dX12_grow_10 (by decide) (hp_n (n := 11) rfl ?_)
    refine lv_goto (tgt := 20) hx hb dX12_grow_11 (by decide) ?_
    exact J20 αh6 Hh6 Lh6 Bh6 σh6 Mh6 v1_h6 v2_h6 v3_h6 (1 : Int32) ls (lv_sub hl [0, 1, 2, 3] rfl) hf
  refine lv_if_lt (tgt := 10) hx hb dX12_grow_2 (by decide) (fun c7 => ?_) (fun c7 => hp_n (n := 5) rfl ?_)
  ·
    replace hf := ms_iT c7 hf
    exact J10 α s.heap [] B σ hM a1 a2 a3 ls (lv_sub hl [0, 1, 2, 3] rfl) hf
  ·
    replace hf := ms_iF c7 hf
    refine lv_iload_n hx hb dX12_grow_5 rfl (lv_at hl 2 rfl) (hp_n (n := 6) rfl ?_)
    refine lv_iload_n hx hb dX12_grow_6 rfl (lv_at hl 3 rfl) (hp_n (n := 7) rfl ?_)
    refine lv_icmp_le (tgt := 14) hx hb dX12_grow_7 (by decide) (fun c8 => ?_) (fun c8 => hp_n (n := 10) rfl ?_)
    ·
      replace hf := ms_iT c8 hf
      refine lv_aload_n hx hb dX12_grow_14 rfl (lv_at hl 0 rfl) (hp_n (n := 15) rfl ?_)
      refine lv_iload_n hx hb dX12_grow_15 rfl (lv_at hl 1 rfl) (hp_n (n := 16) rfl ?_)
      refine lv_iload_n hx hb dX12_grow_16 rfl (lv_at hl 3 rfl) (hp_n (n := 17) rfl ?_)
      obtain ⟨rh9, qh9, hf⟩ := ms_bE hf
      refine m_cp (pc' := 20) B (hp_runV (As := [.int a1, .int a3]) (rest := [.ref a0]) C B (m_X12_noSize n Γ l α a0 ρ σ hM a1 a3 rh9 qh9) lb_X12_noSize lv_X12_noSize lk_X12_347 hM.1 rfl (by decide) rfl hl.1 rfl (Nat.le_of_ble_eq_true rfl) dX12_grow_17 ⟨Nat.le_refl _, Nat.le_refl _⟩) rfl (fun Hh9 Lh9 Bh9 => ?_)
      exact J20 α Hh9 Lh9 Bh9 σ hM a1 a2 a3 rh9 ls (lv_sub hl [0, 1, 2, 3] rfl) hf
    ·
      replace hf := ms_iF c8 hf
      exact J10 α s.heap [] B σ hM a1 a2 a3 ls (lv_sub hl [0, 1, 2, 3] rfl) hf
def f_X12_isBeyond_J30 (n : Nat) (rec2 : Int32 → Int32 → Int32 → Option Int32) (v0_h3 : Int32) (v1_h3 : Int32) (v2_h3 : Int32) : Option Int32 :=
  ms_l (v2_h3 + 1) fun x4 =>
  rec2 v0_h3 v1_h3 x4
def f_X12_isBeyond_L2 (n : Nat) : Nat → Int32 → Int32 → Int32 → Option Int32
  | 0, _, _, _ => none
  | k2 + 1, v0_h1, v1_h1, v2_h1 =>
    if (31 : Int32) ≤ v2_h1 then
      some (0 : Int32)
    else
      if ((v0_h1 >>> (v2_h1 &&& 31)) &&& (1 : Int32)) = (1 : Int32) then
        if v1_h1 ≤ v2_h1 then
          some (1 : Int32)
        else
          if v2_h1 < (30 : Int32) then
            f_X12_isBeyond_J30 n (f_X12_isBeyond_L2 n k2) v0_h1 v1_h1 v2_h1
          else
            some (1 : Int32)
      else
        f_X12_isBeyond_J30 n (f_X12_isBeyond_L2 n k2) v0_h1 v1_h1 v2_h1
def f_X12_isBeyond (n : Nat) (a0 : Int32) (a1 : Int32) : Option Int32 :=
  f_X12_isBeyond_L2 n n a0 a1 (0 : Int32)
set_option maxRecDepth 100000 in
set_option maxHeartbeats 4000000 in
theorem m_X12_isBeyond (n : Nat) (Γ : hp_G) (l : Launch) (α : hp_T) (a0 : Int32) (a1 : Int32) (res : Int32) (hf : f_X12_isBeyond n a0 a1 = some res) : Met l yX12_isBeyond (hp_ws yX12_isBeyond cX12_isBeyond 3 (some .boolean)) (hp_rm 0 0 0) (hp_Pc Γ α [.int a0, .int a1]) (hp_Qi Γ (fun r β => β = α ∧ r = res)) 0 0 (hp_A Γ) := by
  unfold f_X12_isBeyond at hf
  refine hp_start (by decide) ?_
  intro p e s m below meth c C hr hlk B0 hnm
  have C : hp_C Γ p m c cX12_isBeyond 3 s ([.int a0, .int a1] : List Value).toArray RX12 := C
  have hx := C.1.1
  have hb := C.1.2.1
  have hown := C.1.2.2.2.1
  have hts := C.1.2.2.2.2
  have B : hp_B Γ (fun _ _ => True) s α α s.heap [] := ⟨B0.1, B0.2.1, trivial⟩
  have hl := lv_entry ([.int a0, .int a1]) (n := 3) (Nat.le_of_ble_eq_true rfl)
  show W p l e (hp_rm 0 0 0) s m ([.int a0, .int a1] : List Value).toArray below meth c s.heap [] 0 0 (MQ below (hp_Qi Γ (fun r β => β = α ∧ r = res)) ([.int a0, .int a1] : List Value).toArray s 0 0 (hp_A Γ)) (entryFrame m ([.int a0, .int a1] : List Value).toArray 3)
  rw [lg_entry_eq]
  generalize (lg_sl ([.int a0, .int a1]) ++ List.replicate (3 - (lg_sl ([.int a0, .int a1])).length) Slot.unset).toArray = ls at hl ⊢
  have hl : lv_has ls 3 [(0, .int a0), (1, .int a1)] := hl
  refine lv_iconst (v := 0) hx hb dX12_isBeyond_0 (by decide) (hp_n (n := 1) rfl ?_)
  have J2 : ∀ (k2 : Nat) (Hh1 : Heap) (Lh1 : List Loc) (Bh1 : hp_B Γ (fun _ _ => True) s α α Hh1 Lh1) (v0_h1 : Int32) (v1_h1 : Int32) (v2_h1 : Int32) (ls : Array Slot) (hl : lv_has ls 3 [(0, .int v0_h1), (1, .int v1_h1), (2, .int v2_h1)]) (hf : f_X12_isBeyond_L2 n k2 v0_h1 v1_h1 v2_h1 = some res), W p l e (hp_rm 0 0 0) s m ([.int a0, .int a1] : List Value).toArray below meth c Hh1 Lh1 0 0 (MQ below (hp_Qi Γ (fun r β => β = α ∧ r = res)) ([.int a0, .int a1] : List Value).toArray s 0 0 (hp_A Γ)) (F0 m 2 ls []) := by
    intro k2
    induction k2 with
    | zero => intro Hh1 Lh1 Bh1 v0_h1 v1_h1 v2_h1 ls hl hf; rw [f_X12_isBeyond_L2.eq_1] at hf; cases hf
    | succ k2 ih2 =>
      intro Hh1 Lh1 Bh1 v0_h1 v1_h1 v2_h1 ls hl hf
      rw [f_X12_isBeyond_L2.eq_2] at hf
      refine lv_iload_n hx hb dX12_isBeyond_2 rfl (lv_at hl 2 rfl) (hp_n (n := 3) rfl ?_)
      refine lv_bipush (v := 31) hx hb dX12_isBeyond_3 (by decide) (hp_n (n := 5) rfl ?_)
      refine lv_icmp_ge (tgt := 36) hx hb dX12_isBeyond_5 (by decide) (fun c2 => ?_) (fun c2 => hp_n (n := 8) rfl ?_)
      ·
        replace hf := ms_iT c2 hf
        refine lv_iconst (v := 0) hx hb dX12_isBeyond_36 (by decide) (hp_n (n := 37) rfl ?_)
        cases hf
        exact q_zret C Bh1 hr hlk (by decide) ⟨rfl, rfl⟩ dX12_isBeyond_37
      ·
        replace hf := ms_iF c2 hf
        refine lv_iload_n hx hb dX12_isBeyond_8 rfl (lv_at hl 0 rfl) (hp_n (n := 9) rfl ?_)
        refine lv_iload_n hx hb dX12_isBeyond_9 rfl (lv_at hl 2 rfl) (hp_n (n := 10) rfl ?_)
        refine lv_ishr hx hb dX12_isBeyond_10 (hp_n (n := 11) rfl ?_)
        refine lv_iconst (v := 1) hx hb dX12_isBeyond_11 (by decide) (hp_n (n := 12) rfl ?_)
        refine lv_iand hx hb dX12_isBeyond_12 (hp_n (n := 13) rfl ?_)
        refine lv_iconst (v := 1) hx hb dX12_isBeyond_13 (by decide) (hp_n (n := 14) rfl ?_)
        have J30 : ∀ (Hh3 : Heap) (Lh3 : List Loc) (Bh3 : hp_B Γ (fun _ _ => True) s α α Hh3 Lh3) (v0_h3 : Int32) (v1_h3 : Int32) (v2_h3 : Int32) (ls : Array Slot) (hl : lv_has ls 3 [(0, .int v0_h3), (1, .int v1_h3), (2, .int v2_h3)]) (hf : f_X12_isBeyond_J30 n (f_X12_isBeyond_L2 n k2) v0_h3 v1_h3 v2_h3 = some res), W p l e (hp_rm 0 0 0) s m ([.int a0, .int a1] : List Value).toArray below meth c Hh3 Lh3 0 0 (MQ below (hp_Qi Γ (fun r β => β = α ∧ r = res)) ([.int a0, .int a1] : List Value).toArray s 0 0 (hp_A Γ)) (F0 m 30 ls []) := by
          intro Hh3 Lh3 Bh3 v0_h3 v1_h3 v2_h3 ls hl hf
          unfold f_X12_isBeyond_J30 at hf
          obtain ⟨x4, ex4⟩ : ∃ y : Int32, y = v2_h3 + 1 := ⟨_, rfl⟩
          replace hf := ms_lE ex4 hf
          refine lv_iinc (v := x4) (lv' := [(2, .int x4), (0, .int v0_h3), (1, .int v1_h3)]) hx hb dX12_isBeyond_30 hl (k := 2) rfl (by rw [ex4]; rfl) (by decide) rfl (fun ls hl => hp_n (n := 33) rfl ?_)
          refine lv_goto (tgt := 2) hx hb dX12_isBeyond_33 (by decide) ?_
          exact ih2 Hh3 Lh3 Bh3 v0_h3 v1_h3 x4 ls (lv_sub hl [1, 2, 0] rfl) hf
        refine lv_icmp_ne (tgt := 30) hx hb dX12_isBeyond_14 (by decide) (fun c5 => ?_) (fun c5 => hp_n (n := 17) rfl ?_)
        ·
          replace hf := ms_iF c5 hf
          exact J30 Hh1 Lh1 Bh1 v0_h1 v1_h1 v2_h1 ls (lv_sub hl [0, 1, 2] rfl) hf
        ·
          replace hf := ms_iT c5 hf
          refine lv_iload_n hx hb dX12_isBeyond_17 rfl (lv_at hl 2 rfl) (hp_n (n := 18) rfl ?_)
          refine lv_iload_n hx hb dX12_isBeyond_18 rfl (lv_at hl 1 rfl) (hp_n (n := 19) rfl ?_)
          refine lv_icmp_ge (tgt := 28) hx hb dX12_isBeyond_19 (by decide) (fun c6 => ?_) (fun c6 => hp_n (n := 22) rfl ?_)
          ·
            replace hf := ms_iT c6 hf
            refine lv_iconst (v := 1) hx hb dX12_isBeyond_28 (by decide) (hp_n (n := 29) rfl ?_)
            cases hf
            exact q_zret C Bh1 hr hlk (by decide) ⟨rfl, rfl⟩ dX12_isBeyond_29
          ·
            replace hf := ms_iF c6 hf
            refine lv_iload_n hx hb dX12_isBeyond_22 rfl (lv_at hl 2 rfl) (hp_n (n := 23) rfl ?_)
            refine lv_bipush (v := 30) hx hb dX12_isBeyond_23 (by decide) (hp_n (n := 25) rfl ?_)
            refine lv_icmp_lt (tgt := 30) hx hb dX12_isBeyond_25 (by decide) (fun c7 => ?_) (fun c7 => hp_n (n := 28) rfl ?_)
            ·
              replace hf := ms_iT c7 hf
              exact J30 Hh1 Lh1 Bh1 v0_h1 v1_h1 v2_h1 ls (lv_sub hl [0, 1, 2] rfl) hf
            ·
              replace hf := ms_iF c7 hf
              refine lv_iconst (v := 1) hx hb dX12_isBeyond_28 (by decide) (hp_n (n := 29) rfl ?_)
              cases hf
              exact q_zret C Bh1 hr hlk (by decide) ⟨rfl, rfl⟩ dX12_isBeyond_29
  refine lv_istore_n (lv' := [(2, .int (0 : Int32)), (0, .int a0), (1, .int a1)]) hx hb dX12_isBeyond_1 rfl hl (by decide) rfl (fun ls hl => hp_n (n := 2) rfl ?_)
  exact J2 n s.heap [] B a0 a1 (0 : Int32) ls (lv_sub hl [1, 2, 0] rfl) hf
def f_X12_bundle_J19 (n : Nat) (σh1 : ms_T) (v1_h1 : Int32) (v2_h1 : Int32) (v3_h1 : Int32) (w0_h1 : Int32) : Option (Int32 × ms_T) :=
  ms_c (f_X12_is n σh1 w0_h1) fun rh2 σh2 =>
  if rh2 = 0 then
    some ((-1 : Int32), σh2)
  else
    ms_b (f_X12_isBeyond n v2_h1 v3_h1) fun rh4 =>
    if rh4 = 0 then
      ms_b (f_X12_bundleOf n σh2 v2_h1 v3_h1) fun σh6 =>
      ms_c (f_X12_pads n σh6 v1_h1) fun rh7 σh7 =>
      some (rh7, σh7)
    else
      ms_c (f_X12_refuse n σh2 (5 : Int32)) fun rh8 σh8 =>
      some (rh8, σh8)
def f_X12_bundle_J9 (n : Nat) (σh9 : ms_T) (v1_h9 : Int32) (v2_h9 : Int32) (v3_h9 : Int32) : Option (Int32 × ms_T) :=
  f_X12_bundle_J19 n σh9 v1_h9 v2_h9 v3_h9 (1 : Int32)
def f_X12_bundle (n : Nat) (σ : ms_T) (a1 : Int32) (a2 : Int32) (a3 : Int32) : Option (Int32 × ms_T) :=
  if a3 < 0 then
    f_X12_bundle_J9 n σ a1 a2 a3
  else
    if 0 < a2 then
      ms_b (f_X12_noSize n σ a1 a3) fun rh12 =>
      f_X12_bundle_J19 n σ a1 a2 a3 rh12
    else
      f_X12_bundle_J9 n σ a1 a2 a3
set_option maxRecDepth 100000 in
set_option maxHeartbeats 4000000 in
theorem m_X12_bundle (n : Nat) (Γ : hp_G) (l : Launch) (α : hp_T) (a0 : Nat) (ρ : Nat → Nat) (σ : ms_T) (hM : hm_M α a0 ρ σ) (a1 : Int32) (a2 : Int32) (a3 : Int32) (res : (Int32 × ms_T)) (hf : f_X12_bundle n σ a1 a2 a3 = some res) : Met l yX12_bundle (hp_ws yX12_bundle cX12_bundle 4 (some .int)) (hp_rm 44 0 0) (hp_Pc Γ α [.ref a0, .int a1, .int a2, .int a3]) (hp_Qi Γ (fun r β => r = res.1 ∧ mo α β ∧ hm_M β a0 ρ res.2)) 0 0 (hp_A Γ) := by
  unfold f_X12_bundle at hf
  refine hp_start (by decide) ?_
  intro p e s m below meth c C hr hlk B0 hnm
  have C : hp_C Γ p m c cX12_bundle 4 s ([.ref a0, .int a1, .int a2, .int a3] : List Value).toArray RX12 := C
  have hx := C.1.1
  have hb := C.1.2.1
  have hown := C.1.2.2.2.1
  have hts := C.1.2.2.2.2
  have B : hp_B Γ mo s α α s.heap [] := ⟨B0.1, B0.2.1, mo_rf⟩
  have hl := lv_entry ([.ref a0, .int a1, .int a2, .int a3]) (n := 4) (Nat.le_of_ble_eq_true rfl)
  show W p l e (hp_rm 44 0 0) s m ([.ref a0, .int a1, .int a2, .int a3] : List Value).toArray below meth c s.heap [] 0 0 (MQ below (hp_Qi Γ (fun r β => r = res.1 ∧ mo α β ∧ hm_M β a0 ρ res.2)) ([.ref a0, .int a1, .int a2, .int a3] : List Value).toArray s 0 0 (hp_A Γ)) (entryFrame m ([.ref a0, .int a1, .int a2, .int a3] : List Value).toArray 4)
  rw [lg_entry_eq]
  generalize (lg_sl ([.ref a0, .int a1, .int a2, .int a3]) ++ List.replicate (4 - (lg_sl ([.ref a0, .int a1, .int a2, .int a3])).length) Slot.unset).toArray = ls at hl ⊢
  have hl : lv_has ls 4 [(0, .ref a0), (1, .int a1), (2, .int a2), (3, .int a3)] := hl
  refine lv_aload_n hx hb dX12_bundle_0 rfl (lv_at hl 0 rfl) (hp_n (n := 1) rfl ?_)
  refine lv_iload_n hx hb dX12_bundle_1 rfl (lv_at hl 3 rfl) (hp_n (n := 2) rfl ?_)
  have J19 : ∀ (αh1 : hp_T) (Hh1 : Heap) (Lh1 : List Loc) (Bh1 : hp_B Γ mo s α αh1 Hh1 Lh1) (σh1 : ms_T) (Mh1 : hm_M αh1 a0 ρ σh1) (v1_h1 : Int32) (v2_h1 : Int32) (v3_h1 : Int32) (w0_h1 : Int32) (ls : Array Slot) (hl : lv_has ls 4 [(0, .ref a0), (1, .int v1_h1), (2, .int v2_h1), (3, .int v3_h1)]) (hf : f_X12_bundle_J19 n σh1 v1_h1 v2_h1 v3_h1 w0_h1 = some res), W p l e (hp_rm 44 0 0) s m ([.ref a0, .int a1, .int a2, .int a3] : List Value).toArray below meth c Hh1 Lh1 0 0 (MQ below (hp_Qi Γ (fun r β => r = res.1 ∧ mo α β ∧ hm_M β a0 ρ res.2)) ([.ref a0, .int a1, .int a2, .int a3] : List Value).toArray s 0 0 (hp_A Γ)) (F0 m 19 ls [.int w0_h1, .ref a0]) := by
    intro αh1 Hh1 Lh1 Bh1 σh1 Mh1 v1_h1 v2_h1 v3_h1 w0_h1 ls hl hf
    unfold f_X12_bundle_J19 at hf
    obtain ⟨rh2, σh2, qh2, hf⟩ := ms_cE hf
    refine m_ci (pc' := 22) (a := a0) (ρ := ρ) Bh1 (hp_runV (As := [.int w0_h1]) (rest := []) C Bh1 (m_X12_is n Γ l αh1 a0 ρ σh1 Mh1 w0_h1 (rh2, σh2) qh2) lb_X12_is lv_X12_is lk_X12_309 Mh1.1 rfl (by decide) rfl hl.1 rfl (Nat.le_of_ble_eq_true rfl) dX12_bundle_19 ⟨Nat.le_refl _, Nat.le_refl _⟩) rfl (fun αh2 Hh2 Lh2 Bh2 Mh2 => ?_)
    refine lv_if_ne (tgt := 27) hx hb dX12_bundle_22 (by decide) (fun c3 => ?_) (fun c3 => hp_n (n := 25) rfl ?_)
    ·
      replace hf := ms_iF c3 hf
      refine lv_iload_n hx hb dX12_bundle_27 rfl (lv_at hl 2 rfl) (hp_n (n := 28) rfl ?_)
      refine lv_iload_n hx hb dX12_bundle_28 rfl (lv_at hl 3 rfl) (hp_n (n := 29) rfl ?_)
      obtain ⟨rh4, qh4, hf⟩ := ms_bE hf
      refine m_cp (pc' := 32) Bh2 (hp_runS (As := [.int v2_h1, .int v3_h1]) (rest := []) C Bh2 (m_X12_isBeyond n Γ l αh2 v2_h1 v3_h1 rh4 qh4) lb_X12_isBeyond ls_X12_isBeyond lk_X12_368 rfl (by decide) rfl hl.1 rfl (Nat.le_of_ble_eq_true rfl) dX12_bundle_29 ⟨Nat.le_refl _, Nat.le_refl _⟩) rfl (fun Hh4 Lh4 Bh4 => ?_)
      refine lv_if_eq (tgt := 41) hx hb dX12_bundle_32 (by decide) (fun c5 => ?_) (fun c5 => hp_n (n := 35) rfl ?_)
      ·
        replace hf := ms_iT c5 hf
        refine lv_aload_n hx hb dX12_bundle_41 rfl (lv_at hl 0 rfl) (hp_n (n := 42) rfl ?_)
        refine lv_iload_n hx hb dX12_bundle_42 rfl (lv_at hl 2 rfl) (hp_n (n := 43) rfl ?_)
        refine lv_iload_n hx hb dX12_bundle_43 rfl (lv_at hl 3 rfl) (hp_n (n := 44) rfl ?_)
        obtain ⟨σh6, qh6, hf⟩ := ms_bE hf
        refine m_cv (pc' := 47) (a := a0) (ρ := ρ) Bh4 (hp_runV (As := [.int v2_h1, .int v3_h1]) (rest := []) C Bh4 (m_X12_bundleOf n Γ l αh2 a0 ρ σh2 Mh2 v2_h1 v3_h1 σh6 qh6) lb_X12_bundleOf lv_X12_bundleOf lk_X12_372 Mh2.1 rfl (by decide) rfl hl.1 rfl (Nat.le_of_ble_eq_true rfl) dX12_bundle_44 ⟨Nat.le_refl _, Nat.le_refl _⟩) rfl (fun αh6 Hh6 Lh6 Bh6 Mh6 => ?_)
        refine lv_aload_n hx hb dX12_bundle_47 rfl (lv_at hl 0 rfl) (hp_n (n := 48) rfl ?_)
        refine lv_iload_n hx hb dX12_bundle_48 rfl (lv_at hl 1 rfl) (hp_n (n := 49) rfl ?_)
        obtain ⟨rh7, σh7, qh7, hf⟩ := ms_cE hf
        refine m_ci (pc' := 52) (a := a0) (ρ := ρ) Bh6 (hp_runV (As := [.int v1_h1]) (rest := []) C Bh6 (m_X12_pads n Γ l αh6 a0 ρ σh6 Mh6 v1_h1 (rh7, σh7) qh7) lb_X12_pads lv_X12_pads lk_X12_365 Mh6.1 rfl (by decide) rfl hl.1 rfl (Nat.le_of_ble_eq_true rfl) dX12_bundle_49 ⟨Nat.le_refl _, Nat.le_refl _⟩) rfl (fun αh7 Hh7 Lh7 Bh7 Mh7 => ?_)
        cases hf
        exact q_iret C Bh7 hr hlk ⟨rfl, Bh7.2.2, Mh7⟩ dX12_bundle_52
      ·
        replace hf := ms_iF c5 hf
        refine lv_aload_n hx hb dX12_bundle_35 rfl (lv_at hl 0 rfl) (hp_n (n := 36) rfl ?_)
        refine lv_iconst (v := 5) hx hb dX12_bundle_36 (by decide) (hp_n (n := 37) rfl ?_)
        obtain ⟨rh8, σh8, qh8, hf⟩ := ms_cE hf
        refine m_ci (pc' := 40) (a := a0) (ρ := ρ) Bh4 (hp_runV (As := [.int (5 : Int32)]) (rest := []) C Bh4 (m_X12_refuse n Γ l αh2 a0 ρ σh2 Mh2 (5 : Int32) (rh8, σh8) qh8) lb_X12_refuse lv_X12_refuse lk_X12_212 Mh2.1 rfl (by decide) rfl hl.1 rfl (Nat.le_of_ble_eq_true rfl) dX12_bundle_37 ⟨Nat.le_refl _, Nat.le_refl _⟩) rfl (fun αh8 Hh8 Lh8 Bh8 Mh8 => ?_)
        cases hf
        exact q_iret C Bh8 hr hlk ⟨rfl, Bh8.2.2, Mh8⟩ dX12_bundle_40
    ·
      replace hf := ms_iT c3 hf
      refine lv_iconst (v := (-1)) hx hb dX12_bundle_25 (by decide) (hp_n (n := 26) rfl ?_)
      cases hf
      exact q_iret C Bh2 hr hlk ⟨rfl, Bh2.2.2, Mh2⟩ dX12_bundle_26
  have J9 : ∀ (αh9 : hp_T) (Hh9 : Heap) (Lh9 : List Loc) (Bh9 : hp_B Γ mo s α αh9 Hh9 Lh9) (σh9 : ms_T) (Mh9 : hm_M αh9 a0 ρ σh9) (v1_h9 : Int32) (v2_h9 : Int32) (v3_h9 : Int32) (ls : Array Slot) (hl : lv_has ls 4 [(0, .ref a0), (1, .int v1_h9), (2, .int v2_h9), (3, .int v3_h9)]) (hf : f_X12_bundle_J9 n σh9 v1_h9 v2_h9 v3_h9 = some res), W p l e (hp_rm 44 0 0) s m ([.ref a0, .int a1, .int a2, .int a3] : List Value).toArray below meth c Hh9 Lh9 0 0 (MQ below (hp_Qi Γ (fun r β => r = res.1 ∧ mo α β ∧ hm_M β a0 ρ res.2)) ([.ref a0, .int a1, .int a2, .int a3] : List Value).toArray s 0 0 (hp_A Γ)) (F0 m 9 ls [.ref a0]) := by
    intro αh9 Hh9 Lh9 Bh9 σh9 Mh9 v1_h9 v2_h9 v3_h9 ls hl hf
    unfold f_X12_bundle_J9 at hf
    refine lv_iconst (v := 1) hx hb dX12_bundle_9 (by decide) (hp_n (n := 10) rfl ?_)
    refine lv_goto (tgt := 19) hx hb dX12_bundle_10 (by decide) ?_
    exact J19 αh9 Hh9 Lh9 Bh9 σh9 Mh9 v1_h9 v2_h9 v3_h9 (1 : Int32) ls (lv_sub hl [0, 1, 2, 3] rfl) hf
  refine lv_if_lt (tgt := 9) hx hb dX12_bundle_2 (by decide) (fun c10 => ?_) (fun c10 => hp_n (n := 5) rfl ?_)
  ·
    replace hf := ms_iT c10 hf
    exact J9 α s.heap [] B σ hM a1 a2 a3 ls (lv_sub hl [0, 1, 2, 3] rfl) hf
  ·
    replace hf := ms_iF c10 hf
    refine lv_iload_n hx hb dX12_bundle_5 rfl (lv_at hl 2 rfl) (hp_n (n := 6) rfl ?_)
    refine lv_if_gt (tgt := 13) hx hb dX12_bundle_6 (by decide) (fun c11 => ?_) (fun c11 => hp_n (n := 9) rfl ?_)
    ·
      replace hf := ms_iT c11 hf
      refine lv_aload_n hx hb dX12_bundle_13 rfl (lv_at hl 0 rfl) (hp_n (n := 14) rfl ?_)
      refine lv_iload_n hx hb dX12_bundle_14 rfl (lv_at hl 1 rfl) (hp_n (n := 15) rfl ?_)
      refine lv_iload_n hx hb dX12_bundle_15 rfl (lv_at hl 3 rfl) (hp_n (n := 16) rfl ?_)
      obtain ⟨rh12, qh12, hf⟩ := ms_bE hf
      refine m_cp (pc' := 19) B (hp_runV (As := [.int a1, .int a3]) (rest := [.ref a0]) C B (m_X12_noSize n Γ l α a0 ρ σ hM a1 a3 rh12 qh12) lb_X12_noSize lv_X12_noSize lk_X12_347 hM.1 rfl (by decide) rfl hl.1 rfl (Nat.le_of_ble_eq_true rfl) dX12_bundle_16 ⟨Nat.le_refl _, Nat.le_refl _⟩) rfl (fun Hh12 Lh12 Bh12 => ?_)
      exact J19 α Hh12 Lh12 Bh12 σ hM a1 a2 a3 rh12 ls (lv_sub hl [0, 1, 2, 3] rfl) hf
    ·
      replace hf := ms_iF c11 hf
      exact J9 α s.heap [] B σ hM a1 a2 a3 ls (lv_sub hl [0, 1, 2, 3] rfl) hf
def f_X12_peaks (n : Nat) (σ : ms_T) (a1 : Int32) (a2 : Int32) : Option (Int32 × ms_T) :=
  ms_b (f_X12_noSize n σ a1 a2) fun rh1 =>
  ms_c (f_X12_is n σ rh1) fun rh2 σh2 =>
  if rh2 = 0 then
    some ((-1 : Int32), σh2)
  else
    ms_b (f_X12_peaksOf n σh2 a2) fun σh4 =>
    ms_c (f_X12_pads n σh4 a1) fun rh5 σh5 =>
    some (rh5, σh5)
set_option maxRecDepth 100000 in
set_option maxHeartbeats 4000000 in
theorem m_X12_peaks (n : Nat) (Γ : hp_G) (l : Launch) (α : hp_T) (a0 : Nat) (ρ : Nat → Nat) (σ : ms_T) (hM : hm_M α a0 ρ σ) (a1 : Int32) (a2 : Int32) (res : (Int32 × ms_T)) (hf : f_X12_peaks n σ a1 a2 = some res) : Met l yX12_peaks (hp_ws yX12_peaks cX12_peaks 3 (some .int)) (hp_rm 44 0 0) (hp_Pc Γ α [.ref a0, .int a1, .int a2]) (hp_Qi Γ (fun r β => r = res.1 ∧ mo α β ∧ hm_M β a0 ρ res.2)) 0 0 (hp_A Γ) := by
  unfold f_X12_peaks at hf
  refine hp_start (by decide) ?_
  intro p e s m below meth c C hr hlk B0 hnm
  have C : hp_C Γ p m c cX12_peaks 3 s ([.ref a0, .int a1, .int a2] : List Value).toArray RX12 := C
  have hx := C.1.1
  have hb := C.1.2.1
  have hown := C.1.2.2.2.1
  have hts := C.1.2.2.2.2
  have B : hp_B Γ mo s α α s.heap [] := ⟨B0.1, B0.2.1, mo_rf⟩
  have hl := lv_entry ([.ref a0, .int a1, .int a2]) (n := 3) (Nat.le_of_ble_eq_true rfl)
  show W p l e (hp_rm 44 0 0) s m ([.ref a0, .int a1, .int a2] : List Value).toArray below meth c s.heap [] 0 0 (MQ below (hp_Qi Γ (fun r β => r = res.1 ∧ mo α β ∧ hm_M β a0 ρ res.2)) ([.ref a0, .int a1, .int a2] : List Value).toArray s 0 0 (hp_A Γ)) (entryFrame m ([.ref a0, .int a1, .int a2] : List Value).toArray 3)
  rw [lg_entry_eq]
  generalize (lg_sl ([.ref a0, .int a1, .int a2]) ++ List.replicate (3 - (lg_sl ([.ref a0, .int a1, .int a2])).length) Slot.unset).toArray = ls at hl ⊢
  have hl : lv_has ls 3 [(0, .ref a0), (1, .int a1), (2, .int a2)] := hl
  refine lv_aload_n hx hb dX12_peaks_0 rfl (lv_at hl 0 rfl) (hp_n (n := 1) rfl ?_)
  refine lv_aload_n hx hb dX12_peaks_1 rfl (lv_at hl 0 rfl) (hp_n (n := 2) rfl ?_)
  refine lv_iload_n hx hb dX12_peaks_2 rfl (lv_at hl 1 rfl) (hp_n (n := 3) rfl ?_)
  refine lv_iload_n hx hb dX12_peaks_3 rfl (lv_at hl 2 rfl) (hp_n (n := 4) rfl ?_)
  obtain ⟨rh1, qh1, hf⟩ := ms_bE hf
  refine m_cp (pc' := 7) B (hp_runV (As := [.int a1, .int a2]) (rest := [.ref a0]) C B (m_X12_noSize n Γ l α a0 ρ σ hM a1 a2 rh1 qh1) lb_X12_noSize lv_X12_noSize lk_X12_347 hM.1 rfl (by decide) rfl hl.1 rfl (Nat.le_of_ble_eq_true rfl) dX12_peaks_4 ⟨Nat.le_refl _, Nat.le_refl _⟩) rfl (fun Hh1 Lh1 Bh1 => ?_)
  obtain ⟨rh2, σh2, qh2, hf⟩ := ms_cE hf
  refine m_ci (pc' := 10) (a := a0) (ρ := ρ) Bh1 (hp_runV (As := [.int rh1]) (rest := []) C Bh1 (m_X12_is n Γ l α a0 ρ σ hM rh1 (rh2, σh2) qh2) lb_X12_is lv_X12_is lk_X12_309 hM.1 rfl (by decide) rfl hl.1 rfl (Nat.le_of_ble_eq_true rfl) dX12_peaks_7 ⟨Nat.le_refl _, Nat.le_refl _⟩) rfl (fun αh2 Hh2 Lh2 Bh2 Mh2 => ?_)
  refine lv_if_ne (tgt := 15) hx hb dX12_peaks_10 (by decide) (fun c3 => ?_) (fun c3 => hp_n (n := 13) rfl ?_)
  ·
    replace hf := ms_iF c3 hf
    refine lv_aload_n hx hb dX12_peaks_15 rfl (lv_at hl 0 rfl) (hp_n (n := 16) rfl ?_)
    refine lv_iload_n hx hb dX12_peaks_16 rfl (lv_at hl 2 rfl) (hp_n (n := 17) rfl ?_)
    obtain ⟨σh4, qh4, hf⟩ := ms_bE hf
    refine m_cv (pc' := 20) (a := a0) (ρ := ρ) Bh2 (hp_runV (As := [.int a2]) (rest := []) C Bh2 (m_X12_peaksOf n Γ l αh2 a0 ρ σh2 Mh2 a2 σh4 qh4) lb_X12_peaksOf lv_X12_peaksOf lk_X12_218 Mh2.1 rfl (by decide) rfl hl.1 rfl (Nat.le_of_ble_eq_true rfl) dX12_peaks_17 ⟨Nat.le_refl _, Nat.le_refl _⟩) rfl (fun αh4 Hh4 Lh4 Bh4 Mh4 => ?_)
    refine lv_aload_n hx hb dX12_peaks_20 rfl (lv_at hl 0 rfl) (hp_n (n := 21) rfl ?_)
    refine lv_iload_n hx hb dX12_peaks_21 rfl (lv_at hl 1 rfl) (hp_n (n := 22) rfl ?_)
    obtain ⟨rh5, σh5, qh5, hf⟩ := ms_cE hf
    refine m_ci (pc' := 25) (a := a0) (ρ := ρ) Bh4 (hp_runV (As := [.int a1]) (rest := []) C Bh4 (m_X12_pads n Γ l αh4 a0 ρ σh4 Mh4 a1 (rh5, σh5) qh5) lb_X12_pads lv_X12_pads lk_X12_365 Mh4.1 rfl (by decide) rfl hl.1 rfl (Nat.le_of_ble_eq_true rfl) dX12_peaks_22 ⟨Nat.le_refl _, Nat.le_refl _⟩) rfl (fun αh5 Hh5 Lh5 Bh5 Mh5 => ?_)
    cases hf
    exact q_iret C Bh5 hr hlk ⟨rfl, Bh5.2.2, Mh5⟩ dX12_peaks_25
  ·
    replace hf := ms_iT c3 hf
    refine lv_iconst (v := (-1)) hx hb dX12_peaks_13 (by decide) (hp_n (n := 14) rfl ?_)
    cases hf
    exact q_iret C Bh2 hr hlk ⟨rfl, Bh2.2.2, Mh2⟩ dX12_peaks_14
def f_J6_bitCount_0f7a4 (n : Nat) (a0 : Int32) : Option Int32 :=
  ms_l ((a0 - (((a0).toUInt32 >>> (((1 : Int32)).toUInt32 &&& Int32.toUInt32 31)).toInt32 &&& (1431655765 : Int32)))) fun x1 =>
  ms_l (((x1 &&& (858993459 : Int32)) + (((x1).toUInt32 >>> (((2 : Int32)).toUInt32 &&& Int32.toUInt32 31)).toInt32 &&& (858993459 : Int32)))) fun x2 =>
  ms_l (((x2 + ((x2).toUInt32 >>> (((4 : Int32)).toUInt32 &&& Int32.toUInt32 31)).toInt32) &&& (252645135 : Int32))) fun x3 =>
  ms_l ((x3 + ((x3).toUInt32 >>> (((8 : Int32)).toUInt32 &&& Int32.toUInt32 31)).toInt32)) fun x4 =>
  ms_l ((x4 + ((x4).toUInt32 >>> (((16 : Int32)).toUInt32 &&& Int32.toUInt32 31)).toInt32)) fun x5 =>
  some (x5 &&& (63 : Int32))
set_option maxRecDepth 100000 in
set_option maxHeartbeats 4000000 in
theorem m_J6_bitCount_0f7a4 (n : Nat) (Γ : hp_G) (l : Launch) (α : hp_T) (a0 : Int32) (res : Int32) (hf : f_J6_bitCount_0f7a4 n a0 = some res) : Met l yJ6_bitCount_0f7a4 (hp_ws yJ6_bitCount_0f7a4 cJ6_bitCount_0f7a4 1 (some .int)) (hp_rm 0 0 0) (hp_Pc Γ α [.int a0]) (hp_Qi Γ (fun r β => β = α ∧ r = res)) 0 0 (hp_A Γ) := by
  unfold f_J6_bitCount_0f7a4 at hf
  refine hp_start (by decide) ?_
  intro p e s m below meth c C hr hlk B0 hnm
  have C : hp_C Γ p m c cJ6_bitCount_0f7a4 1 s ([.int a0] : List Value).toArray RJ6 := C
  have hx := C.1.1
  have hb := C.1.2.1
  have hown := C.1.2.2.2.1
  have hts := C.1.2.2.2.2
  have B : hp_B Γ (fun _ _ => True) s α α s.heap [] := ⟨B0.1, B0.2.1, trivial⟩
  have hl := lv_entry ([.int a0]) (n := 1) (Nat.le_of_ble_eq_true rfl)
  show W p l e (hp_rm 0 0 0) s m ([.int a0] : List Value).toArray below meth c s.heap [] 0 0 (MQ below (hp_Qi Γ (fun r β => β = α ∧ r = res)) ([.int a0] : List Value).toArray s 0 0 (hp_A Γ)) (entryFrame m ([.int a0] : List Value).toArray 1)
  rw [lg_entry_eq]
  generalize (lg_sl ([.int a0]) ++ List.replicate (1 - (lg_sl ([.int a0])).length) Slot.unset).toArray = ls at hl ⊢
  have hl : lv_has ls 1 [(0, .int a0)] := hl
  refine lv_iload_n hx hb dJ6_bitCount_0f7a4_0 rfl (lv_at hl 0 rfl) (hp_n (n := 1) rfl ?_)
  refine lv_iload_n hx hb dJ6_bitCount_0f7a4_1 rfl (lv_at hl 0 rfl) (hp_n (n := 2) rfl ?_)
  refine lv_iconst (v := 1) hx hb dJ6_bitCount_0f7a4_2 (by decide) (hp_n (n := 3) rfl ?_)
  refine lv_iushr hx hb dJ6_bitCount_0f7a4_3 rfl (hp_n (n := 4) rfl ?_)
  refine lv_ldcw hx hb hown (hts _ kc_J6_265) dJ6_bitCount_0f7a4_4 (hp_n (n := 7) rfl ?_)
  refine lv_iand hx hb dJ6_bitCount_0f7a4_7 (hp_n (n := 8) rfl ?_)
  refine lv_isub hx hb dJ6_bitCount_0f7a4_8 (hp_n (n := 9) rfl ?_)
  refine lv_topi (fun x1 ex1 => ?_)
  replace hf := ms_lE ex1 hf
  refine lv_istore_n (lv' := [(0, .int x1)]) hx hb dJ6_bitCount_0f7a4_9 rfl hl (by decide) rfl (fun ls hl => hp_n (n := 10) rfl ?_)
  refine lv_iload_n hx hb dJ6_bitCount_0f7a4_10 rfl (lv_at hl 0 rfl) (hp_n (n := 11) rfl ?_)
  refine lv_ldcw hx hb hown (hts _ kc_J6_266) dJ6_bitCount_0f7a4_11 (hp_n (n := 14) rfl ?_)
  refine lv_iand hx hb dJ6_bitCount_0f7a4_14 (hp_n (n := 15) rfl ?_)
  refine lv_iload_n hx hb dJ6_bitCount_0f7a4_15 rfl (lv_at hl 0 rfl) (hp_n (n := 16) rfl ?_)
  refine lv_iconst (v := 2) hx hb dJ6_bitCount_0f7a4_16 (by decide) (hp_n (n := 17) rfl ?_)
  refine lv_iushr hx hb dJ6_bitCount_0f7a4_17 rfl (hp_n (n := 18) rfl ?_)
  refine lv_ldcw hx hb hown (hts _ kc_J6_266) dJ6_bitCount_0f7a4_18 (hp_n (n := 21) rfl ?_)
  refine lv_iand hx hb dJ6_bitCount_0f7a4_21 (hp_n (n := 22) rfl ?_)
  refine lv_iadd hx hb dJ6_bitCount_0f7a4_22 (hp_n (n := 23) rfl ?_)
  refine lv_topi (fun x2 ex2 => ?_)
  replace hf := ms_lE ex2 hf
  refine lv_istore_n (lv' := [(0, .int x2)]) hx hb dJ6_bitCount_0f7a4_23 rfl hl (by decide) rfl (fun ls hl => hp_n (n := 24) rfl ?_)
  refine lv_iload_n hx hb dJ6_bitCount_0f7a4_24 rfl (lv_at hl 0 rfl) (hp_n (n := 25) rfl ?_)
  refine lv_iload_n hx hb dJ6_bitCount_0f7a4_25 rfl (lv_at hl 0 rfl) (hp_n (n := 26) rfl ?_)
  refine lv_iconst (v := 4) hx hb dJ6_bitCount_0f7a4_26 (by decide) (hp_n (n := 27) rfl ?_)
  refine lv_iushr hx hb dJ6_bitCount_0f7a4_27 rfl (hp_n (n := 28) rfl ?_)
  refine lv_iadd hx hb dJ6_bitCount_0f7a4_28 (hp_n (n := 29) rfl ?_)
  refine lv_ldcw hx hb hown (hts _ kc_J6_267) dJ6_bitCount_0f7a4_29 (hp_n (n := 32) rfl ?_)
  refine lv_iand hx hb dJ6_bitCount_0f7a4_32 (hp_n (n := 33) rfl ?_)
  refine lv_topi (fun x3 ex3 => ?_)
  replace hf := ms_lE ex3 hf
  refine lv_istore_n (lv' := [(0, .int x3)]) hx hb dJ6_bitCount_0f7a4_33 rfl hl (by decide) rfl (fun ls hl => hp_n (n := 34) rfl ?_)
  refine lv_iload_n hx hb dJ6_bitCount_0f7a4_34 rfl (lv_at hl 0 rfl) (hp_n (n := 35) rfl ?_)
  refine lv_iload_n hx hb dJ6_bitCount_0f7a4_35 rfl (lv_at hl 0 rfl) (hp_n (n := 36) rfl ?_)
  refine lv_bipush (v := 8) hx hb dJ6_bitCount_0f7a4_36 (by decide) (hp_n (n := 38) rfl ?_)
  refine lv_iushr hx hb dJ6_bitCount_0f7a4_38 rfl (hp_n (n := 39) rfl ?_)
  refine lv_iadd hx hb dJ6_bitCount_0f7a4_39 (hp_n (n := 40) rfl ?_)
  refine lv_topi (fun x4 ex4 => ?_)
  replace hf := ms_lE ex4 hf
  refine lv_istore_n (lv' := [(0, .int x4)]) hx hb dJ6_bitCount_0f7a4_40 rfl hl (by decide) rfl (fun ls hl => hp_n (n := 41) rfl ?_)
  refine lv_iload_n hx hb dJ6_bitCount_0f7a4_41 rfl (lv_at hl 0 rfl) (hp_n (n := 42) rfl ?_)
  refine lv_iload_n hx hb dJ6_bitCount_0f7a4_42 rfl (lv_at hl 0 rfl) (hp_n (n := 43) rfl ?_)
  refine lv_bipush (v := 16) hx hb dJ6_bitCount_0f7a4_43 (by decide) (hp_n (n := 45) rfl ?_)
  refine lv_iushr hx hb dJ6_bitCount_0f7a4_45 rfl (hp_n (n := 46) rfl ?_)
  refine lv_iadd hx hb dJ6_bitCount_0f7a4_46 (hp_n (n := 47) rfl ?_)
  refine lv_topi (fun x5 ex5 => ?_)
  replace hf := ms_lE ex5 hf
  refine lv_istore_n (lv' := [(0, .int x5)]) hx hb dJ6_bitCount_0f7a4_47 rfl hl (by decide) rfl (fun ls hl => hp_n (n := 48) rfl ?_)
  refine lv_iload_n hx hb dJ6_bitCount_0f7a4_48 rfl (lv_at hl 0 rfl) (hp_n (n := 49) rfl ?_)
  refine lv_bipush (v := 63) hx hb dJ6_bitCount_0f7a4_49 (by decide) (hp_n (n := 51) rfl ?_)
  refine lv_iand hx hb dJ6_bitCount_0f7a4_51 (hp_n (n := 52) rfl ?_)
  cases hf
  exact q_iret C B hr hlk ⟨rfl, rfl⟩ dJ6_bitCount_0f7a4_52
def f_X12_extend_L55 (n : Nat) : Nat → ms_T → Int32 → Int32 → Option (Int32 × ms_T)
  | 0, _, _, _ => none
  | k55 + 1, σh5, v3_h5, v4_h5 =>
    if (v4_h5 - v4_h5 / (2 : Int32) * (2 : Int32)) = (1 : Int32) then
      ms_g (2 : Int32) 1980 <|
      ms_g (2 : Int32) 1980 <|
      ms_l (ms_sE σh5 40 ((2 : Int32)).toNatClampNeg ((ms_E σh5 40 ((2 : Int32)).toNatClampNeg) - (1 : Int32))) fun σh16 =>
      ms_g (2 : Int32) 1980 <|
      ms_g ((8 : Int32) + (ms_E σh16 40 ((2 : Int32)).toNatClampNeg)) 1980 <|
      ms_b (f_X12_both n σh16 (ms_E σh16 40 (((8 : Int32) + (ms_E σh16 40 ((2 : Int32)).toNatClampNeg))).toNatClampNeg) v3_h5) fun rh19 =>
      ms_l ((v4_h5 / (2 : Int32))) fun x20 =>
      (f_X12_extend_L55 n k55) σh16 rh19 x20
    else
      ms_g (2 : Int32) 1980 <|
      ms_g ((8 : Int32) + (ms_E σh5 40 ((2 : Int32)).toNatClampNeg)) 1980 <|
      ms_l (ms_sE σh5 40 (((8 : Int32) + (ms_E σh5 40 ((2 : Int32)).toNatClampNeg))).toNatClampNeg v3_h5) fun σh9 =>
      ms_g (2 : Int32) 1980 <|
      ms_g (2 : Int32) 1980 <|
      ms_l (ms_sE σh9 40 ((2 : Int32)).toNatClampNeg ((ms_E σh9 40 ((2 : Int32)).toNatClampNeg) + (1 : Int32))) fun σh12 =>
      ms_g (2 : Int32) 1980 <|
      some ((ms_E σh12 40 ((2 : Int32)).toNatClampNeg), σh12)
def f_X12_extend_J42 (n : Nat) (σh2 : ms_T) (v1_h2 : Int32) (v2_h2 : Int32) (w0_h2 : Int32) : Option (Int32 × ms_T) :=
  ms_c (f_X12_is n σh2 w0_h2) fun rh3 σh3 =>
  if rh3 = 0 then
    some ((-1 : Int32), σh3)
  else
    f_X12_extend_L55 n n σh3 v2_h2 v1_h2
def f_X12_extend_J20 (n : Nat) (σh21 : ms_T) (v1_h21 : Int32) (v2_h21 : Int32) : Option (Int32 × ms_T) :=
  f_X12_extend_J42 n σh21 v1_h21 v2_h21 (1 : Int32)
def f_X12_extend (n : Nat) (σ : ms_T) (a1 : Int32) (a2 : Int32) : Option (Int32 × ms_T) :=
  ms_b (f_X12_isIn n a1 (0 : Int32) (1000000 : Int32)) fun rh1 =>
  if rh1 = 0 then
    f_X12_extend_J20 n σ a1 a2
  else
    ms_b (f_X12_isMark n σ a2) fun rh23 =>
    if rh23 = 0 then
      f_X12_extend_J20 n σ a1 a2
    else
      ms_b (f_J6_bitCount_0f7a4 n a1) fun rh25 =>
      ms_g (2 : Int32) 1980 <|
      if rh25 = (ms_E σ 40 ((2 : Int32)).toNatClampNeg) then
        f_X12_extend_J42 n σ a1 a2 (0 : Int32)
      else
        f_X12_extend_J42 n σ a1 a2 (5 : Int32)
set_option maxRecDepth 100000 in
set_option maxHeartbeats 4000000 in
theorem m_X12_extend (n : Nat) (Γ : hp_G) (l : Launch) (α : hp_T) (a0 : Nat) (ρ : Nat → Nat) (σ : ms_T) (hM : hm_M α a0 ρ σ) (a1 : Int32) (a2 : Int32) (res : (Int32 × ms_T)) (hf : f_X12_extend n σ a1 a2 = some res) : Met l yX12_extend (hp_ws yX12_extend cX12_extend 5 (some .int)) (hp_rm 2 0 0) (hp_Pc Γ α [.ref a0, .int a1, .int a2]) (hp_Qi Γ (fun r β => r = res.1 ∧ mo α β ∧ hm_M β a0 ρ res.2)) 0 0 (hp_A Γ) := by
  unfold f_X12_extend at hf
  refine hp_start (by decide) ?_
  intro p e s m below meth c C hr hlk B0 hnm
  have C : hp_C Γ p m c cX12_extend 5 s ([.ref a0, .int a1, .int a2] : List Value).toArray RX12 := C
  have hx := C.1.1
  have hb := C.1.2.1
  have hown := C.1.2.2.2.1
  have hts := C.1.2.2.2.2
  have B : hp_B Γ mo s α α s.heap [] := ⟨B0.1, B0.2.1, mo_rf⟩
  have hl := lv_entry ([.ref a0, .int a1, .int a2]) (n := 5) (Nat.le_of_ble_eq_true rfl)
  show W p l e (hp_rm 2 0 0) s m ([.ref a0, .int a1, .int a2] : List Value).toArray below meth c s.heap [] 0 0 (MQ below (hp_Qi Γ (fun r β => r = res.1 ∧ mo α β ∧ hm_M β a0 ρ res.2)) ([.ref a0, .int a1, .int a2] : List Value).toArray s 0 0 (hp_A Γ)) (entryFrame m ([.ref a0, .int a1, .int a2] : List Value).toArray 5)
  rw [lg_entry_eq]
  generalize (lg_sl ([.ref a0, .int a1, .int a2]) ++ List.replicate (5 - (lg_sl ([.ref a0, .int a1, .int a2])).length) Slot.unset).toArray = ls at hl ⊢
  have hl : lv_has ls 5 [(0, .ref a0), (1, .int a1), (2, .int a2)] := hl
  refine lv_aload_n hx hb dX12_extend_0 rfl (lv_at hl 0 rfl) (hp_n (n := 1) rfl ?_)
  refine lv_iload_n hx hb dX12_extend_1 rfl (lv_at hl 1 rfl) (hp_n (n := 2) rfl ?_)
  refine lv_iconst (v := 0) hx hb dX12_extend_2 (by decide) (hp_n (n := 3) rfl ?_)
  refine lv_ldcw hx hb hown (hts _ kc_X12_375) dX12_extend_3 (hp_n (n := 6) rfl ?_)
  obtain ⟨rh1, qh1, hf⟩ := ms_bE hf
  refine m_cp (pc' := 9) B (hp_runS (As := [.int a1, .int (0 : Int32), .int (1000000 : Int32)]) (rest := [.ref a0]) C B (m_X12_isIn n Γ l α a1 (0 : Int32) (1000000 : Int32) rh1 qh1) lb_X12_isIn ls_X12_isIn lk_X12_113 rfl (by decide) rfl hl.1 rfl (Nat.le_of_ble_eq_true rfl) dX12_extend_6 ⟨Nat.le_refl _, Nat.le_refl _⟩) rfl (fun Hh1 Lh1 Bh1 => ?_)
  have J42 : ∀ (αh2 : hp_T) (Hh2 : Heap) (Lh2 : List Loc) (Bh2 : hp_B Γ mo s α αh2 Hh2 Lh2) (σh2 : ms_T) (Mh2 : hm_M αh2 a0 ρ σh2) (v1_h2 : Int32) (v2_h2 : Int32) (w0_h2 : Int32) (ls : Array Slot) (hl : lv_has ls 5 [(0, .ref a0), (1, .int v1_h2), (2, .int v2_h2)]) (hf : f_X12_extend_J42 n σh2 v1_h2 v2_h2 w0_h2 = some res), W p l e (hp_rm 2 0 0) s m ([.ref a0, .int a1, .int a2] : List Value).toArray below meth c Hh2 Lh2 0 0 (MQ below (hp_Qi Γ (fun r β => r = res.1 ∧ mo α β ∧ hm_M β a0 ρ res.2)) ([.ref a0, .int a1, .int a2] : List Value).toArray s 0 0 (hp_A Γ)) (F0 m 42 ls [.int w0_h2, .ref a0]) := by
    intro αh2 Hh2 Lh2 Bh2 σh2 Mh2 v1_h2 v2_h2 w0_h2 ls hl hf
    unfold f_X12_extend_J42 at hf
    obtain ⟨rh3, σh3, qh3, hf⟩ := ms_cE hf
    refine m_ci (pc' := 45) (a := a0) (ρ := ρ) Bh2 (hp_runV (As := [.int w0_h2]) (rest := []) C Bh2 (m_X12_is n Γ l αh2 a0 ρ σh2 Mh2 w0_h2 (rh3, σh3) qh3) lb_X12_is lv_X12_is lk_X12_309 Mh2.1 rfl (by decide) rfl hl.1 rfl (Nat.le_of_ble_eq_true rfl) dX12_extend_42 ⟨Nat.le_refl _, Nat.le_refl _⟩) rfl (fun αh3 Hh3 Lh3 Bh3 Mh3 => ?_)
    refine lv_if_ne (tgt := 50) hx hb dX12_extend_45 (by decide) (fun c4 => ?_) (fun c4 => hp_n (n := 48) rfl ?_)
    ·
      replace hf := ms_iF c4 hf
      refine lv_iload_n hx hb dX12_extend_50 rfl (lv_at hl 2 rfl) (hp_n (n := 51) rfl ?_)
      refine lv_istore_n (lv' := [(3, .int v2_h2), (0, .ref a0), (1, .int v1_h2), (2, .int v2_h2)]) hx hb dX12_extend_51 rfl hl (by decide) rfl (fun ls hl => hp_n (n := 52) rfl ?_)
      refine lv_iload_n hx hb dX12_extend_52 rfl (lv_at hl 2 rfl) (hp_n (n := 53) rfl ?_)
      have J55 : ∀ (k55 : Nat) (αh5 : hp_T) (Hh5 : Heap) (Lh5 : List Loc) (Bh5 : hp_B Γ mo s α αh5 Hh5 Lh5) (σh5 : ms_T) (Mh5 : hm_M αh5 a0 ρ σh5) (v3_h5 : Int32) (v4_h5 : Int32) (ls : Array Slot) (hl : lv_has ls 5 [(0, .ref a0), (3, .int v3_h5), (4, .int v4_h5)]) (hf : f_X12_extend_L55 n k55 σh5 v3_h5 v4_h5 = some res), W p l e (hp_rm 2 0 0) s m ([.ref a0, .int a1, .int a2] : List Value).toArray below meth c Hh5 Lh5 0 0 (MQ below (hp_Qi Γ (fun r β => r = res.1 ∧ mo α β ∧ hm_M β a0 ρ res.2)) ([.ref a0, .int a1, .int a2] : List Value).toArray s 0 0 (hp_A Γ)) (F0 m 55 ls []) := by
        intro k55
        induction k55 with
        | zero => intro αh5 Hh5 Lh5 Bh5 σh5 Mh5 v3_h5 v4_h5 ls hl hf; rw [f_X12_extend_L55.eq_1] at hf; cases hf
        | succ k55 ih55 =>
          intro αh5 Hh5 Lh5 Bh5 σh5 Mh5 v3_h5 v4_h5 ls hl hf
          rw [f_X12_extend_L55.eq_2] at hf
          refine lv_iload hx hb dX12_extend_55 (lv_at hl 2 rfl) (hp_n (n := 57) rfl ?_)
          refine lv_iconst (v := 2) hx hb dX12_extend_57 (by decide) (hp_n (n := 58) rfl ?_)
          refine lv_irem hx hb dX12_extend_58 (by decide) (hp_n (n := 59) rfl ?_)
          refine lv_iconst (v := 1) hx hb dX12_extend_59 (by decide) (hp_n (n := 60) rfl ?_)
          refine lv_icmp_ne (tgt := 102) hx hb dX12_extend_60 (by decide) (fun c6 => ?_) (fun c6 => hp_n (n := 63) rfl ?_)
          ·
            replace hf := ms_iF c6 hf
            refine lv_aload_n hx hb dX12_extend_102 rfl (lv_at hl 0 rfl) (hp_n (n := 103) rfl ?_)
            refine m_getr (κ := 40) (k := 0) (pc' := 106) C Bh5 Mh5 fl_X12_7 rfl (by decide) dX12_extend_103 rfl ?_
            refine lv_bipush (v := 8) hx hb dX12_extend_106 (by decide) (hp_n (n := 108) rfl ?_)
            refine lv_aload_n hx hb dX12_extend_108 rfl (lv_at hl 0 rfl) (hp_n (n := 109) rfl ?_)
            refine m_getr (κ := 40) (k := 0) (pc' := 112) C Bh5 Mh5 fl_X12_7 rfl (by decide) dX12_extend_109 rfl ?_
            refine lv_iconst (v := 2) hx hb dX12_extend_112 (by decide) (hp_n (n := 113) rfl ?_)
            obtain ⟨g7, hf⟩ := ms_gE hf
            refine m_ial (κ := 40) (φ := 650) (n := 1980) (pc' := 114) C Bh5 Mh5 (by decide) (by decide) rfl g7 dX12_extend_113 rfl ?_
            refine lv_iadd hx hb dX12_extend_114 (hp_n (n := 115) rfl ?_)
            refine lv_iload_n hx hb dX12_extend_115 rfl (lv_at hl 1 rfl) (hp_n (n := 116) rfl ?_)
            obtain ⟨g8, hf⟩ := ms_gE hf
            refine m_ias (κ := 40) (φ := 650) (n := 1980) (pc' := 117) C Bh5 Mh5 (by decide) (by decide) rfl g8 dX12_extend_116 rfl (fun αh9 Hh9 Lh9 σh9 eh9 Bh9 Mh9 => ?_)
            replace hf := ms_lE eh9 hf
            refine lv_aload_n hx hb dX12_extend_117 rfl (lv_at hl 0 rfl) (hp_n (n := 118) rfl ?_)
            refine m_getr (κ := 40) (k := 0) (pc' := 121) C Bh9 Mh9 fl_X12_7 rfl (by decide) dX12_extend_118 rfl ?_
            refine lv_iconst (v := 2) hx hb dX12_extend_121 (by decide) (hp_n (n := 122) rfl ?_)
            refine lv_dup2_11 hx hb dX12_extend_122 rfl rfl (hp_n (n := 123) rfl ?_)
            obtain ⟨g10, hf⟩ := ms_gE hf
            refine m_ial (κ := 40) (φ := 650) (n := 1980) (pc' := 124) C Bh9 Mh9 (by decide) (by decide) rfl g10 dX12_extend_123 rfl ?_
            refine lv_iconst (v := 1) hx hb dX12_extend_124 (by decide) (hp_n (n := 125) rfl ?_)
            refine lv_iadd hx hb dX12_extend_125 (hp_n (n := 126) rfl ?_)
            obtain ⟨g11, hf⟩ := ms_gE hf
            refine m_ias (κ := 40) (φ := 650) (n := 1980) (pc' := 127) C Bh9 Mh9 (by decide) (by decide) rfl g11 dX12_extend_126 rfl (fun αh12 Hh12 Lh12 σh12 eh12 Bh12 Mh12 => ?_)
            replace hf := ms_lE eh12 hf
            refine lv_aload_n hx hb dX12_extend_127 rfl (lv_at hl 0 rfl) (hp_n (n := 128) rfl ?_)
            refine m_getr (κ := 40) (k := 0) (pc' := 131) C Bh12 Mh12 fl_X12_7 rfl (by decide) dX12_extend_128 rfl ?_
            refine lv_iconst (v := 2) hx hb dX12_extend_131 (by decide) (hp_n (n := 132) rfl ?_)
            obtain ⟨g13, hf⟩ := ms_gE hf
            refine m_ial (κ := 40) (φ := 650) (n := 1980) (pc' := 133) C Bh12 Mh12 (by decide) (by decide) rfl g13 dX12_extend_132 rfl ?_
            cases hf
            exact q_iret C Bh12 hr hlk ⟨rfl, Bh12.2.2, Mh12⟩ dX12_extend_133
          ·
            replace hf := ms_iT c6 hf
            refine lv_aload_n hx hb dX12_extend_63 rfl (lv_at hl 0 rfl) (hp_n (n := 64) rfl ?_)
            refine m_getr (κ := 40) (k := 0) (pc' := 67) C Bh5 Mh5 fl_X12_7 rfl (by decide) dX12_extend_64 rfl ?_
            refine lv_iconst (v := 2) hx hb dX12_extend_67 (by decide) (hp_n (n := 68) rfl ?_)
            refine lv_dup2_11 hx hb dX12_extend_68 rfl rfl (hp_n (n := 69) rfl ?_)
            obtain ⟨g14, hf⟩ := ms_gE hf
            refine m_ial (κ := 40) (φ := 650) (n := 1980) (pc' := 70) C Bh5 Mh5 (by decide) (by decide) rfl g14 dX12_extend_69 rfl ?_
            refine lv_iconst (v := 1) hx hb dX12_extend_70 (by decide) (hp_n (n := 71) rfl ?_)
            refine lv_isub hx hb dX12_extend_71 (hp_n (n := 72) rfl ?_)
            obtain ⟨g15, hf⟩ := ms_gE hf
            refine m_ias (κ := 40) (φ := 650) (n := 1980) (pc' := 73) C Bh5 Mh5 (by decide) (by decide) rfl g15 dX12_extend_72 rfl (fun αh16 Hh16 Lh16 σh16 eh16 Bh16 Mh16 => ?_)
            replace hf := ms_lE eh16 hf
            refine lv_aload_n hx hb dX12_extend_73 rfl (lv_at hl 0 rfl) (hp_n (n := 74) rfl ?_)
            refine lv_aload_n hx hb dX12_extend_74 rfl (lv_at hl 0 rfl) (hp_n (n := 75) rfl ?_)
            refine m_getr (κ := 40) (k := 0) (pc' := 78) C Bh16 Mh16 fl_X12_7 rfl (by decide) dX12_extend_75 rfl ?_
            refine lv_bipush (v := 8) hx hb dX12_extend_78 (by decide) (hp_n (n := 80) rfl ?_)
            refine lv_aload_n hx hb dX12_extend_80 rfl (lv_at hl 0 rfl) (hp_n (n := 81) rfl ?_)
            refine m_getr (κ := 40) (k := 0) (pc' := 84) C Bh16 Mh16 fl_X12_7 rfl (by decide) dX12_extend_81 rfl ?_
            refine lv_iconst (v := 2) hx hb dX12_extend_84 (by decide) (hp_n (n := 85) rfl ?_)
            obtain ⟨g17, hf⟩ := ms_gE hf
            refine m_ial (κ := 40) (φ := 650) (n := 1980) (pc' := 86) C Bh16 Mh16 (by decide) (by decide) rfl g17 dX12_extend_85 rfl ?_
            refine lv_iadd hx hb dX12_extend_86 (hp_n (n := 87) rfl ?_)
            obtain ⟨g18, hf⟩ := ms_gE hf
            refine m_ial (κ := 40) (φ := 650) (n := 1980) (pc' := 88) C Bh16 Mh16 (by decide) (by decide) rfl g18 dX12_extend_87 rfl ?_
            refine lv_iload_n hx hb dX12_extend_88 rfl (lv_at hl 1 rfl) (hp_n (n := 89) rfl ?_)
            obtain ⟨rh19, qh19, hf⟩ := ms_bE hf
            refine m_cp (pc' := 92) Bh16 (hp_runV (As := [.int (ms_E σh16 40 (((8 : Int32) + (ms_E σh16 40 ((2 : Int32)).toNatClampNeg))).toNatClampNeg), .int v3_h5]) (rest := []) C Bh16 (m_X12_both n Γ l αh16 a0 ρ σh16 Mh16 (ms_E σh16 40 (((8 : Int32) + (ms_E σh16 40 ((2 : Int32)).toNatClampNeg))).toNatClampNeg) v3_h5 rh19 qh19) lb_X12_both lv_X12_both lk_X12_136 Mh16.1 rfl (by decide) rfl hl.1 rfl (Nat.le_of_ble_eq_true rfl) dX12_extend_89 ⟨Nat.le_refl _, Nat.le_refl _⟩) rfl (fun Hh19 Lh19 Bh19 => ?_)
            refine lv_istore_n (lv' := [(3, .int rh19), (0, .ref a0), (4, .int v4_h5)]) hx hb dX12_extend_92 rfl hl (by decide) rfl (fun ls hl => hp_n (n := 93) rfl ?_)
            refine lv_iload hx hb dX12_extend_93 (lv_at hl 2 rfl) (hp_n (n := 95) rfl ?_)
            refine lv_iconst (v := 2) hx hb dX12_extend_95 (by decide) (hp_n (n := 96) rfl ?_)
            refine lv_idiv hx hb dX12_extend_96 (by decide) (hp_n (n := 97) rfl ?_)
            refine lv_topi (fun x20 ex20 => ?_)
            replace hf := ms_lE ex20 hf
            refine lv_istore (lv' := [(4, .int x20), (3, .int rh19), (0, .ref a0)]) hx hb dX12_extend_97 hl (by decide) rfl (fun ls hl => hp_n (n := 99) rfl ?_)
            refine lv_goto (tgt := 55) hx hb dX12_extend_99 (by decide) ?_
            exact ih55 αh16 Hh19 Lh19 Bh19 σh16 Mh16 rh19 x20 ls (lv_sub hl [2, 1, 0] rfl) hf
      refine lv_istore (lv' := [(4, .int v1_h2), (3, .int v2_h2), (0, .ref a0), (1, .int v1_h2), (2, .int v2_h2)]) hx hb dX12_extend_53 hl (by decide) rfl (fun ls hl => hp_n (n := 55) rfl ?_)
      exact J55 n αh3 Hh3 Lh3 Bh3 σh3 Mh3 v2_h2 v1_h2 ls (lv_sub hl [2, 1, 0] rfl) hf
    ·
      replace hf := ms_iT c4 hf
      refine lv_iconst (v := (-1)) hx hb dX12_extend_48 (by decide) (hp_n (n := 49) rfl ?_)
      cases hf
      exact q_iret C Bh3 hr hlk ⟨rfl, Bh3.2.2, Mh3⟩ dX12_extend_49
  have J20 : ∀ (αh21 : hp_T) (Hh21 : Heap) (Lh21 : List Loc) (Bh21 : hp_B Γ mo s α αh21 Hh21 Lh21) (σh21 : ms_T) (Mh21 : hm_M αh21 a0 ρ σh21) (v1_h21 : Int32) (v2_h21 : Int32) (ls : Array Slot) (hl : lv_has ls 5 [(0, .ref a0), (1, .int v1_h21), (2, .int v2_h21)]) (hf : f_X12_extend_J20 n σh21 v1_h21 v2_h21 = some res), W p l e (hp_rm 2 0 0) s m ([.ref a0, .int a1, .int a2] : List Value).toArray below meth c Hh21 Lh21 0 0 (MQ below (hp_Qi Γ (fun r β => r = res.1 ∧ mo α β ∧ hm_M β a0 ρ res.2)) ([.ref a0, .int a1, .int a2] : List Value).toArray s 0 0 (hp_A Γ)) (F0 m 20 ls [.ref a0]) := by
    intro αh21 Hh21 Lh21 Bh21 σh21 Mh21 v1_h21 v2_h21 ls hl hf
    unfold f_X12_extend_J20 at hf
    refine lv_iconst (v := 1) hx hb dX12_extend_20 (by decide) (hp_n (n := 21) rfl ?_)
    refine lv_goto (tgt := 42) hx hb dX12_extend_21 (by decide) ?_
    exact J42 αh21 Hh21 Lh21 Bh21 σh21 Mh21 v1_h21 v2_h21 (1 : Int32) ls (lv_sub hl [0, 1, 2] rfl) hf
  refine lv_if_eq (tgt := 20) hx hb dX12_extend_9 (by decide) (fun c22 => ?_) (fun c22 => hp_n (n := 12) rfl ?_)
  ·
    replace hf := ms_iT c22 hf
    exact J20 α Hh1 Lh1 Bh1 σ hM a1 a2 ls (lv_sub hl [0, 1, 2] rfl) hf
  ·
    replace hf := ms_iF c22 hf
    refine lv_aload_n hx hb dX12_extend_12 rfl (lv_at hl 0 rfl) (hp_n (n := 13) rfl ?_)
    refine lv_iload_n hx hb dX12_extend_13 rfl (lv_at hl 2 rfl) (hp_n (n := 14) rfl ?_)
    obtain ⟨rh23, qh23, hf⟩ := ms_bE hf
    refine m_cp (pc' := 17) Bh1 (hp_runV (As := [.int a2]) (rest := [.ref a0]) C Bh1 (m_X12_isMark n Γ l α a0 ρ σ hM a2 rh23 qh23) lb_X12_isMark lv_X12_isMark lk_X12_321 hM.1 rfl (by decide) rfl hl.1 rfl (Nat.le_of_ble_eq_true rfl) dX12_extend_14 ⟨Nat.le_refl _, Nat.le_refl _⟩) rfl (fun Hh23 Lh23 Bh23 => ?_)
    refine lv_if_ne (tgt := 24) hx hb dX12_extend_17 (by decide) (fun c24 => ?_) (fun c24 => hp_n (n := 20) rfl ?_)
    ·
      replace hf := ms_iF c24 hf
      refine lv_iload_n hx hb dX12_extend_24 rfl (lv_at hl 1 rfl) (hp_n (n := 25) rfl ?_)
      obtain ⟨rh25, qh25, hf⟩ := ms_bE hf
      refine m_cp (pc' := 28) Bh23 (hp_runS (As := [.int a1]) (rest := [.ref a0]) C Bh23 (m_J6_bitCount_0f7a4 n Γ l α a1 rh25 qh25) lb_J6_bitCount_0f7a4 ls_J6_bitCount_0f7a4 lk_X12_376 rfl (by decide) rfl hl.1 rfl (Nat.le_of_ble_eq_true rfl) dX12_extend_25 ⟨Nat.le_refl _, Nat.le_refl _⟩) rfl (fun Hh25 Lh25 Bh25 => ?_)
      refine lv_aload_n hx hb dX12_extend_28 rfl (lv_at hl 0 rfl) (hp_n (n := 29) rfl ?_)
      refine m_getr (κ := 40) (k := 0) (pc' := 32) C Bh25 hM fl_X12_7 rfl (by decide) dX12_extend_29 rfl ?_
      refine lv_iconst (v := 2) hx hb dX12_extend_32 (by decide) (hp_n (n := 33) rfl ?_)
      obtain ⟨g26, hf⟩ := ms_gE hf
      refine m_ial (κ := 40) (φ := 650) (n := 1980) (pc' := 34) C Bh25 hM (by decide) (by decide) rfl g26 dX12_extend_33 rfl ?_
      refine lv_icmp_eq (tgt := 41) hx hb dX12_extend_34 (by decide) (fun c27 => ?_) (fun c27 => hp_n (n := 37) rfl ?_)
      ·
        replace hf := ms_iT c27 hf
        refine lv_iconst (v := 0) hx hb dX12_extend_41 (by decide) (hp_n (n := 42) rfl ?_)
        exact J42 α Hh25 Lh25 Bh25 σ hM a1 a2 (0 : Int32) ls (lv_sub hl [0, 1, 2] rfl) hf
      ·
        replace hf := ms_iF c27 hf
        refine lv_iconst (v := 5) hx hb dX12_extend_37 (by decide) (hp_n (n := 38) rfl ?_)
        refine lv_goto (tgt := 42) hx hb dX12_extend_38 (by decide) ?_
        exact J42 α Hh25 Lh25 Bh25 σ hM a1 a2 (5 : Int32) ls (lv_sub hl [0, 1, 2] rfl) hf
    ·
      replace hf := ms_iT c24 hf
      exact J20 α Hh23 Lh23 Bh23 σ hM a1 a2 ls (lv_sub hl [0, 1, 2] rfl) hf
def f_X12_isThing (n : Nat) (σ : ms_T) (a1 : Int32) (a2 : Int32) : Option Int32 :=
  if a1 < 0 then
    some (0 : Int32)
  else
    if a2 ≤ a1 then
      some (0 : Int32)
    else
      some (1 : Int32)
set_option maxRecDepth 100000 in
set_option maxHeartbeats 4000000 in
theorem m_X12_isThing (n : Nat) (Γ : hp_G) (l : Launch) (α : hp_T) (a0 : Nat) (ρ : Nat → Nat) (σ : ms_T) (hM : hm_M α a0 ρ σ) (a1 : Int32) (a2 : Int32) (res : Int32) (hf : f_X12_isThing n σ a1 a2 = some res) : Met l yX12_isThing (hp_ws yX12_isThing cX12_isThing 3 (some .boolean)) (hp_rm 0 0 0) (hp_Pc Γ α [.ref a0, .int a1, .int a2]) (hp_Qi Γ (fun r β => β = α ∧ r = res)) 0 0 (hp_A Γ) := by
  unfold f_X12_isThing at hf
  refine hp_start (by decide) ?_
  intro p e s m below meth c C hr hlk B0 hnm
  have C : hp_C Γ p m c cX12_isThing 3 s ([.ref a0, .int a1, .int a2] : List Value).toArray RX12 := C
  have hx := C.1.1
  have hb := C.1.2.1
  have hown := C.1.2.2.2.1
  have hts := C.1.2.2.2.2
  have B : hp_B Γ (fun _ _ => True) s α α s.heap [] := ⟨B0.1, B0.2.1, trivial⟩
  have hl := lv_entry ([.ref a0, .int a1, .int a2]) (n := 3) (Nat.le_of_ble_eq_true rfl)
  show W p l e (hp_rm 0 0 0) s m ([.ref a0, .int a1, .int a2] : List Value).toArray below meth c s.heap [] 0 0 (MQ below (hp_Qi Γ (fun r β => β = α ∧ r = res)) ([.ref a0, .int a1, .int a2] : List Value).toArray s 0 0 (hp_A Γ)) (entryFrame m ([.ref a0, .int a1, .int a2] : List Value).toArray 3)
  rw [lg_entry_eq]
  generalize (lg_sl ([.ref a0, .int a1, .int a2]) ++ List.replicate (3 - (lg_sl ([.ref a0, .int a1, .int a2])).length) Slot.unset).toArray = ls at hl ⊢
  have hl : lv_has ls 3 [(0, .ref a0), (1, .int a1), (2, .int a2)] := hl
  refine lv_iload_n hx hb dX12_isThing_0 rfl (lv_at hl 1 rfl) (hp_n (n := 1) rfl ?_)
  refine lv_if_lt (tgt := 13) hx hb dX12_isThing_1 (by decide) (fun c1 => ?_) (fun c1 => hp_n (n := 4) rfl ?_)
  ·
    replace hf := ms_iT c1 hf
    refine lv_iconst (v := 0) hx hb dX12_isThing_13 (by decide) (hp_n (n := 14) rfl ?_)
    cases hf
    exact q_zret C B hr hlk (by decide) ⟨rfl, rfl⟩ dX12_isThing_14
  ·
    replace hf := ms_iF c1 hf
    refine lv_iload_n hx hb dX12_isThing_4 rfl (lv_at hl 1 rfl) (hp_n (n := 5) rfl ?_)
    refine lv_iload_n hx hb dX12_isThing_5 rfl (lv_at hl 2 rfl) (hp_n (n := 6) rfl ?_)
    refine lv_icmp_ge (tgt := 13) hx hb dX12_isThing_6 (by decide) (fun c2 => ?_) (fun c2 => hp_n (n := 9) rfl ?_)
    ·
      replace hf := ms_iT c2 hf
      refine lv_iconst (v := 0) hx hb dX12_isThing_13 (by decide) (hp_n (n := 14) rfl ?_)
      cases hf
      exact q_zret C B hr hlk (by decide) ⟨rfl, rfl⟩ dX12_isThing_14
    ·
      replace hf := ms_iF c2 hf
      refine lv_iconst (v := 1) hx hb dX12_isThing_9 (by decide) (hp_n (n := 10) rfl ?_)
      refine lv_goto (tgt := 14) hx hb dX12_isThing_10 (by decide) ?_
      cases hf
      exact q_zret C B hr hlk (by decide) ⟨rfl, rfl⟩ dX12_isThing_14
def f_X12_checks_J32 (n : Nat) (σh2 : ms_T) (v1_h2 : Int32) (v2_h2 : Int32) (v3_h2 : Int32) (v4_h2 : Int32) (w0_h2 : Int32) : Option (Int32 × ms_T) :=
  ms_c (f_X12_is n σh2 w0_h2) fun rh3 σh3 =>
  if rh3 = 0 then
    some ((-1 : Int32), σh3)
  else
    ms_c (f_X12_fromPad n σh3) fun rh5 σh5 =>
    ms_c (f_X12_whyIn n σh5 rh5 v1_h2 v2_h2 v3_h2 v4_h2) fun rh6 σh6 =>
    some (rh6, σh6)
def f_X12_checks_J31 (n : Nat) (σh7 : ms_T) (v1_h7 : Int32) (v2_h7 : Int32) (v3_h7 : Int32) (v4_h7 : Int32) : Option (Int32 × ms_T) :=
  f_X12_checks_J32 n σh7 v1_h7 v2_h7 v3_h7 v4_h7 (1 : Int32)
def f_X12_checks (n : Nat) (σ : ms_T) (a1 : Int32) (a2 : Int32) (a3 : Int32) (a4 : Int32) : Option (Int32 × ms_T) :=
  ms_b (f_X12_isThing n σ a2 a3) fun rh1 =>
  if rh1 = 0 then
    f_X12_checks_J31 n σ a1 a2 a3 a4
  else
    ms_b (f_X12_isMark n σ a1) fun rh9 =>
    if rh9 = 0 then
      f_X12_checks_J31 n σ a1 a2 a3 a4
    else
      ms_b (f_X12_isMark n σ a4) fun rh11 =>
      if rh11 = 0 then
        f_X12_checks_J31 n σ a1 a2 a3 a4
      else
        f_X12_checks_J32 n σ a1 a2 a3 a4 (0 : Int32)
set_option maxRecDepth 100000 in
set_option maxHeartbeats 4000000 in
theorem m_X12_checks (n : Nat) (Γ : hp_G) (l : Launch) (α : hp_T) (a0 : Nat) (ρ : Nat → Nat) (σ : ms_T) (hM : hm_M α a0 ρ σ) (a1 : Int32) (a2 : Int32) (a3 : Int32) (a4 : Int32) (res : (Int32 × ms_T)) (hf : f_X12_checks n σ a1 a2 a3 a4 = some res) : Met l yX12_checks (hp_ws yX12_checks cX12_checks 5 (some .int)) (hp_rm 44 0 0) (hp_Pc Γ α [.ref a0, .int a1, .int a2, .int a3, .int a4]) (hp_Qi Γ (fun r β => r = res.1 ∧ mo α β ∧ hm_M β a0 ρ res.2)) 0 0 (hp_A Γ) := by
  unfold f_X12_checks at hf
  refine hp_start (by decide) ?_
  intro p e s m below meth c C hr hlk B0 hnm
  have C : hp_C Γ p m c cX12_checks 5 s ([.ref a0, .int a1, .int a2, .int a3, .int a4] : List Value).toArray RX12 := C
  have hx := C.1.1
  have hb := C.1.2.1
  have hown := C.1.2.2.2.1
  have hts := C.1.2.2.2.2
  have B : hp_B Γ mo s α α s.heap [] := ⟨B0.1, B0.2.1, mo_rf⟩
  have hl := lv_entry ([.ref a0, .int a1, .int a2, .int a3, .int a4]) (n := 5) (Nat.le_of_ble_eq_true rfl)
  show W p l e (hp_rm 44 0 0) s m ([.ref a0, .int a1, .int a2, .int a3, .int a4] : List Value).toArray below meth c s.heap [] 0 0 (MQ below (hp_Qi Γ (fun r β => r = res.1 ∧ mo α β ∧ hm_M β a0 ρ res.2)) ([.ref a0, .int a1, .int a2, .int a3, .int a4] : List Value).toArray s 0 0 (hp_A Γ)) (entryFrame m ([.ref a0, .int a1, .int a2, .int a3, .int a4] : List Value).toArray 5)
  rw [lg_entry_eq]
  generalize (lg_sl ([.ref a0, .int a1, .int a2, .int a3, .int a4]) ++ List.replicate (5 - (lg_sl ([.ref a0, .int a1, .int a2, .int a3, .int a4])).length) Slot.unset).toArray = ls at hl ⊢
  have hl : lv_has ls 5 [(0, .ref a0), (1, .int a1), (2, .int a2), (3, .int a3), (4, .int a4)] := hl
  refine lv_aload_n hx hb dX12_checks_0 rfl (lv_at hl 0 rfl) (hp_n (n := 1) rfl ?_)
  refine lv_aload_n hx hb dX12_checks_1 rfl (lv_at hl 0 rfl) (hp_n (n := 2) rfl ?_)
  refine lv_iload_n hx hb dX12_checks_2 rfl (lv_at hl 2 rfl) (hp_n (n := 3) rfl ?_)
  refine lv_iload_n hx hb dX12_checks_3 rfl (lv_at hl 3 rfl) (hp_n (n := 4) rfl ?_)
  obtain ⟨rh1, qh1, hf⟩ := ms_bE hf
  refine m_cp (pc' := 7) B (hp_runV (As := [.int a2, .int a3]) (rest := [.ref a0]) C B (m_X12_isThing n Γ l α a0 ρ σ hM a2 a3 rh1 qh1) lb_X12_isThing lv_X12_isThing lk_X12_381 hM.1 rfl (by decide) rfl hl.1 rfl (Nat.le_of_ble_eq_true rfl) dX12_checks_4 ⟨Nat.le_refl _, Nat.le_refl _⟩) rfl (fun Hh1 Lh1 Bh1 => ?_)
  have J32 : ∀ (αh2 : hp_T) (Hh2 : Heap) (Lh2 : List Loc) (Bh2 : hp_B Γ mo s α αh2 Hh2 Lh2) (σh2 : ms_T) (Mh2 : hm_M αh2 a0 ρ σh2) (v1_h2 : Int32) (v2_h2 : Int32) (v3_h2 : Int32) (v4_h2 : Int32) (w0_h2 : Int32) (ls : Array Slot) (hl : lv_has ls 5 [(0, .ref a0), (1, .int v1_h2), (2, .int v2_h2), (3, .int v3_h2), (4, .int v4_h2)]) (hf : f_X12_checks_J32 n σh2 v1_h2 v2_h2 v3_h2 v4_h2 w0_h2 = some res), W p l e (hp_rm 44 0 0) s m ([.ref a0, .int a1, .int a2, .int a3, .int a4] : List Value).toArray below meth c Hh2 Lh2 0 0 (MQ below (hp_Qi Γ (fun r β => r = res.1 ∧ mo α β ∧ hm_M β a0 ρ res.2)) ([.ref a0, .int a1, .int a2, .int a3, .int a4] : List Value).toArray s 0 0 (hp_A Γ)) (F0 m 32 ls [.int w0_h2, .ref a0]) := by
    intro αh2 Hh2 Lh2 Bh2 σh2 Mh2 v1_h2 v2_h2 v3_h2 v4_h2 w0_h2 ls hl hf
    unfold f_X12_checks_J32 at hf
    obtain ⟨rh3, σh3, qh3, hf⟩ := ms_cE hf
    refine m_ci (pc' := 35) (a := a0) (ρ := ρ) Bh2 (hp_runV (As := [.int w0_h2]) (rest := []) C Bh2 (m_X12_is n Γ l αh2 a0 ρ σh2 Mh2 w0_h2 (rh3, σh3) qh3) lb_X12_is lv_X12_is lk_X12_309 Mh2.1 rfl (by decide) rfl hl.1 rfl (Nat.le_of_ble_eq_true rfl) dX12_checks_32 ⟨Nat.le_refl _, Nat.le_refl _⟩) rfl (fun αh3 Hh3 Lh3 Bh3 Mh3 => ?_)
    refine lv_if_ne (tgt := 40) hx hb dX12_checks_35 (by decide) (fun c4 => ?_) (fun c4 => hp_n (n := 38) rfl ?_)
    ·
      replace hf := ms_iF c4 hf
      refine lv_aload_n hx hb dX12_checks_40 rfl (lv_at hl 0 rfl) (hp_n (n := 41) rfl ?_)
      refine lv_aload_n hx hb dX12_checks_41 rfl (lv_at hl 0 rfl) (hp_n (n := 42) rfl ?_)
      obtain ⟨rh5, σh5, qh5, hf⟩ := ms_cE hf
      refine m_ci (pc' := 45) (a := a0) (ρ := ρ) Bh3 (hp_runV (As := []) (rest := [.ref a0]) C Bh3 (m_X12_fromPad n Γ l αh3 a0 ρ σh3 Mh3  (rh5, σh5) qh5) lb_X12_fromPad lv_X12_fromPad lk_X12_384 Mh3.1 rfl (by decide) rfl hl.1 rfl (Nat.le_of_ble_eq_true rfl) dX12_checks_42 ⟨Nat.le_refl _, Nat.le_refl _⟩) rfl (fun αh5 Hh5 Lh5 Bh5 Mh5 => ?_)
      refine lv_iload_n hx hb dX12_checks_45 rfl (lv_at hl 1 rfl) (hp_n (n := 46) rfl ?_)
      refine lv_iload_n hx hb dX12_checks_46 rfl (lv_at hl 2 rfl) (hp_n (n := 47) rfl ?_)
      refine lv_iload_n hx hb dX12_checks_47 rfl (lv_at hl 3 rfl) (hp_n (n := 48) rfl ?_)
      refine lv_iload hx hb dX12_checks_48 (lv_at hl 4 rfl) (hp_n (n := 50) rfl ?_)
      obtain ⟨rh6, σh6, qh6, hf⟩ := ms_cE hf
      refine m_ci (pc' := 53) (a := a0) (ρ := ρ) Bh5 (hp_runV (As := [.int rh5, .int v1_h2, .int v2_h2, .int v3_h2, .int v4_h2]) (rest := []) C Bh5 (m_X12_whyIn n Γ l αh5 a0 ρ σh5 Mh5 rh5 v1_h2 v2_h2 v3_h2 v4_h2 (rh6, σh6) qh6) lb_X12_whyIn lv_X12_whyIn lk_X12_332 Mh5.1 rfl (by decide) rfl hl.1 rfl (Nat.le_of_ble_eq_true rfl) dX12_checks_50 ⟨Nat.le_refl _, Nat.le_refl _⟩) rfl (fun αh6 Hh6 Lh6 Bh6 Mh6 => ?_)
      cases hf
      exact q_iret C Bh6 hr hlk ⟨rfl, Bh6.2.2, Mh6⟩ dX12_checks_53
    ·
      replace hf := ms_iT c4 hf
      refine lv_iconst (v := (-1)) hx hb dX12_checks_38 (by decide) (hp_n (n := 39) rfl ?_)
      cases hf
      exact q_iret C Bh3 hr hlk ⟨rfl, Bh3.2.2, Mh3⟩ dX12_checks_39
  have J31 : ∀ (αh7 : hp_T) (Hh7 : Heap) (Lh7 : List Loc) (Bh7 : hp_B Γ mo s α αh7 Hh7 Lh7) (σh7 : ms_T) (Mh7 : hm_M αh7 a0 ρ σh7) (v1_h7 : Int32) (v2_h7 : Int32) (v3_h7 : Int32) (v4_h7 : Int32) (ls : Array Slot) (hl : lv_has ls 5 [(0, .ref a0), (1, .int v1_h7), (2, .int v2_h7), (3, .int v3_h7), (4, .int v4_h7)]) (hf : f_X12_checks_J31 n σh7 v1_h7 v2_h7 v3_h7 v4_h7 = some res), W p l e (hp_rm 44 0 0) s m ([.ref a0, .int a1, .int a2, .int a3, .int a4] : List Value).toArray below meth c Hh7 Lh7 0 0 (MQ below (hp_Qi Γ (fun r β => r = res.1 ∧ mo α β ∧ hm_M β a0 ρ res.2)) ([.ref a0, .int a1, .int a2, .int a3, .int a4] : List Value).toArray s 0 0 (hp_A Γ)) (F0 m 31 ls [.ref a0]) := by
    intro αh7 Hh7 Lh7 Bh7 σh7 Mh7 v1_h7 v2_h7 v3_h7 v4_h7 ls hl hf
    unfold f_X12_checks_J31 at hf
    refine lv_iconst (v := 1) hx hb dX12_checks_31 (by decide) (hp_n (n := 32) rfl ?_)
    exact J32 αh7 Hh7 Lh7 Bh7 σh7 Mh7 v1_h7 v2_h7 v3_h7 v4_h7 (1 : Int32) ls (lv_sub hl [0, 1, 2, 3, 4] rfl) hf
  refine lv_if_eq (tgt := 31) hx hb dX12_checks_7 (by decide) (fun c8 => ?_) (fun c8 => hp_n (n := 10) rfl ?_)
  ·
    replace hf := ms_iT c8 hf
    exact J31 α Hh1 Lh1 Bh1 σ hM a1 a2 a3 a4 ls (lv_sub hl [0, 1, 2, 3, 4] rfl) hf
  ·
    replace hf := ms_iF c8 hf
    refine lv_aload_n hx hb dX12_checks_10 rfl (lv_at hl 0 rfl) (hp_n (n := 11) rfl ?_)
    refine lv_iload_n hx hb dX12_checks_11 rfl (lv_at hl 1 rfl) (hp_n (n := 12) rfl ?_)
    obtain ⟨rh9, qh9, hf⟩ := ms_bE hf
    refine m_cp (pc' := 15) Bh1 (hp_runV (As := [.int a1]) (rest := [.ref a0]) C Bh1 (m_X12_isMark n Γ l α a0 ρ σ hM a1 rh9 qh9) lb_X12_isMark lv_X12_isMark lk_X12_321 hM.1 rfl (by decide) rfl hl.1 rfl (Nat.le_of_ble_eq_true rfl) dX12_checks_12 ⟨Nat.le_refl _, Nat.le_refl _⟩) rfl (fun Hh9 Lh9 Bh9 => ?_)
    refine lv_if_eq (tgt := 31) hx hb dX12_checks_15 (by decide) (fun c10 => ?_) (fun c10 => hp_n (n := 18) rfl ?_)
    ·
      replace hf := ms_iT c10 hf
      exact J31 α Hh9 Lh9 Bh9 σ hM a1 a2 a3 a4 ls (lv_sub hl [0, 1, 2, 3, 4] rfl) hf
    ·
      replace hf := ms_iF c10 hf
      refine lv_aload_n hx hb dX12_checks_18 rfl (lv_at hl 0 rfl) (hp_n (n := 19) rfl ?_)
      refine lv_iload hx hb dX12_checks_19 (lv_at hl 4 rfl) (hp_n (n := 21) rfl ?_)
      obtain ⟨rh11, qh11, hf⟩ := ms_bE hf
      refine m_cp (pc' := 24) Bh9 (hp_runV (As := [.int a4]) (rest := [.ref a0]) C Bh9 (m_X12_isMark n Γ l α a0 ρ σ hM a4 rh11 qh11) lb_X12_isMark lv_X12_isMark lk_X12_321 hM.1 rfl (by decide) rfl hl.1 rfl (Nat.le_of_ble_eq_true rfl) dX12_checks_21 ⟨Nat.le_refl _, Nat.le_refl _⟩) rfl (fun Hh11 Lh11 Bh11 => ?_)
      refine lv_if_eq (tgt := 31) hx hb dX12_checks_24 (by decide) (fun c12 => ?_) (fun c12 => hp_n (n := 27) rfl ?_)
      ·
        replace hf := ms_iT c12 hf
        exact J31 α Hh11 Lh11 Bh11 σ hM a1 a2 a3 a4 ls (lv_sub hl [0, 1, 2, 3, 4] rfl) hf
      ·
        replace hf := ms_iF c12 hf
        refine lv_iconst (v := 0) hx hb dX12_checks_27 (by decide) (hp_n (n := 28) rfl ?_)
        refine lv_goto (tgt := 32) hx hb dX12_checks_28 (by decide) ?_
        exact J32 α Hh11 Lh11 Bh11 σ hM a1 a2 a3 a4 (0 : Int32) ls (lv_sub hl [0, 1, 2, 3, 4] rfl) hf
def f_X12_growth__J32 (n : Nat) (σh1 : ms_T) (v1_h1 : Int32) (v2_h1 : Int32) (v3_h1 : Int32) (v4_h1 : Int32) (w0_h1 : Int32) : Option (Int32 × ms_T) :=
  ms_c (f_X12_is n σh1 w0_h1) fun rh2 σh2 =>
  if rh2 = 0 then
    some ((-1 : Int32), σh2)
  else
    ms_c (f_X12_fromPad n σh2) fun rh4 σh4 =>
    ms_c (f_X12_whyGrown n σh4 rh4 v1_h1 v2_h1 v3_h1 v4_h1) fun rh5 σh5 =>
    some (rh5, σh5)
def f_X12_growth__J31 (n : Nat) (σh6 : ms_T) (v1_h6 : Int32) (v2_h6 : Int32) (v3_h6 : Int32) (v4_h6 : Int32) : Option (Int32 × ms_T) :=
  f_X12_growth__J32 n σh6 v1_h6 v2_h6 v3_h6 v4_h6 (1 : Int32)
def f_X12_growth_ (n : Nat) (σ : ms_T) (a1 : Int32) (a2 : Int32) (a3 : Int32) (a4 : Int32) : Option (Int32 × ms_T) :=
  if a1 < 0 then
    f_X12_growth__J31 n σ a1 a2 a3 a4
  else
    if a3 < a1 then
      f_X12_growth__J31 n σ a1 a2 a3 a4
    else
      ms_b (f_X12_isMark n σ a2) fun rh9 =>
      if rh9 = 0 then
        f_X12_growth__J31 n σ a1 a2 a3 a4
      else
        ms_b (f_X12_isMark n σ a4) fun rh11 =>
        if rh11 = 0 then
          f_X12_growth__J31 n σ a1 a2 a3 a4
        else
          f_X12_growth__J32 n σ a1 a2 a3 a4 (0 : Int32)
set_option maxRecDepth 100000 in
set_option maxHeartbeats 4000000 in
theorem m_X12_growth_ (n : Nat) (Γ : hp_G) (l : Launch) (α : hp_T) (a0 : Nat) (ρ : Nat → Nat) (σ : ms_T) (hM : hm_M α a0 ρ σ) (a1 : Int32) (a2 : Int32) (a3 : Int32) (a4 : Int32) (res : (Int32 × ms_T)) (hf : f_X12_growth_ n σ a1 a2 a3 a4 = some res) : Met l yX12_growth_ (hp_ws yX12_growth_ cX12_growth_ 5 (some .int)) (hp_rm 43 0 0) (hp_Pc Γ α [.ref a0, .int a1, .int a2, .int a3, .int a4]) (hp_Qi Γ (fun r β => r = res.1 ∧ mo α β ∧ hm_M β a0 ρ res.2)) 0 0 (hp_A Γ) := by
  unfold f_X12_growth_ at hf
  refine hp_start (by decide) ?_
  intro p e s m below meth c C hr hlk B0 hnm
  have C : hp_C Γ p m c cX12_growth_ 5 s ([.ref a0, .int a1, .int a2, .int a3, .int a4] : List Value).toArray RX12 := C
  have hx := C.1.1
  have hb := C.1.2.1
  have hown := C.1.2.2.2.1
  have hts := C.1.2.2.2.2
  have B : hp_B Γ mo s α α s.heap [] := ⟨B0.1, B0.2.1, mo_rf⟩
  have hl := lv_entry ([.ref a0, .int a1, .int a2, .int a3, .int a4]) (n := 5) (Nat.le_of_ble_eq_true rfl)
  show W p l e (hp_rm 43 0 0) s m ([.ref a0, .int a1, .int a2, .int a3, .int a4] : List Value).toArray below meth c s.heap [] 0 0 (MQ below (hp_Qi Γ (fun r β => r = res.1 ∧ mo α β ∧ hm_M β a0 ρ res.2)) ([.ref a0, .int a1, .int a2, .int a3, .int a4] : List Value).toArray s 0 0 (hp_A Γ)) (entryFrame m ([.ref a0, .int a1, .int a2, .int a3, .int a4] : List Value).toArray 5)
  rw [lg_entry_eq]
  generalize (lg_sl ([.ref a0, .int a1, .int a2, .int a3, .int a4]) ++ List.replicate (5 - (lg_sl ([.ref a0, .int a1, .int a2, .int a3, .int a4])).length) Slot.unset).toArray = ls at hl ⊢
  have hl : lv_has ls 5 [(0, .ref a0), (1, .int a1), (2, .int a2), (3, .int a3), (4, .int a4)] := hl
  refine lv_aload_n hx hb dX12_growth__0 rfl (lv_at hl 0 rfl) (hp_n (n := 1) rfl ?_)
  refine lv_iload_n hx hb dX12_growth__1 rfl (lv_at hl 1 rfl) (hp_n (n := 2) rfl ?_)
  have J32 : ∀ (αh1 : hp_T) (Hh1 : Heap) (Lh1 : List Loc) (Bh1 : hp_B Γ mo s α αh1 Hh1 Lh1) (σh1 : ms_T) (Mh1 : hm_M αh1 a0 ρ σh1) (v1_h1 : Int32) (v2_h1 : Int32) (v3_h1 : Int32) (v4_h1 : Int32) (w0_h1 : Int32) (ls : Array Slot) (hl : lv_has ls 5 [(0, .ref a0), (1, .int v1_h1), (2, .int v2_h1), (3, .int v3_h1), (4, .int v4_h1)]) (hf : f_X12_growth__J32 n σh1 v1_h1 v2_h1 v3_h1 v4_h1 w0_h1 = some res), W p l e (hp_rm 43 0 0) s m ([.ref a0, .int a1, .int a2, .int a3, .int a4] : List Value).toArray below meth c Hh1 Lh1 0 0 (MQ below (hp_Qi Γ (fun r β => r = res.1 ∧ mo α β ∧ hm_M β a0 ρ res.2)) ([.ref a0, .int a1, .int a2, .int a3, .int a4] : List Value).toArray s 0 0 (hp_A Γ)) (F0 m 32 ls [.int w0_h1, .ref a0]) := by
    intro αh1 Hh1 Lh1 Bh1 σh1 Mh1 v1_h1 v2_h1 v3_h1 v4_h1 w0_h1 ls hl hf
    unfold f_X12_growth__J32 at hf
    obtain ⟨rh2, σh2, qh2, hf⟩ := ms_cE hf
    refine m_ci (pc' := 35) (a := a0) (ρ := ρ) Bh1 (hp_runV (As := [.int w0_h1]) (rest := []) C Bh1 (m_X12_is n Γ l αh1 a0 ρ σh1 Mh1 w0_h1 (rh2, σh2) qh2) lb_X12_is lv_X12_is lk_X12_309 Mh1.1 rfl (by decide) rfl hl.1 rfl (Nat.le_of_ble_eq_true rfl) dX12_growth__32 ⟨Nat.le_refl _, Nat.le_refl _⟩) rfl (fun αh2 Hh2 Lh2 Bh2 Mh2 => ?_)
    refine lv_if_ne (tgt := 40) hx hb dX12_growth__35 (by decide) (fun c3 => ?_) (fun c3 => hp_n (n := 38) rfl ?_)
    ·
      replace hf := ms_iF c3 hf
      refine lv_aload_n hx hb dX12_growth__40 rfl (lv_at hl 0 rfl) (hp_n (n := 41) rfl ?_)
      refine lv_aload_n hx hb dX12_growth__41 rfl (lv_at hl 0 rfl) (hp_n (n := 42) rfl ?_)
      obtain ⟨rh4, σh4, qh4, hf⟩ := ms_cE hf
      refine m_ci (pc' := 45) (a := a0) (ρ := ρ) Bh2 (hp_runV (As := []) (rest := [.ref a0]) C Bh2 (m_X12_fromPad n Γ l αh2 a0 ρ σh2 Mh2  (rh4, σh4) qh4) lb_X12_fromPad lv_X12_fromPad lk_X12_384 Mh2.1 rfl (by decide) rfl hl.1 rfl (Nat.le_of_ble_eq_true rfl) dX12_growth__42 ⟨Nat.le_refl _, Nat.le_refl _⟩) rfl (fun αh4 Hh4 Lh4 Bh4 Mh4 => ?_)
      refine lv_iload_n hx hb dX12_growth__45 rfl (lv_at hl 1 rfl) (hp_n (n := 46) rfl ?_)
      refine lv_iload_n hx hb dX12_growth__46 rfl (lv_at hl 2 rfl) (hp_n (n := 47) rfl ?_)
      refine lv_iload_n hx hb dX12_growth__47 rfl (lv_at hl 3 rfl) (hp_n (n := 48) rfl ?_)
      refine lv_iload hx hb dX12_growth__48 (lv_at hl 4 rfl) (hp_n (n := 50) rfl ?_)
      obtain ⟨rh5, σh5, qh5, hf⟩ := ms_cE hf
      refine m_ci (pc' := 53) (a := a0) (ρ := ρ) Bh4 (hp_runV (As := [.int rh4, .int v1_h1, .int v2_h1, .int v3_h1, .int v4_h1]) (rest := []) C Bh4 (m_X12_whyGrown n Γ l αh4 a0 ρ σh4 Mh4 rh4 v1_h1 v2_h1 v3_h1 v4_h1 (rh5, σh5) qh5) lb_X12_whyGrown lv_X12_whyGrown lk_X12_199 Mh4.1 rfl (by decide) rfl hl.1 rfl (Nat.le_of_ble_eq_true rfl) dX12_growth__50 ⟨Nat.le_refl _, Nat.le_refl _⟩) rfl (fun αh5 Hh5 Lh5 Bh5 Mh5 => ?_)
      cases hf
      exact q_iret C Bh5 hr hlk ⟨rfl, Bh5.2.2, Mh5⟩ dX12_growth__53
    ·
      replace hf := ms_iT c3 hf
      refine lv_iconst (v := (-1)) hx hb dX12_growth__38 (by decide) (hp_n (n := 39) rfl ?_)
      cases hf
      exact q_iret C Bh2 hr hlk ⟨rfl, Bh2.2.2, Mh2⟩ dX12_growth__39
  have J31 : ∀ (αh6 : hp_T) (Hh6 : Heap) (Lh6 : List Loc) (Bh6 : hp_B Γ mo s α αh6 Hh6 Lh6) (σh6 : ms_T) (Mh6 : hm_M αh6 a0 ρ σh6) (v1_h6 : Int32) (v2_h6 : Int32) (v3_h6 : Int32) (v4_h6 : Int32) (ls : Array Slot) (hl : lv_has ls 5 [(0, .ref a0), (1, .int v1_h6), (2, .int v2_h6), (3, .int v3_h6), (4, .int v4_h6)]) (hf : f_X12_growth__J31 n σh6 v1_h6 v2_h6 v3_h6 v4_h6 = some res), W p l e (hp_rm 43 0 0) s m ([.ref a0, .int a1, .int a2, .int a3, .int a4] : List Value).toArray below meth c Hh6 Lh6 0 0 (MQ below (hp_Qi Γ (fun r β => r = res.1 ∧ mo α β ∧ hm_M β a0 ρ res.2)) ([.ref a0, .int a1, .int a2, .int a3, .int a4] : List Value).toArray s 0 0 (hp_A Γ)) (F0 m 31 ls [.ref a0]) := by
    intro αh6 Hh6 Lh6 Bh6 σh6 Mh6 v1_h6 v2_h6 v3_h6 v4_h6 ls hl hf
    unfold f_X12_growth__J31 at hf
    refine lv_iconst (v := 1) hx hb dX12_growth__31 (by decide) (hp_n (n := 32) rfl ?_)
    exact J32 αh6 Hh6 Lh6 Bh6 σh6 Mh6 v1_h6 v2_h6 v3_h6 v4_h6 (1 : Int32) ls (lv_sub hl [0, 1, 2, 3, 4] rfl) hf
  refine lv_if_lt (tgt := 31) hx hb dX12_growth__2 (by decide) (fun c7 => ?_) (fun c7 => hp_n (n := 5) rfl ?_)
  ·
    replace hf := ms_iT c7 hf
    exact J31 α s.heap [] B σ hM a1 a2 a3 a4 ls (lv_sub hl [0, 1, 2, 3, 4] rfl) hf
  ·
    replace hf := ms_iF c7 hf
    refine lv_iload_n hx hb dX12_growth__5 rfl (lv_at hl 1 rfl) (hp_n (n := 6) rfl ?_)
    refine lv_iload_n hx hb dX12_growth__6 rfl (lv_at hl 3 rfl) (hp_n (n := 7) rfl ?_)
    refine lv_icmp_gt (tgt := 31) hx hb dX12_growth__7 (by decide) (fun c8 => ?_) (fun c8 => hp_n (n := 10) rfl ?_)
    ·
      replace hf := ms_iT c8 hf
      exact J31 α s.heap [] B σ hM a1 a2 a3 a4 ls (lv_sub hl [0, 1, 2, 3, 4] rfl) hf
    ·
      replace hf := ms_iF c8 hf
      refine lv_aload_n hx hb dX12_growth__10 rfl (lv_at hl 0 rfl) (hp_n (n := 11) rfl ?_)
      refine lv_iload_n hx hb dX12_growth__11 rfl (lv_at hl 2 rfl) (hp_n (n := 12) rfl ?_)
      obtain ⟨rh9, qh9, hf⟩ := ms_bE hf
      refine m_cp (pc' := 15) B (hp_runV (As := [.int a2]) (rest := [.ref a0]) C B (m_X12_isMark n Γ l α a0 ρ σ hM a2 rh9 qh9) lb_X12_isMark lv_X12_isMark lk_X12_321 hM.1 rfl (by decide) rfl hl.1 rfl (Nat.le_of_ble_eq_true rfl) dX12_growth__12 ⟨Nat.le_refl _, Nat.le_refl _⟩) rfl (fun Hh9 Lh9 Bh9 => ?_)
      refine lv_if_eq (tgt := 31) hx hb dX12_growth__15 (by decide) (fun c10 => ?_) (fun c10 => hp_n (n := 18) rfl ?_)
      ·
        replace hf := ms_iT c10 hf
        exact J31 α Hh9 Lh9 Bh9 σ hM a1 a2 a3 a4 ls (lv_sub hl [0, 1, 2, 3, 4] rfl) hf
      ·
        replace hf := ms_iF c10 hf
        refine lv_aload_n hx hb dX12_growth__18 rfl (lv_at hl 0 rfl) (hp_n (n := 19) rfl ?_)
        refine lv_iload hx hb dX12_growth__19 (lv_at hl 4 rfl) (hp_n (n := 21) rfl ?_)
        obtain ⟨rh11, qh11, hf⟩ := ms_bE hf
        refine m_cp (pc' := 24) Bh9 (hp_runV (As := [.int a4]) (rest := [.ref a0]) C Bh9 (m_X12_isMark n Γ l α a0 ρ σ hM a4 rh11 qh11) lb_X12_isMark lv_X12_isMark lk_X12_321 hM.1 rfl (by decide) rfl hl.1 rfl (Nat.le_of_ble_eq_true rfl) dX12_growth__21 ⟨Nat.le_refl _, Nat.le_refl _⟩) rfl (fun Hh11 Lh11 Bh11 => ?_)
        refine lv_if_eq (tgt := 31) hx hb dX12_growth__24 (by decide) (fun c12 => ?_) (fun c12 => hp_n (n := 27) rfl ?_)
        ·
          replace hf := ms_iT c12 hf
          exact J31 α Hh11 Lh11 Bh11 σ hM a1 a2 a3 a4 ls (lv_sub hl [0, 1, 2, 3, 4] rfl) hf
        ·
          replace hf := ms_iF c12 hf
          refine lv_iconst (v := 0) hx hb dX12_growth__27 (by decide) (hp_n (n := 28) rfl ?_)
          refine lv_goto (tgt := 32) hx hb dX12_growth__28 (by decide) ?_
          exact J32 α Hh11 Lh11 Bh11 σ hM a1 a2 a3 a4 (0 : Int32) ls (lv_sub hl [0, 1, 2, 3, 4] rfl) hf
def f_X12_bundled_J104 (n : Nat) (σh10 : ms_T) (w0_h10 : Int32) (w1_h10 : Int32) (w2_h10 : Int32) : Option (Int32 × ms_T) :=
  ms_b (f_X12_why n σh10 w2_h10 w1_h10 w0_h10) fun rh11 =>
  some (rh11, σh10)
def f_X12_bundled_J99 (n : Nat) (σh12 : ms_T) (w0_h12 : Int32) (w1_h12 : Int32) : Option (Int32 × ms_T) :=
  f_X12_bundled_J104 n σh12 (1 : Int32) w0_h12 w1_h12
def f_X12_bundled_J30 (n : Nat) (σh1 : ms_T) (v1_h1 : Int32) (v2_h1 : Int32) (v3_h1 : Int32) (w0_h1 : Int32) : Option (Int32 × ms_T) :=
  ms_c (f_X12_is n σh1 w0_h1) fun rh2 σh2 =>
  if rh2 = 0 then
    some ((-1 : Int32), σh2)
  else
    ms_b (f_X12_bundleOf n σh2 v1_h1 v2_h1) fun σh4 =>
    ms_b (f_J6_bitCount_0f7a4 n v1_h1) fun rh5 =>
    ms_l ((rh5 + (ms_I σh4 657))) fun x6 =>
    ms_c (f_X12_fromPad n σh4) fun rh7 σh7 =>
    ms_l (ms_sI σh7 658 rh5) fun σh8 =>
    ms_l (ms_sI σh8 661 (0 : Int32)) fun σh9 =>
    if rh7 = x6 then
      ms_c (f_X12_foldsBundle n 40 σh9 v1_h1 (0 : Int32) v2_h1) fun rh14 σh14 =>
      if rh14 = v3_h1 then
        f_X12_bundled_J99 n σh14 x6 rh7
      else
        f_X12_bundled_J104 n σh14 (0 : Int32) x6 rh7
    else
      f_X12_bundled_J99 n σh9 x6 rh7
def f_X12_bundled_J25 (n : Nat) (σh16 : ms_T) (v1_h16 : Int32) (v2_h16 : Int32) (v3_h16 : Int32) : Option (Int32 × ms_T) :=
  f_X12_bundled_J30 n σh16 v1_h16 v2_h16 v3_h16 (1 : Int32)
def f_X12_bundled (n : Nat) (σ : ms_T) (a1 : Int32) (a2 : Int32) (a3 : Int32) : Option (Int32 × ms_T) :=
  if a2 < 0 then
    f_X12_bundled_J25 n σ a1 a2 a3
  else
    if a1 ≤ 0 then
      f_X12_bundled_J25 n σ a1 a2 a3
    else
      ms_b (f_X12_isBeyond n a1 a2) fun rh19 =>
      if rh19 = 0 then
        ms_b (f_X12_isMark n σ a3) fun rh21 =>
        if rh21 = 0 then
          f_X12_bundled_J25 n σ a1 a2 a3
        else
          f_X12_bundled_J30 n σ a1 a2 a3 (0 : Int32)
      else
        f_X12_bundled_J25 n σ a1 a2 a3
set_option maxRecDepth 100000 in
set_option maxHeartbeats 4000000 in
theorem m_X12_bundled (n : Nat) (Γ : hp_G) (l : Launch) (α : hp_T) (a0 : Nat) (ρ : Nat → Nat) (σ : ms_T) (hM : hm_M α a0 ρ σ) (a1 : Int32) (a2 : Int32) (a3 : Int32) (res : (Int32 × ms_T)) (hf : f_X12_bundled n σ a1 a2 a3 = some res) : Met l yX12_bundled (hp_ws yX12_bundled cX12_bundled 7 (some .int)) (hp_rm 42 0 0) (hp_Pc Γ α [.ref a0, .int a1, .int a2, .int a3]) (hp_Qi Γ (fun r β => r = res.1 ∧ mo α β ∧ hm_M β a0 ρ res.2)) 0 0 (hp_A Γ) := by
  unfold f_X12_bundled at hf
  refine hp_start (by decide) ?_
  intro p e s m below meth c C hr hlk B0 hnm
  have C : hp_C Γ p m c cX12_bundled 7 s ([.ref a0, .int a1, .int a2, .int a3] : List Value).toArray RX12 := C
  have hx := C.1.1
  have hb := C.1.2.1
  have hown := C.1.2.2.2.1
  have hts := C.1.2.2.2.2
  have B : hp_B Γ mo s α α s.heap [] := ⟨B0.1, B0.2.1, mo_rf⟩
  have hl := lv_entry ([.ref a0, .int a1, .int a2, .int a3]) (n := 7) (Nat.le_of_ble_eq_true rfl)
  show W p l e (hp_rm 42 0 0) s m ([.ref a0, .int a1, .int a2, .int a3] : List Value).toArray below meth c s.heap [] 0 0 (MQ below (hp_Qi Γ (fun r β => r = res.1 ∧ mo α β ∧ hm_M β a0 ρ res.2)) ([.ref a0, .int a1, .int a2, .int a3] : List Value).toArray s 0 0 (hp_A Γ)) (entryFrame m ([.ref a0, .int a1, .int a2, .int a3] : List Value).toArray 7)
  rw [lg_entry_eq]
  generalize (lg_sl ([.ref a0, .int a1, .int a2, .int a3]) ++ List.replicate (7 - (lg_sl ([.ref a0, .int a1, .int a2, .int a3])).length) Slot.unset).toArray = ls at hl ⊢
  have hl : lv_has ls 7 [(0, .ref a0), (1, .int a1), (2, .int a2), (3, .int a3)] := hl
  refine lv_aload_n hx hb dX12_bundled_0 rfl (lv_at hl 0 rfl) (hp_n (n := 1) rfl ?_)
  refine lv_iload_n hx hb dX12_bundled_1 rfl (lv_at hl 2 rfl) (hp_n (n := 2) rfl ?_)
  have J30 : ∀ (αh1 : hp_T) (Hh1 : Heap) (Lh1 : List Loc) (Bh1 : hp_B Γ mo s α αh1 Hh1 Lh1) (σh1 : ms_T) (Mh1 : hm_M αh1 a0 ρ σh1) (v1_h1 : Int32) (v2_h1 : Int32) (v3_h1 : Int32) (w0_h1 : Int32) (ls : Array Slot) (hl : lv_has ls 7 [(0, .ref a0), (1, .int v1_h1), (2, .int v2_h1), (3, .int v3_h1)]) (hf : f_X12_bundled_J30 n σh1 v1_h1 v2_h1 v3_h1 w0_h1 = some res), W p l e (hp_rm 42 0 0) s m ([.ref a0, .int a1, .int a2, .int a3] : List Value).toArray below meth c Hh1 Lh1 0 0 (MQ below (hp_Qi Γ (fun r β => r = res.1 ∧ mo α β ∧ hm_M β a0 ρ res.2)) ([.ref a0, .int a1, .int a2, .int a3] : List Value).toArray s 0 0 (hp_A Γ)) (F0 m 30 ls [.int w0_h1, .ref a0]) := by
    intro αh1 Hh1 Lh1 Bh1 σh1 Mh1 v1_h1 v2_h1 v3_h1 w0_h1 ls hl hf
    unfold f_X12_bundled_J30 at hf
    obtain ⟨rh2, σh2, qh2, hf⟩ := ms_cE hf
    refine m_ci (pc' := 33) (a := a0) (ρ := ρ) Bh1 (hp_runV (As := [.int w0_h1]) (rest := []) C Bh1 (m_X12_is n Γ l αh1 a0 ρ σh1 Mh1 w0_h1 (rh2, σh2) qh2) lb_X12_is lv_X12_is lk_X12_309 Mh1.1 rfl (by decide) rfl hl.1 rfl (Nat.le_of_ble_eq_true rfl) dX12_bundled_30 ⟨Nat.le_refl _, Nat.le_refl _⟩) rfl (fun αh2 Hh2 Lh2 Bh2 Mh2 => ?_)
    refine lv_if_ne (tgt := 38) hx hb dX12_bundled_33 (by decide) (fun c3 => ?_) (fun c3 => hp_n (n := 36) rfl ?_)
    ·
      replace hf := ms_iF c3 hf
      refine lv_aload_n hx hb dX12_bundled_38 rfl (lv_at hl 0 rfl) (hp_n (n := 39) rfl ?_)
      refine lv_iload_n hx hb dX12_bundled_39 rfl (lv_at hl 1 rfl) (hp_n (n := 40) rfl ?_)
      refine lv_iload_n hx hb dX12_bundled_40 rfl (lv_at hl 2 rfl) (hp_n (n := 41) rfl ?_)
      obtain ⟨σh4, qh4, hf⟩ := ms_bE hf
      refine m_cv (pc' := 44) (a := a0) (ρ := ρ) Bh2 (hp_runV (As := [.int v1_h1, .int v2_h1]) (rest := []) C Bh2 (m_X12_bundleOf n Γ l αh2 a0 ρ σh2 Mh2 v1_h1 v2_h1 σh4 qh4) lb_X12_bundleOf lv_X12_bundleOf lk_X12_372 Mh2.1 rfl (by decide) rfl hl.1 rfl (Nat.le_of_ble_eq_true rfl) dX12_bundled_41 ⟨Nat.le_refl _, Nat.le_refl _⟩) rfl (fun αh4 Hh4 Lh4 Bh4 Mh4 => ?_)
      refine lv_iload_n hx hb dX12_bundled_44 rfl (lv_at hl 1 rfl) (hp_n (n := 45) rfl ?_)
      obtain ⟨rh5, qh5, hf⟩ := ms_bE hf
      refine m_cp (pc' := 48) Bh4 (hp_runS (As := [.int v1_h1]) (rest := []) C Bh4 (m_J6_bitCount_0f7a4 n Γ l αh4 v1_h1 rh5 qh5) lb_J6_bitCount_0f7a4 ls_J6_bitCount_0f7a4 lk_X12_376 rfl (by decide) rfl hl.1 rfl (Nat.le_of_ble_eq_true rfl) dX12_bundled_45 ⟨Nat.le_refl _, Nat.le_refl _⟩) rfl (fun Hh5 Lh5 Bh5 => ?_)
      refine lv_istore (lv' := [(4, .int rh5), (0, .ref a0), (1, .int v1_h1), (2, .int v2_h1), (3, .int v3_h1)]) hx hb dX12_bundled_48 hl (by decide) rfl (fun ls hl => hp_n (n := 50) rfl ?_)
      refine lv_iload hx hb dX12_bundled_50 (lv_at hl 0 rfl) (hp_n (n := 52) rfl ?_)
      refine lv_aload_n hx hb dX12_bundled_52 rfl (lv_at hl 1 rfl) (hp_n (n := 53) rfl ?_)
      refine m_geti (k := 7) (φ := 657) (pc' := 56) C Bh5 Mh4 fl_X12_139 rfl rfl dX12_bundled_53 rfl ?_
      refine lv_iadd hx hb dX12_bundled_56 (hp_n (n := 57) rfl ?_)
      refine lv_topi (fun x6 ex6 => ?_)
      replace hf := ms_lE ex6 hf
      refine lv_istore (lv' := [(5, .int x6), (4, .int rh5), (0, .ref a0), (1, .int v1_h1), (2, .int v2_h1), (3, .int v3_h1)]) hx hb dX12_bundled_57 hl (by decide) rfl (fun ls hl => hp_n (n := 59) rfl ?_)
      refine lv_aload_n hx hb dX12_bundled_59 rfl (lv_at hl 2 rfl) (hp_n (n := 60) rfl ?_)
      obtain ⟨rh7, σh7, qh7, hf⟩ := ms_cE hf
      refine m_ci (pc' := 63) (a := a0) (ρ := ρ) Bh5 (hp_runV (As := []) (rest := []) C Bh5 (m_X12_fromPad n Γ l αh4 a0 ρ σh4 Mh4  (rh7, σh7) qh7) lb_X12_fromPad lv_X12_fromPad lk_X12_384 Mh4.1 rfl (by decide) rfl hl.1 rfl (Nat.le_of_ble_eq_true rfl) dX12_bundled_60 ⟨Nat.le_refl _, Nat.le_refl _⟩) rfl (fun αh7 Hh7 Lh7 Bh7 Mh7 => ?_)
      refine lv_istore (lv' := [(6, .int rh7), (5, .int x6), (4, .int rh5), (0, .ref a0), (1, .int v1_h1), (2, .int v2_h1), (3, .int v3_h1)]) hx hb dX12_bundled_63 hl (by decide) rfl (fun ls hl => hp_n (n := 65) rfl ?_)
      refine lv_aload_n hx hb dX12_bundled_65 rfl (lv_at hl 3 rfl) (hp_n (n := 66) rfl ?_)
      refine lv_iload hx hb dX12_bundled_66 (lv_at hl 2 rfl) (hp_n (n := 68) rfl ?_)
      refine m_puti (k := 8) (φ := 658) (pc' := 71) C Bh7 Mh7 fl_X12_168 rfl rfl rfl rfl rfl dX12_bundled_68 rfl (fun αh8 Hh8 Lh8 σh8 eh8 Bh8 Mh8 => ?_)
      replace hf := ms_lE eh8 hf
      refine lv_aload_n hx hb dX12_bundled_71 rfl (lv_at hl 3 rfl) (hp_n (n := 72) rfl ?_)
      refine lv_iconst (v := 0) hx hb dX12_bundled_72 (by decide) (hp_n (n := 73) rfl ?_)
      refine m_puti (k := 11) (φ := 661) (pc' := 76) C Bh8 Mh8 fl_X12_193 rfl rfl rfl rfl rfl dX12_bundled_73 rfl (fun αh9 Hh9 Lh9 σh9 eh9 Bh9 Mh9 => ?_)
      replace hf := ms_lE eh9 hf
      refine lv_aload_n hx hb dX12_bundled_76 rfl (lv_at hl 3 rfl) (hp_n (n := 77) rfl ?_)
      refine lv_iload hx hb dX12_bundled_77 (lv_at hl 0 rfl) (hp_n (n := 79) rfl ?_)
      refine lv_iload hx hb dX12_bundled_79 (lv_at hl 1 rfl) (hp_n (n := 81) rfl ?_)
      refine lv_iload hx hb dX12_bundled_81 (lv_at hl 0 rfl) (hp_n (n := 83) rfl ?_)
      refine lv_iload hx hb dX12_bundled_83 (lv_at hl 1 rfl) (hp_n (n := 85) rfl ?_)
      have J104 : ∀ (αh10 : hp_T) (Hh10 : Heap) (Lh10 : List Loc) (Bh10 : hp_B Γ mo s α αh10 Hh10 Lh10) (σh10 : ms_T) (Mh10 : hm_M αh10 a0 ρ σh10) (w0_h10 : Int32) (w1_h10 : Int32) (w2_h10 : Int32) (ls : Array Slot) (hl : lv_has ls 7 []) (hf : f_X12_bundled_J104 n σh10 w0_h10 w1_h10 w2_h10 = some res), W p l e (hp_rm 42 0 0) s m ([.ref a0, .int a1, .int a2, .int a3] : List Value).toArray below meth c Hh10 Lh10 0 0 (MQ below (hp_Qi Γ (fun r β => r = res.1 ∧ mo α β ∧ hm_M β a0 ρ res.2)) ([.ref a0, .int a1, .int a2, .int a3] : List Value).toArray s 0 0 (hp_A Γ)) (F0 m 104 ls [.int w0_h10, .int w1_h10, .int w2_h10, .ref a0]) := by
        intro αh10 Hh10 Lh10 Bh10 σh10 Mh10 w0_h10 w1_h10 w2_h10 ls hl hf
        unfold f_X12_bundled_J104 at hf
        obtain ⟨rh11, qh11, hf⟩ := ms_bE hf
        refine m_cp (pc' := 107) Bh10 (hp_runV (As := [.int w2_h10, .int w1_h10, .int w0_h10]) (rest := []) C Bh10 (m_X12_why n Γ l αh10 a0 ρ σh10 Mh10 w2_h10 w1_h10 w0_h10 rh11 qh11) lb_X12_why lv_X12_why lk_X12_177 Mh10.1 rfl (by decide) rfl hl.1 rfl (Nat.le_of_ble_eq_true rfl) dX12_bundled_104 ⟨Nat.le_refl _, Nat.le_refl _⟩) rfl (fun Hh11 Lh11 Bh11 => ?_)
        cases hf
        exact q_iret C Bh11 hr hlk ⟨rfl, Bh11.2.2, Mh10⟩ dX12_bundled_107
      have J99 : ∀ (αh12 : hp_T) (Hh12 : Heap) (Lh12 : List Loc) (Bh12 : hp_B Γ mo s α αh12 Hh12 Lh12) (σh12 : ms_T) (Mh12 : hm_M αh12 a0 ρ σh12) (w0_h12 : Int32) (w1_h12 : Int32) (ls : Array Slot) (hl : lv_has ls 7 []) (hf : f_X12_bundled_J99 n σh12 w0_h12 w1_h12 = some res), W p l e (hp_rm 42 0 0) s m ([.ref a0, .int a1, .int a2, .int a3] : List Value).toArray below meth c Hh12 Lh12 0 0 (MQ below (hp_Qi Γ (fun r β => r = res.1 ∧ mo α β ∧ hm_M β a0 ρ res.2)) ([.ref a0, .int a1, .int a2, .int a3] : List Value).toArray s 0 0 (hp_A Γ)) (F0 m 99 ls [.int w0_h12, .int w1_h12, .ref a0]) := by
        intro αh12 Hh12 Lh12 Bh12 σh12 Mh12 w0_h12 w1_h12 ls hl hf
        unfold f_X12_bundled_J99 at hf
        refine lv_iconst (v := 1) hx hb dX12_bundled_99 (by decide) (hp_n (n := 100) rfl ?_)
        refine lv_goto (tgt := 104) hx hb dX12_bundled_100 (by decide) ?_
        exact J104 αh12 Hh12 Lh12 Bh12 σh12 Mh12 (1 : Int32) w0_h12 w1_h12 ls (lv_sub hl [] rfl) hf
      refine lv_icmp_ne (tgt := 99) hx hb dX12_bundled_85 (by decide) (fun c13 => ?_) (fun c13 => hp_n (n := 88) rfl ?_)
      ·
        replace hf := ms_iF c13 hf
        exact J99 αh9 Hh9 Lh9 Bh9 σh9 Mh9 x6 rh7 ls (lv_sub hl [] rfl) hf
      ·
        replace hf := ms_iT c13 hf
        refine lv_aload_n hx hb dX12_bundled_88 rfl (lv_at hl 3 rfl) (hp_n (n := 89) rfl ?_)
        refine lv_iload_n hx hb dX12_bundled_89 rfl (lv_at hl 4 rfl) (hp_n (n := 90) rfl ?_)
        refine lv_iconst (v := 0) hx hb dX12_bundled_90 (by decide) (hp_n (n := 91) rfl ?_)
        refine lv_iload_n hx hb dX12_bundled_91 rfl (lv_at hl 5 rfl) (hp_n (n := 92) rfl ?_)
        obtain ⟨rh14, σh14, qh14, hf⟩ := ms_cE hf
        refine m_ci (pc' := 95) (a := a0) (ρ := ρ) Bh9 (hp_runV (As := [.int v1_h1, .int (0 : Int32), .int v2_h1]) (rest := [.int x6, .int rh7, .ref a0]) C Bh9 (m_X12_foldsBundle n 40 Γ l αh9 a0 ρ σh9 Mh9 v1_h1 (0 : Int32) v2_h1 (rh14, σh14) qh14) lb_X12_foldsBundle lv_X12_foldsBundle lk_X12_196 Mh9.1 rfl (by decide) rfl hl.1 rfl (Nat.le_of_ble_eq_true rfl) dX12_bundled_92 ⟨Nat.le_refl _, Nat.le_refl _⟩) rfl (fun αh14 Hh14 Lh14 Bh14 Mh14 => ?_)
        refine lv_iload_n hx hb dX12_bundled_95 rfl (lv_at hl 6 rfl) (hp_n (n := 96) rfl ?_)
        refine lv_icmp_ne (tgt := 103) hx hb dX12_bundled_96 (by decide) (fun c15 => ?_) (fun c15 => hp_n (n := 99) rfl ?_)
        ·
          replace hf := ms_iF c15 hf
          refine lv_iconst (v := 0) hx hb dX12_bundled_103 (by decide) (hp_n (n := 104) rfl ?_)
          exact J104 αh14 Hh14 Lh14 Bh14 σh14 Mh14 (0 : Int32) x6 rh7 ls (lv_sub hl [] rfl) hf
        ·
          replace hf := ms_iT c15 hf
          exact J99 αh14 Hh14 Lh14 Bh14 σh14 Mh14 x6 rh7 ls (lv_sub hl [] rfl) hf
    ·
      replace hf := ms_iT c3 hf
      refine lv_iconst (v := (-1)) hx hb dX12_bundled_36 (by decide) (hp_n (n := 37) rfl ?_)
      cases hf
      exact q_iret C Bh2 hr hlk ⟨rfl, Bh2.2.2, Mh2⟩ dX12_bundled_37
  have J25 : ∀ (αh16 : hp_T) (Hh16 : Heap) (Lh16 : List Loc) (Bh16 : hp_B Γ mo s α αh16 Hh16 Lh16) (σh16 : ms_T) (Mh16 : hm_M αh16 a0 ρ σh16) (v1_h16 : Int32) (v2_h16 : Int32) (v3_h16 : Int32) (ls : Array Slot) (hl : lv_has ls 7 [(0, .ref a0), (1, .int v1_h16), (2, .int v2_h16), (3, .int v3_h16)]) (hf : f_X12_bundled_J25 n σh16 v1_h16 v2_h16 v3_h16 = some res), W p l e (hp_rm 42 0 0) s m ([.ref a0, .int a1, .int a2, .int a3] : List Value).toArray below meth c Hh16 Lh16 0 0 (MQ below (hp_Qi Γ (fun r β => r = res.1 ∧ mo α β ∧ hm_M β a0 ρ res.2)) ([.ref a0, .int a1, .int a2, .int a3] : List Value).toArray s 0 0 (hp_A Γ)) (F0 m 25 ls [.ref a0]) := by
    intro αh16 Hh16 Lh16 Bh16 σh16 Mh16 v1_h16 v2_h16 v3_h16 ls hl hf
    unfold f_X12_bundled_J25 at hf
    refine lv_iconst (v := 1) hx hb dX12_bundled_25 (by decide) (hp_n (n := 26) rfl ?_)
    refine lv_goto (tgt := 30) hx hb dX12_bundled_26 (by decide) ?_
    exact J30 αh16 Hh16 Lh16 Bh16 σh16 Mh16 v1_h16 v2_h16 v3_h16 (1 : Int32) ls (lv_sub hl [0, 1, 2, 3] rfl) hf
  refine lv_if_lt (tgt := 25) hx hb dX12_bundled_2 (by decide) (fun c17 => ?_) (fun c17 => hp_n (n := 5) rfl ?_)
  ·
    replace hf := ms_iT c17 hf
    exact J25 α s.heap [] B σ hM a1 a2 a3 ls (lv_sub hl [0, 1, 2, 3] rfl) hf
  ·
    replace hf := ms_iF c17 hf
    refine lv_iload_n hx hb dX12_bundled_5 rfl (lv_at hl 1 rfl) (hp_n (n := 6) rfl ?_)
    refine lv_if_le (tgt := 25) hx hb dX12_bundled_6 (by decide) (fun c18 => ?_) (fun c18 => hp_n (n := 9) rfl ?_)
    ·
      replace hf := ms_iT c18 hf
      exact J25 α s.heap [] B σ hM a1 a2 a3 ls (lv_sub hl [0, 1, 2, 3] rfl) hf
    ·
      replace hf := ms_iF c18 hf
      refine lv_iload_n hx hb dX12_bundled_9 rfl (lv_at hl 1 rfl) (hp_n (n := 10) rfl ?_)
      refine lv_iload_n hx hb dX12_bundled_10 rfl (lv_at hl 2 rfl) (hp_n (n := 11) rfl ?_)
      obtain ⟨rh19, qh19, hf⟩ := ms_bE hf
      refine m_cp (pc' := 14) B (hp_runS (As := [.int a1, .int a2]) (rest := [.ref a0]) C B (m_X12_isBeyond n Γ l α a1 a2 rh19 qh19) lb_X12_isBeyond ls_X12_isBeyond lk_X12_368 rfl (by decide) rfl hl.1 rfl (Nat.le_of_ble_eq_true rfl) dX12_bundled_11 ⟨Nat.le_refl _, Nat.le_refl _⟩) rfl (fun Hh19 Lh19 Bh19 => ?_)
      refine lv_if_ne (tgt := 25) hx hb dX12_bundled_14 (by decide) (fun c20 => ?_) (fun c20 => hp_n (n := 17) rfl ?_)
      ·
        replace hf := ms_iF c20 hf
        exact J25 α Hh19 Lh19 Bh19 σ hM a1 a2 a3 ls (lv_sub hl [0, 1, 2, 3] rfl) hf
      ·
        replace hf := ms_iT c20 hf
        refine lv_aload_n hx hb dX12_bundled_17 rfl (lv_at hl 0 rfl) (hp_n (n := 18) rfl ?_)
        refine lv_iload_n hx hb dX12_bundled_18 rfl (lv_at hl 3 rfl) (hp_n (n := 19) rfl ?_)
        obtain ⟨rh21, qh21, hf⟩ := ms_bE hf
        refine m_cp (pc' := 22) Bh19 (hp_runV (As := [.int a3]) (rest := [.ref a0]) C Bh19 (m_X12_isMark n Γ l α a0 ρ σ hM a3 rh21 qh21) lb_X12_isMark lv_X12_isMark lk_X12_321 hM.1 rfl (by decide) rfl hl.1 rfl (Nat.le_of_ble_eq_true rfl) dX12_bundled_19 ⟨Nat.le_refl _, Nat.le_refl _⟩) rfl (fun Hh21 Lh21 Bh21 => ?_)
        refine lv_if_ne (tgt := 29) hx hb dX12_bundled_22 (by decide) (fun c22 => ?_) (fun c22 => hp_n (n := 25) rfl ?_)
        ·
          replace hf := ms_iF c22 hf
          refine lv_iconst (v := 0) hx hb dX12_bundled_29 (by decide) (hp_n (n := 30) rfl ?_)
          exact J30 α Hh21 Lh21 Bh21 σ hM a1 a2 a3 (0 : Int32) ls (lv_sub hl [0, 1, 2, 3] rfl) hf
        ·
          replace hf := ms_iT c22 hf
          exact J25 α Hh21 Lh21 Bh21 σ hM a1 a2 a3 ls (lv_sub hl [0, 1, 2, 3] rfl) hf
def f_X12_fold_L43 (n : Nat) : Nat → ms_T → Int32 → Int32 → Option (Int32 × ms_T)
  | 0, _, _, _ => none
  | k43 + 1, σh8, v1_h8, v2_h8 =>
    if v2_h8 < 0 then
      some (v1_h8, σh8)
    else
      ms_g ((8 : Int32) + v2_h8) 1980 <|
      ms_b (f_X12_both n σh8 (ms_E σh8 40 (((8 : Int32) + v2_h8)).toNatClampNeg) v1_h8) fun rh11 =>
      ms_l (v2_h8 + (-1)) fun x12 =>
      (f_X12_fold_L43 n k43) σh8 rh11 x12
def f_X12_fold (n : Nat) (σ : ms_T) : Option (Int32 × ms_T) :=
  ms_c (f_X12_is n σ (0 : Int32)) fun rh1 σh1 =>
  ms_g (2 : Int32) 1980 <|
  if (ms_E σh1 40 ((2 : Int32)).toNatClampNeg) = 0 then
    some ((0 : Int32), σh1)
  else
    ms_g (2 : Int32) 1980 <|
    ms_g (((8 : Int32) + (ms_E σh1 40 ((2 : Int32)).toNatClampNeg)) - (1 : Int32)) 1980 <|
    ms_l ((ms_E σh1 40 ((((8 : Int32) + (ms_E σh1 40 ((2 : Int32)).toNatClampNeg)) - (1 : Int32))).toNatClampNeg)) fun x6 =>
    ms_g (2 : Int32) 1980 <|
    ms_l (((ms_E σh1 40 ((2 : Int32)).toNatClampNeg) - (2 : Int32))) fun x13 =>
    f_X12_fold_L43 n n σh1 x6 x13
set_option maxRecDepth 100000 in
set_option maxHeartbeats 4000000 in
theorem m_X12_fold (n : Nat) (Γ : hp_G) (l : Launch) (α : hp_T) (a0 : Nat) (ρ : Nat → Nat) (σ : ms_T) (hM : hm_M α a0 ρ σ)  (res : (Int32 × ms_T)) (hf : f_X12_fold n σ = some res) : Met l yX12_fold (hp_ws yX12_fold cX12_fold 3 (some .int)) (hp_rm 2 0 0) (hp_Pc Γ α [.ref a0]) (hp_Qi Γ (fun r β => r = res.1 ∧ mo α β ∧ hm_M β a0 ρ res.2)) 0 0 (hp_A Γ) := by
  unfold f_X12_fold at hf
  refine hp_start (by decide) ?_
  intro p e s m below meth c C hr hlk B0 hnm
  have C : hp_C Γ p m c cX12_fold 3 s ([.ref a0] : List Value).toArray RX12 := C
  have hx := C.1.1
  have hb := C.1.2.1
  have hown := C.1.2.2.2.1
  have hts := C.1.2.2.2.2
  have B : hp_B Γ mo s α α s.heap [] := ⟨B0.1, B0.2.1, mo_rf⟩
  have hl := lv_entry ([.ref a0]) (n := 3) (Nat.le_of_ble_eq_true rfl)
  show W p l e (hp_rm 2 0 0) s m ([.ref a0] : List Value).toArray below meth c s.heap [] 0 0 (MQ below (hp_Qi Γ (fun r β => r = res.1 ∧ mo α β ∧ hm_M β a0 ρ res.2)) ([.ref a0] : List Value).toArray s 0 0 (hp_A Γ)) (entryFrame m ([.ref a0] : List Value).toArray 3)
  rw [lg_entry_eq]
  generalize (lg_sl ([.ref a0]) ++ List.replicate (3 - (lg_sl ([.ref a0])).length) Slot.unset).toArray = ls at hl ⊢
  have hl : lv_has ls 3 [(0, .ref a0)] := hl
  refine lv_aload_n hx hb dX12_fold_0 rfl (lv_at hl 0 rfl) (hp_n (n := 1) rfl ?_)
  refine lv_iconst (v := 0) hx hb dX12_fold_1 (by decide) (hp_n (n := 2) rfl ?_)
  obtain ⟨rh1, σh1, qh1, hf⟩ := ms_cE hf
  refine m_ci (pc' := 5) (a := a0) (ρ := ρ) B (hp_runV (As := [.int (0 : Int32)]) (rest := []) C B (m_X12_is n Γ l α a0 ρ σ hM (0 : Int32) (rh1, σh1) qh1) lb_X12_is lv_X12_is lk_X12_309 hM.1 rfl (by decide) rfl hl.1 rfl (Nat.le_of_ble_eq_true rfl) dX12_fold_2 ⟨Nat.le_refl _, Nat.le_refl _⟩) rfl (fun αh1 Hh1 Lh1 Bh1 Mh1 => ?_)
  refine lv_pop hx hb dX12_fold_5 rfl (hp_n (n := 6) rfl ?_)
  refine lv_aload_n hx hb dX12_fold_6 rfl (lv_at hl 0 rfl) (hp_n (n := 7) rfl ?_)
  refine m_getr (κ := 40) (k := 0) (pc' := 10) C Bh1 Mh1 fl_X12_7 rfl (by decide) dX12_fold_7 rfl ?_
  refine lv_iconst (v := 2) hx hb dX12_fold_10 (by decide) (hp_n (n := 11) rfl ?_)
  obtain ⟨g2, hf⟩ := ms_gE hf
  refine m_ial (κ := 40) (φ := 650) (n := 1980) (pc' := 12) C Bh1 Mh1 (by decide) (by decide) rfl g2 dX12_fold_11 rfl ?_
  refine lv_if_ne (tgt := 17) hx hb dX12_fold_12 (by decide) (fun c3 => ?_) (fun c3 => hp_n (n := 15) rfl ?_)
  ·
    replace hf := ms_iF c3 hf
    refine lv_aload_n hx hb dX12_fold_17 rfl (lv_at hl 0 rfl) (hp_n (n := 18) rfl ?_)
    refine m_getr (κ := 40) (k := 0) (pc' := 21) C Bh1 Mh1 fl_X12_7 rfl (by decide) dX12_fold_18 rfl ?_
    refine lv_bipush (v := 8) hx hb dX12_fold_21 (by decide) (hp_n (n := 23) rfl ?_)
    refine lv_aload_n hx hb dX12_fold_23 rfl (lv_at hl 0 rfl) (hp_n (n := 24) rfl ?_)
    refine m_getr (κ := 40) (k := 0) (pc' := 27) C Bh1 Mh1 fl_X12_7 rfl (by decide) dX12_fold_24 rfl ?_
    refine lv_iconst (v := 2) hx hb dX12_fold_27 (by decide) (hp_n (n := 28) rfl ?_)
    obtain ⟨g4, hf⟩ := ms_gE hf
    refine m_ial (κ := 40) (φ := 650) (n := 1980) (pc' := 29) C Bh1 Mh1 (by decide) (by decide) rfl g4 dX12_fold_28 rfl ?_
    refine lv_iadd hx hb dX12_fold_29 (hp_n (n := 30) rfl ?_)
    refine lv_iconst (v := 1) hx hb dX12_fold_30 (by decide) (hp_n (n := 31) rfl ?_)
    refine lv_isub hx hb dX12_fold_31 (hp_n (n := 32) rfl ?_)
    obtain ⟨g5, hf⟩ := ms_gE hf
    refine m_ial (κ := 40) (φ := 650) (n := 1980) (pc' := 33) C Bh1 Mh1 (by decide) (by decide) rfl g5 dX12_fold_32 rfl ?_
    refine lv_topi (fun x6 ex6 => ?_)
    replace hf := ms_lE ex6 hf
    refine lv_istore_n (lv' := [(1, .int x6), (0, .ref a0)]) hx hb dX12_fold_33 rfl hl (by decide) rfl (fun ls hl => hp_n (n := 34) rfl ?_)
    refine lv_aload_n hx hb dX12_fold_34 rfl (lv_at hl 1 rfl) (hp_n (n := 35) rfl ?_)
    refine m_getr (κ := 40) (k := 0) (pc' := 38) C Bh1 Mh1 fl_X12_7 rfl (by decide) dX12_fold_35 rfl ?_
    refine lv_iconst (v := 2) hx hb dX12_fold_38 (by decide) (hp_n (n := 39) rfl ?_)
    obtain ⟨g7, hf⟩ := ms_gE hf
    refine m_ial (κ := 40) (φ := 650) (n := 1980) (pc' := 40) C Bh1 Mh1 (by decide) (by decide) rfl g7 dX12_fold_39 rfl ?_
    refine lv_iconst (v := 2) hx hb dX12_fold_40 (by decide) (hp_n (n := 41) rfl ?_)
    refine lv_isub hx hb dX12_fold_41 (hp_n (n := 42) rfl ?_)
    have J43 : ∀ (k43 : Nat) (αh8 : hp_T) (Hh8 : Heap) (Lh8 : List Loc) (Bh8 : hp_B Γ mo s α αh8 Hh8 Lh8) (σh8 : ms_T) (Mh8 : hm_M αh8 a0 ρ σh8) (v1_h8 : Int32) (v2_h8 : Int32) (ls : Array Slot) (hl : lv_has ls 3 [(0, .ref a0), (1, .int v1_h8), (2, .int v2_h8)]) (hf : f_X12_fold_L43 n k43 σh8 v1_h8 v2_h8 = some res), W p l e (hp_rm 2 0 0) s m ([.ref a0] : List Value).toArray below meth c Hh8 Lh8 0 0 (MQ below (hp_Qi Γ (fun r β => r = res.1 ∧ mo α β ∧ hm_M β a0 ρ res.2)) ([.ref a0] : List Value).toArray s 0 0 (hp_A Γ)) (F0 m 43 ls []) := by
      intro k43
      induction k43 with
      | zero => intro αh8 Hh8 Lh8 Bh8 σh8 Mh8 v1_h8 v2_h8 ls hl hf; rw [f_X12_fold_L43.eq_1] at hf; cases hf
      | succ k43 ih43 =>
        intro αh8 Hh8 Lh8 Bh8 σh8 Mh8 v1_h8 v2_h8 ls hl hf
        rw [f_X12_fold_L43.eq_2] at hf
        refine lv_iload_n hx hb dX12_fold_43 rfl (lv_at hl 2 rfl) (hp_n (n := 44) rfl ?_)
        refine lv_if_lt (tgt := 68) hx hb dX12_fold_44 (by decide) (fun c9 => ?_) (fun c9 => hp_n (n := 47) rfl ?_)
        ·
          replace hf := ms_iT c9 hf
          refine lv_iload_n hx hb dX12_fold_68 rfl (lv_at hl 1 rfl) (hp_n (n := 69) rfl ?_)
          cases hf
          exact q_iret C Bh8 hr hlk ⟨rfl, Bh8.2.2, Mh8⟩ dX12_fold_69
        ·
          replace hf := ms_iF c9 hf
          refine lv_aload_n hx hb dX12_fold_47 rfl (lv_at hl 0 rfl) (hp_n (n := 48) rfl ?_)
          refine lv_aload_n hx hb dX12_fold_48 rfl (lv_at hl 0 rfl) (hp_n (n := 49) rfl ?_)
          refine m_getr (κ := 40) (k := 0) (pc' := 52) C Bh8 Mh8 fl_X12_7 rfl (by decide) dX12_fold_49 rfl ?_
          refine lv_bipush (v := 8) hx hb dX12_fold_52 (by decide) (hp_n (n := 54) rfl ?_)
          refine lv_iload_n hx hb dX12_fold_54 rfl (lv_at hl 2 rfl) (hp_n (n := 55) rfl ?_)
          refine lv_iadd hx hb dX12_fold_55 (hp_n (n := 56) rfl ?_)
          obtain ⟨g10, hf⟩ := ms_gE hf
          refine m_ial (κ := 40) (φ := 650) (n := 1980) (pc' := 57) C Bh8 Mh8 (by decide) (by decide) rfl g10 dX12_fold_56 rfl ?_
          refine lv_iload_n hx hb dX12_fold_57 rfl (lv_at hl 1 rfl) (hp_n (n := 58) rfl ?_)
          obtain ⟨rh11, qh11, hf⟩ := ms_bE hf
          refine m_cp (pc' := 61) Bh8 (hp_runV (As := [.int (ms_E σh8 40 (((8 : Int32) + v2_h8)).toNatClampNeg), .int v1_h8]) (rest := []) C Bh8 (m_X12_both n Γ l αh8 a0 ρ σh8 Mh8 (ms_E σh8 40 (((8 : Int32) + v2_h8)).toNatClampNeg) v1_h8 rh11 qh11) lb_X12_both lv_X12_both lk_X12_136 Mh8.1 rfl (by decide) rfl hl.1 rfl (Nat.le_of_ble_eq_true rfl) dX12_fold_58 ⟨Nat.le_refl _, Nat.le_refl _⟩) rfl (fun Hh11 Lh11 Bh11 => ?_)
          refine lv_istore_n (lv' := [(1, .int rh11), (0, .ref a0), (2, .int v2_h8)]) hx hb dX12_fold_61 rfl hl (by decide) rfl (fun ls hl => hp_n (n := 62) rfl ?_)
          obtain ⟨x12, ex12⟩ : ∃ y : Int32, y = v2_h8 + (-1) := ⟨_, rfl⟩
          replace hf := ms_lE ex12 hf
          refine lv_iinc (v := x12) (lv' := [(2, .int x12), (1, .int rh11), (0, .ref a0)]) hx hb dX12_fold_62 hl (k := 2) rfl (by rw [ex12]; rfl) (by decide) rfl (fun ls hl => hp_n (n := 65) rfl ?_)
          refine lv_goto (tgt := 43) hx hb dX12_fold_65 (by decide) ?_
          exact ih43 αh8 Hh11 Lh11 Bh11 σh8 Mh8 rh11 x12 ls (lv_sub hl [2, 1, 0] rfl) hf
    refine lv_topi (fun x13 ex13 => ?_)
    replace hf := ms_lE ex13 hf
    refine lv_istore_n (lv' := [(2, .int x13), (1, .int x6), (0, .ref a0)]) hx hb dX12_fold_42 rfl hl (by decide) rfl (fun ls hl => hp_n (n := 43) rfl ?_)
    exact J43 n αh1 Hh1 Lh1 Bh1 σh1 Mh1 x6 x13 ls (lv_sub hl [2, 1, 0] rfl) hf
  ·
    replace hf := ms_iT c3 hf
    refine lv_iconst (v := 0) hx hb dX12_fold_15 (by decide) (hp_n (n := 16) rfl ?_)
    cases hf
    exact q_iret C Bh1 hr hlk ⟨rfl, Bh1.2.2, Mh1⟩ dX12_fold_16
def f_X12_steps_J15 (n : Nat) (σh2 : ms_T) (v1_h2 : Int32) (v2_h2 : Int32) (w0_h2 : Int32) : Option (Int32 × ms_T) :=
  ms_c (f_X12_is n σh2 w0_h2) fun rh3 σh3 =>
  if rh3 = 0 then
    some ((-1 : Int32), σh3)
  else
    ms_b (f_X12_inclusion n σh3 v1_h2 v2_h2) fun σh5 =>
    some ((ms_I σh5 657), σh5)
def f_X12_steps (n : Nat) (σ : ms_T) (a1 : Int32) (a2 : Int32) : Option (Int32 × ms_T) :=
  ms_b (f_X12_isThing n σ a1 a2) fun rh1 =>
  if rh1 = 0 then
    f_X12_steps_J15 n σ a1 a2 (1 : Int32)
  else
    f_X12_steps_J15 n σ a1 a2 (0 : Int32)
set_option maxRecDepth 100000 in
set_option maxHeartbeats 4000000 in
theorem m_X12_steps (n : Nat) (Γ : hp_G) (l : Launch) (α : hp_T) (a0 : Nat) (ρ : Nat → Nat) (σ : ms_T) (hM : hm_M α a0 ρ σ) (a1 : Int32) (a2 : Int32) (res : (Int32 × ms_T)) (hf : f_X12_steps n σ a1 a2 = some res) : Met l yX12_steps (hp_ws yX12_steps cX12_steps 3 (some .int)) (hp_rm 42 0 0) (hp_Pc Γ α [.ref a0, .int a1, .int a2]) (hp_Qi Γ (fun r β => r = res.1 ∧ mo α β ∧ hm_M β a0 ρ res.2)) 0 0 (hp_A Γ) := by
  unfold f_X12_steps at hf
  refine hp_start (by decide) ?_
  intro p e s m below meth c C hr hlk B0 hnm
  have C : hp_C Γ p m c cX12_steps 3 s ([.ref a0, .int a1, .int a2] : List Value).toArray RX12 := C
  have hx := C.1.1
  have hb := C.1.2.1
  have hown := C.1.2.2.2.1
  have hts := C.1.2.2.2.2
  have B : hp_B Γ mo s α α s.heap [] := ⟨B0.1, B0.2.1, mo_rf⟩
  have hl := lv_entry ([.ref a0, .int a1, .int a2]) (n := 3) (Nat.le_of_ble_eq_true rfl)
  show W p l e (hp_rm 42 0 0) s m ([.ref a0, .int a1, .int a2] : List Value).toArray below meth c s.heap [] 0 0 (MQ below (hp_Qi Γ (fun r β => r = res.1 ∧ mo α β ∧ hm_M β a0 ρ res.2)) ([.ref a0, .int a1, .int a2] : List Value).toArray s 0 0 (hp_A Γ)) (entryFrame m ([.ref a0, .int a1, .int a2] : List Value).toArray 3)
  rw [lg_entry_eq]
  generalize (lg_sl ([.ref a0, .int a1, .int a2]) ++ List.replicate (3 - (lg_sl ([.ref a0, .int a1, .int a2])).length) Slot.unset).toArray = ls at hl ⊢
  have hl : lv_has ls 3 [(0, .ref a0), (1, .int a1), (2, .int a2)] := hl
  refine lv_aload_n hx hb dX12_steps_0 rfl (lv_at hl 0 rfl) (hp_n (n := 1) rfl ?_)
  refine lv_aload_n hx hb dX12_steps_1 rfl (lv_at hl 0 rfl) (hp_n (n := 2) rfl ?_)
  refine lv_iload_n hx hb dX12_steps_2 rfl (lv_at hl 1 rfl) (hp_n (n := 3) rfl ?_)
  refine lv_iload_n hx hb dX12_steps_3 rfl (lv_at hl 2 rfl) (hp_n (n := 4) rfl ?_)
  obtain ⟨rh1, qh1, hf⟩ := ms_bE hf
  refine m_cp (pc' := 7) B (hp_runV (As := [.int a1, .int a2]) (rest := [.ref a0]) C B (m_X12_isThing n Γ l α a0 ρ σ hM a1 a2 rh1 qh1) lb_X12_isThing lv_X12_isThing lk_X12_381 hM.1 rfl (by decide) rfl hl.1 rfl (Nat.le_of_ble_eq_true rfl) dX12_steps_4 ⟨Nat.le_refl _, Nat.le_refl _⟩) rfl (fun Hh1 Lh1 Bh1 => ?_)
  have J15 : ∀ (αh2 : hp_T) (Hh2 : Heap) (Lh2 : List Loc) (Bh2 : hp_B Γ mo s α αh2 Hh2 Lh2) (σh2 : ms_T) (Mh2 : hm_M αh2 a0 ρ σh2) (v1_h2 : Int32) (v2_h2 : Int32) (w0_h2 : Int32) (ls : Array Slot) (hl : lv_has ls 3 [(0, .ref a0), (1, .int v1_h2), (2, .int v2_h2)]) (hf : f_X12_steps_J15 n σh2 v1_h2 v2_h2 w0_h2 = some res), W p l e (hp_rm 42 0 0) s m ([.ref a0, .int a1, .int a2] : List Value).toArray below meth c Hh2 Lh2 0 0 (MQ below (hp_Qi Γ (fun r β => r = res.1 ∧ mo α β ∧ hm_M β a0 ρ res.2)) ([.ref a0, .int a1, .int a2] : List Value).toArray s 0 0 (hp_A Γ)) (F0 m 15 ls [.int w0_h2, .ref a0]) := by
    intro αh2 Hh2 Lh2 Bh2 σh2 Mh2 v1_h2 v2_h2 w0_h2 ls hl hf
    unfold f_X12_steps_J15 at hf
    obtain ⟨rh3, σh3, qh3, hf⟩ := ms_cE hf
    refine m_ci (pc' := 18) (a := a0) (ρ := ρ) Bh2 (hp_runV (As := [.int w0_h2]) (rest := []) C Bh2 (m_X12_is n Γ l αh2 a0 ρ σh2 Mh2 w0_h2 (rh3, σh3) qh3) lb_X12_is lv_X12_is lk_X12_309 Mh2.1 rfl (by decide) rfl hl.1 rfl (Nat.le_of_ble_eq_true rfl) dX12_steps_15 ⟨Nat.le_refl _, Nat.le_refl _⟩) rfl (fun αh3 Hh3 Lh3 Bh3 Mh3 => ?_)
    refine lv_if_ne (tgt := 23) hx hb dX12_steps_18 (by decide) (fun c4 => ?_) (fun c4 => hp_n (n := 21) rfl ?_)
    ·
      replace hf := ms_iF c4 hf
      refine lv_aload_n hx hb dX12_steps_23 rfl (lv_at hl 0 rfl) (hp_n (n := 24) rfl ?_)
      refine lv_iload_n hx hb dX12_steps_24 rfl (lv_at hl 1 rfl) (hp_n (n := 25) rfl ?_)
      refine lv_iload_n hx hb dX12_steps_25 rfl (lv_at hl 2 rfl) (hp_n (n := 26) rfl ?_)
      obtain ⟨σh5, qh5, hf⟩ := ms_bE hf
      refine m_cv (pc' := 29) (a := a0) (ρ := ρ) Bh3 (hp_runV (As := [.int v1_h2, .int v2_h2]) (rest := []) C Bh3 (m_X12_inclusion n Γ l αh3 a0 ρ σh3 Mh3 v1_h2 v2_h2 σh5 qh5) lb_X12_inclusion lv_X12_inclusion lk_X12_171 Mh3.1 rfl (by decide) rfl hl.1 rfl (Nat.le_of_ble_eq_true rfl) dX12_steps_26 ⟨Nat.le_refl _, Nat.le_refl _⟩) rfl (fun αh5 Hh5 Lh5 Bh5 Mh5 => ?_)
      refine lv_aload_n hx hb dX12_steps_29 rfl (lv_at hl 0 rfl) (hp_n (n := 30) rfl ?_)
      refine m_geti (k := 7) (φ := 657) (pc' := 33) C Bh5 Mh5 fl_X12_139 rfl rfl dX12_steps_30 rfl ?_
      cases hf
      exact q_iret C Bh5 hr hlk ⟨rfl, Bh5.2.2, Mh5⟩ dX12_steps_33
    ·
      replace hf := ms_iT c4 hf
      refine lv_iconst (v := (-1)) hx hb dX12_steps_21 (by decide) (hp_n (n := 22) rfl ?_)
      cases hf
      exact q_iret C Bh3 hr hlk ⟨rfl, Bh3.2.2, Mh3⟩ dX12_steps_22
  refine lv_if_eq (tgt := 14) hx hb dX12_steps_7 (by decide) (fun c6 => ?_) (fun c6 => hp_n (n := 10) rfl ?_)
  ·
    replace hf := ms_iT c6 hf
    refine lv_iconst (v := 1) hx hb dX12_steps_14 (by decide) (hp_n (n := 15) rfl ?_)
    exact J15 α Hh1 Lh1 Bh1 σ hM a1 a2 (1 : Int32) ls (lv_sub hl [0, 1, 2] rfl) hf
  ·
    replace hf := ms_iF c6 hf
    refine lv_iconst (v := 0) hx hb dX12_steps_10 (by decide) (hp_n (n := 11) rfl ?_)
    refine lv_goto (tgt := 15) hx hb dX12_steps_11 (by decide) ?_
    exact J15 α Hh1 Lh1 Bh1 σ hM a1 a2 (0 : Int32) ls (lv_sub hl [0, 1, 2] rfl) hf
def f_X12_climbs_J15 (n : Nat) (σh1 : ms_T) (v1_h1 : Int32) (v2_h1 : Int32) (w0_h1 : Int32) : Option (Int32 × ms_T) :=
  ms_c (f_X12_is n σh1 w0_h1) fun rh2 σh2 =>
  if rh2 = 0 then
    some ((-1 : Int32), σh2)
  else
    ms_b (f_X12_growth n σh2 v1_h1 v2_h1) fun σh4 =>
    some ((ms_I σh4 657), σh4)
def f_X12_climbs_J14 (n : Nat) (σh5 : ms_T) (v1_h5 : Int32) (v2_h5 : Int32) : Option (Int32 × ms_T) :=
  f_X12_climbs_J15 n σh5 v1_h5 v2_h5 (1 : Int32)
def f_X12_climbs (n : Nat) (σ : ms_T) (a1 : Int32) (a2 : Int32) : Option (Int32 × ms_T) :=
  if a1 < 0 then
    f_X12_climbs_J14 n σ a1 a2
  else
    if a2 < a1 then
      f_X12_climbs_J14 n σ a1 a2
    else
      f_X12_climbs_J15 n σ a1 a2 (0 : Int32)
set_option maxRecDepth 100000 in
set_option maxHeartbeats 4000000 in
theorem m_X12_climbs (n : Nat) (Γ : hp_G) (l : Launch) (α : hp_T) (a0 : Nat) (ρ : Nat → Nat) (σ : ms_T) (hM : hm_M α a0 ρ σ) (a1 : Int32) (a2 : Int32) (res : (Int32 × ms_T)) (hf : f_X12_climbs n σ a1 a2 = some res) : Met l yX12_climbs (hp_ws yX12_climbs cX12_climbs 3 (some .int)) (hp_rm 42 0 0) (hp_Pc Γ α [.ref a0, .int a1, .int a2]) (hp_Qi Γ (fun r β => r = res.1 ∧ mo α β ∧ hm_M β a0 ρ res.2)) 0 0 (hp_A Γ) := by
  unfold f_X12_climbs at hf
  refine hp_start (by decide) ?_
  intro p e s m below meth c C hr hlk B0 hnm
  have C : hp_C Γ p m c cX12_climbs 3 s ([.ref a0, .int a1, .int a2] : List Value).toArray RX12 := C
  have hx := C.1.1
  have hb := C.1.2.1
  have hown := C.1.2.2.2.1
  have hts := C.1.2.2.2.2
  have B : hp_B Γ mo s α α s.heap [] := ⟨B0.1, B0.2.1, mo_rf⟩
  have hl := lv_entry ([.ref a0, .int a1, .int a2]) (n := 3) (Nat.le_of_ble_eq_true rfl)
  show W p l e (hp_rm 42 0 0) s m ([.ref a0, .int a1, .int a2] : List Value).toArray below meth c s.heap [] 0 0 (MQ below (hp_Qi Γ (fun r β => r = res.1 ∧ mo α β ∧ hm_M β a0 ρ res.2)) ([.ref a0, .int a1, .int a2] : List Value).toArray s 0 0 (hp_A Γ)) (entryFrame m ([.ref a0, .int a1, .int a2] : List Value).toArray 3)
  rw [lg_entry_eq]
  generalize (lg_sl ([.ref a0, .int a1, .int a2]) ++ List.replicate (3 - (lg_sl ([.ref a0, .int a1, .int a2])).length) Slot.unset).toArray = ls at hl ⊢
  have hl : lv_has ls 3 [(0, .ref a0), (1, .int a1), (2, .int a2)] := hl
  refine lv_aload_n hx hb dX12_climbs_0 rfl (lv_at hl 0 rfl) (hp_n (n := 1) rfl ?_)
  refine lv_iload_n hx hb dX12_climbs_1 rfl (lv_at hl 1 rfl) (hp_n (n := 2) rfl ?_)
  have J15 : ∀ (αh1 : hp_T) (Hh1 : Heap) (Lh1 : List Loc) (Bh1 : hp_B Γ mo s α αh1 Hh1 Lh1) (σh1 : ms_T) (Mh1 : hm_M αh1 a0 ρ σh1) (v1_h1 : Int32) (v2_h1 : Int32) (w0_h1 : Int32) (ls : Array Slot) (hl : lv_has ls 3 [(0, .ref a0), (1, .int v1_h1), (2, .int v2_h1)]) (hf : f_X12_climbs_J15 n σh1 v1_h1 v2_h1 w0_h1 = some res), W p l e (hp_rm 42 0 0) s m ([.ref a0, .int a1, .int a2] : List Value).toArray below meth c Hh1 Lh1 0 0 (MQ below (hp_Qi Γ (fun r β => r = res.1 ∧ mo α β ∧ hm_M β a0 ρ res.2)) ([.ref a0, .int a1, .int a2] : List Value).toArray s 0 0 (hp_A Γ)) (F0 m 15 ls [.int w0_h1, .ref a0]) := by
    intro αh1 Hh1 Lh1 Bh1 σh1 Mh1 v1_h1 v2_h1 w0_h1 ls hl hf
    unfold f_X12_climbs_J15 at hf
    obtain ⟨rh2, σh2, qh2, hf⟩ := ms_cE hf
    refine m_ci (pc' := 18) (a := a0) (ρ := ρ) Bh1 (hp_runV (As := [.int w0_h1]) (rest := []) C Bh1 (m_X12_is n Γ l αh1 a0 ρ σh1 Mh1 w0_h1 (rh2, σh2) qh2) lb_X12_is lv_X12_is lk_X12_309 Mh1.1 rfl (by decide) rfl hl.1 rfl (Nat.le_of_ble_eq_true rfl) dX12_climbs_15 ⟨Nat.le_refl _, Nat.le_refl _⟩) rfl (fun αh2 Hh2 Lh2 Bh2 Mh2 => ?_)
    refine lv_if_ne (tgt := 23) hx hb dX12_climbs_18 (by decide) (fun c3 => ?_) (fun c3 => hp_n (n := 21) rfl ?_)
    ·
      replace hf := ms_iF c3 hf
      refine lv_aload_n hx hb dX12_climbs_23 rfl (lv_at hl 0 rfl) (hp_n (n := 24) rfl ?_)
      refine lv_iload_n hx hb dX12_climbs_24 rfl (lv_at hl 1 rfl) (hp_n (n := 25) rfl ?_)
      refine lv_iload_n hx hb dX12_climbs_25 rfl (lv_at hl 2 rfl) (hp_n (n := 26) rfl ?_)
      obtain ⟨σh4, qh4, hf⟩ := ms_bE hf
      refine m_cv (pc' := 29) (a := a0) (ρ := ρ) Bh2 (hp_runV (As := [.int v1_h1, .int v2_h1]) (rest := []) C Bh2 (m_X12_growth n Γ l αh2 a0 ρ σh2 Mh2 v1_h1 v2_h1 σh4 qh4) lb_X12_growth lv_X12_growth lk_X12_190 Mh2.1 rfl (by decide) rfl hl.1 rfl (Nat.le_of_ble_eq_true rfl) dX12_climbs_26 ⟨Nat.le_refl _, Nat.le_refl _⟩) rfl (fun αh4 Hh4 Lh4 Bh4 Mh4 => ?_)
      refine lv_aload_n hx hb dX12_climbs_29 rfl (lv_at hl 0 rfl) (hp_n (n := 30) rfl ?_)
      refine m_geti (k := 7) (φ := 657) (pc' := 33) C Bh4 Mh4 fl_X12_139 rfl rfl dX12_climbs_30 rfl ?_
      cases hf
      exact q_iret C Bh4 hr hlk ⟨rfl, Bh4.2.2, Mh4⟩ dX12_climbs_33
    ·
      replace hf := ms_iT c3 hf
      refine lv_iconst (v := (-1)) hx hb dX12_climbs_21 (by decide) (hp_n (n := 22) rfl ?_)
      cases hf
      exact q_iret C Bh2 hr hlk ⟨rfl, Bh2.2.2, Mh2⟩ dX12_climbs_22
  have J14 : ∀ (αh5 : hp_T) (Hh5 : Heap) (Lh5 : List Loc) (Bh5 : hp_B Γ mo s α αh5 Hh5 Lh5) (σh5 : ms_T) (Mh5 : hm_M αh5 a0 ρ σh5) (v1_h5 : Int32) (v2_h5 : Int32) (ls : Array Slot) (hl : lv_has ls 3 [(0, .ref a0), (1, .int v1_h5), (2, .int v2_h5)]) (hf : f_X12_climbs_J14 n σh5 v1_h5 v2_h5 = some res), W p l e (hp_rm 42 0 0) s m ([.ref a0, .int a1, .int a2] : List Value).toArray below meth c Hh5 Lh5 0 0 (MQ below (hp_Qi Γ (fun r β => r = res.1 ∧ mo α β ∧ hm_M β a0 ρ res.2)) ([.ref a0, .int a1, .int a2] : List Value).toArray s 0 0 (hp_A Γ)) (F0 m 14 ls [.ref a0]) := by
    intro αh5 Hh5 Lh5 Bh5 σh5 Mh5 v1_h5 v2_h5 ls hl hf
    unfold f_X12_climbs_J14 at hf
    refine lv_iconst (v := 1) hx hb dX12_climbs_14 (by decide) (hp_n (n := 15) rfl ?_)
    exact J15 αh5 Hh5 Lh5 Bh5 σh5 Mh5 v1_h5 v2_h5 (1 : Int32) ls (lv_sub hl [0, 1, 2] rfl) hf
  refine lv_if_lt (tgt := 14) hx hb dX12_climbs_2 (by decide) (fun c6 => ?_) (fun c6 => hp_n (n := 5) rfl ?_)
  ·
    replace hf := ms_iT c6 hf
    exact J14 α s.heap [] B σ hM a1 a2 ls (lv_sub hl [0, 1, 2] rfl) hf
  ·
    replace hf := ms_iF c6 hf
    refine lv_iload_n hx hb dX12_climbs_5 rfl (lv_at hl 1 rfl) (hp_n (n := 6) rfl ?_)
    refine lv_iload_n hx hb dX12_climbs_6 rfl (lv_at hl 2 rfl) (hp_n (n := 7) rfl ?_)
    refine lv_icmp_gt (tgt := 14) hx hb dX12_climbs_7 (by decide) (fun c7 => ?_) (fun c7 => hp_n (n := 10) rfl ?_)
    ·
      replace hf := ms_iT c7 hf
      exact J14 α s.heap [] B σ hM a1 a2 ls (lv_sub hl [0, 1, 2] rfl) hf
    ·
      replace hf := ms_iF c7 hf
      refine lv_iconst (v := 0) hx hb dX12_climbs_10 (by decide) (hp_n (n := 11) rfl ?_)
      refine lv_goto (tgt := 15) hx hb dX12_climbs_11 (by decide) ?_
      exact J15 α s.heap [] B σ hM a1 a2 (0 : Int32) ls (lv_sub hl [0, 1, 2] rfl) hf
def f_X12_isHead (n : Nat) (σ : ms_T) (a1 : Int32) (a2 : Int32) (a3 : Int32) : Option Int32 :=
  ms_b (f_X12_sizeOf n σ a1) fun rh1 =>
  if rh1 < a2 then
    some (0 : Int32)
  else
    ms_b (f_X12_headOf n σ a1 a2) fun rh3 =>
    if rh3 = a3 then
      some (1 : Int32)
    else
      some (0 : Int32)
set_option maxRecDepth 100000 in
set_option maxHeartbeats 4000000 in
theorem m_X12_isHead (n : Nat) (Γ : hp_G) (l : Launch) (α : hp_T) (a0 : Nat) (ρ : Nat → Nat) (σ : ms_T) (hM : hm_M α a0 ρ σ) (a1 : Int32) (a2 : Int32) (a3 : Int32) (res : Int32) (hf : f_X12_isHead n σ a1 a2 a3 = some res) : Met l yX12_isHead (hp_ws yX12_isHead cX12_isHead 4 (some .boolean)) (hp_rm 43 0 0) (hp_Pc Γ α [.ref a0, .int a1, .int a2, .int a3]) (hp_Qi Γ (fun r β => β = α ∧ r = res)) 0 0 (hp_A Γ) := by
  unfold f_X12_isHead at hf
  refine hp_start (by decide) ?_
  intro p e s m below meth c C hr hlk B0 hnm
  have C : hp_C Γ p m c cX12_isHead 4 s ([.ref a0, .int a1, .int a2, .int a3] : List Value).toArray RX12 := C
  have hx := C.1.1
  have hb := C.1.2.1
  have hown := C.1.2.2.2.1
  have hts := C.1.2.2.2.2
  have B : hp_B Γ (fun _ _ => True) s α α s.heap [] := ⟨B0.1, B0.2.1, trivial⟩
  have hl := lv_entry ([.ref a0, .int a1, .int a2, .int a3]) (n := 4) (Nat.le_of_ble_eq_true rfl)
  show W p l e (hp_rm 43 0 0) s m ([.ref a0, .int a1, .int a2, .int a3] : List Value).toArray below meth c s.heap [] 0 0 (MQ below (hp_Qi Γ (fun r β => β = α ∧ r = res)) ([.ref a0, .int a1, .int a2, .int a3] : List Value).toArray s 0 0 (hp_A Γ)) (entryFrame m ([.ref a0, .int a1, .int a2, .int a3] : List Value).toArray 4)
  rw [lg_entry_eq]
  generalize (lg_sl ([.ref a0, .int a1, .int a2, .int a3]) ++ List.replicate (4 - (lg_sl ([.ref a0, .int a1, .int a2, .int a3])).length) Slot.unset).toArray = ls at hl ⊢
  have hl : lv_has ls 4 [(0, .ref a0), (1, .int a1), (2, .int a2), (3, .int a3)] := hl
  refine lv_iload_n hx hb dX12_isHead_0 rfl (lv_at hl 2 rfl) (hp_n (n := 1) rfl ?_)
  refine lv_aload_n hx hb dX12_isHead_1 rfl (lv_at hl 0 rfl) (hp_n (n := 2) rfl ?_)
  refine lv_iload_n hx hb dX12_isHead_2 rfl (lv_at hl 1 rfl) (hp_n (n := 3) rfl ?_)
  obtain ⟨rh1, qh1, hf⟩ := ms_bE hf
  refine m_cp (pc' := 6) B (hp_runV (As := [.int a1]) (rest := [.int a2]) C B (m_X12_sizeOf n Γ l α a0 ρ σ hM a1 rh1 qh1) lb_X12_sizeOf lv_X12_sizeOf lk_X12_209 hM.1 rfl (by decide) rfl hl.1 rfl (Nat.le_of_ble_eq_true rfl) dX12_isHead_3 ⟨Nat.le_refl _, Nat.le_refl _⟩) rfl (fun Hh1 Lh1 Bh1 => ?_)
  refine lv_icmp_gt (tgt := 23) hx hb dX12_isHead_6 (by decide) (fun c2 => ?_) (fun c2 => hp_n (n := 9) rfl ?_)
  ·
    replace hf := ms_iT c2 hf
    refine lv_iconst (v := 0) hx hb dX12_isHead_23 (by decide) (hp_n (n := 24) rfl ?_)
    cases hf
    exact q_zret C Bh1 hr hlk (by decide) ⟨rfl, rfl⟩ dX12_isHead_24
  ·
    replace hf := ms_iF c2 hf
    refine lv_aload_n hx hb dX12_isHead_9 rfl (lv_at hl 0 rfl) (hp_n (n := 10) rfl ?_)
    refine lv_iload_n hx hb dX12_isHead_10 rfl (lv_at hl 1 rfl) (hp_n (n := 11) rfl ?_)
    refine lv_iload_n hx hb dX12_isHead_11 rfl (lv_at hl 2 rfl) (hp_n (n := 12) rfl ?_)
    obtain ⟨rh3, qh3, hf⟩ := ms_bE hf
    refine m_cp (pc' := 15) Bh1 (hp_runV (As := [.int a1, .int a2]) (rest := []) C Bh1 (m_X12_headOf n Γ l α a0 ρ σ hM a1 a2 rh3 qh3) lb_X12_headOf lv_X12_headOf lk_X12_215 hM.1 rfl (by decide) rfl hl.1 rfl (Nat.le_of_ble_eq_true rfl) dX12_isHead_12 ⟨Nat.le_refl _, Nat.le_refl _⟩) rfl (fun Hh3 Lh3 Bh3 => ?_)
    refine lv_iload_n hx hb dX12_isHead_15 rfl (lv_at hl 3 rfl) (hp_n (n := 16) rfl ?_)
    refine lv_icmp_ne (tgt := 23) hx hb dX12_isHead_16 (by decide) (fun c4 => ?_) (fun c4 => hp_n (n := 19) rfl ?_)
    ·
      replace hf := ms_iF c4 hf
      refine lv_iconst (v := 0) hx hb dX12_isHead_23 (by decide) (hp_n (n := 24) rfl ?_)
      cases hf
      exact q_zret C Bh3 hr hlk (by decide) ⟨rfl, rfl⟩ dX12_isHead_24
    ·
      replace hf := ms_iT c4 hf
      refine lv_iconst (v := 1) hx hb dX12_isHead_19 (by decide) (hp_n (n := 20) rfl ?_)
      refine lv_goto (tgt := 24) hx hb dX12_isHead_20 (by decide) ?_
      cases hf
      exact q_zret C Bh3 hr hlk (by decide) ⟨rfl, rfl⟩ dX12_isHead_24
end JN6_0
section JN6_1
def f_X12_isAgreed_J54 (n : Nat) (σ : ms_T) (rec2 : Int32 → Int32 → Int32 → Option Int32) (v1_h7 : Int32) (v2_h7 : Int32) (v3_h7 : Int32) : Option Int32 :=
  ms_l (v3_h7 + 1) fun x8 =>
  rec2 v1_h7 v2_h7 x8
def f_X12_isAgreed_L2 (n : Nat) (σ : ms_T) : Nat → Int32 → Int32 → Int32 → Option Int32
  | 0, _, _, _ => none
  | k2 + 1, v1_h1, v2_h1, v3_h1 =>
    ms_g (0 : Int32) 1980 <|
    if (ms_E σ 40 ((0 : Int32)).toNatClampNeg) ≤ v3_h1 then
      some (0 : Int32)
    else
      ms_b (f_X12_trust n σ v1_h1 (0 : Int32)) fun rh4 =>
      ms_b (f_X12_trust n σ v1_h1 (1 : Int32)) fun rh5 =>
      ms_b (f_X12_isHead n σ v3_h1 rh4 rh5) fun rh6 =>
      if rh6 = 0 then
        f_X12_isAgreed_J54 n σ (f_X12_isAgreed_L2 n σ k2) v1_h1 v2_h1 v3_h1
      else
        ms_b (f_X12_trust n σ v2_h1 (0 : Int32)) fun rh10 =>
        ms_b (f_X12_trust n σ v2_h1 (1 : Int32)) fun rh11 =>
        ms_b (f_X12_isHead n σ v3_h1 rh10 rh11) fun rh12 =>
        if rh12 = 0 then
          f_X12_isAgreed_J54 n σ (f_X12_isAgreed_L2 n σ k2) v1_h1 v2_h1 v3_h1
        else
          some (1 : Int32)
def f_X12_isAgreed (n : Nat) (σ : ms_T) (a1 : Int32) (a2 : Int32) : Option Int32 :=
  f_X12_isAgreed_L2 n σ n a1 a2 (0 : Int32)
set_option maxRecDepth 100000 in
set_option maxHeartbeats 4000000 in
theorem m_X12_isAgreed (n : Nat) (Γ : hp_G) (l : Launch) (α : hp_T) (a0 : Nat) (ρ : Nat → Nat) (σ : ms_T) (hM : hm_M α a0 ρ σ) (a1 : Int32) (a2 : Int32) (res : Int32) (hf : f_X12_isAgreed n σ a1 a2 = some res) : Met l yX12_isAgreed (hp_ws yX12_isAgreed cX12_isAgreed 4 (some .boolean)) (hp_rm 44 0 0) (hp_Pc Γ α [.ref a0, .int a1, .int a2]) (hp_Qi Γ (fun r β => β = α ∧ r = res)) 0 0 (hp_A Γ) := by
  unfold f_X12_isAgreed at hf
  refine hp_start (by decide) ?_
  intro p e s m below meth c C hr hlk B0 hnm
  have C : hp_C Γ p m c cX12_isAgreed 4 s ([.ref a0, .int a1, .int a2] : List Value).toArray RX12 := C
  have hx := C.1.1
  have hb := C.1.2.1
  have hown := C.1.2.2.2.1
  have hts := C.1.2.2.2.2
  have B : hp_B Γ (fun _ _ => True) s α α s.heap [] := ⟨B0.1, B0.2.1, trivial⟩
  have hl := lv_entry ([.ref a0, .int a1, .int a2]) (n := 4) (Nat.le_of_ble_eq_true rfl)
  show W p l e (hp_rm 44 0 0) s m ([.ref a0, .int a1, .int a2] : List Value).toArray below meth c s.heap [] 0 0 (MQ below (hp_Qi Γ (fun r β => β = α ∧ r = res)) ([.ref a0, .int a1, .int a2] : List Value).toArray s 0 0 (hp_A Γ)) (entryFrame m ([.ref a0, .int a1, .int a2] : List Value).toArray 4)
  rw [lg_entry_eq]
  generalize (lg_sl ([.ref a0, .int a1, .int a2]) ++ List.replicate (4 - (lg_sl ([.ref a0, .int a1, .int a2])).length) Slot.unset).toArray = ls at hl ⊢
  have hl : lv_has ls 4 [(0, .ref a0), (1, .int a1), (2, .int a2)] := hl
  refine lv_iconst (v := 0) hx hb dX12_isAgreed_0 (by decide) (hp_n (n := 1) rfl ?_)
  have J2 : ∀ (k2 : Nat) (Hh1 : Heap) (Lh1 : List Loc) (Bh1 : hp_B Γ (fun _ _ => True) s α α Hh1 Lh1) (v1_h1 : Int32) (v2_h1 : Int32) (v3_h1 : Int32) (ls : Array Slot) (hl : lv_has ls 4 [(0, .ref a0), (1, .int v1_h1), (2, .int v2_h1), (3, .int v3_h1)]) (hf : f_X12_isAgreed_L2 n σ k2 v1_h1 v2_h1 v3_h1 = some res), W p l e (hp_rm 44 0 0) s m ([.ref a0, .int a1, .int a2] : List Value).toArray below meth c Hh1 Lh1 0 0 (MQ below (hp_Qi Γ (fun r β => β = α ∧ r = res)) ([.ref a0, .int a1, .int a2] : List Value).toArray s 0 0 (hp_A Γ)) (F0 m 2 ls []) := by
    intro k2
    induction k2 with
    | zero => intro Hh1 Lh1 Bh1 v1_h1 v2_h1 v3_h1 ls hl hf; rw [f_X12_isAgreed_L2.eq_1] at hf; cases hf
    | succ k2 ih2 =>
      intro Hh1 Lh1 Bh1 v1_h1 v2_h1 v3_h1 ls hl hf
      rw [f_X12_isAgreed_L2.eq_2] at hf
      refine lv_iload_n hx hb dX12_isAgreed_2 rfl (lv_at hl 3 rfl) (hp_n (n := 3) rfl ?_)
      refine lv_aload_n hx hb dX12_isAgreed_3 rfl (lv_at hl 0 rfl) (hp_n (n := 4) rfl ?_)
      refine m_getr (κ := 40) (k := 0) (pc' := 7) C Bh1 hM fl_X12_7 rfl (by decide) dX12_isAgreed_4 rfl ?_
      refine lv_iconst (v := 0) hx hb dX12_isAgreed_7 (by decide) (hp_n (n := 8) rfl ?_)
      obtain ⟨g2, hf⟩ := ms_gE hf
      refine m_ial (κ := 40) (φ := 650) (n := 1980) (pc' := 9) C Bh1 hM (by decide) (by decide) rfl g2 dX12_isAgreed_8 rfl ?_
      refine lv_icmp_ge (tgt := 60) hx hb dX12_isAgreed_9 (by decide) (fun c3 => ?_) (fun c3 => hp_n (n := 12) rfl ?_)
      ·
        replace hf := ms_iT c3 hf
        refine lv_iconst (v := 0) hx hb dX12_isAgreed_60 (by decide) (hp_n (n := 61) rfl ?_)
        cases hf
        exact q_zret C Bh1 hr hlk (by decide) ⟨rfl, rfl⟩ dX12_isAgreed_61
      ·
        replace hf := ms_iF c3 hf
        refine lv_aload_n hx hb dX12_isAgreed_12 rfl (lv_at hl 0 rfl) (hp_n (n := 13) rfl ?_)
        refine lv_iload_n hx hb dX12_isAgreed_13 rfl (lv_at hl 3 rfl) (hp_n (n := 14) rfl ?_)
        refine lv_aload_n hx hb dX12_isAgreed_14 rfl (lv_at hl 0 rfl) (hp_n (n := 15) rfl ?_)
        refine lv_iload_n hx hb dX12_isAgreed_15 rfl (lv_at hl 1 rfl) (hp_n (n := 16) rfl ?_)
        refine lv_iconst (v := 0) hx hb dX12_isAgreed_16 (by decide) (hp_n (n := 17) rfl ?_)
        obtain ⟨rh4, qh4, hf⟩ := ms_bE hf
        refine m_cp (pc' := 20) Bh1 (hp_runV (As := [.int v1_h1, .int (0 : Int32)]) (rest := [.int v3_h1, .ref a0]) C Bh1 (m_X12_trust n Γ l α a0 ρ σ hM v1_h1 (0 : Int32) rh4 qh4) lb_X12_trust lv_X12_trust lk_X12_221 hM.1 rfl (by decide) rfl hl.1 rfl (Nat.le_of_ble_eq_true rfl) dX12_isAgreed_17 ⟨Nat.le_refl _, Nat.le_refl _⟩) rfl (fun Hh4 Lh4 Bh4 => ?_)
        refine lv_aload_n hx hb dX12_isAgreed_20 rfl (lv_at hl 0 rfl) (hp_n (n := 21) rfl ?_)
        refine lv_iload_n hx hb dX12_isAgreed_21 rfl (lv_at hl 1 rfl) (hp_n (n := 22) rfl ?_)
        refine lv_iconst (v := 1) hx hb dX12_isAgreed_22 (by decide) (hp_n (n := 23) rfl ?_)
        obtain ⟨rh5, qh5, hf⟩ := ms_bE hf
        refine m_cp (pc' := 26) Bh4 (hp_runV (As := [.int v1_h1, .int (1 : Int32)]) (rest := [.int rh4, .int v3_h1, .ref a0]) C Bh4 (m_X12_trust n Γ l α a0 ρ σ hM v1_h1 (1 : Int32) rh5 qh5) lb_X12_trust lv_X12_trust lk_X12_221 hM.1 rfl (by decide) rfl hl.1 rfl (Nat.le_of_ble_eq_true rfl) dX12_isAgreed_23 ⟨Nat.le_refl _, Nat.le_refl _⟩) rfl (fun Hh5 Lh5 Bh5 => ?_)
        obtain ⟨rh6, qh6, hf⟩ := ms_bE hf
        refine m_cp (pc' := 29) Bh5 (hp_runV (As := [.int v3_h1, .int rh4, .int rh5]) (rest := []) C Bh5 (m_X12_isHead n Γ l α a0 ρ σ hM v3_h1 rh4 rh5 rh6 qh6) lb_X12_isHead lv_X12_isHead lk_X12_387 hM.1 rfl (by decide) rfl hl.1 rfl (Nat.le_of_ble_eq_true rfl) dX12_isAgreed_26 ⟨Nat.le_refl _, Nat.le_refl _⟩) rfl (fun Hh6 Lh6 Bh6 => ?_)
        have J54 : ∀ (Hh7 : Heap) (Lh7 : List Loc) (Bh7 : hp_B Γ (fun _ _ => True) s α α Hh7 Lh7) (v1_h7 : Int32) (v2_h7 : Int32) (v3_h7 : Int32) (ls : Array Slot) (hl : lv_has ls 4 [(0, .ref a0), (1, .int v1_h7), (2, .int v2_h7), (3, .int v3_h7)]) (hf : f_X12_isAgreed_J54 n σ (f_X12_isAgreed_L2 n σ k2) v1_h7 v2_h7 v3_h7 = some res), W p l e (hp_rm 44 0 0) s m ([.ref a0, .int a1, .int a2] : List Value).toArray below meth c Hh7 Lh7 0 0 (MQ below (hp_Qi Γ (fun r β => β = α ∧ r = res)) ([.ref a0, .int a1, .int a2] : List Value).toArray s 0 0 (hp_A Γ)) (F0 m 54 ls []) := by
          intro Hh7 Lh7 Bh7 v1_h7 v2_h7 v3_h7 ls hl hf
          unfold f_X12_isAgreed_J54 at hf
          obtain ⟨x8, ex8⟩ : ∃ y : Int32, y = v3_h7 + 1 := ⟨_, rfl⟩
          replace hf := ms_lE ex8 hf
          refine lv_iinc (v := x8) (lv' := [(3, .int x8), (0, .ref a0), (1, .int v1_h7), (2, .int v2_h7)]) hx hb dX12_isAgreed_54 hl (k := 3) rfl (by rw [ex8]; rfl) (by decide) rfl (fun ls hl => hp_n (n := 57) rfl ?_)
          refine lv_goto (tgt := 2) hx hb dX12_isAgreed_57 (by decide) ?_
          exact ih2 Hh7 Lh7 Bh7 v1_h7 v2_h7 x8 ls (lv_sub hl [1, 2, 3, 0] rfl) hf
        refine lv_if_eq (tgt := 54) hx hb dX12_isAgreed_29 (by decide) (fun c9 => ?_) (fun c9 => hp_n (n := 32) rfl ?_)
        ·
          replace hf := ms_iT c9 hf
          exact J54 Hh6 Lh6 Bh6 v1_h1 v2_h1 v3_h1 ls (lv_sub hl [0, 1, 2, 3] rfl) hf
        ·
          replace hf := ms_iF c9 hf
          refine lv_aload_n hx hb dX12_isAgreed_32 rfl (lv_at hl 0 rfl) (hp_n (n := 33) rfl ?_)
          refine lv_iload_n hx hb dX12_isAgreed_33 rfl (lv_at hl 3 rfl) (hp_n (n := 34) rfl ?_)
          refine lv_aload_n hx hb dX12_isAgreed_34 rfl (lv_at hl 0 rfl) (hp_n (n := 35) rfl ?_)
          refine lv_iload_n hx hb dX12_isAgreed_35 rfl (lv_at hl 2 rfl) (hp_n (n := 36) rfl ?_)
          refine lv_iconst (v := 0) hx hb dX12_isAgreed_36 (by decide) (hp_n (n := 37) rfl ?_)
          obtain ⟨rh10, qh10, hf⟩ := ms_bE hf
          refine m_cp (pc' := 40) Bh6 (hp_runV (As := [.int v2_h1, .int (0 : Int32)]) (rest := [.int v3_h1, .ref a0]) C Bh6 (m_X12_trust n Γ l α a0 ρ σ hM v2_h1 (0 : Int32) rh10 qh10) lb_X12_trust lv_X12_trust lk_X12_221 hM.1 rfl (by decide) rfl hl.1 rfl (Nat.le_of_ble_eq_true rfl) dX12_isAgreed_37 ⟨Nat.le_refl _, Nat.le_refl _⟩) rfl (fun Hh10 Lh10 Bh10 => ?_)
          refine lv_aload_n hx hb dX12_isAgreed_40 rfl (lv_at hl 0 rfl) (hp_n (n := 41) rfl ?_)
          refine lv_iload_n hx hb dX12_isAgreed_41 rfl (lv_at hl 2 rfl) (hp_n (n := 42) rfl ?_)
          refine lv_iconst (v := 1) hx hb dX12_isAgreed_42 (by decide) (hp_n (n := 43) rfl ?_)
          obtain ⟨rh11, qh11, hf⟩ := ms_bE hf
          refine m_cp (pc' := 46) Bh10 (hp_runV (As := [.int v2_h1, .int (1 : Int32)]) (rest := [.int rh10, .int v3_h1, .ref a0]) C Bh10 (m_X12_trust n Γ l α a0 ρ σ hM v2_h1 (1 : Int32) rh11 qh11) lb_X12_trust lv_X12_trust lk_X12_221 hM.1 rfl (by decide) rfl hl.1 rfl (Nat.le_of_ble_eq_true rfl) dX12_isAgreed_43 ⟨Nat.le_refl _, Nat.le_refl _⟩) rfl (fun Hh11 Lh11 Bh11 => ?_)
          obtain ⟨rh12, qh12, hf⟩ := ms_bE hf
          refine m_cp (pc' := 49) Bh11 (hp_runV (As := [.int v3_h1, .int rh10, .int rh11]) (rest := []) C Bh11 (m_X12_isHead n Γ l α a0 ρ σ hM v3_h1 rh10 rh11 rh12 qh12) lb_X12_isHead lv_X12_isHead lk_X12_387 hM.1 rfl (by decide) rfl hl.1 rfl (Nat.le_of_ble_eq_true rfl) dX12_isAgreed_46 ⟨Nat.le_refl _, Nat.le_refl _⟩) rfl (fun Hh12 Lh12 Bh12 => ?_)
          refine lv_if_eq (tgt := 54) hx hb dX12_isAgreed_49 (by decide) (fun c13 => ?_) (fun c13 => hp_n (n := 52) rfl ?_)
          ·
            replace hf := ms_iT c13 hf
            exact J54 Hh12 Lh12 Bh12 v1_h1 v2_h1 v3_h1 ls (lv_sub hl [0, 1, 2, 3] rfl) hf
          ·
            replace hf := ms_iF c13 hf
            refine lv_iconst (v := 1) hx hb dX12_isAgreed_52 (by decide) (hp_n (n := 53) rfl ?_)
            cases hf
            exact q_zret C Bh12 hr hlk (by decide) ⟨rfl, rfl⟩ dX12_isAgreed_53
  refine lv_istore_n (lv' := [(3, .int (0 : Int32)), (0, .ref a0), (1, .int a1), (2, .int a2)]) hx hb dX12_isAgreed_1 rfl hl (by decide) rfl (fun ls hl => hp_n (n := 2) rfl ?_)
  exact J2 n s.heap [] B a1 a2 (0 : Int32) ls (lv_sub hl [1, 2, 3, 0] rfl) hf
def f_X12_agree_J20 (n : Nat) (σh2 : ms_T) (v1_h2 : Int32) (v2_h2 : Int32) (w0_h2 : Int32) : Option (Int32 × ms_T) :=
  ms_c (f_X12_is n σh2 w0_h2) fun rh3 σh3 =>
  if rh3 = 0 then
    some ((-1 : Int32), σh3)
  else
    ms_b (f_X12_isAgreed n σh3 v1_h2 v2_h2) fun rh5 =>
    if rh5 = 0 then
      some ((0 : Int32), σh3)
    else
      some ((1 : Int32), σh3)
def f_X12_agree_J19 (n : Nat) (σh7 : ms_T) (v1_h7 : Int32) (v2_h7 : Int32) : Option (Int32 × ms_T) :=
  f_X12_agree_J20 n σh7 v1_h7 v2_h7 (2 : Int32)
def f_X12_agree (n : Nat) (σ : ms_T) (a1 : Int32) (a2 : Int32) : Option (Int32 × ms_T) :=
  ms_b (f_X12_isWatcher n a1) fun rh1 =>
  if rh1 = 0 then
    f_X12_agree_J19 n σ a1 a2
  else
    ms_b (f_X12_isWatcher n a2) fun rh9 =>
    if rh9 = 0 then
      f_X12_agree_J19 n σ a1 a2
    else
      f_X12_agree_J20 n σ a1 a2 (0 : Int32)
set_option maxRecDepth 100000 in
set_option maxHeartbeats 4000000 in
theorem m_X12_agree (n : Nat) (Γ : hp_G) (l : Launch) (α : hp_T) (a0 : Nat) (ρ : Nat → Nat) (σ : ms_T) (hM : hm_M α a0 ρ σ) (a1 : Int32) (a2 : Int32) (res : (Int32 × ms_T)) (hf : f_X12_agree n σ a1 a2 = some res) : Met l yX12_agree (hp_ws yX12_agree cX12_agree 3 (some .int)) (hp_rm 45 0 0) (hp_Pc Γ α [.ref a0, .int a1, .int a2]) (hp_Qi Γ (fun r β => r = res.1 ∧ mo α β ∧ hm_M β a0 ρ res.2)) 0 0 (hp_A Γ) := by
  unfold f_X12_agree at hf
  refine hp_start (by decide) ?_
  intro p e s m below meth c C hr hlk B0 hnm
  have C : hp_C Γ p m c cX12_agree 3 s ([.ref a0, .int a1, .int a2] : List Value).toArray RX12 := C
  have hx := C.1.1
  have hb := C.1.2.1
  have hown := C.1.2.2.2.1
  have hts := C.1.2.2.2.2
  have B : hp_B Γ mo s α α s.heap [] := ⟨B0.1, B0.2.1, mo_rf⟩
  have hl := lv_entry ([.ref a0, .int a1, .int a2]) (n := 3) (Nat.le_of_ble_eq_true rfl)
  show W p l e (hp_rm 45 0 0) s m ([.ref a0, .int a1, .int a2] : List Value).toArray below meth c s.heap [] 0 0 (MQ below (hp_Qi Γ (fun r β => r = res.1 ∧ mo α β ∧ hm_M β a0 ρ res.2)) ([.ref a0, .int a1, .int a2] : List Value).toArray s 0 0 (hp_A Γ)) (entryFrame m ([.ref a0, .int a1, .int a2] : List Value).toArray 3)
  rw [lg_entry_eq]
  generalize (lg_sl ([.ref a0, .int a1, .int a2]) ++ List.replicate (3 - (lg_sl ([.ref a0, .int a1, .int a2])).length) Slot.unset).toArray = ls at hl ⊢
  have hl : lv_has ls 3 [(0, .ref a0), (1, .int a1), (2, .int a2)] := hl
  refine lv_aload_n hx hb dX12_agree_0 rfl (lv_at hl 0 rfl) (hp_n (n := 1) rfl ?_)
  refine lv_iload_n hx hb dX12_agree_1 rfl (lv_at hl 1 rfl) (hp_n (n := 2) rfl ?_)
  obtain ⟨rh1, qh1, hf⟩ := ms_bE hf
  refine m_cp (pc' := 5) B (hp_runS (As := [.int a1]) (rest := [.ref a0]) C B (m_X12_isWatcher n Γ l α a1 rh1 qh1) lb_X12_isWatcher ls_X12_isWatcher lk_X12_356 rfl (by decide) rfl hl.1 rfl (Nat.le_of_ble_eq_true rfl) dX12_agree_2 ⟨Nat.le_refl _, Nat.le_refl _⟩) rfl (fun Hh1 Lh1 Bh1 => ?_)
  have J20 : ∀ (αh2 : hp_T) (Hh2 : Heap) (Lh2 : List Loc) (Bh2 : hp_B Γ mo s α αh2 Hh2 Lh2) (σh2 : ms_T) (Mh2 : hm_M αh2 a0 ρ σh2) (v1_h2 : Int32) (v2_h2 : Int32) (w0_h2 : Int32) (ls : Array Slot) (hl : lv_has ls 3 [(0, .ref a0), (1, .int v1_h2), (2, .int v2_h2)]) (hf : f_X12_agree_J20 n σh2 v1_h2 v2_h2 w0_h2 = some res), W p l e (hp_rm 45 0 0) s m ([.ref a0, .int a1, .int a2] : List Value).toArray below meth c Hh2 Lh2 0 0 (MQ below (hp_Qi Γ (fun r β => r = res.1 ∧ mo α β ∧ hm_M β a0 ρ res.2)) ([.ref a0, .int a1, .int a2] : List Value).toArray s 0 0 (hp_A Γ)) (F0 m 20 ls [.int w0_h2, .ref a0]) := by
    intro αh2 Hh2 Lh2 Bh2 σh2 Mh2 v1_h2 v2_h2 w0_h2 ls hl hf
    unfold f_X12_agree_J20 at hf
    obtain ⟨rh3, σh3, qh3, hf⟩ := ms_cE hf
    refine m_ci (pc' := 23) (a := a0) (ρ := ρ) Bh2 (hp_runV (As := [.int w0_h2]) (rest := []) C Bh2 (m_X12_is n Γ l αh2 a0 ρ σh2 Mh2 w0_h2 (rh3, σh3) qh3) lb_X12_is lv_X12_is lk_X12_309 Mh2.1 rfl (by decide) rfl hl.1 rfl (Nat.le_of_ble_eq_true rfl) dX12_agree_20 ⟨Nat.le_refl _, Nat.le_refl _⟩) rfl (fun αh3 Hh3 Lh3 Bh3 Mh3 => ?_)
    refine lv_if_eq (tgt := 43) hx hb dX12_agree_23 (by decide) (fun c4 => ?_) (fun c4 => hp_n (n := 26) rfl ?_)
    ·
      replace hf := ms_iT c4 hf
      refine lv_iconst (v := (-1)) hx hb dX12_agree_43 (by decide) (hp_n (n := 44) rfl ?_)
      cases hf
      exact q_iret C Bh3 hr hlk ⟨rfl, Bh3.2.2, Mh3⟩ dX12_agree_44
    ·
      replace hf := ms_iF c4 hf
      refine lv_aload_n hx hb dX12_agree_26 rfl (lv_at hl 0 rfl) (hp_n (n := 27) rfl ?_)
      refine lv_iload_n hx hb dX12_agree_27 rfl (lv_at hl 1 rfl) (hp_n (n := 28) rfl ?_)
      refine lv_iload_n hx hb dX12_agree_28 rfl (lv_at hl 2 rfl) (hp_n (n := 29) rfl ?_)
      obtain ⟨rh5, qh5, hf⟩ := ms_bE hf
      refine m_cp (pc' := 32) Bh3 (hp_runV (As := [.int v1_h2, .int v2_h2]) (rest := []) C Bh3 (m_X12_isAgreed n Γ l αh3 a0 ρ σh3 Mh3 v1_h2 v2_h2 rh5 qh5) lb_X12_isAgreed lv_X12_isAgreed lk_X12_390 Mh3.1 rfl (by decide) rfl hl.1 rfl (Nat.le_of_ble_eq_true rfl) dX12_agree_29 ⟨Nat.le_refl _, Nat.le_refl _⟩) rfl (fun Hh5 Lh5 Bh5 => ?_)
      refine lv_if_eq (tgt := 39) hx hb dX12_agree_32 (by decide) (fun c6 => ?_) (fun c6 => hp_n (n := 35) rfl ?_)
      ·
        replace hf := ms_iT c6 hf
        refine lv_iconst (v := 0) hx hb dX12_agree_39 (by decide) (hp_n (n := 40) rfl ?_)
        refine lv_goto (tgt := 44) hx hb dX12_agree_40 (by decide) ?_
        cases hf
        exact q_iret C Bh5 hr hlk ⟨rfl, Bh5.2.2, Mh3⟩ dX12_agree_44
      ·
        replace hf := ms_iF c6 hf
        refine lv_iconst (v := 1) hx hb dX12_agree_35 (by decide) (hp_n (n := 36) rfl ?_)
        refine lv_goto (tgt := 44) hx hb dX12_agree_36 (by decide) ?_
        cases hf
        exact q_iret C Bh5 hr hlk ⟨rfl, Bh5.2.2, Mh3⟩ dX12_agree_44
  have J19 : ∀ (αh7 : hp_T) (Hh7 : Heap) (Lh7 : List Loc) (Bh7 : hp_B Γ mo s α αh7 Hh7 Lh7) (σh7 : ms_T) (Mh7 : hm_M αh7 a0 ρ σh7) (v1_h7 : Int32) (v2_h7 : Int32) (ls : Array Slot) (hl : lv_has ls 3 [(0, .ref a0), (1, .int v1_h7), (2, .int v2_h7)]) (hf : f_X12_agree_J19 n σh7 v1_h7 v2_h7 = some res), W p l e (hp_rm 45 0 0) s m ([.ref a0, .int a1, .int a2] : List Value).toArray below meth c Hh7 Lh7 0 0 (MQ below (hp_Qi Γ (fun r β => r = res.1 ∧ mo α β ∧ hm_M β a0 ρ res.2)) ([.ref a0, .int a1, .int a2] : List Value).toArray s 0 0 (hp_A Γ)) (F0 m 19 ls [.ref a0]) := by
    intro αh7 Hh7 Lh7 Bh7 σh7 Mh7 v1_h7 v2_h7 ls hl hf
    unfold f_X12_agree_J19 at hf
    refine lv_iconst (v := 2) hx hb dX12_agree_19 (by decide) (hp_n (n := 20) rfl ?_)
    exact J20 αh7 Hh7 Lh7 Bh7 σh7 Mh7 v1_h7 v2_h7 (2 : Int32) ls (lv_sub hl [0, 1, 2] rfl) hf
  refine lv_if_eq (tgt := 19) hx hb dX12_agree_5 (by decide) (fun c8 => ?_) (fun c8 => hp_n (n := 8) rfl ?_)
  ·
    replace hf := ms_iT c8 hf
    exact J19 α Hh1 Lh1 Bh1 σ hM a1 a2 ls (lv_sub hl [0, 1, 2] rfl) hf
  ·
    replace hf := ms_iF c8 hf
    refine lv_iload_n hx hb dX12_agree_8 rfl (lv_at hl 2 rfl) (hp_n (n := 9) rfl ?_)
    obtain ⟨rh9, qh9, hf⟩ := ms_bE hf
    refine m_cp (pc' := 12) Bh1 (hp_runS (As := [.int a2]) (rest := [.ref a0]) C Bh1 (m_X12_isWatcher n Γ l α a2 rh9 qh9) lb_X12_isWatcher ls_X12_isWatcher lk_X12_356 rfl (by decide) rfl hl.1 rfl (Nat.le_of_ble_eq_true rfl) dX12_agree_9 ⟨Nat.le_refl _, Nat.le_refl _⟩) rfl (fun Hh9 Lh9 Bh9 => ?_)
    refine lv_if_eq (tgt := 19) hx hb dX12_agree_12 (by decide) (fun c10 => ?_) (fun c10 => hp_n (n := 15) rfl ?_)
    ·
      replace hf := ms_iT c10 hf
      exact J19 α Hh9 Lh9 Bh9 σ hM a1 a2 ls (lv_sub hl [0, 1, 2] rfl) hf
    ·
      replace hf := ms_iF c10 hf
      refine lv_iconst (v := 0) hx hb dX12_agree_15 (by decide) (hp_n (n := 16) rfl ?_)
      refine lv_goto (tgt := 20) hx hb dX12_agree_16 (by decide) ?_
      exact J20 α Hh9 Lh9 Bh9 σ hM a1 a2 (0 : Int32) ls (lv_sub hl [0, 1, 2] rfl) hf
def f_X12_isTyped_L21 (n : Nat) (σ : ms_T) : Nat → Int32 → Int32 → Option Int32
  | 0, _, _ => none
  | k21 + 1, v1_h3, v2_h3 =>
    if (ms_I σ 664) ≤ v2_h3 then
      some (1 : Int32)
    else
      ms_g (((444 : Int32) + ((8 : Int32) * v1_h3)) + v2_h3) 1980 <|
      ms_g v2_h3 8 <|
      if (ms_E σ 40 ((((444 : Int32) + ((8 : Int32) * v1_h3)) + v2_h3)).toNatClampNeg) = (ms_E σ 45 (v2_h3).toNatClampNeg) then
        ms_l (v2_h3 + 1) fun x8 =>
        (f_X12_isTyped_L21 n σ k21) v1_h3 x8
      else
        some (0 : Int32)
def f_X12_isTyped (n : Nat) (σ : ms_T) (a1 : Int32) : Option Int32 :=
  ms_g ((252 : Int32) + a1) 1980 <|
  if (ms_E σ 40 (((252 : Int32) + a1)).toNatClampNeg) = (ms_I σ 664) then
    f_X12_isTyped_L21 n σ n a1 (0 : Int32)
  else
    some (0 : Int32)
set_option maxRecDepth 100000 in
set_option maxHeartbeats 4000000 in
theorem m_X12_isTyped (n : Nat) (Γ : hp_G) (l : Launch) (α : hp_T) (a0 : Nat) (ρ : Nat → Nat) (σ : ms_T) (hM : hm_M α a0 ρ σ) (a1 : Int32) (res : Int32) (hf : f_X12_isTyped n σ a1 = some res) : Met l yX12_isTyped (hp_ws yX12_isTyped cX12_isTyped 3 (some .boolean)) (hp_rm 0 0 0) (hp_Pc Γ α [.ref a0, .int a1]) (hp_Qi Γ (fun r β => β = α ∧ r = res)) 0 0 (hp_A Γ) := by
  unfold f_X12_isTyped at hf
  refine hp_start (by decide) ?_
  intro p e s m below meth c C hr hlk B0 hnm
  have C : hp_C Γ p m c cX12_isTyped 3 s ([.ref a0, .int a1] : List Value).toArray RX12 := C
  have hx := C.1.1
  have hb := C.1.2.1
  have hown := C.1.2.2.2.1
  have hts := C.1.2.2.2.2
  have B : hp_B Γ (fun _ _ => True) s α α s.heap [] := ⟨B0.1, B0.2.1, trivial⟩
  have hl := lv_entry ([.ref a0, .int a1]) (n := 3) (Nat.le_of_ble_eq_true rfl)
  show W p l e (hp_rm 0 0 0) s m ([.ref a0, .int a1] : List Value).toArray below meth c s.heap [] 0 0 (MQ below (hp_Qi Γ (fun r β => β = α ∧ r = res)) ([.ref a0, .int a1] : List Value).toArray s 0 0 (hp_A Γ)) (entryFrame m ([.ref a0, .int a1] : List Value).toArray 3)
  rw [lg_entry_eq]
  generalize (lg_sl ([.ref a0, .int a1]) ++ List.replicate (3 - (lg_sl ([.ref a0, .int a1])).length) Slot.unset).toArray = ls at hl ⊢
  have hl : lv_has ls 3 [(0, .ref a0), (1, .int a1)] := hl
  refine lv_aload_n hx hb dX12_isTyped_0 rfl (lv_at hl 0 rfl) (hp_n (n := 1) rfl ?_)
  refine m_getr (κ := 40) (k := 0) (pc' := 4) C B hM fl_X12_7 rfl (by decide) dX12_isTyped_1 rfl ?_
  refine lv_sipush (v := 252) hx hb dX12_isTyped_4 (by decide) (hp_n (n := 7) rfl ?_)
  refine lv_iload_n hx hb dX12_isTyped_7 rfl (lv_at hl 1 rfl) (hp_n (n := 8) rfl ?_)
  refine lv_iadd hx hb dX12_isTyped_8 (hp_n (n := 9) rfl ?_)
  obtain ⟨g1, hf⟩ := ms_gE hf
  refine m_ial (κ := 40) (φ := 650) (n := 1980) (pc' := 10) C B hM (by decide) (by decide) rfl g1 dX12_isTyped_9 rfl ?_
  refine lv_aload_n hx hb dX12_isTyped_10 rfl (lv_at hl 0 rfl) (hp_n (n := 11) rfl ?_)
  refine m_geti (k := 14) (φ := 664) (pc' := 14) C B hM fl_X12_203 rfl rfl dX12_isTyped_11 rfl ?_
  refine lv_icmp_eq (tgt := 19) hx hb dX12_isTyped_14 (by decide) (fun c2 => ?_) (fun c2 => hp_n (n := 17) rfl ?_)
  ·
    replace hf := ms_iT c2 hf
    refine lv_iconst (v := 0) hx hb dX12_isTyped_19 (by decide) (hp_n (n := 20) rfl ?_)
    have J21 : ∀ (k21 : Nat) (Hh3 : Heap) (Lh3 : List Loc) (Bh3 : hp_B Γ (fun _ _ => True) s α α Hh3 Lh3) (v1_h3 : Int32) (v2_h3 : Int32) (ls : Array Slot) (hl : lv_has ls 3 [(0, .ref a0), (1, .int v1_h3), (2, .int v2_h3)]) (hf : f_X12_isTyped_L21 n σ k21 v1_h3 v2_h3 = some res), W p l e (hp_rm 0 0 0) s m ([.ref a0, .int a1] : List Value).toArray below meth c Hh3 Lh3 0 0 (MQ below (hp_Qi Γ (fun r β => β = α ∧ r = res)) ([.ref a0, .int a1] : List Value).toArray s 0 0 (hp_A Γ)) (F0 m 21 ls []) := by
      intro k21
      induction k21 with
      | zero => intro Hh3 Lh3 Bh3 v1_h3 v2_h3 ls hl hf; rw [f_X12_isTyped_L21.eq_1] at hf; cases hf
      | succ k21 ih21 =>
        intro Hh3 Lh3 Bh3 v1_h3 v2_h3 ls hl hf
        rw [f_X12_isTyped_L21.eq_2] at hf
        refine lv_iload_n hx hb dX12_isTyped_21 rfl (lv_at hl 2 rfl) (hp_n (n := 22) rfl ?_)
        refine lv_aload_n hx hb dX12_isTyped_22 rfl (lv_at hl 0 rfl) (hp_n (n := 23) rfl ?_)
        refine m_geti (k := 14) (φ := 664) (pc' := 26) C Bh3 hM fl_X12_203 rfl rfl dX12_isTyped_23 rfl ?_
        refine lv_icmp_ge (tgt := 61) hx hb dX12_isTyped_26 (by decide) (fun c4 => ?_) (fun c4 => hp_n (n := 29) rfl ?_)
        ·
          replace hf := ms_iT c4 hf
          refine lv_iconst (v := 1) hx hb dX12_isTyped_61 (by decide) (hp_n (n := 62) rfl ?_)
          cases hf
          exact q_zret C Bh3 hr hlk (by decide) ⟨rfl, rfl⟩ dX12_isTyped_62
        ·
          replace hf := ms_iF c4 hf
          refine lv_aload_n hx hb dX12_isTyped_29 rfl (lv_at hl 0 rfl) (hp_n (n := 30) rfl ?_)
          refine m_getr (κ := 40) (k := 0) (pc' := 33) C Bh3 hM fl_X12_7 rfl (by decide) dX12_isTyped_30 rfl ?_
          refine lv_sipush (v := 444) hx hb dX12_isTyped_33 (by decide) (hp_n (n := 36) rfl ?_)
          refine lv_bipush (v := 8) hx hb dX12_isTyped_36 (by decide) (hp_n (n := 38) rfl ?_)
          refine lv_iload_n hx hb dX12_isTyped_38 rfl (lv_at hl 1 rfl) (hp_n (n := 39) rfl ?_)
          refine lv_imul hx hb dX12_isTyped_39 (hp_n (n := 40) rfl ?_)
          refine lv_iadd hx hb dX12_isTyped_40 (hp_n (n := 41) rfl ?_)
          refine lv_iload_n hx hb dX12_isTyped_41 rfl (lv_at hl 2 rfl) (hp_n (n := 42) rfl ?_)
          refine lv_iadd hx hb dX12_isTyped_42 (hp_n (n := 43) rfl ?_)
          obtain ⟨g5, hf⟩ := ms_gE hf
          refine m_ial (κ := 40) (φ := 650) (n := 1980) (pc' := 44) C Bh3 hM (by decide) (by decide) rfl g5 dX12_isTyped_43 rfl ?_
          refine lv_aload_n hx hb dX12_isTyped_44 rfl (lv_at hl 0 rfl) (hp_n (n := 45) rfl ?_)
          refine m_getr (κ := 45) (k := 12) (pc' := 48) C Bh3 hM fl_X12_25 rfl (by decide) dX12_isTyped_45 rfl ?_
          refine lv_iload_n hx hb dX12_isTyped_48 rfl (lv_at hl 2 rfl) (hp_n (n := 49) rfl ?_)
          obtain ⟨g6, hf⟩ := ms_gE hf
          refine m_ial (κ := 45) (φ := 662) (n := 8) (pc' := 50) C Bh3 hM (by decide) (by decide) rfl g6 dX12_isTyped_49 rfl ?_
          refine lv_icmp_eq (tgt := 55) hx hb dX12_isTyped_50 (by decide) (fun c7 => ?_) (fun c7 => hp_n (n := 53) rfl ?_)
          ·
            replace hf := ms_iT c7 hf
            obtain ⟨x8, ex8⟩ : ∃ y : Int32, y = v2_h3 + 1 := ⟨_, rfl⟩
            replace hf := ms_lE ex8 hf
            refine lv_iinc (v := x8) (lv' := [(2, .int x8), (0, .ref a0), (1, .int v1_h3)]) hx hb dX12_isTyped_55 hl (k := 2) rfl (by rw [ex8]; rfl) (by decide) rfl (fun ls hl => hp_n (n := 58) rfl ?_)
            refine lv_goto (tgt := 21) hx hb dX12_isTyped_58 (by decide) ?_
            exact ih21 Hh3 Lh3 Bh3 v1_h3 x8 ls (lv_sub hl [1, 2, 0] rfl) hf
          ·
            replace hf := ms_iF c7 hf
            refine lv_iconst (v := 0) hx hb dX12_isTyped_53 (by decide) (hp_n (n := 54) rfl ?_)
            cases hf
            exact q_zret C Bh3 hr hlk (by decide) ⟨rfl, rfl⟩ dX12_isTyped_54
    refine lv_istore_n (lv' := [(2, .int (0 : Int32)), (0, .ref a0), (1, .int a1)]) hx hb dX12_isTyped_20 rfl hl (by decide) rfl (fun ls hl => hp_n (n := 21) rfl ?_)
    exact J21 n s.heap [] B a1 (0 : Int32) ls (lv_sub hl [1, 2, 0] rfl) hf
  ·
    replace hf := ms_iF c2 hf
    refine lv_iconst (v := 0) hx hb dX12_isTyped_17 (by decide) (hp_n (n := 18) rfl ?_)
    cases hf
    exact q_zret C B hr hlk (by decide) ⟨rfl, rfl⟩ dX12_isTyped_18
def f_X12_where_J87 (n : Nat) (rec43 : ms_T → Int32 → Int32 → Int32 → Int32 → Int32 → Option (Int32 × ms_T)) (σh12 : ms_T) (v1_h12 : Int32) (v2_h12 : Int32) (v3_h12 : Int32) (v4_h12 : Int32) (v5_h12 : Int32) : Option (Int32 × ms_T) :=
  ms_l (v5_h12 + 1) fun x13 =>
  rec43 σh12 v1_h12 v2_h12 v3_h12 v4_h12 x13
def f_X12_where_J85 (n : Nat) (rec43 : ms_T → Int32 → Int32 → Int32 → Int32 → Int32 → Option (Int32 × ms_T)) (σh16 : ms_T) (v1_h16 : Int32) (v2_h16 : Int32) (v3_h16 : Int32) (v5_h16 : Int32) (w0_h16 : Int32) : Option (Int32 × ms_T) :=
  f_X12_where_J87 n rec43 σh16 v1_h16 v2_h16 v3_h16 w0_h16 v5_h16
def f_X12_where_L43 (n : Nat) : Nat → ms_T → Int32 → Int32 → Int32 → Int32 → Int32 → Option (Int32 × ms_T)
  | 0, _, _, _, _, _, _ => none
  | k43 + 1, σh5, v1_h5, v2_h5, v3_h5, v4_h5, v5_h5 =>
    ms_b (f_X12_sizeOf n σh5 v1_h5) fun rh6 =>
    if rh6 ≤ v5_h5 then
      if v2_h5 = (1 : Int32) then
        some (v3_h5, σh5)
      else
        if 0 ≤ v4_h5 then
          some (v4_h5, σh5)
        else
          ms_c (f_X12_refuse n σh5 (5 : Int32)) fun rh10 σh10 =>
          some (rh10, σh10)
    else
      ms_b (f_X12_isTyped n σh5 (((48 : Int32) * v1_h5) + v5_h5)) fun rh11 =>
      if rh11 = 0 then
        f_X12_where_J87 n (f_X12_where_L43 n k43) σh5 v1_h5 v2_h5 v3_h5 v4_h5 v5_h5
      else
        ms_l (v3_h5 + 1) fun x15 =>
        if 0 ≤ v4_h5 then
          f_X12_where_J85 n (f_X12_where_L43 n k43) σh5 v1_h5 v2_h5 x15 v5_h5 v4_h5
        else
          f_X12_where_J85 n (f_X12_where_L43 n k43) σh5 v1_h5 v2_h5 x15 v5_h5 v5_h5
def f_X12_where_J27 (n : Nat) (σh2 : ms_T) (v1_h2 : Int32) (v2_h2 : Int32) (w0_h2 : Int32) : Option (Int32 × ms_T) :=
  ms_c (f_X12_is n σh2 w0_h2) fun rh3 σh3 =>
  if rh3 = 0 then
    some ((-1 : Int32), σh3)
  else
    f_X12_where_L43 n n σh3 v1_h2 v2_h2 (0 : Int32) (-1 : Int32) (0 : Int32)
def f_X12_where (n : Nat) (σ : ms_T) (a1 : Int32) (a2 : Int32) : Option (Int32 × ms_T) :=
  ms_b (f_X12_isIn n a2 (0 : Int32) (1 : Int32)) fun rh1 =>
  if rh1 = 0 then
    f_X12_where_J27 n σ a1 a2 (1 : Int32)
  else
    ms_b (f_X12_isRecord n σ a1) fun rh19 =>
    if rh19 = 0 then
      f_X12_where_J27 n σ a1 a2 (2 : Int32)
    else
      f_X12_where_J27 n σ a1 a2 (0 : Int32)
set_option maxRecDepth 100000 in
set_option maxHeartbeats 4000000 in
theorem m_X12_where (n : Nat) (Γ : hp_G) (l : Launch) (α : hp_T) (a0 : Nat) (ρ : Nat → Nat) (σ : ms_T) (hM : hm_M α a0 ρ σ) (a1 : Int32) (a2 : Int32) (res : (Int32 × ms_T)) (hf : f_X12_where n σ a1 a2 = some res) : Met l yX12_where (hp_ws yX12_where cX12_where 6 (some .int)) (hp_rm 2 0 0) (hp_Pc Γ α [.ref a0, .int a1, .int a2]) (hp_Qi Γ (fun r β => r = res.1 ∧ mo α β ∧ hm_M β a0 ρ res.2)) 0 0 (hp_A Γ) := by
  unfold f_X12_where at hf
  refine hp_start (by decide) ?_
  intro p e s m below meth c C hr hlk B0 hnm
  have C : hp_C Γ p m c cX12_where 6 s ([.ref a0, .int a1, .int a2] : List Value).toArray RX12 := C
  have hx := C.1.1
  have hb := C.1.2.1
  have hown := C.1.2.2.2.1
  have hts := C.1.2.2.2.2
  have B : hp_B Γ mo s α α s.heap [] := ⟨B0.1, B0.2.1, mo_rf⟩
  have hl := lv_entry ([.ref a0, .int a1, .int a2]) (n := 6) (Nat.le_of_ble_eq_true rfl)
  show W p l e (hp_rm 2 0 0) s m ([.ref a0, .int a1, .int a2] : List Value).toArray below meth c s.heap [] 0 0 (MQ below (hp_Qi Γ (fun r β => r = res.1 ∧ mo α β ∧ hm_M β a0 ρ res.2)) ([.ref a0, .int a1, .int a2] : List Value).toArray s 0 0 (hp_A Γ)) (entryFrame m ([.ref a0, .int a1, .int a2] : List Value).toArray 6)
  rw [lg_entry_eq]
  generalize (lg_sl ([.ref a0, .int a1, .int a2]) ++ List.replicate (6 - (lg_sl ([.ref a0, .int a1, .int a2])).length) Slot.unset).toArray = ls at hl ⊢
  have hl : lv_has ls 6 [(0, .ref a0), (1, .int a1), (2, .int a2)] := hl
  refine lv_aload_n hx hb dX12_where_0 rfl (lv_at hl 0 rfl) (hp_n (n := 1) rfl ?_)
  refine lv_iload_n hx hb dX12_where_1 rfl (lv_at hl 2 rfl) (hp_n (n := 2) rfl ?_)
  refine lv_iconst (v := 0) hx hb dX12_where_2 (by decide) (hp_n (n := 3) rfl ?_)
  refine lv_iconst (v := 1) hx hb dX12_where_3 (by decide) (hp_n (n := 4) rfl ?_)
  obtain ⟨rh1, qh1, hf⟩ := ms_bE hf
  refine m_cp (pc' := 7) B (hp_runS (As := [.int a2, .int (0 : Int32), .int (1 : Int32)]) (rest := [.ref a0]) C B (m_X12_isIn n Γ l α a2 (0 : Int32) (1 : Int32) rh1 qh1) lb_X12_isIn ls_X12_isIn lk_X12_113 rfl (by decide) rfl hl.1 rfl (Nat.le_of_ble_eq_true rfl) dX12_where_4 ⟨Nat.le_refl _, Nat.le_refl _⟩) rfl (fun Hh1 Lh1 Bh1 => ?_)
  have J27 : ∀ (αh2 : hp_T) (Hh2 : Heap) (Lh2 : List Loc) (Bh2 : hp_B Γ mo s α αh2 Hh2 Lh2) (σh2 : ms_T) (Mh2 : hm_M αh2 a0 ρ σh2) (v1_h2 : Int32) (v2_h2 : Int32) (w0_h2 : Int32) (ls : Array Slot) (hl : lv_has ls 6 [(0, .ref a0), (1, .int v1_h2), (2, .int v2_h2)]) (hf : f_X12_where_J27 n σh2 v1_h2 v2_h2 w0_h2 = some res), W p l e (hp_rm 2 0 0) s m ([.ref a0, .int a1, .int a2] : List Value).toArray below meth c Hh2 Lh2 0 0 (MQ below (hp_Qi Γ (fun r β => r = res.1 ∧ mo α β ∧ hm_M β a0 ρ res.2)) ([.ref a0, .int a1, .int a2] : List Value).toArray s 0 0 (hp_A Γ)) (F0 m 27 ls [.int w0_h2, .ref a0]) := by
    intro αh2 Hh2 Lh2 Bh2 σh2 Mh2 v1_h2 v2_h2 w0_h2 ls hl hf
    unfold f_X12_where_J27 at hf
    obtain ⟨rh3, σh3, qh3, hf⟩ := ms_cE hf
    refine m_ci (pc' := 30) (a := a0) (ρ := ρ) Bh2 (hp_runV (As := [.int w0_h2]) (rest := []) C Bh2 (m_X12_is n Γ l αh2 a0 ρ σh2 Mh2 w0_h2 (rh3, σh3) qh3) lb_X12_is lv_X12_is lk_X12_309 Mh2.1 rfl (by decide) rfl hl.1 rfl (Nat.le_of_ble_eq_true rfl) dX12_where_27 ⟨Nat.le_refl _, Nat.le_refl _⟩) rfl (fun αh3 Hh3 Lh3 Bh3 Mh3 => ?_)
    refine lv_if_ne (tgt := 35) hx hb dX12_where_30 (by decide) (fun c4 => ?_) (fun c4 => hp_n (n := 33) rfl ?_)
    ·
      replace hf := ms_iF c4 hf
      refine lv_iconst (v := 0) hx hb dX12_where_35 (by decide) (hp_n (n := 36) rfl ?_)
      refine lv_istore_n (lv' := [(3, .int (0 : Int32)), (0, .ref a0), (1, .int v1_h2), (2, .int v2_h2)]) hx hb dX12_where_36 rfl hl (by decide) rfl (fun ls hl => hp_n (n := 37) rfl ?_)
      refine lv_iconst (v := (-1)) hx hb dX12_where_37 (by decide) (hp_n (n := 38) rfl ?_)
      refine lv_istore (lv' := [(4, .int (-1 : Int32)), (3, .int (0 : Int32)), (0, .ref a0), (1, .int v1_h2), (2, .int v2_h2)]) hx hb dX12_where_38 hl (by decide) rfl (fun ls hl => hp_n (n := 40) rfl ?_)
      refine lv_iconst (v := 0) hx hb dX12_where_40 (by decide) (hp_n (n := 41) rfl ?_)
      have J43 : ∀ (k43 : Nat) (αh5 : hp_T) (Hh5 : Heap) (Lh5 : List Loc) (Bh5 : hp_B Γ mo s α αh5 Hh5 Lh5) (σh5 : ms_T) (Mh5 : hm_M αh5 a0 ρ σh5) (v1_h5 : Int32) (v2_h5 : Int32) (v3_h5 : Int32) (v4_h5 : Int32) (v5_h5 : Int32) (ls : Array Slot) (hl : lv_has ls 6 [(0, .ref a0), (1, .int v1_h5), (2, .int v2_h5), (3, .int v3_h5), (4, .int v4_h5), (5, .int v5_h5)]) (hf : f_X12_where_L43 n k43 σh5 v1_h5 v2_h5 v3_h5 v4_h5 v5_h5 = some res), W p l e (hp_rm 2 0 0) s m ([.ref a0, .int a1, .int a2] : List Value).toArray below meth c Hh5 Lh5 0 0 (MQ below (hp_Qi Γ (fun r β => r = res.1 ∧ mo α β ∧ hm_M β a0 ρ res.2)) ([.ref a0, .int a1, .int a2] : List Value).toArray s 0 0 (hp_A Γ)) (F0 m 43 ls []) := by
        intro k43
        induction k43 with
        | zero => intro αh5 Hh5 Lh5 Bh5 σh5 Mh5 v1_h5 v2_h5 v3_h5 v4_h5 v5_h5 ls hl hf; rw [f_X12_where_L43.eq_1] at hf; cases hf
        | succ k43 ih43 =>
          intro αh5 Hh5 Lh5 Bh5 σh5 Mh5 v1_h5 v2_h5 v3_h5 v4_h5 v5_h5 ls hl hf
          rw [f_X12_where_L43.eq_2] at hf
          refine lv_iload hx hb dX12_where_43 (lv_at hl 5 rfl) (hp_n (n := 45) rfl ?_)
          refine lv_aload_n hx hb dX12_where_45 rfl (lv_at hl 0 rfl) (hp_n (n := 46) rfl ?_)
          refine lv_iload_n hx hb dX12_where_46 rfl (lv_at hl 1 rfl) (hp_n (n := 47) rfl ?_)
          obtain ⟨rh6, qh6, hf⟩ := ms_bE hf
          refine m_cp (pc' := 50) Bh5 (hp_runV (As := [.int v1_h5]) (rest := [.int v5_h5]) C Bh5 (m_X12_sizeOf n Γ l αh5 a0 ρ σh5 Mh5 v1_h5 rh6 qh6) lb_X12_sizeOf lv_X12_sizeOf lk_X12_209 Mh5.1 rfl (by decide) rfl hl.1 rfl (Nat.le_of_ble_eq_true rfl) dX12_where_47 ⟨Nat.le_refl _, Nat.le_refl _⟩) rfl (fun Hh6 Lh6 Bh6 => ?_)
          refine lv_icmp_ge (tgt := 93) hx hb dX12_where_50 (by decide) (fun c7 => ?_) (fun c7 => hp_n (n := 53) rfl ?_)
          ·
            replace hf := ms_iT c7 hf
            refine lv_iload_n hx hb dX12_where_93 rfl (lv_at hl 2 rfl) (hp_n (n := 94) rfl ?_)
            refine lv_iconst (v := 1) hx hb dX12_where_94 (by decide) (hp_n (n := 95) rfl ?_)
            refine lv_icmp_ne (tgt := 102) hx hb dX12_where_95 (by decide) (fun c8 => ?_) (fun c8 => hp_n (n := 98) rfl ?_)
            ·
              replace hf := ms_iF c8 hf
              refine lv_iload hx hb dX12_where_102 (lv_at hl 4 rfl) (hp_n (n := 104) rfl ?_)
              refine lv_if_ge (tgt := 115) hx hb dX12_where_104 (by decide) (fun c9 => ?_) (fun c9 => hp_n (n := 107) rfl ?_)
              ·
                replace hf := ms_iT c9 hf
                refine lv_iload hx hb dX12_where_115 (lv_at hl 4 rfl) (hp_n (n := 117) rfl ?_)
                cases hf
                exact q_iret C Bh6 hr hlk ⟨rfl, Bh6.2.2, Mh5⟩ dX12_where_117
              ·
                replace hf := ms_iF c9 hf
                refine lv_aload_n hx hb dX12_where_107 rfl (lv_at hl 0 rfl) (hp_n (n := 108) rfl ?_)
                refine lv_iconst (v := 5) hx hb dX12_where_108 (by decide) (hp_n (n := 109) rfl ?_)
                obtain ⟨rh10, σh10, qh10, hf⟩ := ms_cE hf
                refine m_ci (pc' := 112) (a := a0) (ρ := ρ) Bh6 (hp_runV (As := [.int (5 : Int32)]) (rest := []) C Bh6 (m_X12_refuse n Γ l αh5 a0 ρ σh5 Mh5 (5 : Int32) (rh10, σh10) qh10) lb_X12_refuse lv_X12_refuse lk_X12_212 Mh5.1 rfl (by decide) rfl hl.1 rfl (Nat.le_of_ble_eq_true rfl) dX12_where_109 ⟨Nat.le_refl _, Nat.le_refl _⟩) rfl (fun αh10 Hh10 Lh10 Bh10 Mh10 => ?_)
                refine lv_goto (tgt := 117) hx hb dX12_where_112 (by decide) ?_
                cases hf
                exact q_iret C Bh10 hr hlk ⟨rfl, Bh10.2.2, Mh10⟩ dX12_where_117
            ·
              replace hf := ms_iT c8 hf
              refine lv_iload_n hx hb dX12_where_98 rfl (lv_at hl 3 rfl) (hp_n (n := 99) rfl ?_)
              refine lv_goto (tgt := 117) hx hb dX12_where_99 (by decide) ?_
              cases hf
              exact q_iret C Bh6 hr hlk ⟨rfl, Bh6.2.2, Mh5⟩ dX12_where_117
          ·
            replace hf := ms_iF c7 hf
            refine lv_aload_n hx hb dX12_where_53 rfl (lv_at hl 0 rfl) (hp_n (n := 54) rfl ?_)
            refine lv_bipush (v := 48) hx hb dX12_where_54 (by decide) (hp_n (n := 56) rfl ?_)
            refine lv_iload_n hx hb dX12_where_56 rfl (lv_at hl 1 rfl) (hp_n (n := 57) rfl ?_)
            refine lv_imul hx hb dX12_where_57 (hp_n (n := 58) rfl ?_)
            refine lv_iload hx hb dX12_where_58 (lv_at hl 5 rfl) (hp_n (n := 60) rfl ?_)
            refine lv_iadd hx hb dX12_where_60 (hp_n (n := 61) rfl ?_)
            obtain ⟨rh11, qh11, hf⟩ := ms_bE hf
            refine m_cp (pc' := 64) Bh6 (hp_runV (As := [.int (((48 : Int32) * v1_h5) + v5_h5)]) (rest := []) C Bh6 (m_X12_isTyped n Γ l αh5 a0 ρ σh5 Mh5 (((48 : Int32) * v1_h5) + v5_h5) rh11 qh11) lb_X12_isTyped lv_X12_isTyped lk_X12_393 Mh5.1 rfl (by decide) rfl hl.1 rfl (Nat.le_of_ble_eq_true rfl) dX12_where_61 ⟨Nat.le_refl _, Nat.le_refl _⟩) rfl (fun Hh11 Lh11 Bh11 => ?_)
            have J87 : ∀ (αh12 : hp_T) (Hh12 : Heap) (Lh12 : List Loc) (Bh12 : hp_B Γ mo s α αh12 Hh12 Lh12) (σh12 : ms_T) (Mh12 : hm_M αh12 a0 ρ σh12) (v1_h12 : Int32) (v2_h12 : Int32) (v3_h12 : Int32) (v4_h12 : Int32) (v5_h12 : Int32) (ls : Array Slot) (hl : lv_has ls 6 [(0, .ref a0), (1, .int v1_h12), (2, .int v2_h12), (3, .int v3_h12), (4, .int v4_h12), (5, .int v5_h12)]) (hf : f_X12_where_J87 n (f_X12_where_L43 n k43) σh12 v1_h12 v2_h12 v3_h12 v4_h12 v5_h12 = some res), W p l e (hp_rm 2 0 0) s m ([.ref a0, .int a1, .int a2] : List Value).toArray below meth c Hh12 Lh12 0 0 (MQ below (hp_Qi Γ (fun r β => r = res.1 ∧ mo α β ∧ hm_M β a0 ρ res.2)) ([.ref a0, .int a1, .int a2] : List Value).toArray s 0 0 (hp_A Γ)) (F0 m 87 ls []) := by
              intro αh12 Hh12 Lh12 Bh12 σh12 Mh12 v1_h12 v2_h12 v3_h12 v4_h12 v5_h12 ls hl hf
              unfold f_X12_where_J87 at hf
              obtain ⟨x13, ex13⟩ : ∃ y : Int32, y = v5_h12 + 1 := ⟨_, rfl⟩
              replace hf := ms_lE ex13 hf
              refine lv_iinc (v := x13) (lv' := [(5, .int x13), (0, .ref a0), (1, .int v1_h12), (2, .int v2_h12), (3, .int v3_h12), (4, .int v4_h12)]) hx hb dX12_where_87 hl (k := 5) rfl (by rw [ex13]; rfl) (by decide) rfl (fun ls hl => hp_n (n := 90) rfl ?_)
              refine lv_goto (tgt := 43) hx hb dX12_where_90 (by decide) ?_
              exact ih43 αh12 Hh12 Lh12 Bh12 σh12 Mh12 v1_h12 v2_h12 v3_h12 v4_h12 x13 ls (lv_sub hl [1, 2, 3, 4, 5, 0] rfl) hf
            refine lv_if_ne (tgt := 70) hx hb dX12_where_64 (by decide) (fun c14 => ?_) (fun c14 => hp_n (n := 67) rfl ?_)
            ·
              replace hf := ms_iF c14 hf
              obtain ⟨x15, ex15⟩ : ∃ y : Int32, y = v3_h5 + 1 := ⟨_, rfl⟩
              replace hf := ms_lE ex15 hf
              refine lv_iinc (v := x15) (lv' := [(3, .int x15), (0, .ref a0), (1, .int v1_h5), (2, .int v2_h5), (4, .int v4_h5), (5, .int v5_h5)]) hx hb dX12_where_70 hl (k := 3) rfl (by rw [ex15]; rfl) (by decide) rfl (fun ls hl => hp_n (n := 73) rfl ?_)
              refine lv_iload hx hb dX12_where_73 (lv_at hl 4 rfl) (hp_n (n := 75) rfl ?_)
              have J85 : ∀ (αh16 : hp_T) (Hh16 : Heap) (Lh16 : List Loc) (Bh16 : hp_B Γ mo s α αh16 Hh16 Lh16) (σh16 : ms_T) (Mh16 : hm_M αh16 a0 ρ σh16) (v1_h16 : Int32) (v2_h16 : Int32) (v3_h16 : Int32) (v5_h16 : Int32) (w0_h16 : Int32) (ls : Array Slot) (hl : lv_has ls 6 [(0, .ref a0), (1, .int v1_h16), (2, .int v2_h16), (3, .int v3_h16), (5, .int v5_h16)]) (hf : f_X12_where_J85 n (f_X12_where_L43 n k43) σh16 v1_h16 v2_h16 v3_h16 v5_h16 w0_h16 = some res), W p l e (hp_rm 2 0 0) s m ([.ref a0, .int a1, .int a2] : List Value).toArray below meth c Hh16 Lh16 0 0 (MQ below (hp_Qi Γ (fun r β => r = res.1 ∧ mo α β ∧ hm_M β a0 ρ res.2)) ([.ref a0, .int a1, .int a2] : List Value).toArray s 0 0 (hp_A Γ)) (F0 m 85 ls [.int w0_h16]) := by
                intro αh16 Hh16 Lh16 Bh16 σh16 Mh16 v1_h16 v2_h16 v3_h16 v5_h16 w0_h16 ls hl hf
                unfold f_X12_where_J85 at hf
                refine lv_istore (lv' := [(4, .int w0_h16), (0, .ref a0), (1, .int v1_h16), (2, .int v2_h16), (3, .int v3_h16), (5, .int v5_h16)]) hx hb dX12_where_85 hl (by decide) rfl (fun ls hl => hp_n (n := 87) rfl ?_)
                exact J87 αh16 Hh16 Lh16 Bh16 σh16 Mh16 v1_h16 v2_h16 v3_h16 w0_h16 v5_h16 ls (lv_sub hl [1, 2, 3, 4, 0, 5] rfl) hf
              refine lv_if_ge (tgt := 83) hx hb dX12_where_75 (by decide) (fun c17 => ?_) (fun c17 => hp_n (n := 78) rfl ?_)
              ·
                replace hf := ms_iT c17 hf
                refine lv_iload hx hb dX12_where_83 (lv_at hl 4 rfl) (hp_n (n := 85) rfl ?_)
                exact J85 αh5 Hh11 Lh11 Bh11 σh5 Mh5 v1_h5 v2_h5 x15 v5_h5 v4_h5 ls (lv_sub hl [1, 2, 3, 0, 5] rfl) hf
              ·
                replace hf := ms_iF c17 hf
                refine lv_iload hx hb dX12_where_78 (lv_at hl 5 rfl) (hp_n (n := 80) rfl ?_)
                refine lv_goto (tgt := 85) hx hb dX12_where_80 (by decide) ?_
                exact J85 αh5 Hh11 Lh11 Bh11 σh5 Mh5 v1_h5 v2_h5 x15 v5_h5 v5_h5 ls (lv_sub hl [1, 2, 3, 0, 5] rfl) hf
            ·
              replace hf := ms_iT c14 hf
              refine lv_goto (tgt := 87) hx hb dX12_where_67 (by decide) ?_
              exact J87 αh5 Hh11 Lh11 Bh11 σh5 Mh5 v1_h5 v2_h5 v3_h5 v4_h5 v5_h5 ls (lv_sub hl [0, 1, 2, 3, 4, 5] rfl) hf
      refine lv_istore (lv' := [(5, .int (0 : Int32)), (4, .int (-1 : Int32)), (3, .int (0 : Int32)), (0, .ref a0), (1, .int v1_h2), (2, .int v2_h2)]) hx hb dX12_where_41 hl (by decide) rfl (fun ls hl => hp_n (n := 43) rfl ?_)
      exact J43 n αh3 Hh3 Lh3 Bh3 σh3 Mh3 v1_h2 v2_h2 (0 : Int32) (-1 : Int32) (0 : Int32) ls (lv_sub hl [3, 4, 5, 2, 1, 0] rfl) hf
    ·
      replace hf := ms_iT c4 hf
      refine lv_iconst (v := (-1)) hx hb dX12_where_33 (by decide) (hp_n (n := 34) rfl ?_)
      cases hf
      exact q_iret C Bh3 hr hlk ⟨rfl, Bh3.2.2, Mh3⟩ dX12_where_34
  refine lv_if_ne (tgt := 14) hx hb dX12_where_7 (by decide) (fun c18 => ?_) (fun c18 => hp_n (n := 10) rfl ?_)
  ·
    replace hf := ms_iF c18 hf
    refine lv_aload_n hx hb dX12_where_14 rfl (lv_at hl 0 rfl) (hp_n (n := 15) rfl ?_)
    refine lv_iload_n hx hb dX12_where_15 rfl (lv_at hl 1 rfl) (hp_n (n := 16) rfl ?_)
    obtain ⟨rh19, qh19, hf⟩ := ms_bE hf
    refine m_cp (pc' := 19) Bh1 (hp_runV (As := [.int a1]) (rest := [.ref a0]) C Bh1 (m_X12_isRecord n Γ l α a0 ρ σ hM a1 rh19 qh19) lb_X12_isRecord lv_X12_isRecord lk_X12_344 hM.1 rfl (by decide) rfl hl.1 rfl (Nat.le_of_ble_eq_true rfl) dX12_where_16 ⟨Nat.le_refl _, Nat.le_refl _⟩) rfl (fun Hh19 Lh19 Bh19 => ?_)
    refine lv_if_ne (tgt := 26) hx hb dX12_where_19 (by decide) (fun c20 => ?_) (fun c20 => hp_n (n := 22) rfl ?_)
    ·
      replace hf := ms_iF c20 hf
      refine lv_iconst (v := 0) hx hb dX12_where_26 (by decide) (hp_n (n := 27) rfl ?_)
      exact J27 α Hh19 Lh19 Bh19 σ hM a1 a2 (0 : Int32) ls (lv_sub hl [0, 1, 2] rfl) hf
    ·
      replace hf := ms_iT c20 hf
      refine lv_iconst (v := 2) hx hb dX12_where_22 (by decide) (hp_n (n := 23) rfl ?_)
      refine lv_goto (tgt := 27) hx hb dX12_where_23 (by decide) ?_
      exact J27 α Hh19 Lh19 Bh19 σ hM a1 a2 (2 : Int32) ls (lv_sub hl [0, 1, 2] rfl) hf
  ·
    replace hf := ms_iT c18 hf
    refine lv_iconst (v := 1) hx hb dX12_where_10 (by decide) (hp_n (n := 11) rfl ?_)
    refine lv_goto (tgt := 27) hx hb dX12_where_11 (by decide) ?_
    exact J27 α Hh1 Lh1 Bh1 σ hM a1 a2 (1 : Int32) ls (lv_sub hl [0, 1, 2] rfl) hf
def f_X12_seeks_J29 (n : Nat) (recM : ms_T → Int32 → Int32 → Option ms_T) (σh3 : ms_T) (v1_h3 : Int32) (v2_h3 : Int32) : Option ms_T :=
  ms_l (ms_sI σh3 683 ((ms_I σh3 683) - (1 : Int32))) fun σh4 =>
  if v2_h3 = (1 : Int32) then
    some σh4
  else
    ms_b (f_X12_part0 n v2_h3) fun rh6 =>
    ms_b (recM σh4 v1_h3 rh6) fun σh7 =>
    ms_b (recM σh7 (v1_h3 + rh6) (v2_h3 - rh6)) fun σh8 =>
    some σh8
def f_X12_seeks (n : Nat) : Nat → ms_T → Int32 → Int32 → Option ms_T
  | 0, _, _, _ => none
  | d + 1, σ, a1, a2 =>
    if a2 = 0 then
      some σ
    else
      if 0 ≤ (ms_I σ 683) then
        if (ms_I σ 683) = 0 then
          ms_l (ms_sI σ 684 a1) fun σh10 =>
          ms_l (ms_sI σh10 685 a2) fun σh11 =>
          f_X12_seeks_J29 n (f_X12_seeks n d) σh11 a1 a2
        else
          f_X12_seeks_J29 n (f_X12_seeks n d) σ a1 a2
      else
        some σ
set_option maxRecDepth 100000 in
set_option maxHeartbeats 4000000 in
theorem m_X12_seeks (n : Nat) : ∀ (d : Nat) (Γ : hp_G) (l : Launch) (α : hp_T) (a0 : Nat) (ρ : Nat → Nat) (σ : ms_T) (hM : hm_M α a0 ρ σ) (a1 : Int32) (a2 : Int32) (res : ms_T) (hf : f_X12_seeks n d σ a1 a2 = some res), Met l yX12_seeks (hp_ws yX12_seeks cX12_seeks 4 none) (hp_rm (d + 0) 0 0) (hp_Pc Γ α [.ref a0, .int a1, .int a2]) (hp_Qv Γ (fun β => mo α β ∧ hm_M β a0 ρ res)) 0 0 (hp_A Γ) := by
  intro d
  induction d with
  | zero => intro Γ l α a0 ρ σ hM a1 a2 res hf; rw [f_X12_seeks.eq_1] at hf; cases hf
  | succ d ihM =>
    intro Γ l α a0 ρ σ hM a1 a2 res hf
    rw [f_X12_seeks.eq_2] at hf
    refine hp_start (by decide) ?_
    intro p e s m below meth c C hr hlk B0 hnm
    have C : hp_C Γ p m c cX12_seeks 4 s ([.ref a0, .int a1, .int a2] : List Value).toArray RX12 := C
    have hx := C.1.1
    have hb := C.1.2.1
    have hown := C.1.2.2.2.1
    have hts := C.1.2.2.2.2
    have B : hp_B Γ mo s α α s.heap [] := ⟨B0.1, B0.2.1, mo_rf⟩
    have hl := lv_entry ([.ref a0, .int a1, .int a2]) (n := 4) (Nat.le_of_ble_eq_true rfl)
    show W p l e (hp_rm (d + 1 + 0) 0 0) s m ([.ref a0, .int a1, .int a2] : List Value).toArray below meth c s.heap [] 0 0 (MQ below (hp_Qv Γ (fun β => mo α β ∧ hm_M β a0 ρ res)) ([.ref a0, .int a1, .int a2] : List Value).toArray s 0 0 (hp_A Γ)) (entryFrame m ([.ref a0, .int a1, .int a2] : List Value).toArray 4)
    rw [lg_entry_eq]
    generalize (lg_sl ([.ref a0, .int a1, .int a2]) ++ List.replicate (4 - (lg_sl ([.ref a0, .int a1, .int a2])).length) Slot.unset).toArray = ls at hl ⊢
    have hl : lv_has ls 4 [(0, .ref a0), (1, .int a1), (2, .int a2)] := hl
    refine lv_iload_n hx hb dX12_seeks_0 rfl (lv_at hl 2 rfl) (hp_n (n := 1) rfl ?_)
    refine lv_if_eq (tgt := 11) hx hb dX12_seeks_1 (by decide) (fun c1 => ?_) (fun c1 => hp_n (n := 4) rfl ?_)
    ·
      replace hf := ms_iT c1 hf
      cases hf
      exact q_vret C B hr hlk ⟨B.2.2, hM⟩ dX12_seeks_11
    ·
      replace hf := ms_iF c1 hf
      refine lv_aload_n hx hb dX12_seeks_4 rfl (lv_at hl 0 rfl) (hp_n (n := 5) rfl ?_)
      refine m_geti (k := 33) (φ := 683) (pc' := 8) C B hM fl_X12_396 rfl rfl dX12_seeks_5 rfl ?_
      refine lv_if_ge (tgt := 12) hx hb dX12_seeks_8 (by decide) (fun c2 => ?_) (fun c2 => hp_n (n := 11) rfl ?_)
      ·
        replace hf := ms_iT c2 hf
        refine lv_aload_n hx hb dX12_seeks_12 rfl (lv_at hl 0 rfl) (hp_n (n := 13) rfl ?_)
        refine m_geti (k := 33) (φ := 683) (pc' := 16) C B hM fl_X12_396 rfl rfl dX12_seeks_13 rfl ?_
        have J29 : ∀ (αh3 : hp_T) (Hh3 : Heap) (Lh3 : List Loc) (Bh3 : hp_B Γ mo s α αh3 Hh3 Lh3) (σh3 : ms_T) (Mh3 : hm_M αh3 a0 ρ σh3) (v1_h3 : Int32) (v2_h3 : Int32) (ls : Array Slot) (hl : lv_has ls 4 [(0, .ref a0), (1, .int v1_h3), (2, .int v2_h3)]) (hf : f_X12_seeks_J29 n (f_X12_seeks n d) σh3 v1_h3 v2_h3 = some res), W p l e (hp_rm (d + 1 + 0) 0 0) s m ([.ref a0, .int a1, .int a2] : List Value).toArray below meth c Hh3 Lh3 0 0 (MQ below (hp_Qv Γ (fun β => mo α β ∧ hm_M β a0 ρ res)) ([.ref a0, .int a1, .int a2] : List Value).toArray s 0 0 (hp_A Γ)) (F0 m 29 ls []) := by
          intro αh3 Hh3 Lh3 Bh3 σh3 Mh3 v1_h3 v2_h3 ls hl hf
          unfold f_X12_seeks_J29 at hf
          refine lv_aload_n hx hb dX12_seeks_29 rfl (lv_at hl 0 rfl) (hp_n (n := 30) rfl ?_)
          refine lv_dup hx hb dX12_seeks_30 rfl (hp_n (n := 31) rfl ?_)
          refine m_geti (k := 33) (φ := 683) (pc' := 34) C Bh3 Mh3 fl_X12_396 rfl rfl dX12_seeks_31 rfl ?_
          refine lv_iconst (v := 1) hx hb dX12_seeks_34 (by decide) (hp_n (n := 35) rfl ?_)
          refine lv_isub hx hb dX12_seeks_35 (hp_n (n := 36) rfl ?_)
          refine m_puti (k := 33) (φ := 683) (pc' := 39) C Bh3 Mh3 fl_X12_396 rfl rfl rfl rfl rfl dX12_seeks_36 rfl (fun αh4 Hh4 Lh4 σh4 eh4 Bh4 Mh4 => ?_)
          replace hf := ms_lE eh4 hf
          refine lv_iload_n hx hb dX12_seeks_39 rfl (lv_at hl 2 rfl) (hp_n (n := 40) rfl ?_)
          refine lv_iconst (v := 1) hx hb dX12_seeks_40 (by decide) (hp_n (n := 41) rfl ?_)
          refine lv_icmp_ne (tgt := 45) hx hb dX12_seeks_41 (by decide) (fun c5 => ?_) (fun c5 => hp_n (n := 44) rfl ?_)
          ·
            replace hf := ms_iF c5 hf
            refine lv_iload_n hx hb dX12_seeks_45 rfl (lv_at hl 2 rfl) (hp_n (n := 46) rfl ?_)
            obtain ⟨rh6, qh6, hf⟩ := ms_bE hf
            refine m_cp (pc' := 49) Bh4 (hp_runS (As := [.int v2_h3]) (rest := []) C Bh4 (m_X12_part0 n Γ l αh4 v2_h3 rh6 qh6) lb_X12_part0 ls_X12_part0 lk_X12_128 rfl (by omega) rfl hl.1 rfl (Nat.le_of_ble_eq_true rfl) dX12_seeks_46 ⟨Nat.le_refl _, Nat.le_refl _⟩) rfl (fun Hh6 Lh6 Bh6 => ?_)
            refine lv_istore_n (lv' := [(3, .int rh6), (0, .ref a0), (1, .int v1_h3), (2, .int v2_h3)]) hx hb dX12_seeks_49 rfl hl (by decide) rfl (fun ls hl => hp_n (n := 50) rfl ?_)
            refine lv_aload_n hx hb dX12_seeks_50 rfl (lv_at hl 1 rfl) (hp_n (n := 51) rfl ?_)
            refine lv_iload_n hx hb dX12_seeks_51 rfl (lv_at hl 2 rfl) (hp_n (n := 52) rfl ?_)
            refine lv_iload_n hx hb dX12_seeks_52 rfl (lv_at hl 0 rfl) (hp_n (n := 53) rfl ?_)
            obtain ⟨σh7, qh7, hf⟩ := ms_bE hf
            refine m_cv (pc' := 56) (a := a0) (ρ := ρ) Bh6 (hp_runV (As := [.int v1_h3, .int rh6]) (rest := []) C Bh6 (ihM Γ l αh4 a0 ρ σh4 Mh4 v1_h3 rh6 σh7 qh7) lb_X12_seeks lv_X12_seeks lk_X12_405 Mh4.1 rfl (by omega) rfl hl.1 rfl (Nat.le_of_ble_eq_true rfl) dX12_seeks_53 ⟨Nat.le_refl _, Nat.le_refl _⟩) rfl (fun αh7 Hh7 Lh7 Bh7 Mh7 => ?_)
            refine lv_aload_n hx hb dX12_seeks_56 rfl (lv_at hl 1 rfl) (hp_n (n := 57) rfl ?_)
            refine lv_iload_n hx hb dX12_seeks_57 rfl (lv_at hl 2 rfl) (hp_n (n := 58) rfl ?_)
            refine lv_iload_n hx hb dX12_seeks_58 rfl (lv_at hl 0 rfl) (hp_n (n := 59) rfl ?_)
            refine lv_iadd hx hb dX12_seeks_59 (hp_n (n := 60) rfl ?_)
            refine lv_iload_n hx hb dX12_seeks_60 rfl (lv_at hl 3 rfl) (hp_n (n := 61) rfl ?_)
            refine lv_iload_n hx hb dX12_seeks_61 rfl (lv_at hl 0 rfl) (hp_n (n := 62) rfl ?_)
            refine lv_isub hx hb dX12_seeks_62 (hp_n (n := 63) rfl ?_)
            obtain ⟨σh8, qh8, hf⟩ := ms_bE hf
            refine m_cv (pc' := 66) (a := a0) (ρ := ρ) Bh7 (hp_runV (As := [.int (v1_h3 + rh6), .int (v2_h3 - rh6)]) (rest := []) C Bh7 (ihM Γ l αh7 a0 ρ σh7 Mh7 (v1_h3 + rh6) (v2_h3 - rh6) σh8 qh8) lb_X12_seeks lv_X12_seeks lk_X12_405 Mh7.1 rfl (by omega) rfl hl.1 rfl (Nat.le_of_ble_eq_true rfl) dX12_seeks_63 ⟨Nat.le_refl _, Nat.le_refl _⟩) rfl (fun αh8 Hh8 Lh8 Bh8 Mh8 => ?_)
            cases hf
            exact q_vret C Bh8 hr hlk ⟨Bh8.2.2, Mh8⟩ dX12_seeks_66
          ·
            replace hf := ms_iT c5 hf
            cases hf
            exact q_vret C Bh4 hr hlk ⟨Bh4.2.2, Mh4⟩ dX12_seeks_44
        refine lv_if_ne (tgt := 29) hx hb dX12_seeks_16 (by decide) (fun c9 => ?_) (fun c9 => hp_n (n := 19) rfl ?_)
        ·
          replace hf := ms_iF c9 hf
          exact J29 α s.heap [] B σ hM a1 a2 ls (lv_sub hl [0, 1, 2] rfl) hf
        ·
          replace hf := ms_iT c9 hf
          refine lv_aload_n hx hb dX12_seeks_19 rfl (lv_at hl 0 rfl) (hp_n (n := 20) rfl ?_)
          refine lv_iload_n hx hb dX12_seeks_20 rfl (lv_at hl 1 rfl) (hp_n (n := 21) rfl ?_)
          refine m_puti (k := 34) (φ := 684) (pc' := 24) C B hM fl_X12_399 rfl rfl rfl rfl rfl dX12_seeks_21 rfl (fun αh10 Hh10 Lh10 σh10 eh10 Bh10 Mh10 => ?_)
          replace hf := ms_lE eh10 hf
          refine lv_aload_n hx hb dX12_seeks_24 rfl (lv_at hl 0 rfl) (hp_n (n := 25) rfl ?_)
          refine lv_iload_n hx hb dX12_seeks_25 rfl (lv_at hl 2 rfl) (hp_n (n := 26) rfl ?_)
          refine m_puti (k := 35) (φ := 685) (pc' := 29) C Bh10 Mh10 fl_X12_402 rfl rfl rfl rfl rfl dX12_seeks_26 rfl (fun αh11 Hh11 Lh11 σh11 eh11 Bh11 Mh11 => ?_)
          replace hf := ms_lE eh11 hf
          exact J29 αh11 Hh11 Lh11 Bh11 σh11 Mh11 a1 a2 ls (lv_sub hl [0, 1, 2] rfl) hf
      ·
        replace hf := ms_iF c2 hf
        cases hf
        exact q_vret C B hr hlk ⟨B.2.2, hM⟩ dX12_seeks_11
def f_X12_tree_J25 (n : Nat) (σh1 : ms_T) (v1_h1 : Int32) (v2_h1 : Int32) (v3_h1 : Int32) (v4_h1 : Int32) (w0_h1 : Int32) : Option (Int32 × ms_T) :=
  ms_c (f_X12_is n σh1 w0_h1) fun rh2 σh2 =>
  if rh2 = 0 then
    some ((-1 : Int32), σh2)
  else
    ms_l (ms_sI σh2 683 v3_h1) fun σh4 =>
    ms_b (f_X12_seeks n 40 σh4 (0 : Int32) v2_h1) fun σh5 =>
    if (ms_I σh5 683) < 0 then
      if v4_h1 = 0 then
        some ((ms_I σh5 684), σh5)
      else
        if v4_h1 = (1 : Int32) then
          some ((ms_I σh5 685), σh5)
        else
          ms_b (f_X12_treeMark n 40 σh5 v1_h1 (ms_I σh5 684) (ms_I σh5 685)) fun rh9 =>
          some (rh9, σh5)
    else
      ms_c (f_X12_refuse n σh5 (5 : Int32)) fun rh10 σh10 =>
      some (rh10, σh10)
def f_X12_tree_J15 (n : Nat) (σh11 : ms_T) (v1_h11 : Int32) (v2_h11 : Int32) (v3_h11 : Int32) (v4_h11 : Int32) : Option (Int32 × ms_T) :=
  f_X12_tree_J25 n σh11 v1_h11 v2_h11 v3_h11 v4_h11 (1 : Int32)
def f_X12_tree (n : Nat) (σ : ms_T) (a1 : Int32) (a2 : Int32) (a3 : Int32) (a4 : Int32) : Option (Int32 × ms_T) :=
  if a3 < 0 then
    f_X12_tree_J15 n σ a1 a2 a3 a4
  else
    ms_b (f_X12_isIn n a4 (0 : Int32) (2 : Int32)) fun rh13 =>
    if rh13 = 0 then
      f_X12_tree_J15 n σ a1 a2 a3 a4
    else
      ms_b (f_X12_noSize n σ a1 a2) fun rh15 =>
      f_X12_tree_J25 n σ a1 a2 a3 a4 rh15
set_option maxRecDepth 100000 in
set_option maxHeartbeats 4000000 in
theorem m_X12_tree (n : Nat) (Γ : hp_G) (l : Launch) (α : hp_T) (a0 : Nat) (ρ : Nat → Nat) (σ : ms_T) (hM : hm_M α a0 ρ σ) (a1 : Int32) (a2 : Int32) (a3 : Int32) (a4 : Int32) (res : (Int32 × ms_T)) (hf : f_X12_tree n σ a1 a2 a3 a4 = some res) : Met l yX12_tree (hp_ws yX12_tree cX12_tree 5 (some .int)) (hp_rm 42 0 0) (hp_Pc Γ α [.ref a0, .int a1, .int a2, .int a3, .int a4]) (hp_Qi Γ (fun r β => r = res.1 ∧ mo α β ∧ hm_M β a0 ρ res.2)) 0 0 (hp_A Γ) := by
  unfold f_X12_tree at hf
  refine hp_start (by decide) ?_
  intro p e s m below meth c C hr hlk B0 hnm
  have C : hp_C Γ p m c cX12_tree 5 s ([.ref a0, .int a1, .int a2, .int a3, .int a4] : List Value).toArray RX12 := C
  have hx := C.1.1
  have hb := C.1.2.1
  have hown := C.1.2.2.2.1
  have hts := C.1.2.2.2.2
  have B : hp_B Γ mo s α α s.heap [] := ⟨B0.1, B0.2.1, mo_rf⟩
  have hl := lv_entry ([.ref a0, .int a1, .int a2, .int a3, .int a4]) (n := 5) (Nat.le_of_ble_eq_true rfl)
  show W p l e (hp_rm 42 0 0) s m ([.ref a0, .int a1, .int a2, .int a3, .int a4] : List Value).toArray below meth c s.heap [] 0 0 (MQ below (hp_Qi Γ (fun r β => r = res.1 ∧ mo α β ∧ hm_M β a0 ρ res.2)) ([.ref a0, .int a1, .int a2, .int a3, .int a4] : List Value).toArray s 0 0 (hp_A Γ)) (entryFrame m ([.ref a0, .int a1, .int a2, .int a3, .int a4] : List Value).toArray 5)
  rw [lg_entry_eq]
  generalize (lg_sl ([.ref a0, .int a1, .int a2, .int a3, .int a4]) ++ List.replicate (5 - (lg_sl ([.ref a0, .int a1, .int a2, .int a3, .int a4])).length) Slot.unset).toArray = ls at hl ⊢
  have hl : lv_has ls 5 [(0, .ref a0), (1, .int a1), (2, .int a2), (3, .int a3), (4, .int a4)] := hl
  refine lv_aload_n hx hb dX12_tree_0 rfl (lv_at hl 0 rfl) (hp_n (n := 1) rfl ?_)
  refine lv_iload_n hx hb dX12_tree_1 rfl (lv_at hl 3 rfl) (hp_n (n := 2) rfl ?_)
  have J25 : ∀ (αh1 : hp_T) (Hh1 : Heap) (Lh1 : List Loc) (Bh1 : hp_B Γ mo s α αh1 Hh1 Lh1) (σh1 : ms_T) (Mh1 : hm_M αh1 a0 ρ σh1) (v1_h1 : Int32) (v2_h1 : Int32) (v3_h1 : Int32) (v4_h1 : Int32) (w0_h1 : Int32) (ls : Array Slot) (hl : lv_has ls 5 [(0, .ref a0), (1, .int v1_h1), (2, .int v2_h1), (3, .int v3_h1), (4, .int v4_h1)]) (hf : f_X12_tree_J25 n σh1 v1_h1 v2_h1 v3_h1 v4_h1 w0_h1 = some res), W p l e (hp_rm 42 0 0) s m ([.ref a0, .int a1, .int a2, .int a3, .int a4] : List Value).toArray below meth c Hh1 Lh1 0 0 (MQ below (hp_Qi Γ (fun r β => r = res.1 ∧ mo α β ∧ hm_M β a0 ρ res.2)) ([.ref a0, .int a1, .int a2, .int a3, .int a4] : List Value).toArray s 0 0 (hp_A Γ)) (F0 m 25 ls [.int w0_h1, .ref a0]) := by
    intro αh1 Hh1 Lh1 Bh1 σh1 Mh1 v1_h1 v2_h1 v3_h1 v4_h1 w0_h1 ls hl hf
    unfold f_X12_tree_J25 at hf
    obtain ⟨rh2, σh2, qh2, hf⟩ := ms_cE hf
    refine m_ci (pc' := 28) (a := a0) (ρ := ρ) Bh1 (hp_runV (As := [.int w0_h1]) (rest := []) C Bh1 (m_X12_is n Γ l αh1 a0 ρ σh1 Mh1 w0_h1 (rh2, σh2) qh2) lb_X12_is lv_X12_is lk_X12_309 Mh1.1 rfl (by decide) rfl hl.1 rfl (Nat.le_of_ble_eq_true rfl) dX12_tree_25 ⟨Nat.le_refl _, Nat.le_refl _⟩) rfl (fun αh2 Hh2 Lh2 Bh2 Mh2 => ?_)
    refine lv_if_ne (tgt := 33) hx hb dX12_tree_28 (by decide) (fun c3 => ?_) (fun c3 => hp_n (n := 31) rfl ?_)
    ·
      replace hf := ms_iF c3 hf
      refine lv_aload_n hx hb dX12_tree_33 rfl (lv_at hl 0 rfl) (hp_n (n := 34) rfl ?_)
      refine lv_iload_n hx hb dX12_tree_34 rfl (lv_at hl 3 rfl) (hp_n (n := 35) rfl ?_)
      refine m_puti (k := 33) (φ := 683) (pc' := 38) C Bh2 Mh2 fl_X12_396 rfl rfl rfl rfl rfl dX12_tree_35 rfl (fun αh4 Hh4 Lh4 σh4 eh4 Bh4 Mh4 => ?_)
      replace hf := ms_lE eh4 hf
      refine lv_aload_n hx hb dX12_tree_38 rfl (lv_at hl 0 rfl) (hp_n (n := 39) rfl ?_)
      refine lv_iconst (v := 0) hx hb dX12_tree_39 (by decide) (hp_n (n := 40) rfl ?_)
      refine lv_iload_n hx hb dX12_tree_40 rfl (lv_at hl 2 rfl) (hp_n (n := 41) rfl ?_)
      obtain ⟨σh5, qh5, hf⟩ := ms_bE hf
      refine m_cv (pc' := 44) (a := a0) (ρ := ρ) Bh4 (hp_runV (As := [.int (0 : Int32), .int v2_h1]) (rest := []) C Bh4 (m_X12_seeks n 40 Γ l αh4 a0 ρ σh4 Mh4 (0 : Int32) v2_h1 σh5 qh5) lb_X12_seeks lv_X12_seeks lk_X12_405 Mh4.1 rfl (by decide) rfl hl.1 rfl (Nat.le_of_ble_eq_true rfl) dX12_tree_41 ⟨Nat.le_refl _, Nat.le_refl _⟩) rfl (fun αh5 Hh5 Lh5 Bh5 Mh5 => ?_)
      refine lv_aload_n hx hb dX12_tree_44 rfl (lv_at hl 0 rfl) (hp_n (n := 45) rfl ?_)
      refine m_geti (k := 33) (φ := 683) (pc' := 48) C Bh5 Mh5 fl_X12_396 rfl rfl dX12_tree_45 rfl ?_
      refine lv_if_lt (tgt := 57) hx hb dX12_tree_48 (by decide) (fun c6 => ?_) (fun c6 => hp_n (n := 51) rfl ?_)
      ·
        replace hf := ms_iT c6 hf
        refine lv_iload hx hb dX12_tree_57 (lv_at hl 4 rfl) (hp_n (n := 59) rfl ?_)
        refine lv_if_ne (tgt := 69) hx hb dX12_tree_59 (by decide) (fun c7 => ?_) (fun c7 => hp_n (n := 62) rfl ?_)
        ·
          replace hf := ms_iF c7 hf
          refine lv_iload hx hb dX12_tree_69 (lv_at hl 4 rfl) (hp_n (n := 71) rfl ?_)
          refine lv_iconst (v := 1) hx hb dX12_tree_71 (by decide) (hp_n (n := 72) rfl ?_)
          refine lv_icmp_ne (tgt := 82) hx hb dX12_tree_72 (by decide) (fun c8 => ?_) (fun c8 => hp_n (n := 75) rfl ?_)
          ·
            replace hf := ms_iF c8 hf
            refine lv_aload_n hx hb dX12_tree_82 rfl (lv_at hl 0 rfl) (hp_n (n := 83) rfl ?_)
            refine lv_iload_n hx hb dX12_tree_83 rfl (lv_at hl 1 rfl) (hp_n (n := 84) rfl ?_)
            refine lv_aload_n hx hb dX12_tree_84 rfl (lv_at hl 0 rfl) (hp_n (n := 85) rfl ?_)
            refine m_geti (k := 34) (φ := 684) (pc' := 88) C Bh5 Mh5 fl_X12_399 rfl rfl dX12_tree_85 rfl ?_
            refine lv_aload_n hx hb dX12_tree_88 rfl (lv_at hl 0 rfl) (hp_n (n := 89) rfl ?_)
            refine m_geti (k := 35) (φ := 685) (pc' := 92) C Bh5 Mh5 fl_X12_402 rfl rfl dX12_tree_89 rfl ?_
            obtain ⟨rh9, qh9, hf⟩ := ms_bE hf
            refine m_cp (pc' := 95) Bh5 (hp_runV (As := [.int v1_h1, .int (ms_I σh5 684), .int (ms_I σh5 685)]) (rest := []) C Bh5 (m_X12_treeMark n 40 Γ l αh5 a0 ρ σh5 Mh5 v1_h1 (ms_I σh5 684) (ms_I σh5 685) rh9 qh9) lb_X12_treeMark lv_X12_treeMark lk_X12_132 Mh5.1 rfl (by decide) rfl hl.1 rfl (Nat.le_of_ble_eq_true rfl) dX12_tree_92 ⟨Nat.le_refl _, Nat.le_refl _⟩) rfl (fun Hh9 Lh9 Bh9 => ?_)
            cases hf
            exact q_iret C Bh9 hr hlk ⟨rfl, Bh9.2.2, Mh5⟩ dX12_tree_95
          ·
            replace hf := ms_iT c8 hf
            refine lv_aload_n hx hb dX12_tree_75 rfl (lv_at hl 0 rfl) (hp_n (n := 76) rfl ?_)
            refine m_geti (k := 35) (φ := 685) (pc' := 79) C Bh5 Mh5 fl_X12_402 rfl rfl dX12_tree_76 rfl ?_
            refine lv_goto (tgt := 95) hx hb dX12_tree_79 (by decide) ?_
            cases hf
            exact q_iret C Bh5 hr hlk ⟨rfl, Bh5.2.2, Mh5⟩ dX12_tree_95
        ·
          replace hf := ms_iT c7 hf
          refine lv_aload_n hx hb dX12_tree_62 rfl (lv_at hl 0 rfl) (hp_n (n := 63) rfl ?_)
          refine m_geti (k := 34) (φ := 684) (pc' := 66) C Bh5 Mh5 fl_X12_399 rfl rfl dX12_tree_63 rfl ?_
          refine lv_goto (tgt := 95) hx hb dX12_tree_66 (by decide) ?_
          cases hf
          exact q_iret C Bh5 hr hlk ⟨rfl, Bh5.2.2, Mh5⟩ dX12_tree_95
      ·
        replace hf := ms_iF c6 hf
        refine lv_aload_n hx hb dX12_tree_51 rfl (lv_at hl 0 rfl) (hp_n (n := 52) rfl ?_)
        refine lv_iconst (v := 5) hx hb dX12_tree_52 (by decide) (hp_n (n := 53) rfl ?_)
        obtain ⟨rh10, σh10, qh10, hf⟩ := ms_cE hf
        refine m_ci (pc' := 56) (a := a0) (ρ := ρ) Bh5 (hp_runV (As := [.int (5 : Int32)]) (rest := []) C Bh5 (m_X12_refuse n Γ l αh5 a0 ρ σh5 Mh5 (5 : Int32) (rh10, σh10) qh10) lb_X12_refuse lv_X12_refuse lk_X12_212 Mh5.1 rfl (by decide) rfl hl.1 rfl (Nat.le_of_ble_eq_true rfl) dX12_tree_53 ⟨Nat.le_refl _, Nat.le_refl _⟩) rfl (fun αh10 Hh10 Lh10 Bh10 Mh10 => ?_)
        cases hf
        exact q_iret C Bh10 hr hlk ⟨rfl, Bh10.2.2, Mh10⟩ dX12_tree_56
    ·
      replace hf := ms_iT c3 hf
      refine lv_iconst (v := (-1)) hx hb dX12_tree_31 (by decide) (hp_n (n := 32) rfl ?_)
      cases hf
      exact q_iret C Bh2 hr hlk ⟨rfl, Bh2.2.2, Mh2⟩ dX12_tree_32
  have J15 : ∀ (αh11 : hp_T) (Hh11 : Heap) (Lh11 : List Loc) (Bh11 : hp_B Γ mo s α αh11 Hh11 Lh11) (σh11 : ms_T) (Mh11 : hm_M αh11 a0 ρ σh11) (v1_h11 : Int32) (v2_h11 : Int32) (v3_h11 : Int32) (v4_h11 : Int32) (ls : Array Slot) (hl : lv_has ls 5 [(0, .ref a0), (1, .int v1_h11), (2, .int v2_h11), (3, .int v3_h11), (4, .int v4_h11)]) (hf : f_X12_tree_J15 n σh11 v1_h11 v2_h11 v3_h11 v4_h11 = some res), W p l e (hp_rm 42 0 0) s m ([.ref a0, .int a1, .int a2, .int a3, .int a4] : List Value).toArray below meth c Hh11 Lh11 0 0 (MQ below (hp_Qi Γ (fun r β => r = res.1 ∧ mo α β ∧ hm_M β a0 ρ res.2)) ([.ref a0, .int a1, .int a2, .int a3, .int a4] : List Value).toArray s 0 0 (hp_A Γ)) (F0 m 15 ls [.ref a0]) := by
    intro αh11 Hh11 Lh11 Bh11 σh11 Mh11 v1_h11 v2_h11 v3_h11 v4_h11 ls hl hf
    unfold f_X12_tree_J15 at hf
    refine lv_iconst (v := 1) hx hb dX12_tree_15 (by decide) (hp_n (n := 16) rfl ?_)
    refine lv_goto (tgt := 25) hx hb dX12_tree_16 (by decide) ?_
    exact J25 αh11 Hh11 Lh11 Bh11 σh11 Mh11 v1_h11 v2_h11 v3_h11 v4_h11 (1 : Int32) ls (lv_sub hl [0, 1, 2, 3, 4] rfl) hf
  refine lv_if_lt (tgt := 15) hx hb dX12_tree_2 (by decide) (fun c12 => ?_) (fun c12 => hp_n (n := 5) rfl ?_)
  ·
    replace hf := ms_iT c12 hf
    exact J15 α s.heap [] B σ hM a1 a2 a3 a4 ls (lv_sub hl [0, 1, 2, 3, 4] rfl) hf
  ·
    replace hf := ms_iF c12 hf
    refine lv_iload hx hb dX12_tree_5 (lv_at hl 4 rfl) (hp_n (n := 7) rfl ?_)
    refine lv_iconst (v := 0) hx hb dX12_tree_7 (by decide) (hp_n (n := 8) rfl ?_)
    refine lv_iconst (v := 2) hx hb dX12_tree_8 (by decide) (hp_n (n := 9) rfl ?_)
    obtain ⟨rh13, qh13, hf⟩ := ms_bE hf
    refine m_cp (pc' := 12) B (hp_runS (As := [.int a4, .int (0 : Int32), .int (2 : Int32)]) (rest := [.ref a0]) C B (m_X12_isIn n Γ l α a4 (0 : Int32) (2 : Int32) rh13 qh13) lb_X12_isIn ls_X12_isIn lk_X12_113 rfl (by decide) rfl hl.1 rfl (Nat.le_of_ble_eq_true rfl) dX12_tree_9 ⟨Nat.le_refl _, Nat.le_refl _⟩) rfl (fun Hh13 Lh13 Bh13 => ?_)
    refine lv_if_ne (tgt := 19) hx hb dX12_tree_12 (by decide) (fun c14 => ?_) (fun c14 => hp_n (n := 15) rfl ?_)
    ·
      replace hf := ms_iF c14 hf
      refine lv_aload_n hx hb dX12_tree_19 rfl (lv_at hl 0 rfl) (hp_n (n := 20) rfl ?_)
      refine lv_iload_n hx hb dX12_tree_20 rfl (lv_at hl 1 rfl) (hp_n (n := 21) rfl ?_)
      refine lv_iload_n hx hb dX12_tree_21 rfl (lv_at hl 2 rfl) (hp_n (n := 22) rfl ?_)
      obtain ⟨rh15, qh15, hf⟩ := ms_bE hf
      refine m_cp (pc' := 25) Bh13 (hp_runV (As := [.int a1, .int a2]) (rest := [.ref a0]) C Bh13 (m_X12_noSize n Γ l α a0 ρ σ hM a1 a2 rh15 qh15) lb_X12_noSize lv_X12_noSize lk_X12_347 hM.1 rfl (by decide) rfl hl.1 rfl (Nat.le_of_ble_eq_true rfl) dX12_tree_22 ⟨Nat.le_refl _, Nat.le_refl _⟩) rfl (fun Hh15 Lh15 Bh15 => ?_)
      exact J25 α Hh15 Lh15 Bh15 σ hM a1 a2 a3 a4 rh15 ls (lv_sub hl [0, 1, 2, 3, 4] rfl) hf
    ·
      replace hf := ms_iT c14 hf
      exact J15 α Hh13 Lh13 Bh13 σ hM a1 a2 a3 a4 ls (lv_sub hl [0, 1, 2, 3, 4] rfl) hf
def f_X12_proves_J57 (n : Nat) (σh1 : ms_T) (v1_h1 : Int32) (v2_h1 : Int32) (w0_h1 : Int32) : Option (Int32 × ms_T) :=
  ms_c (f_X12_is n σh1 w0_h1) fun rh2 σh2 =>
  if rh2 = 0 then
    some ((-1 : Int32), σh2)
  else
    ms_b (f_X12_froze n σh2 v2_h1 (0 : Int32)) fun rh4 =>
    ms_b (f_X12_froze n σh2 v1_h1 (1 : Int32)) fun rh5 =>
    ms_b (f_X12_froze n σh2 v1_h1 (2 : Int32)) fun rh6 =>
    ms_b (f_X12_froze n σh2 v2_h1 (1 : Int32)) fun rh7 =>
    ms_b (f_X12_froze n σh2 v2_h1 (2 : Int32)) fun rh8 =>
    ms_c (f_X12_whyByRecord n σh2 rh4 rh5 rh6 rh7 rh8) fun rh9 σh9 =>
    some (rh9, σh9)
def f_X12_proves_J9 (n : Nat) (σh10 : ms_T) (v1_h10 : Int32) (v2_h10 : Int32) : Option (Int32 × ms_T) :=
  f_X12_proves_J57 n σh10 v1_h10 v2_h10 (1 : Int32)
def f_X12_proves_J33 (n : Nat) (σh14 : ms_T) (v1_h14 : Int32) (v2_h14 : Int32) : Option (Int32 × ms_T) :=
  f_X12_proves_J57 n σh14 v1_h14 v2_h14 (5 : Int32)
def f_X12_proves (n : Nat) (σ : ms_T) (a1 : Int32) (a2 : Int32) : Option (Int32 × ms_T) :=
  if a1 < 0 then
    f_X12_proves_J9 n σ a1 a2
  else
    if 0 ≤ a2 then
      ms_g (3 : Int32) 1980 <|
      if (ms_E σ 40 ((3 : Int32)).toNatClampNeg) ≤ a1 then
        f_X12_proves_J33 n σ a1 a2
      else
        ms_g (3 : Int32) 1980 <|
        if a2 < (ms_E σ 40 ((3 : Int32)).toNatClampNeg) then
          ms_b (f_X12_froze n σ a1 (1 : Int32)) fun rh18 =>
          ms_b (f_X12_froze n σ a2 (1 : Int32)) fun rh19 =>
          if rh18 ≤ rh19 then
            f_X12_proves_J57 n σ a1 a2 (0 : Int32)
          else
            f_X12_proves_J57 n σ a1 a2 (5 : Int32)
        else
          f_X12_proves_J33 n σ a1 a2
    else
      f_X12_proves_J9 n σ a1 a2
set_option maxRecDepth 100000 in
set_option maxHeartbeats 4000000 in
theorem m_X12_proves (n : Nat) (Γ : hp_G) (l : Launch) (α : hp_T) (a0 : Nat) (ρ : Nat → Nat) (σ : ms_T) (hM : hm_M α a0 ρ σ) (a1 : Int32) (a2 : Int32) (res : (Int32 × ms_T)) (hf : f_X12_proves n σ a1 a2 = some res) : Met l yX12_proves (hp_ws yX12_proves cX12_proves 3 (some .int)) (hp_rm 44 0 0) (hp_Pc Γ α [.ref a0, .int a1, .int a2]) (hp_Qi Γ (fun r β => r = res.1 ∧ mo α β ∧ hm_M β a0 ρ res.2)) 0 0 (hp_A Γ) := by
  unfold f_X12_proves at hf
  refine hp_start (by decide) ?_
  intro p e s m below meth c C hr hlk B0 hnm
  have C : hp_C Γ p m c cX12_proves 3 s ([.ref a0, .int a1, .int a2] : List Value).toArray RX12 := C
  have hx := C.1.1
  have hb := C.1.2.1
  have hown := C.1.2.2.2.1
  have hts := C.1.2.2.2.2
  have B : hp_B Γ mo s α α s.heap [] := ⟨B0.1, B0.2.1, mo_rf⟩
  have hl := lv_entry ([.ref a0, .int a1, .int a2]) (n := 3) (Nat.le_of_ble_eq_true rfl)
  show W p l e (hp_rm 44 0 0) s m ([.ref a0, .int a1, .int a2] : List Value).toArray below meth c s.heap [] 0 0 (MQ below (hp_Qi Γ (fun r β => r = res.1 ∧ mo α β ∧ hm_M β a0 ρ res.2)) ([.ref a0, .int a1, .int a2] : List Value).toArray s 0 0 (hp_A Γ)) (entryFrame m ([.ref a0, .int a1, .int a2] : List Value).toArray 3)
  rw [lg_entry_eq]
  generalize (lg_sl ([.ref a0, .int a1, .int a2]) ++ List.replicate (3 - (lg_sl ([.ref a0, .int a1, .int a2])).length) Slot.unset).toArray = ls at hl ⊢
  have hl : lv_has ls 3 [(0, .ref a0), (1, .int a1), (2, .int a2)] := hl
  refine lv_aload_n hx hb dX12_proves_0 rfl (lv_at hl 0 rfl) (hp_n (n := 1) rfl ?_)
  refine lv_iload_n hx hb dX12_proves_1 rfl (lv_at hl 1 rfl) (hp_n (n := 2) rfl ?_)
  have J57 : ∀ (αh1 : hp_T) (Hh1 : Heap) (Lh1 : List Loc) (Bh1 : hp_B Γ mo s α αh1 Hh1 Lh1) (σh1 : ms_T) (Mh1 : hm_M αh1 a0 ρ σh1) (v1_h1 : Int32) (v2_h1 : Int32) (w0_h1 : Int32) (ls : Array Slot) (hl : lv_has ls 3 [(0, .ref a0), (1, .int v1_h1), (2, .int v2_h1)]) (hf : f_X12_proves_J57 n σh1 v1_h1 v2_h1 w0_h1 = some res), W p l e (hp_rm 44 0 0) s m ([.ref a0, .int a1, .int a2] : List Value).toArray below meth c Hh1 Lh1 0 0 (MQ below (hp_Qi Γ (fun r β => r = res.1 ∧ mo α β ∧ hm_M β a0 ρ res.2)) ([.ref a0, .int a1, .int a2] : List Value).toArray s 0 0 (hp_A Γ)) (F0 m 57 ls [.int w0_h1, .ref a0]) := by
    intro αh1 Hh1 Lh1 Bh1 σh1 Mh1 v1_h1 v2_h1 w0_h1 ls hl hf
    unfold f_X12_proves_J57 at hf
    obtain ⟨rh2, σh2, qh2, hf⟩ := ms_cE hf
    refine m_ci (pc' := 60) (a := a0) (ρ := ρ) Bh1 (hp_runV (As := [.int w0_h1]) (rest := []) C Bh1 (m_X12_is n Γ l αh1 a0 ρ σh1 Mh1 w0_h1 (rh2, σh2) qh2) lb_X12_is lv_X12_is lk_X12_309 Mh1.1 rfl (by decide) rfl hl.1 rfl (Nat.le_of_ble_eq_true rfl) dX12_proves_57 ⟨Nat.le_refl _, Nat.le_refl _⟩) rfl (fun αh2 Hh2 Lh2 Bh2 Mh2 => ?_)
    refine lv_if_ne (tgt := 65) hx hb dX12_proves_60 (by decide) (fun c3 => ?_) (fun c3 => hp_n (n := 63) rfl ?_)
    ·
      replace hf := ms_iF c3 hf
      refine lv_aload_n hx hb dX12_proves_65 rfl (lv_at hl 0 rfl) (hp_n (n := 66) rfl ?_)
      refine lv_aload_n hx hb dX12_proves_66 rfl (lv_at hl 0 rfl) (hp_n (n := 67) rfl ?_)
      refine lv_iload_n hx hb dX12_proves_67 rfl (lv_at hl 2 rfl) (hp_n (n := 68) rfl ?_)
      refine lv_iconst (v := 0) hx hb dX12_proves_68 (by decide) (hp_n (n := 69) rfl ?_)
      obtain ⟨rh4, qh4, hf⟩ := ms_bE hf
      refine m_cp (pc' := 72) Bh2 (hp_runV (As := [.int v2_h1, .int (0 : Int32)]) (rest := [.ref a0]) C Bh2 (m_X12_froze n Γ l αh2 a0 ρ σh2 Mh2 v2_h1 (0 : Int32) rh4 qh4) lb_X12_froze lv_X12_froze lk_X12_350 Mh2.1 rfl (by decide) rfl hl.1 rfl (Nat.le_of_ble_eq_true rfl) dX12_proves_69 ⟨Nat.le_refl _, Nat.le_refl _⟩) rfl (fun Hh4 Lh4 Bh4 => ?_)
      refine lv_aload_n hx hb dX12_proves_72 rfl (lv_at hl 0 rfl) (hp_n (n := 73) rfl ?_)
      refine lv_iload_n hx hb dX12_proves_73 rfl (lv_at hl 1 rfl) (hp_n (n := 74) rfl ?_)
      refine lv_iconst (v := 1) hx hb dX12_proves_74 (by decide) (hp_n (n := 75) rfl ?_)
      obtain ⟨rh5, qh5, hf⟩ := ms_bE hf
      refine m_cp (pc' := 78) Bh4 (hp_runV (As := [.int v1_h1, .int (1 : Int32)]) (rest := [.int rh4, .ref a0]) C Bh4 (m_X12_froze n Γ l αh2 a0 ρ σh2 Mh2 v1_h1 (1 : Int32) rh5 qh5) lb_X12_froze lv_X12_froze lk_X12_350 Mh2.1 rfl (by decide) rfl hl.1 rfl (Nat.le_of_ble_eq_true rfl) dX12_proves_75 ⟨Nat.le_refl _, Nat.le_refl _⟩) rfl (fun Hh5 Lh5 Bh5 => ?_)
      refine lv_aload_n hx hb dX12_proves_78 rfl (lv_at hl 0 rfl) (hp_n (n := 79) rfl ?_)
      refine lv_iload_n hx hb dX12_proves_79 rfl (lv_at hl 1 rfl) (hp_n (n := 80) rfl ?_)
      refine lv_iconst (v := 2) hx hb dX12_proves_80 (by decide) (hp_n (n := 81) rfl ?_)
      obtain ⟨rh6, qh6, hf⟩ := ms_bE hf
      refine m_cp (pc' := 84) Bh5 (hp_runV (As := [.int v1_h1, .int (2 : Int32)]) (rest := [.int rh5, .int rh4, .ref a0]) C Bh5 (m_X12_froze n Γ l αh2 a0 ρ σh2 Mh2 v1_h1 (2 : Int32) rh6 qh6) lb_X12_froze lv_X12_froze lk_X12_350 Mh2.1 rfl (by decide) rfl hl.1 rfl (Nat.le_of_ble_eq_true rfl) dX12_proves_81 ⟨Nat.le_refl _, Nat.le_refl _⟩) rfl (fun Hh6 Lh6 Bh6 => ?_)
      refine lv_aload_n hx hb dX12_proves_84 rfl (lv_at hl 0 rfl) (hp_n (n := 85) rfl ?_)
      refine lv_iload_n hx hb dX12_proves_85 rfl (lv_at hl 2 rfl) (hp_n (n := 86) rfl ?_)
      refine lv_iconst (v := 1) hx hb dX12_proves_86 (by decide) (hp_n (n := 87) rfl ?_)
      obtain ⟨rh7, qh7, hf⟩ := ms_bE hf
      refine m_cp (pc' := 90) Bh6 (hp_runV (As := [.int v2_h1, .int (1 : Int32)]) (rest := [.int rh6, .int rh5, .int rh4, .ref a0]) C Bh6 (m_X12_froze n Γ l αh2 a0 ρ σh2 Mh2 v2_h1 (1 : Int32) rh7 qh7) lb_X12_froze lv_X12_froze lk_X12_350 Mh2.1 rfl (by decide) rfl hl.1 rfl (Nat.le_of_ble_eq_true rfl) dX12_proves_87 ⟨Nat.le_refl _, Nat.le_refl _⟩) rfl (fun Hh7 Lh7 Bh7 => ?_)
      refine lv_aload_n hx hb dX12_proves_90 rfl (lv_at hl 0 rfl) (hp_n (n := 91) rfl ?_)
      refine lv_iload_n hx hb dX12_proves_91 rfl (lv_at hl 2 rfl) (hp_n (n := 92) rfl ?_)
      refine lv_iconst (v := 2) hx hb dX12_proves_92 (by decide) (hp_n (n := 93) rfl ?_)
      obtain ⟨rh8, qh8, hf⟩ := ms_bE hf
      refine m_cp (pc' := 96) Bh7 (hp_runV (As := [.int v2_h1, .int (2 : Int32)]) (rest := [.int rh7, .int rh6, .int rh5, .int rh4, .ref a0]) C Bh7 (m_X12_froze n Γ l αh2 a0 ρ σh2 Mh2 v2_h1 (2 : Int32) rh8 qh8) lb_X12_froze lv_X12_froze lk_X12_350 Mh2.1 rfl (by decide) rfl hl.1 rfl (Nat.le_of_ble_eq_true rfl) dX12_proves_93 ⟨Nat.le_refl _, Nat.le_refl _⟩) rfl (fun Hh8 Lh8 Bh8 => ?_)
      obtain ⟨rh9, σh9, qh9, hf⟩ := ms_cE hf
      refine m_ci (pc' := 99) (a := a0) (ρ := ρ) Bh8 (hp_runV (As := [.int rh4, .int rh5, .int rh6, .int rh7, .int rh8]) (rest := []) C Bh8 (m_X12_whyByRecord n Γ l αh2 a0 ρ σh2 Mh2 rh4 rh5 rh6 rh7 rh8 (rh9, σh9) qh9) lb_X12_whyByRecord lv_X12_whyByRecord lk_X12_224 Mh2.1 rfl (by decide) rfl hl.1 rfl (Nat.le_of_ble_eq_true rfl) dX12_proves_96 ⟨Nat.le_refl _, Nat.le_refl _⟩) rfl (fun αh9 Hh9 Lh9 Bh9 Mh9 => ?_)
      cases hf
      exact q_iret C Bh9 hr hlk ⟨rfl, Bh9.2.2, Mh9⟩ dX12_proves_99
    ·
      replace hf := ms_iT c3 hf
      refine lv_iconst (v := (-1)) hx hb dX12_proves_63 (by decide) (hp_n (n := 64) rfl ?_)
      cases hf
      exact q_iret C Bh2 hr hlk ⟨rfl, Bh2.2.2, Mh2⟩ dX12_proves_64
  have J9 : ∀ (αh10 : hp_T) (Hh10 : Heap) (Lh10 : List Loc) (Bh10 : hp_B Γ mo s α αh10 Hh10 Lh10) (σh10 : ms_T) (Mh10 : hm_M αh10 a0 ρ σh10) (v1_h10 : Int32) (v2_h10 : Int32) (ls : Array Slot) (hl : lv_has ls 3 [(0, .ref a0), (1, .int v1_h10), (2, .int v2_h10)]) (hf : f_X12_proves_J9 n σh10 v1_h10 v2_h10 = some res), W p l e (hp_rm 44 0 0) s m ([.ref a0, .int a1, .int a2] : List Value).toArray below meth c Hh10 Lh10 0 0 (MQ below (hp_Qi Γ (fun r β => r = res.1 ∧ mo α β ∧ hm_M β a0 ρ res.2)) ([.ref a0, .int a1, .int a2] : List Value).toArray s 0 0 (hp_A Γ)) (F0 m 9 ls [.ref a0]) := by
    intro αh10 Hh10 Lh10 Bh10 σh10 Mh10 v1_h10 v2_h10 ls hl hf
    unfold f_X12_proves_J9 at hf
    refine lv_iconst (v := 1) hx hb dX12_proves_9 (by decide) (hp_n (n := 10) rfl ?_)
    refine lv_goto (tgt := 57) hx hb dX12_proves_10 (by decide) ?_
    exact J57 αh10 Hh10 Lh10 Bh10 σh10 Mh10 v1_h10 v2_h10 (1 : Int32) ls (lv_sub hl [0, 1, 2] rfl) hf
  refine lv_if_lt (tgt := 9) hx hb dX12_proves_2 (by decide) (fun c11 => ?_) (fun c11 => hp_n (n := 5) rfl ?_)
  ·
    replace hf := ms_iT c11 hf
    exact J9 α s.heap [] B σ hM a1 a2 ls (lv_sub hl [0, 1, 2] rfl) hf
  ·
    replace hf := ms_iF c11 hf
    refine lv_iload_n hx hb dX12_proves_5 rfl (lv_at hl 2 rfl) (hp_n (n := 6) rfl ?_)
    refine lv_if_ge (tgt := 13) hx hb dX12_proves_6 (by decide) (fun c12 => ?_) (fun c12 => hp_n (n := 9) rfl ?_)
    ·
      replace hf := ms_iT c12 hf
      refine lv_iload_n hx hb dX12_proves_13 rfl (lv_at hl 1 rfl) (hp_n (n := 14) rfl ?_)
      refine lv_aload_n hx hb dX12_proves_14 rfl (lv_at hl 0 rfl) (hp_n (n := 15) rfl ?_)
      refine m_getr (κ := 40) (k := 0) (pc' := 18) C B hM fl_X12_7 rfl (by decide) dX12_proves_15 rfl ?_
      refine lv_iconst (v := 3) hx hb dX12_proves_18 (by decide) (hp_n (n := 19) rfl ?_)
      obtain ⟨g13, hf⟩ := ms_gE hf
      refine m_ial (κ := 40) (φ := 650) (n := 1980) (pc' := 20) C B hM (by decide) (by decide) rfl g13 dX12_proves_19 rfl ?_
      have J33 : ∀ (αh14 : hp_T) (Hh14 : Heap) (Lh14 : List Loc) (Bh14 : hp_B Γ mo s α αh14 Hh14 Lh14) (σh14 : ms_T) (Mh14 : hm_M αh14 a0 ρ σh14) (v1_h14 : Int32) (v2_h14 : Int32) (ls : Array Slot) (hl : lv_has ls 3 [(0, .ref a0), (1, .int v1_h14), (2, .int v2_h14)]) (hf : f_X12_proves_J33 n σh14 v1_h14 v2_h14 = some res), W p l e (hp_rm 44 0 0) s m ([.ref a0, .int a1, .int a2] : List Value).toArray below meth c Hh14 Lh14 0 0 (MQ below (hp_Qi Γ (fun r β => r = res.1 ∧ mo α β ∧ hm_M β a0 ρ res.2)) ([.ref a0, .int a1, .int a2] : List Value).toArray s 0 0 (hp_A Γ)) (F0 m 33 ls [.ref a0]) := by
        intro αh14 Hh14 Lh14 Bh14 σh14 Mh14 v1_h14 v2_h14 ls hl hf
        unfold f_X12_proves_J33 at hf
        refine lv_iconst (v := 5) hx hb dX12_proves_33 (by decide) (hp_n (n := 34) rfl ?_)
        refine lv_goto (tgt := 57) hx hb dX12_proves_34 (by decide) ?_
        exact J57 αh14 Hh14 Lh14 Bh14 σh14 Mh14 v1_h14 v2_h14 (5 : Int32) ls (lv_sub hl [0, 1, 2] rfl) hf
      refine lv_icmp_ge (tgt := 33) hx hb dX12_proves_20 (by decide) (fun c15 => ?_) (fun c15 => hp_n (n := 23) rfl ?_)
      ·
        replace hf := ms_iT c15 hf
        exact J33 α s.heap [] B σ hM a1 a2 ls (lv_sub hl [0, 1, 2] rfl) hf
      ·
        replace hf := ms_iF c15 hf
        refine lv_iload_n hx hb dX12_proves_23 rfl (lv_at hl 2 rfl) (hp_n (n := 24) rfl ?_)
        refine lv_aload_n hx hb dX12_proves_24 rfl (lv_at hl 0 rfl) (hp_n (n := 25) rfl ?_)
        refine m_getr (κ := 40) (k := 0) (pc' := 28) C B hM fl_X12_7 rfl (by decide) dX12_proves_25 rfl ?_
        refine lv_iconst (v := 3) hx hb dX12_proves_28 (by decide) (hp_n (n := 29) rfl ?_)
        obtain ⟨g16, hf⟩ := ms_gE hf
        refine m_ial (κ := 40) (φ := 650) (n := 1980) (pc' := 30) C B hM (by decide) (by decide) rfl g16 dX12_proves_29 rfl ?_
        refine lv_icmp_lt (tgt := 37) hx hb dX12_proves_30 (by decide) (fun c17 => ?_) (fun c17 => hp_n (n := 33) rfl ?_)
        ·
          replace hf := ms_iT c17 hf
          refine lv_aload_n hx hb dX12_proves_37 rfl (lv_at hl 0 rfl) (hp_n (n := 38) rfl ?_)
          refine lv_iload_n hx hb dX12_proves_38 rfl (lv_at hl 1 rfl) (hp_n (n := 39) rfl ?_)
          refine lv_iconst (v := 1) hx hb dX12_proves_39 (by decide) (hp_n (n := 40) rfl ?_)
          obtain ⟨rh18, qh18, hf⟩ := ms_bE hf
          refine m_cp (pc' := 43) B (hp_runV (As := [.int a1, .int (1 : Int32)]) (rest := [.ref a0]) C B (m_X12_froze n Γ l α a0 ρ σ hM a1 (1 : Int32) rh18 qh18) lb_X12_froze lv_X12_froze lk_X12_350 hM.1 rfl (by decide) rfl hl.1 rfl (Nat.le_of_ble_eq_true rfl) dX12_proves_40 ⟨Nat.le_refl _, Nat.le_refl _⟩) rfl (fun Hh18 Lh18 Bh18 => ?_)
          refine lv_aload_n hx hb dX12_proves_43 rfl (lv_at hl 0 rfl) (hp_n (n := 44) rfl ?_)
          refine lv_iload_n hx hb dX12_proves_44 rfl (lv_at hl 2 rfl) (hp_n (n := 45) rfl ?_)
          refine lv_iconst (v := 1) hx hb dX12_proves_45 (by decide) (hp_n (n := 46) rfl ?_)
          obtain ⟨rh19, qh19, hf⟩ := ms_bE hf
          refine m_cp (pc' := 49) Bh18 (hp_runV (As := [.int a2, .int (1 : Int32)]) (rest := [.int rh18, .ref a0]) C Bh18 (m_X12_froze n Γ l α a0 ρ σ hM a2 (1 : Int32) rh19 qh19) lb_X12_froze lv_X12_froze lk_X12_350 hM.1 rfl (by decide) rfl hl.1 rfl (Nat.le_of_ble_eq_true rfl) dX12_proves_46 ⟨Nat.le_refl _, Nat.le_refl _⟩) rfl (fun Hh19 Lh19 Bh19 => ?_)
          refine lv_icmp_le (tgt := 56) hx hb dX12_proves_49 (by decide) (fun c20 => ?_) (fun c20 => hp_n (n := 52) rfl ?_)
          ·
            replace hf := ms_iT c20 hf
            refine lv_iconst (v := 0) hx hb dX12_proves_56 (by decide) (hp_n (n := 57) rfl ?_)
            exact J57 α Hh19 Lh19 Bh19 σ hM a1 a2 (0 : Int32) ls (lv_sub hl [0, 1, 2] rfl) hf
          ·
            replace hf := ms_iF c20 hf
            refine lv_iconst (v := 5) hx hb dX12_proves_52 (by decide) (hp_n (n := 53) rfl ?_)
            refine lv_goto (tgt := 57) hx hb dX12_proves_53 (by decide) ?_
            exact J57 α Hh19 Lh19 Bh19 σ hM a1 a2 (5 : Int32) ls (lv_sub hl [0, 1, 2] rfl) hf
        ·
          replace hf := ms_iF c17 hf
          exact J33 α s.heap [] B σ hM a1 a2 ls (lv_sub hl [0, 1, 2] rfl) hf
    ·
      replace hf := ms_iF c12 hf
      exact J9 α s.heap [] B σ hM a1 a2 ls (lv_sub hl [0, 1, 2] rfl) hf
def f_X12_longest_J100 (n : Nat) (rec45 : ms_T → Int32 → Int32 → Int32 → Int32 → Int32 → Int32 → Option (Int32 × ms_T)) (σh12 : ms_T) (v1_h12 : Int32) (v2_h12 : Int32) (v4_h12 : Int32) (v5_h12 : Int32) (v6_h12 : Int32) (w0_h12 : Int32) : Option (Int32 × ms_T) :=
  ms_l (v6_h12 + 1) fun x13 =>
  rec45 σh12 v1_h12 v2_h12 w0_h12 v4_h12 v5_h12 x13
def f_X12_longest_J82 (n : Nat) (rec45 : ms_T → Int32 → Int32 → Int32 → Int32 → Int32 → Int32 → Option (Int32 × ms_T)) (σh11 : ms_T) (v1_h11 : Int32) (v2_h11 : Int32) (v3_h11 : Int32) (v5_h11 : Int32) (v6_h11 : Int32) (w0_h11 : Int32) : Option (Int32 × ms_T) :=
  if (ms_I σh11 657) ≤ v3_h11 then
    f_X12_longest_J100 n rec45 σh11 v1_h11 v2_h11 w0_h11 v5_h11 v6_h11 v3_h11
  else
    f_X12_longest_J100 n rec45 σh11 v1_h11 v2_h11 w0_h11 v5_h11 v6_h11 (ms_I σh11 657)
def f_X12_longest_L45 (n : Nat) : Nat → ms_T → Int32 → Int32 → Int32 → Int32 → Int32 → Int32 → Option (Int32 × ms_T)
  | 0, _, _, _, _, _, _, _ => none
  | k45 + 1, σh5, v1_h5, v2_h5, v3_h5, v4_h5, v5_h5, v6_h5 =>
    if v1_h5 ≤ v6_h5 then
      if v2_h5 = 0 then
        some (v3_h5, σh5)
      else
        if v2_h5 = (1 : Int32) then
          some (v4_h5, σh5)
        else
          some (v5_h5, σh5)
    else
      ms_b (f_X12_inclusion n σh5 v6_h5 v1_h5) fun σh9 =>
      ms_l ((v5_h5 + (ms_I σh9 657))) fun x10 =>
      if (ms_I σh9 657) ≤ v3_h5 then
        f_X12_longest_J82 n (f_X12_longest_L45 n k45) σh9 v1_h5 v2_h5 v3_h5 x10 v6_h5 v4_h5
      else
        f_X12_longest_J82 n (f_X12_longest_L45 n k45) σh9 v1_h5 v2_h5 v3_h5 x10 v6_h5 v6_h5
def f_X12_longest_J26 (n : Nat) (σh2 : ms_T) (v1_h2 : Int32) (v2_h2 : Int32) (w0_h2 : Int32) : Option (Int32 × ms_T) :=
  ms_c (f_X12_is n σh2 w0_h2) fun rh3 σh3 =>
  if rh3 = 0 then
    some ((-1 : Int32), σh3)
  else
    f_X12_longest_L45 n n σh3 v1_h2 v2_h2 (-1 : Int32) (0 : Int32) (0 : Int32) (0 : Int32)
def f_X12_longest_J25 (n : Nat) (σh16 : ms_T) (v1_h16 : Int32) (v2_h16 : Int32) : Option (Int32 × ms_T) :=
  f_X12_longest_J26 n σh16 v1_h16 v2_h16 (1 : Int32)
def f_X12_longest (n : Nat) (σ : ms_T) (a1 : Int32) (a2 : Int32) : Option (Int32 × ms_T) :=
  ms_b (f_X12_isIn n a1 (1 : Int32) (512 : Int32)) fun rh1 =>
  if rh1 = 0 then
    f_X12_longest_J25 n σ a1 a2
  else
    ms_b (f_X12_isIn n a2 (0 : Int32) (2 : Int32)) fun rh18 =>
    if rh18 = 0 then
      f_X12_longest_J25 n σ a1 a2
    else
      f_X12_longest_J26 n σ a1 a2 (0 : Int32)
set_option maxRecDepth 100000 in
set_option maxHeartbeats 4000000 in
theorem m_X12_longest (n : Nat) (Γ : hp_G) (l : Launch) (α : hp_T) (a0 : Nat) (ρ : Nat → Nat) (σ : ms_T) (hM : hm_M α a0 ρ σ) (a1 : Int32) (a2 : Int32) (res : (Int32 × ms_T)) (hf : f_X12_longest n σ a1 a2 = some res) : Met l yX12_longest (hp_ws yX12_longest cX12_longest 7 (some .int)) (hp_rm 42 0 0) (hp_Pc Γ α [.ref a0, .int a1, .int a2]) (hp_Qi Γ (fun r β => r = res.1 ∧ mo α β ∧ hm_M β a0 ρ res.2)) 0 0 (hp_A Γ) := by
  unfold f_X12_longest at hf
  refine hp_start (by decide) ?_
  intro p e s m below meth c C hr hlk B0 hnm
  have C : hp_C Γ p m c cX12_longest 7 s ([.ref a0, .int a1, .int a2] : List Value).toArray RX12 := C
  have hx := C.1.1
  have hb := C.1.2.1
  have hown := C.1.2.2.2.1
  have hts := C.1.2.2.2.2
  have B : hp_B Γ mo s α α s.heap [] := ⟨B0.1, B0.2.1, mo_rf⟩
  have hl := lv_entry ([.ref a0, .int a1, .int a2]) (n := 7) (Nat.le_of_ble_eq_true rfl)
  show W p l e (hp_rm 42 0 0) s m ([.ref a0, .int a1, .int a2] : List Value).toArray below meth c s.heap [] 0 0 (MQ below (hp_Qi Γ (fun r β => r = res.1 ∧ mo α β ∧ hm_M β a0 ρ res.2)) ([.ref a0, .int a1, .int a2] : List Value).toArray s 0 0 (hp_A Γ)) (entryFrame m ([.ref a0, .int a1, .int a2] : List Value).toArray 7)
  rw [lg_entry_eq]
  generalize (lg_sl ([.ref a0, .int a1, .int a2]) ++ List.replicate (7 - (lg_sl ([.ref a0, .int a1, .int a2])).length) Slot.unset).toArray = ls at hl ⊢
  have hl : lv_has ls 7 [(0, .ref a0), (1, .int a1), (2, .int a2)] := hl
  refine lv_aload_n hx hb dX12_longest_0 rfl (lv_at hl 0 rfl) (hp_n (n := 1) rfl ?_)
  refine lv_iload_n hx hb dX12_longest_1 rfl (lv_at hl 1 rfl) (hp_n (n := 2) rfl ?_)
  refine lv_iconst (v := 1) hx hb dX12_longest_2 (by decide) (hp_n (n := 3) rfl ?_)
  refine lv_sipush (v := 512) hx hb dX12_longest_3 (by decide) (hp_n (n := 6) rfl ?_)
  obtain ⟨rh1, qh1, hf⟩ := ms_bE hf
  refine m_cp (pc' := 9) B (hp_runS (As := [.int a1, .int (1 : Int32), .int (512 : Int32)]) (rest := [.ref a0]) C B (m_X12_isIn n Γ l α a1 (1 : Int32) (512 : Int32) rh1 qh1) lb_X12_isIn ls_X12_isIn lk_X12_113 rfl (by decide) rfl hl.1 rfl (Nat.le_of_ble_eq_true rfl) dX12_longest_6 ⟨Nat.le_refl _, Nat.le_refl _⟩) rfl (fun Hh1 Lh1 Bh1 => ?_)
  have J26 : ∀ (αh2 : hp_T) (Hh2 : Heap) (Lh2 : List Loc) (Bh2 : hp_B Γ mo s α αh2 Hh2 Lh2) (σh2 : ms_T) (Mh2 : hm_M αh2 a0 ρ σh2) (v1_h2 : Int32) (v2_h2 : Int32) (w0_h2 : Int32) (ls : Array Slot) (hl : lv_has ls 7 [(0, .ref a0), (1, .int v1_h2), (2, .int v2_h2)]) (hf : f_X12_longest_J26 n σh2 v1_h2 v2_h2 w0_h2 = some res), W p l e (hp_rm 42 0 0) s m ([.ref a0, .int a1, .int a2] : List Value).toArray below meth c Hh2 Lh2 0 0 (MQ below (hp_Qi Γ (fun r β => r = res.1 ∧ mo α β ∧ hm_M β a0 ρ res.2)) ([.ref a0, .int a1, .int a2] : List Value).toArray s 0 0 (hp_A Γ)) (F0 m 26 ls [.int w0_h2, .ref a0]) := by
    intro αh2 Hh2 Lh2 Bh2 σh2 Mh2 v1_h2 v2_h2 w0_h2 ls hl hf
    unfold f_X12_longest_J26 at hf
    obtain ⟨rh3, σh3, qh3, hf⟩ := ms_cE hf
    refine m_ci (pc' := 29) (a := a0) (ρ := ρ) Bh2 (hp_runV (As := [.int w0_h2]) (rest := []) C Bh2 (m_X12_is n Γ l αh2 a0 ρ σh2 Mh2 w0_h2 (rh3, σh3) qh3) lb_X12_is lv_X12_is lk_X12_309 Mh2.1 rfl (by decide) rfl hl.1 rfl (Nat.le_of_ble_eq_true rfl) dX12_longest_26 ⟨Nat.le_refl _, Nat.le_refl _⟩) rfl (fun αh3 Hh3 Lh3 Bh3 Mh3 => ?_)
    refine lv_if_ne (tgt := 34) hx hb dX12_longest_29 (by decide) (fun c4 => ?_) (fun c4 => hp_n (n := 32) rfl ?_)
    ·
      replace hf := ms_iF c4 hf
      refine lv_iconst (v := (-1)) hx hb dX12_longest_34 (by decide) (hp_n (n := 35) rfl ?_)
      refine lv_istore_n (lv' := [(3, .int (-1 : Int32)), (0, .ref a0), (1, .int v1_h2), (2, .int v2_h2)]) hx hb dX12_longest_35 rfl hl (by decide) rfl (fun ls hl => hp_n (n := 36) rfl ?_)
      refine lv_iconst (v := 0) hx hb dX12_longest_36 (by decide) (hp_n (n := 37) rfl ?_)
      refine lv_istore (lv' := [(4, .int (0 : Int32)), (3, .int (-1 : Int32)), (0, .ref a0), (1, .int v1_h2), (2, .int v2_h2)]) hx hb dX12_longest_37 hl (by decide) rfl (fun ls hl => hp_n (n := 39) rfl ?_)
      refine lv_iconst (v := 0) hx hb dX12_longest_39 (by decide) (hp_n (n := 40) rfl ?_)
      refine lv_istore (lv' := [(5, .int (0 : Int32)), (4, .int (0 : Int32)), (3, .int (-1 : Int32)), (0, .ref a0), (1, .int v1_h2), (2, .int v2_h2)]) hx hb dX12_longest_40 hl (by decide) rfl (fun ls hl => hp_n (n := 42) rfl ?_)
      refine lv_iconst (v := 0) hx hb dX12_longest_42 (by decide) (hp_n (n := 43) rfl ?_)
      have J45 : ∀ (k45 : Nat) (αh5 : hp_T) (Hh5 : Heap) (Lh5 : List Loc) (Bh5 : hp_B Γ mo s α αh5 Hh5 Lh5) (σh5 : ms_T) (Mh5 : hm_M αh5 a0 ρ σh5) (v1_h5 : Int32) (v2_h5 : Int32) (v3_h5 : Int32) (v4_h5 : Int32) (v5_h5 : Int32) (v6_h5 : Int32) (ls : Array Slot) (hl : lv_has ls 7 [(0, .ref a0), (1, .int v1_h5), (2, .int v2_h5), (3, .int v3_h5), (4, .int v4_h5), (5, .int v5_h5), (6, .int v6_h5)]) (hf : f_X12_longest_L45 n k45 σh5 v1_h5 v2_h5 v3_h5 v4_h5 v5_h5 v6_h5 = some res), W p l e (hp_rm 42 0 0) s m ([.ref a0, .int a1, .int a2] : List Value).toArray below meth c Hh5 Lh5 0 0 (MQ below (hp_Qi Γ (fun r β => r = res.1 ∧ mo α β ∧ hm_M β a0 ρ res.2)) ([.ref a0, .int a1, .int a2] : List Value).toArray s 0 0 (hp_A Γ)) (F0 m 45 ls []) := by
        intro k45
        induction k45 with
        | zero => intro αh5 Hh5 Lh5 Bh5 σh5 Mh5 v1_h5 v2_h5 v3_h5 v4_h5 v5_h5 v6_h5 ls hl hf; rw [f_X12_longest_L45.eq_1] at hf; cases hf
        | succ k45 ih45 =>
          intro αh5 Hh5 Lh5 Bh5 σh5 Mh5 v1_h5 v2_h5 v3_h5 v4_h5 v5_h5 v6_h5 ls hl hf
          rw [f_X12_longest_L45.eq_2] at hf
          refine lv_iload hx hb dX12_longest_45 (lv_at hl 6 rfl) (hp_n (n := 47) rfl ?_)
          refine lv_iload_n hx hb dX12_longest_47 rfl (lv_at hl 1 rfl) (hp_n (n := 48) rfl ?_)
          refine lv_icmp_ge (tgt := 107) hx hb dX12_longest_48 (by decide) (fun c6 => ?_) (fun c6 => hp_n (n := 51) rfl ?_)
          ·
            replace hf := ms_iT c6 hf
            refine lv_iload_n hx hb dX12_longest_107 rfl (lv_at hl 2 rfl) (hp_n (n := 108) rfl ?_)
            refine lv_if_ne (tgt := 115) hx hb dX12_longest_108 (by decide) (fun c7 => ?_) (fun c7 => hp_n (n := 111) rfl ?_)
            ·
              replace hf := ms_iF c7 hf
              refine lv_iload_n hx hb dX12_longest_115 rfl (lv_at hl 2 rfl) (hp_n (n := 116) rfl ?_)
              refine lv_iconst (v := 1) hx hb dX12_longest_116 (by decide) (hp_n (n := 117) rfl ?_)
              refine lv_icmp_ne (tgt := 125) hx hb dX12_longest_117 (by decide) (fun c8 => ?_) (fun c8 => hp_n (n := 120) rfl ?_)
              ·
                replace hf := ms_iF c8 hf
                refine lv_iload hx hb dX12_longest_125 (lv_at hl 5 rfl) (hp_n (n := 127) rfl ?_)
                cases hf
                exact q_iret C Bh5 hr hlk ⟨rfl, Bh5.2.2, Mh5⟩ dX12_longest_127
              ·
                replace hf := ms_iT c8 hf
                refine lv_iload hx hb dX12_longest_120 (lv_at hl 4 rfl) (hp_n (n := 122) rfl ?_)
                refine lv_goto (tgt := 127) hx hb dX12_longest_122 (by decide) ?_
                cases hf
                exact q_iret C Bh5 hr hlk ⟨rfl, Bh5.2.2, Mh5⟩ dX12_longest_127
            ·
              replace hf := ms_iT c7 hf
              refine lv_iload_n hx hb dX12_longest_111 rfl (lv_at hl 3 rfl) (hp_n (n := 112) rfl ?_)
              refine lv_goto (tgt := 127) hx hb dX12_longest_112 (by decide) ?_
              cases hf
              exact q_iret C Bh5 hr hlk ⟨rfl, Bh5.2.2, Mh5⟩ dX12_longest_127
          ·
            replace hf := ms_iF c6 hf
            refine lv_aload_n hx hb dX12_longest_51 rfl (lv_at hl 0 rfl) (hp_n (n := 52) rfl ?_)
            refine lv_iload hx hb dX12_longest_52 (lv_at hl 6 rfl) (hp_n (n := 54) rfl ?_)
            refine lv_iload_n hx hb dX12_longest_54 rfl (lv_at hl 1 rfl) (hp_n (n := 55) rfl ?_)
            obtain ⟨σh9, qh9, hf⟩ := ms_bE hf
            refine m_cv (pc' := 58) (a := a0) (ρ := ρ) Bh5 (hp_runV (As := [.int v6_h5, .int v1_h5]) (rest := []) C Bh5 (m_X12_inclusion n Γ l αh5 a0 ρ σh5 Mh5 v6_h5 v1_h5 σh9 qh9) lb_X12_inclusion lv_X12_inclusion lk_X12_171 Mh5.1 rfl (by decide) rfl hl.1 rfl (Nat.le_of_ble_eq_true rfl) dX12_longest_55 ⟨Nat.le_refl _, Nat.le_refl _⟩) rfl (fun αh9 Hh9 Lh9 Bh9 Mh9 => ?_)
            refine lv_iload hx hb dX12_longest_58 (lv_at hl 5 rfl) (hp_n (n := 60) rfl ?_)
            refine lv_aload_n hx hb dX12_longest_60 rfl (lv_at hl 0 rfl) (hp_n (n := 61) rfl ?_)
            refine m_geti (k := 7) (φ := 657) (pc' := 64) C Bh9 Mh9 fl_X12_139 rfl rfl dX12_longest_61 rfl ?_
            refine lv_iadd hx hb dX12_longest_64 (hp_n (n := 65) rfl ?_)
            refine lv_topi (fun x10 ex10 => ?_)
            replace hf := ms_lE ex10 hf
            refine lv_istore (lv' := [(5, .int x10), (0, .ref a0), (1, .int v1_h5), (2, .int v2_h5), (3, .int v3_h5), (4, .int v4_h5), (6, .int v6_h5)]) hx hb dX12_longest_65 hl (by decide) rfl (fun ls hl => hp_n (n := 67) rfl ?_)
            refine lv_aload_n hx hb dX12_longest_67 rfl (lv_at hl 1 rfl) (hp_n (n := 68) rfl ?_)
            refine m_geti (k := 7) (φ := 657) (pc' := 71) C Bh9 Mh9 fl_X12_139 rfl rfl dX12_longest_68 rfl ?_
            refine lv_iload_n hx hb dX12_longest_71 rfl (lv_at hl 4 rfl) (hp_n (n := 72) rfl ?_)
            have J82 : ∀ (αh11 : hp_T) (Hh11 : Heap) (Lh11 : List Loc) (Bh11 : hp_B Γ mo s α αh11 Hh11 Lh11) (σh11 : ms_T) (Mh11 : hm_M αh11 a0 ρ σh11) (v1_h11 : Int32) (v2_h11 : Int32) (v3_h11 : Int32) (v5_h11 : Int32) (v6_h11 : Int32) (w0_h11 : Int32) (ls : Array Slot) (hl : lv_has ls 7 [(0, .ref a0), (1, .int v1_h11), (2, .int v2_h11), (3, .int v3_h11), (5, .int v5_h11), (6, .int v6_h11)]) (hf : f_X12_longest_J82 n (f_X12_longest_L45 n k45) σh11 v1_h11 v2_h11 v3_h11 v5_h11 v6_h11 w0_h11 = some res), W p l e (hp_rm 42 0 0) s m ([.ref a0, .int a1, .int a2] : List Value).toArray below meth c Hh11 Lh11 0 0 (MQ below (hp_Qi Γ (fun r β => r = res.1 ∧ mo α β ∧ hm_M β a0 ρ res.2)) ([.ref a0, .int a1, .int a2] : List Value).toArray s 0 0 (hp_A Γ)) (F0 m 82 ls [.int w0_h11]) := by
              intro αh11 Hh11 Lh11 Bh11 σh11 Mh11 v1_h11 v2_h11 v3_h11 v5_h11 v6_h11 w0_h11 ls hl hf
              unfold f_X12_longest_J82 at hf
              refine lv_istore (lv' := [(4, .int w0_h11), (0, .ref a0), (1, .int v1_h11), (2, .int v2_h11), (3, .int v3_h11), (5, .int v5_h11), (6, .int v6_h11)]) hx hb dX12_longest_82 hl (by decide) rfl (fun ls hl => hp_n (n := 84) rfl ?_)
              refine lv_aload_n hx hb dX12_longest_84 rfl (lv_at hl 1 rfl) (hp_n (n := 85) rfl ?_)
              refine m_geti (k := 7) (φ := 657) (pc' := 88) C Bh11 Mh11 fl_X12_139 rfl rfl dX12_longest_85 rfl ?_
              refine lv_iload_n hx hb dX12_longest_88 rfl (lv_at hl 4 rfl) (hp_n (n := 89) rfl ?_)
              have J100 : ∀ (αh12 : hp_T) (Hh12 : Heap) (Lh12 : List Loc) (Bh12 : hp_B Γ mo s α αh12 Hh12 Lh12) (σh12 : ms_T) (Mh12 : hm_M αh12 a0 ρ σh12) (v1_h12 : Int32) (v2_h12 : Int32) (v4_h12 : Int32) (v5_h12 : Int32) (v6_h12 : Int32) (w0_h12 : Int32) (ls : Array Slot) (hl : lv_has ls 7 [(0, .ref a0), (1, .int v1_h12), (2, .int v2_h12), (4, .int v4_h12), (5, .int v5_h12), (6, .int v6_h12)]) (hf : f_X12_longest_J100 n (f_X12_longest_L45 n k45) σh12 v1_h12 v2_h12 v4_h12 v5_h12 v6_h12 w0_h12 = some res), W p l e (hp_rm 42 0 0) s m ([.ref a0, .int a1, .int a2] : List Value).toArray below meth c Hh12 Lh12 0 0 (MQ below (hp_Qi Γ (fun r β => r = res.1 ∧ mo α β ∧ hm_M β a0 ρ res.2)) ([.ref a0, .int a1, .int a2] : List Value).toArray s 0 0 (hp_A Γ)) (F0 m 100 ls [.int w0_h12]) := by
                intro αh12 Hh12 Lh12 Bh12 σh12 Mh12 v1_h12 v2_h12 v4_h12 v5_h12 v6_h12 w0_h12 ls hl hf
                unfold f_X12_longest_J100 at hf
                refine lv_istore_n (lv' := [(3, .int w0_h12), (0, .ref a0), (1, .int v1_h12), (2, .int v2_h12), (4, .int v4_h12), (5, .int v5_h12), (6, .int v6_h12)]) hx hb dX12_longest_100 rfl hl (by decide) rfl (fun ls hl => hp_n (n := 101) rfl ?_)
                obtain ⟨x13, ex13⟩ : ∃ y : Int32, y = v6_h12 + 1 := ⟨_, rfl⟩
                replace hf := ms_lE ex13 hf
                refine lv_iinc (v := x13) (lv' := [(6, .int x13), (3, .int w0_h12), (0, .ref a0), (1, .int v1_h12), (2, .int v2_h12), (4, .int v4_h12), (5, .int v5_h12)]) hx hb dX12_longest_101 hl (k := 6) rfl (by rw [ex13]; rfl) (by decide) rfl (fun ls hl => hp_n (n := 104) rfl ?_)
                refine lv_goto (tgt := 45) hx hb dX12_longest_104 (by decide) ?_
                exact ih45 αh12 Hh12 Lh12 Bh12 σh12 Mh12 v1_h12 v2_h12 w0_h12 v4_h12 v5_h12 x13 ls (lv_sub hl [2, 3, 4, 1, 5, 6, 0] rfl) hf
              refine lv_icmp_le (tgt := 99) hx hb dX12_longest_89 (by decide) (fun c14 => ?_) (fun c14 => hp_n (n := 92) rfl ?_)
              ·
                replace hf := ms_iT c14 hf
                refine lv_iload_n hx hb dX12_longest_99 rfl (lv_at hl 4 rfl) (hp_n (n := 100) rfl ?_)
                exact J100 αh11 Hh11 Lh11 Bh11 σh11 Mh11 v1_h11 v2_h11 w0_h11 v5_h11 v6_h11 v3_h11 ls (lv_sub hl [1, 2, 3, 0, 5, 6] rfl) hf
              ·
                replace hf := ms_iF c14 hf
                refine lv_aload_n hx hb dX12_longest_92 rfl (lv_at hl 1 rfl) (hp_n (n := 93) rfl ?_)
                refine m_geti (k := 7) (φ := 657) (pc' := 96) C Bh11 Mh11 fl_X12_139 rfl rfl dX12_longest_93 rfl ?_
                refine lv_goto (tgt := 100) hx hb dX12_longest_96 (by decide) ?_
                exact J100 αh11 Hh11 Lh11 Bh11 σh11 Mh11 v1_h11 v2_h11 w0_h11 v5_h11 v6_h11 (ms_I σh11 657) ls (lv_sub hl [1, 2, 3, 0, 5, 6] rfl) hf
            refine lv_icmp_le (tgt := 80) hx hb dX12_longest_72 (by decide) (fun c15 => ?_) (fun c15 => hp_n (n := 75) rfl ?_)
            ·
              replace hf := ms_iT c15 hf
              refine lv_iload hx hb dX12_longest_80 (lv_at hl 5 rfl) (hp_n (n := 82) rfl ?_)
              exact J82 αh9 Hh9 Lh9 Bh9 σh9 Mh9 v1_h5 v2_h5 v3_h5 x10 v6_h5 v4_h5 ls (lv_sub hl [1, 2, 3, 4, 0, 6] rfl) hf
            ·
              replace hf := ms_iF c15 hf
              refine lv_iload hx hb dX12_longest_75 (lv_at hl 6 rfl) (hp_n (n := 77) rfl ?_)
              refine lv_goto (tgt := 82) hx hb dX12_longest_77 (by decide) ?_
              exact J82 αh9 Hh9 Lh9 Bh9 σh9 Mh9 v1_h5 v2_h5 v3_h5 x10 v6_h5 v6_h5 ls (lv_sub hl [1, 2, 3, 4, 0, 6] rfl) hf
      refine lv_istore (lv' := [(6, .int (0 : Int32)), (5, .int (0 : Int32)), (4, .int (0 : Int32)), (3, .int (-1 : Int32)), (0, .ref a0), (1, .int v1_h2), (2, .int v2_h2)]) hx hb dX12_longest_43 hl (by decide) rfl (fun ls hl => hp_n (n := 45) rfl ?_)
      exact J45 n αh3 Hh3 Lh3 Bh3 σh3 Mh3 v1_h2 v2_h2 (-1 : Int32) (0 : Int32) (0 : Int32) (0 : Int32) ls (lv_sub hl [4, 5, 6, 3, 2, 1, 0] rfl) hf
    ·
      replace hf := ms_iT c4 hf
      refine lv_iconst (v := (-1)) hx hb dX12_longest_32 (by decide) (hp_n (n := 33) rfl ?_)
      cases hf
      exact q_iret C Bh3 hr hlk ⟨rfl, Bh3.2.2, Mh3⟩ dX12_longest_33
  have J25 : ∀ (αh16 : hp_T) (Hh16 : Heap) (Lh16 : List Loc) (Bh16 : hp_B Γ mo s α αh16 Hh16 Lh16) (σh16 : ms_T) (Mh16 : hm_M αh16 a0 ρ σh16) (v1_h16 : Int32) (v2_h16 : Int32) (ls : Array Slot) (hl : lv_has ls 7 [(0, .ref a0), (1, .int v1_h16), (2, .int v2_h16)]) (hf : f_X12_longest_J25 n σh16 v1_h16 v2_h16 = some res), W p l e (hp_rm 42 0 0) s m ([.ref a0, .int a1, .int a2] : List Value).toArray below meth c Hh16 Lh16 0 0 (MQ below (hp_Qi Γ (fun r β => r = res.1 ∧ mo α β ∧ hm_M β a0 ρ res.2)) ([.ref a0, .int a1, .int a2] : List Value).toArray s 0 0 (hp_A Γ)) (F0 m 25 ls [.ref a0]) := by
    intro αh16 Hh16 Lh16 Bh16 σh16 Mh16 v1_h16 v2_h16 ls hl hf
    unfold f_X12_longest_J25 at hf
    refine lv_iconst (v := 1) hx hb dX12_longest_25 (by decide) (hp_n (n := 26) rfl ?_)
    exact J26 αh16 Hh16 Lh16 Bh16 σh16 Mh16 v1_h16 v2_h16 (1 : Int32) ls (lv_sub hl [0, 1, 2] rfl) hf
  refine lv_if_eq (tgt := 25) hx hb dX12_longest_9 (by decide) (fun c17 => ?_) (fun c17 => hp_n (n := 12) rfl ?_)
  ·
    replace hf := ms_iT c17 hf
    exact J25 α Hh1 Lh1 Bh1 σ hM a1 a2 ls (lv_sub hl [0, 1, 2] rfl) hf
  ·
    replace hf := ms_iF c17 hf
    refine lv_iload_n hx hb dX12_longest_12 rfl (lv_at hl 2 rfl) (hp_n (n := 13) rfl ?_)
    refine lv_iconst (v := 0) hx hb dX12_longest_13 (by decide) (hp_n (n := 14) rfl ?_)
    refine lv_iconst (v := 2) hx hb dX12_longest_14 (by decide) (hp_n (n := 15) rfl ?_)
    obtain ⟨rh18, qh18, hf⟩ := ms_bE hf
    refine m_cp (pc' := 18) Bh1 (hp_runS (As := [.int a2, .int (0 : Int32), .int (2 : Int32)]) (rest := [.ref a0]) C Bh1 (m_X12_isIn n Γ l α a2 (0 : Int32) (2 : Int32) rh18 qh18) lb_X12_isIn ls_X12_isIn lk_X12_113 rfl (by decide) rfl hl.1 rfl (Nat.le_of_ble_eq_true rfl) dX12_longest_15 ⟨Nat.le_refl _, Nat.le_refl _⟩) rfl (fun Hh18 Lh18 Bh18 => ?_)
    refine lv_if_eq (tgt := 25) hx hb dX12_longest_18 (by decide) (fun c19 => ?_) (fun c19 => hp_n (n := 21) rfl ?_)
    ·
      replace hf := ms_iT c19 hf
      exact J25 α Hh18 Lh18 Bh18 σ hM a1 a2 ls (lv_sub hl [0, 1, 2] rfl) hf
    ·
      replace hf := ms_iF c19 hf
      refine lv_iconst (v := 0) hx hb dX12_longest_21 (by decide) (hp_n (n := 22) rfl ?_)
      refine lv_goto (tgt := 26) hx hb dX12_longest_22 (by decide) ?_
      exact J26 α Hh18 Lh18 Bh18 σ hM a1 a2 (0 : Int32) ls (lv_sub hl [0, 1, 2] rfl) hf
def f_X12_part_J198 (n : Nat) (rec123 : ms_T → Int32 → Int32 → Int32 → Int32 → Int32 → Int32 → Option (Int32 × ms_T)) (σh21 : ms_T) (v1_h21 : Int32) (v2_h21 : Int32) (v3_h21 : Int32) (v5_h21 : Int32) (v6_h21 : Int32) (w0_h21 : Int32) : Option (Int32 × ms_T) :=
  rec123 σh21 v1_h21 v2_h21 v3_h21 w0_h21 v5_h21 v6_h21
def f_X12_part_J180 (n : Nat) (rec123 : ms_T → Int32 → Int32 → Int32 → Int32 → Int32 → Int32 → Option (Int32 × ms_T)) (σh19 : ms_T) (v1_h19 : Int32) (v2_h19 : Int32) (v3_h19 : Int32) (v4_h19 : Int32) (v6_h19 : Int32) (v7_h19 : Int32) (v8_h19 : Int32) (w0_h19 : Int32) (w1_h19 : Int32) : Option (Int32 × ms_T) :=
  ms_l ((w1_h19 + w0_h19)) fun x20 =>
  if v8_h19 = 0 then
    f_X12_part_J198 n rec123 σh19 v1_h19 v2_h19 v3_h19 x20 v6_h19 v7_h19
  else
    f_X12_part_J198 n rec123 σh19 v1_h19 v2_h19 v3_h19 x20 v6_h19 (v4_h19 - v7_h19)
def f_X12_part_J165 (n : Nat) (rec123 : ms_T → Int32 → Int32 → Int32 → Int32 → Int32 → Int32 → Option (Int32 × ms_T)) (σh18 : ms_T) (v1_h18 : Int32) (v2_h18 : Int32) (v3_h18 : Int32) (v4_h18 : Int32) (v5_h18 : Int32) (v6_h18 : Int32) (v7_h18 : Int32) (w0_h18 : Int32) : Option (Int32 × ms_T) :=
  if w0_h18 = 0 then
    f_X12_part_J180 n rec123 σh18 v1_h18 v2_h18 v3_h18 v4_h18 v6_h18 v7_h18 w0_h18 (0 : Int32) v5_h18
  else
    f_X12_part_J180 n rec123 σh18 v1_h18 v2_h18 v3_h18 v4_h18 v6_h18 v7_h18 w0_h18 v7_h18 v5_h18
def f_X12_part_L123 (n : Nat) : Nat → ms_T → Int32 → Int32 → Int32 → Int32 → Int32 → Int32 → Option (Int32 × ms_T)
  | 0, _, _, _, _, _, _, _ => none
  | k123 + 1, σh11, v1_h11, v2_h11, v3_h11, v4_h11, v5_h11, v6_h11 =>
    if v4_h11 ≤ (1 : Int32) then
      if v3_h11 = 0 then
        some (v5_h11, σh11)
      else
        some (v6_h11, σh11)
    else
      ms_b (f_X12_part0 n v4_h11) fun rh14 =>
      ms_l (v6_h11 + 1) fun x15 =>
      ms_b (f_X12_treeMark n 40 σh11 v1_h11 v5_h11 rh14) fun rh16 =>
      ms_b (f_X12_treeMark n 40 σh11 v2_h11 v5_h11 rh14) fun rh17 =>
      if rh16 = rh17 then
        f_X12_part_J165 n (f_X12_part_L123 n k123) σh11 v1_h11 v2_h11 v3_h11 v4_h11 v5_h11 x15 rh14 (1 : Int32)
      else
        f_X12_part_J165 n (f_X12_part_L123 n k123) σh11 v1_h11 v2_h11 v3_h11 v4_h11 v5_h11 x15 rh14 (0 : Int32)
def f_X12_part_J69 (n : Nat) (σh7 : ms_T) (v1_h7 : Int32) (v2_h7 : Int32) (v3_h7 : Int32) (w0_h7 : Int32) : Option (Int32 × ms_T) :=
  ms_b (f_X12_headOf n σh7 v1_h7 w0_h7) fun rh8 =>
  ms_b (f_X12_headOf n σh7 v2_h7 w0_h7) fun rh9 =>
  if rh8 = rh9 then
    if v3_h7 = (1 : Int32) then
      some ((0 : Int32), σh7)
    else
      ms_b (f_X12_sizeOf n σh7 v1_h7) fun rh26 =>
      ms_b (f_X12_sizeOf n σh7 v2_h7) fun rh27 =>
      if rh26 = rh27 then
        some ((-1 : Int32), σh7)
      else
        some (w0_h7, σh7)
  else
    f_X12_part_L123 n n σh7 v1_h7 v2_h7 v3_h7 w0_h7 (0 : Int32) (0 : Int32)
def f_X12_part_J35 (n : Nat) (σh2 : ms_T) (v1_h2 : Int32) (v2_h2 : Int32) (v3_h2 : Int32) (w0_h2 : Int32) : Option (Int32 × ms_T) :=
  ms_c (f_X12_is n σh2 w0_h2) fun rh3 σh3 =>
  if rh3 = 0 then
    some ((-1 : Int32), σh3)
  else
    ms_b (f_X12_sizeOf n σh3 v1_h2) fun rh5 =>
    ms_b (f_X12_sizeOf n σh3 v2_h2) fun rh6 =>
    if rh6 ≤ rh5 then
      ms_b (f_X12_sizeOf n σh3 v2_h2) fun rh30 =>
      f_X12_part_J69 n σh3 v1_h2 v2_h2 v3_h2 rh30
    else
      ms_b (f_X12_sizeOf n σh3 v1_h2) fun rh31 =>
      f_X12_part_J69 n σh3 v1_h2 v2_h2 v3_h2 rh31
def f_X12_part_J30 (n : Nat) (σh34 : ms_T) (v1_h34 : Int32) (v2_h34 : Int32) (v3_h34 : Int32) : Option (Int32 × ms_T) :=
  f_X12_part_J35 n σh34 v1_h34 v2_h34 v3_h34 (2 : Int32)
def f_X12_part (n : Nat) (σ : ms_T) (a1 : Int32) (a2 : Int32) (a3 : Int32) : Option (Int32 × ms_T) :=
  ms_b (f_X12_isIn n a3 (0 : Int32) (1 : Int32)) fun rh1 =>
  if rh1 = 0 then
    f_X12_part_J35 n σ a1 a2 a3 (1 : Int32)
  else
    ms_b (f_X12_isRecord n σ a1) fun rh33 =>
    if rh33 = 0 then
      f_X12_part_J30 n σ a1 a2 a3
    else
      ms_b (f_X12_isRecord n σ a2) fun rh36 =>
      if rh36 = 0 then
        f_X12_part_J30 n σ a1 a2 a3
      else
        f_X12_part_J35 n σ a1 a2 a3 (0 : Int32)
set_option maxRecDepth 100000 in
set_option maxHeartbeats 4000000 in
theorem m_X12_part (n : Nat) (Γ : hp_G) (l : Launch) (α : hp_T) (a0 : Nat) (ρ : Nat → Nat) (σ : ms_T) (hM : hm_M α a0 ρ σ) (a1 : Int32) (a2 : Int32) (a3 : Int32) (res : (Int32 × ms_T)) (hf : f_X12_part n σ a1 a2 a3 = some res) : Met l yX12_part (hp_ws yX12_part cX12_part 9 (some .int)) (hp_rm 43 0 0) (hp_Pc Γ α [.ref a0, .int a1, .int a2, .int a3]) (hp_Qi Γ (fun r β => r = res.1 ∧ mo α β ∧ hm_M β a0 ρ res.2)) 0 0 (hp_A Γ) := by
  unfold f_X12_part at hf
  refine hp_start (by decide) ?_
  intro p e s m below meth c C hr hlk B0 hnm
  have C : hp_C Γ p m c cX12_part 9 s ([.ref a0, .int a1, .int a2, .int a3] : List Value).toArray RX12 := C
  have hx := C.1.1
  have hb := C.1.2.1
  have hown := C.1.2.2.2.1
  have hts := C.1.2.2.2.2
  have B : hp_B Γ mo s α α s.heap [] := ⟨B0.1, B0.2.1, mo_rf⟩
  have hl := lv_entry ([.ref a0, .int a1, .int a2, .int a3]) (n := 9) (Nat.le_of_ble_eq_true rfl)
  show W p l e (hp_rm 43 0 0) s m ([.ref a0, .int a1, .int a2, .int a3] : List Value).toArray below meth c s.heap [] 0 0 (MQ below (hp_Qi Γ (fun r β => r = res.1 ∧ mo α β ∧ hm_M β a0 ρ res.2)) ([.ref a0, .int a1, .int a2, .int a3] : List Value).toArray s 0 0 (hp_A Γ)) (entryFrame m ([.ref a0, .int a1, .int a2, .int a3] : List Value).toArray 9)
  rw [lg_entry_eq]
  generalize (lg_sl ([.ref a0, .int a1, .int a2, .int a3]) ++ List.replicate (9 - (lg_sl ([.ref a0, .int a1, .int a2, .int a3])).length) Slot.unset).toArray = ls at hl ⊢
  have hl : lv_has ls 9 [(0, .ref a0), (1, .int a1), (2, .int a2), (3, .int a3)] := hl
  refine lv_aload_n hx hb dX12_part_0 rfl (lv_at hl 0 rfl) (hp_n (n := 1) rfl ?_)
  refine lv_iload_n hx hb dX12_part_1 rfl (lv_at hl 3 rfl) (hp_n (n := 2) rfl ?_)
  refine lv_iconst (v := 0) hx hb dX12_part_2 (by decide) (hp_n (n := 3) rfl ?_)
  refine lv_iconst (v := 1) hx hb dX12_part_3 (by decide) (hp_n (n := 4) rfl ?_)
  obtain ⟨rh1, qh1, hf⟩ := ms_bE hf
  refine m_cp (pc' := 7) B (hp_runS (As := [.int a3, .int (0 : Int32), .int (1 : Int32)]) (rest := [.ref a0]) C B (m_X12_isIn n Γ l α a3 (0 : Int32) (1 : Int32) rh1 qh1) lb_X12_isIn ls_X12_isIn lk_X12_113 rfl (by decide) rfl hl.1 rfl (Nat.le_of_ble_eq_true rfl) dX12_part_4 ⟨Nat.le_refl _, Nat.le_refl _⟩) rfl (fun Hh1 Lh1 Bh1 => ?_)
  have J35 : ∀ (αh2 : hp_T) (Hh2 : Heap) (Lh2 : List Loc) (Bh2 : hp_B Γ mo s α αh2 Hh2 Lh2) (σh2 : ms_T) (Mh2 : hm_M αh2 a0 ρ σh2) (v1_h2 : Int32) (v2_h2 : Int32) (v3_h2 : Int32) (w0_h2 : Int32) (ls : Array Slot) (hl : lv_has ls 9 [(0, .ref a0), (1, .int v1_h2), (2, .int v2_h2), (3, .int v3_h2)]) (hf : f_X12_part_J35 n σh2 v1_h2 v2_h2 v3_h2 w0_h2 = some res), W p l e (hp_rm 43 0 0) s m ([.ref a0, .int a1, .int a2, .int a3] : List Value).toArray below meth c Hh2 Lh2 0 0 (MQ below (hp_Qi Γ (fun r β => r = res.1 ∧ mo α β ∧ hm_M β a0 ρ res.2)) ([.ref a0, .int a1, .int a2, .int a3] : List Value).toArray s 0 0 (hp_A Γ)) (F0 m 35 ls [.int w0_h2, .ref a0]) := by
    intro αh2 Hh2 Lh2 Bh2 σh2 Mh2 v1_h2 v2_h2 v3_h2 w0_h2 ls hl hf
    unfold f_X12_part_J35 at hf
    obtain ⟨rh3, σh3, qh3, hf⟩ := ms_cE hf
    refine m_ci (pc' := 38) (a := a0) (ρ := ρ) Bh2 (hp_runV (As := [.int w0_h2]) (rest := []) C Bh2 (m_X12_is n Γ l αh2 a0 ρ σh2 Mh2 w0_h2 (rh3, σh3) qh3) lb_X12_is lv_X12_is lk_X12_309 Mh2.1 rfl (by decide) rfl hl.1 rfl (Nat.le_of_ble_eq_true rfl) dX12_part_35 ⟨Nat.le_refl _, Nat.le_refl _⟩) rfl (fun αh3 Hh3 Lh3 Bh3 Mh3 => ?_)
    refine lv_if_ne (tgt := 43) hx hb dX12_part_38 (by decide) (fun c4 => ?_) (fun c4 => hp_n (n := 41) rfl ?_)
    ·
      replace hf := ms_iF c4 hf
      refine lv_aload_n hx hb dX12_part_43 rfl (lv_at hl 0 rfl) (hp_n (n := 44) rfl ?_)
      refine lv_iload_n hx hb dX12_part_44 rfl (lv_at hl 1 rfl) (hp_n (n := 45) rfl ?_)
      obtain ⟨rh5, qh5, hf⟩ := ms_bE hf
      refine m_cp (pc' := 48) Bh3 (hp_runV (As := [.int v1_h2]) (rest := []) C Bh3 (m_X12_sizeOf n Γ l αh3 a0 ρ σh3 Mh3 v1_h2 rh5 qh5) lb_X12_sizeOf lv_X12_sizeOf lk_X12_209 Mh3.1 rfl (by decide) rfl hl.1 rfl (Nat.le_of_ble_eq_true rfl) dX12_part_45 ⟨Nat.le_refl _, Nat.le_refl _⟩) rfl (fun Hh5 Lh5 Bh5 => ?_)
      refine lv_aload_n hx hb dX12_part_48 rfl (lv_at hl 0 rfl) (hp_n (n := 49) rfl ?_)
      refine lv_iload_n hx hb dX12_part_49 rfl (lv_at hl 2 rfl) (hp_n (n := 50) rfl ?_)
      obtain ⟨rh6, qh6, hf⟩ := ms_bE hf
      refine m_cp (pc' := 53) Bh5 (hp_runV (As := [.int v2_h2]) (rest := [.int rh5]) C Bh5 (m_X12_sizeOf n Γ l αh3 a0 ρ σh3 Mh3 v2_h2 rh6 qh6) lb_X12_sizeOf lv_X12_sizeOf lk_X12_209 Mh3.1 rfl (by decide) rfl hl.1 rfl (Nat.le_of_ble_eq_true rfl) dX12_part_50 ⟨Nat.le_refl _, Nat.le_refl _⟩) rfl (fun Hh6 Lh6 Bh6 => ?_)
      have J69 : ∀ (αh7 : hp_T) (Hh7 : Heap) (Lh7 : List Loc) (Bh7 : hp_B Γ mo s α αh7 Hh7 Lh7) (σh7 : ms_T) (Mh7 : hm_M αh7 a0 ρ σh7) (v1_h7 : Int32) (v2_h7 : Int32) (v3_h7 : Int32) (w0_h7 : Int32) (ls : Array Slot) (hl : lv_has ls 9 [(0, .ref a0), (1, .int v1_h7), (2, .int v2_h7), (3, .int v3_h7)]) (hf : f_X12_part_J69 n σh7 v1_h7 v2_h7 v3_h7 w0_h7 = some res), W p l e (hp_rm 43 0 0) s m ([.ref a0, .int a1, .int a2, .int a3] : List Value).toArray below meth c Hh7 Lh7 0 0 (MQ below (hp_Qi Γ (fun r β => r = res.1 ∧ mo α β ∧ hm_M β a0 ρ res.2)) ([.ref a0, .int a1, .int a2, .int a3] : List Value).toArray s 0 0 (hp_A Γ)) (F0 m 69 ls [.int w0_h7]) := by
        intro αh7 Hh7 Lh7 Bh7 σh7 Mh7 v1_h7 v2_h7 v3_h7 w0_h7 ls hl hf
        unfold f_X12_part_J69 at hf
        refine lv_istore (lv' := [(4, .int w0_h7), (0, .ref a0), (1, .int v1_h7), (2, .int v2_h7), (3, .int v3_h7)]) hx hb dX12_part_69 hl (by decide) rfl (fun ls hl => hp_n (n := 71) rfl ?_)
        refine lv_aload_n hx hb dX12_part_71 rfl (lv_at hl 1 rfl) (hp_n (n := 72) rfl ?_)
        refine lv_iload_n hx hb dX12_part_72 rfl (lv_at hl 2 rfl) (hp_n (n := 73) rfl ?_)
        refine lv_iload hx hb dX12_part_73 (lv_at hl 0 rfl) (hp_n (n := 75) rfl ?_)
        obtain ⟨rh8, qh8, hf⟩ := ms_bE hf
        refine m_cp (pc' := 78) Bh7 (hp_runV (As := [.int v1_h7, .int w0_h7]) (rest := []) C Bh7 (m_X12_headOf n Γ l αh7 a0 ρ σh7 Mh7 v1_h7 w0_h7 rh8 qh8) lb_X12_headOf lv_X12_headOf lk_X12_215 Mh7.1 rfl (by decide) rfl hl.1 rfl (Nat.le_of_ble_eq_true rfl) dX12_part_75 ⟨Nat.le_refl _, Nat.le_refl _⟩) rfl (fun Hh8 Lh8 Bh8 => ?_)
        refine lv_aload_n hx hb dX12_part_78 rfl (lv_at hl 1 rfl) (hp_n (n := 79) rfl ?_)
        refine lv_iload_n hx hb dX12_part_79 rfl (lv_at hl 3 rfl) (hp_n (n := 80) rfl ?_)
        refine lv_iload hx hb dX12_part_80 (lv_at hl 0 rfl) (hp_n (n := 82) rfl ?_)
        obtain ⟨rh9, qh9, hf⟩ := ms_bE hf
        refine m_cp (pc' := 85) Bh8 (hp_runV (As := [.int v2_h7, .int w0_h7]) (rest := [.int rh8]) C Bh8 (m_X12_headOf n Γ l αh7 a0 ρ σh7 Mh7 v2_h7 w0_h7 rh9 qh9) lb_X12_headOf lv_X12_headOf lk_X12_215 Mh7.1 rfl (by decide) rfl hl.1 rfl (Nat.le_of_ble_eq_true rfl) dX12_part_82 ⟨Nat.le_refl _, Nat.le_refl _⟩) rfl (fun Hh9 Lh9 Bh9 => ?_)
        refine lv_icmp_ne (tgt := 117) hx hb dX12_part_85 (by decide) (fun c10 => ?_) (fun c10 => hp_n (n := 88) rfl ?_)
        ·
          replace hf := ms_iF c10 hf
          refine lv_iconst (v := 0) hx hb dX12_part_117 (by decide) (hp_n (n := 118) rfl ?_)
          refine lv_istore (lv' := [(5, .int (0 : Int32)), (4, .int w0_h7), (0, .ref a0), (1, .int v1_h7), (2, .int v2_h7), (3, .int v3_h7)]) hx hb dX12_part_118 hl (by decide) rfl (fun ls hl => hp_n (n := 120) rfl ?_)
          refine lv_iconst (v := 0) hx hb dX12_part_120 (by decide) (hp_n (n := 121) rfl ?_)
          have J123 : ∀ (k123 : Nat) (αh11 : hp_T) (Hh11 : Heap) (Lh11 : List Loc) (Bh11 : hp_B Γ mo s α αh11 Hh11 Lh11) (σh11 : ms_T) (Mh11 : hm_M αh11 a0 ρ σh11) (v1_h11 : Int32) (v2_h11 : Int32) (v3_h11 : Int32) (v4_h11 : Int32) (v5_h11 : Int32) (v6_h11 : Int32) (ls : Array Slot) (hl : lv_has ls 9 [(0, .ref a0), (1, .int v1_h11), (2, .int v2_h11), (3, .int v3_h11), (4, .int v4_h11), (5, .int v5_h11), (6, .int v6_h11)]) (hf : f_X12_part_L123 n k123 σh11 v1_h11 v2_h11 v3_h11 v4_h11 v5_h11 v6_h11 = some res), W p l e (hp_rm 43 0 0) s m ([.ref a0, .int a1, .int a2, .int a3] : List Value).toArray below meth c Hh11 Lh11 0 0 (MQ below (hp_Qi Γ (fun r β => r = res.1 ∧ mo α β ∧ hm_M β a0 ρ res.2)) ([.ref a0, .int a1, .int a2, .int a3] : List Value).toArray s 0 0 (hp_A Γ)) (F0 m 123 ls []) := by
            intro k123
            induction k123 with
            | zero => intro αh11 Hh11 Lh11 Bh11 σh11 Mh11 v1_h11 v2_h11 v3_h11 v4_h11 v5_h11 v6_h11 ls hl hf; rw [f_X12_part_L123.eq_1] at hf; cases hf
            | succ k123 ih123 =>
              intro αh11 Hh11 Lh11 Bh11 σh11 Mh11 v1_h11 v2_h11 v3_h11 v4_h11 v5_h11 v6_h11 ls hl hf
              rw [f_X12_part_L123.eq_2] at hf
              refine lv_iload hx hb dX12_part_123 (lv_at hl 4 rfl) (hp_n (n := 125) rfl ?_)
              refine lv_iconst (v := 1) hx hb dX12_part_125 (by decide) (hp_n (n := 126) rfl ?_)
              refine lv_icmp_le (tgt := 203) hx hb dX12_part_126 (by decide) (fun c12 => ?_) (fun c12 => hp_n (n := 129) rfl ?_)
              ·
                replace hf := ms_iT c12 hf
                refine lv_iload_n hx hb dX12_part_203 rfl (lv_at hl 3 rfl) (hp_n (n := 204) rfl ?_)
                refine lv_if_ne (tgt := 212) hx hb dX12_part_204 (by decide) (fun c13 => ?_) (fun c13 => hp_n (n := 207) rfl ?_)
                ·
                  replace hf := ms_iF c13 hf
                  refine lv_iload hx hb dX12_part_212 (lv_at hl 6 rfl) (hp_n (n := 214) rfl ?_)
                  cases hf
                  exact q_iret C Bh11 hr hlk ⟨rfl, Bh11.2.2, Mh11⟩ dX12_part_214
                ·
                  replace hf := ms_iT c13 hf
                  refine lv_iload hx hb dX12_part_207 (lv_at hl 5 rfl) (hp_n (n := 209) rfl ?_)
                  refine lv_goto (tgt := 214) hx hb dX12_part_209 (by decide) ?_
                  cases hf
                  exact q_iret C Bh11 hr hlk ⟨rfl, Bh11.2.2, Mh11⟩ dX12_part_214
              ·
                replace hf := ms_iF c12 hf
                refine lv_iload hx hb dX12_part_129 (lv_at hl 4 rfl) (hp_n (n := 131) rfl ?_)
                obtain ⟨rh14, qh14, hf⟩ := ms_bE hf
                refine m_cp (pc' := 134) Bh11 (hp_runS (As := [.int v4_h11]) (rest := []) C Bh11 (m_X12_part0 n Γ l αh11 v4_h11 rh14 qh14) lb_X12_part0 ls_X12_part0 lk_X12_128 rfl (by decide) rfl hl.1 rfl (Nat.le_of_ble_eq_true rfl) dX12_part_131 ⟨Nat.le_refl _, Nat.le_refl _⟩) rfl (fun Hh14 Lh14 Bh14 => ?_)
                refine lv_istore (lv' := [(7, .int rh14), (0, .ref a0), (1, .int v1_h11), (2, .int v2_h11), (3, .int v3_h11), (4, .int v4_h11), (5, .int v5_h11), (6, .int v6_h11)]) hx hb dX12_part_134 hl (by decide) rfl (fun ls hl => hp_n (n := 136) rfl ?_)
                obtain ⟨x15, ex15⟩ : ∃ y : Int32, y = v6_h11 + 1 := ⟨_, rfl⟩
                replace hf := ms_lE ex15 hf
                refine lv_iinc (v := x15) (lv' := [(6, .int x15), (7, .int rh14), (0, .ref a0), (1, .int v1_h11), (2, .int v2_h11), (3, .int v3_h11), (4, .int v4_h11), (5, .int v5_h11)]) hx hb dX12_part_136 hl (k := 7) rfl (by rw [ex15]; rfl) (by decide) rfl (fun ls hl => hp_n (n := 139) rfl ?_)
                refine lv_aload_n hx hb dX12_part_139 rfl (lv_at hl 2 rfl) (hp_n (n := 140) rfl ?_)
                refine lv_iload_n hx hb dX12_part_140 rfl (lv_at hl 3 rfl) (hp_n (n := 141) rfl ?_)
                refine lv_iload hx hb dX12_part_141 (lv_at hl 7 rfl) (hp_n (n := 143) rfl ?_)
                refine lv_iload hx hb dX12_part_143 (lv_at hl 1 rfl) (hp_n (n := 145) rfl ?_)
                obtain ⟨rh16, qh16, hf⟩ := ms_bE hf
                refine m_cp (pc' := 148) Bh14 (hp_runV (As := [.int v1_h11, .int v5_h11, .int rh14]) (rest := []) C Bh14 (m_X12_treeMark n 40 Γ l αh11 a0 ρ σh11 Mh11 v1_h11 v5_h11 rh14 rh16 qh16) lb_X12_treeMark lv_X12_treeMark lk_X12_132 Mh11.1 rfl (by decide) rfl hl.1 rfl (Nat.le_of_ble_eq_true rfl) dX12_part_145 ⟨Nat.le_refl _, Nat.le_refl _⟩) rfl (fun Hh16 Lh16 Bh16 => ?_)
                refine lv_aload_n hx hb dX12_part_148 rfl (lv_at hl 2 rfl) (hp_n (n := 149) rfl ?_)
                refine lv_iload_n hx hb dX12_part_149 rfl (lv_at hl 4 rfl) (hp_n (n := 150) rfl ?_)
                refine lv_iload hx hb dX12_part_150 (lv_at hl 7 rfl) (hp_n (n := 152) rfl ?_)
                refine lv_iload hx hb dX12_part_152 (lv_at hl 1 rfl) (hp_n (n := 154) rfl ?_)
                obtain ⟨rh17, qh17, hf⟩ := ms_bE hf
                refine m_cp (pc' := 157) Bh16 (hp_runV (As := [.int v2_h11, .int v5_h11, .int rh14]) (rest := [.int rh16]) C Bh16 (m_X12_treeMark n 40 Γ l αh11 a0 ρ σh11 Mh11 v2_h11 v5_h11 rh14 rh17 qh17) lb_X12_treeMark lv_X12_treeMark lk_X12_132 Mh11.1 rfl (by decide) rfl hl.1 rfl (Nat.le_of_ble_eq_true rfl) dX12_part_154 ⟨Nat.le_refl _, Nat.le_refl _⟩) rfl (fun Hh17 Lh17 Bh17 => ?_)
                have J165 : ∀ (αh18 : hp_T) (Hh18 : Heap) (Lh18 : List Loc) (Bh18 : hp_B Γ mo s α αh18 Hh18 Lh18) (σh18 : ms_T) (Mh18 : hm_M αh18 a0 ρ σh18) (v1_h18 : Int32) (v2_h18 : Int32) (v3_h18 : Int32) (v4_h18 : Int32) (v5_h18 : Int32) (v6_h18 : Int32) (v7_h18 : Int32) (w0_h18 : Int32) (ls : Array Slot) (hl : lv_has ls 9 [(0, .ref a0), (1, .int v1_h18), (2, .int v2_h18), (3, .int v3_h18), (4, .int v4_h18), (5, .int v5_h18), (6, .int v6_h18), (7, .int v7_h18)]) (hf : f_X12_part_J165 n (f_X12_part_L123 n k123) σh18 v1_h18 v2_h18 v3_h18 v4_h18 v5_h18 v6_h18 v7_h18 w0_h18 = some res), W p l e (hp_rm 43 0 0) s m ([.ref a0, .int a1, .int a2, .int a3] : List Value).toArray below meth c Hh18 Lh18 0 0 (MQ below (hp_Qi Γ (fun r β => r = res.1 ∧ mo α β ∧ hm_M β a0 ρ res.2)) ([.ref a0, .int a1, .int a2, .int a3] : List Value).toArray s 0 0 (hp_A Γ)) (F0 m 165 ls [.int w0_h18]) := by
                  intro αh18 Hh18 Lh18 Bh18 σh18 Mh18 v1_h18 v2_h18 v3_h18 v4_h18 v5_h18 v6_h18 v7_h18 w0_h18 ls hl hf
                  unfold f_X12_part_J165 at hf
                  refine lv_istore (lv' := [(8, .int w0_h18), (0, .ref a0), (1, .int v1_h18), (2, .int v2_h18), (3, .int v3_h18), (4, .int v4_h18), (5, .int v5_h18), (6, .int v6_h18), (7, .int v7_h18)]) hx hb dX12_part_165 hl (by decide) rfl (fun ls hl => hp_n (n := 167) rfl ?_)
                  refine lv_iload hx hb dX12_part_167 (lv_at hl 6 rfl) (hp_n (n := 169) rfl ?_)
                  refine lv_iload hx hb dX12_part_169 (lv_at hl 0 rfl) (hp_n (n := 171) rfl ?_)
                  have J180 : ∀ (αh19 : hp_T) (Hh19 : Heap) (Lh19 : List Loc) (Bh19 : hp_B Γ mo s α αh19 Hh19 Lh19) (σh19 : ms_T) (Mh19 : hm_M αh19 a0 ρ σh19) (v1_h19 : Int32) (v2_h19 : Int32) (v3_h19 : Int32) (v4_h19 : Int32) (v6_h19 : Int32) (v7_h19 : Int32) (v8_h19 : Int32) (w0_h19 : Int32) (w1_h19 : Int32) (ls : Array Slot) (hl : lv_has ls 9 [(0, .ref a0), (1, .int v1_h19), (2, .int v2_h19), (3, .int v3_h19), (4, .int v4_h19), (6, .int v6_h19), (7, .int v7_h19), (8, .int v8_h19)]) (hf : f_X12_part_J180 n (f_X12_part_L123 n k123) σh19 v1_h19 v2_h19 v3_h19 v4_h19 v6_h19 v7_h19 v8_h19 w0_h19 w1_h19 = some res), W p l e (hp_rm 43 0 0) s m ([.ref a0, .int a1, .int a2, .int a3] : List Value).toArray below meth c Hh19 Lh19 0 0 (MQ below (hp_Qi Γ (fun r β => r = res.1 ∧ mo α β ∧ hm_M β a0 ρ res.2)) ([.ref a0, .int a1, .int a2, .int a3] : List Value).toArray s 0 0 (hp_A Γ)) (F0 m 180 ls [.int w0_h19, .int w1_h19]) := by
                    intro αh19 Hh19 Lh19 Bh19 σh19 Mh19 v1_h19 v2_h19 v3_h19 v4_h19 v6_h19 v7_h19 v8_h19 w0_h19 w1_h19 ls hl hf
                    unfold f_X12_part_J180 at hf
                    refine lv_iadd hx hb dX12_part_180 (hp_n (n := 181) rfl ?_)
                    refine lv_topi (fun x20 ex20 => ?_)
                    replace hf := ms_lE ex20 hf
                    refine lv_istore (lv' := [(5, .int x20), (0, .ref a0), (1, .int v1_h19), (2, .int v2_h19), (3, .int v3_h19), (4, .int v4_h19), (6, .int v6_h19), (7, .int v7_h19), (8, .int v8_h19)]) hx hb dX12_part_181 hl (by decide) rfl (fun ls hl => hp_n (n := 183) rfl ?_)
                    refine lv_iload hx hb dX12_part_183 (lv_at hl 8 rfl) (hp_n (n := 185) rfl ?_)
                    have J198 : ∀ (αh21 : hp_T) (Hh21 : Heap) (Lh21 : List Loc) (Bh21 : hp_B Γ mo s α αh21 Hh21 Lh21) (σh21 : ms_T) (Mh21 : hm_M αh21 a0 ρ σh21) (v1_h21 : Int32) (v2_h21 : Int32) (v3_h21 : Int32) (v5_h21 : Int32) (v6_h21 : Int32) (w0_h21 : Int32) (ls : Array Slot) (hl : lv_has ls 9 [(0, .ref a0), (1, .int v1_h21), (2, .int v2_h21), (3, .int v3_h21), (5, .int v5_h21), (6, .int v6_h21)]) (hf : f_X12_part_J198 n (f_X12_part_L123 n k123) σh21 v1_h21 v2_h21 v3_h21 v5_h21 v6_h21 w0_h21 = some res), W p l e (hp_rm 43 0 0) s m ([.ref a0, .int a1, .int a2, .int a3] : List Value).toArray below meth c Hh21 Lh21 0 0 (MQ below (hp_Qi Γ (fun r β => r = res.1 ∧ mo α β ∧ hm_M β a0 ρ res.2)) ([.ref a0, .int a1, .int a2, .int a3] : List Value).toArray s 0 0 (hp_A Γ)) (F0 m 198 ls [.int w0_h21]) := by
                      intro αh21 Hh21 Lh21 Bh21 σh21 Mh21 v1_h21 v2_h21 v3_h21 v5_h21 v6_h21 w0_h21 ls hl hf
                      unfold f_X12_part_J198 at hf
                      refine lv_istore (lv' := [(4, .int w0_h21), (0, .ref a0), (1, .int v1_h21), (2, .int v2_h21), (3, .int v3_h21), (5, .int v5_h21), (6, .int v6_h21)]) hx hb dX12_part_198 hl (by decide) rfl (fun ls hl => hp_n (n := 200) rfl ?_)
                      refine lv_goto (tgt := 123) hx hb dX12_part_200 (by decide) ?_
                      exact ih123 αh21 Hh21 Lh21 Bh21 σh21 Mh21 v1_h21 v2_h21 v3_h21 w0_h21 v5_h21 v6_h21 ls (lv_sub hl [1, 2, 3, 4, 0, 5, 6] rfl) hf
                    refine lv_if_eq (tgt := 196) hx hb dX12_part_185 (by decide) (fun c22 => ?_) (fun c22 => hp_n (n := 188) rfl ?_)
                    ·
                      replace hf := ms_iT c22 hf
                      refine lv_iload hx hb dX12_part_196 (lv_at hl 7 rfl) (hp_n (n := 198) rfl ?_)
                      exact J198 αh19 Hh19 Lh19 Bh19 σh19 Mh19 v1_h19 v2_h19 v3_h19 x20 v6_h19 v7_h19 ls (lv_sub hl [1, 2, 3, 4, 0, 6] rfl) hf
                    ·
                      replace hf := ms_iF c22 hf
                      refine lv_iload hx hb dX12_part_188 (lv_at hl 5 rfl) (hp_n (n := 190) rfl ?_)
                      refine lv_iload hx hb dX12_part_190 (lv_at hl 7 rfl) (hp_n (n := 192) rfl ?_)
                      refine lv_isub hx hb dX12_part_192 (hp_n (n := 193) rfl ?_)
                      refine lv_goto (tgt := 198) hx hb dX12_part_193 (by decide) ?_
                      exact J198 αh19 Hh19 Lh19 Bh19 σh19 Mh19 v1_h19 v2_h19 v3_h19 x20 v6_h19 (v4_h19 - v7_h19) ls (lv_sub hl [1, 2, 3, 4, 0, 6] rfl) hf
                  refine lv_if_eq (tgt := 179) hx hb dX12_part_171 (by decide) (fun c23 => ?_) (fun c23 => hp_n (n := 174) rfl ?_)
                  ·
                    replace hf := ms_iT c23 hf
                    refine lv_iconst (v := 0) hx hb dX12_part_179 (by decide) (hp_n (n := 180) rfl ?_)
                    exact J180 αh18 Hh18 Lh18 Bh18 σh18 Mh18 v1_h18 v2_h18 v3_h18 v4_h18 v6_h18 v7_h18 w0_h18 (0 : Int32) v5_h18 ls (lv_sub hl [1, 2, 3, 4, 5, 7, 8, 0] rfl) hf
                  ·
                    replace hf := ms_iF c23 hf
                    refine lv_iload hx hb dX12_part_174 (lv_at hl 8 rfl) (hp_n (n := 176) rfl ?_)
                    refine lv_goto (tgt := 180) hx hb dX12_part_176 (by decide) ?_
                    exact J180 αh18 Hh18 Lh18 Bh18 σh18 Mh18 v1_h18 v2_h18 v3_h18 v4_h18 v6_h18 v7_h18 w0_h18 v7_h18 v5_h18 ls (lv_sub hl [1, 2, 3, 4, 5, 7, 8, 0] rfl) hf
                refine lv_icmp_ne (tgt := 164) hx hb dX12_part_157 (by decide) (fun c24 => ?_) (fun c24 => hp_n (n := 160) rfl ?_)
                ·
                  replace hf := ms_iF c24 hf
                  refine lv_iconst (v := 0) hx hb dX12_part_164 (by decide) (hp_n (n := 165) rfl ?_)
                  exact J165 αh11 Hh17 Lh17 Bh17 σh11 Mh11 v1_h11 v2_h11 v3_h11 v4_h11 v5_h11 x15 rh14 (0 : Int32) ls (lv_sub hl [2, 3, 4, 5, 6, 7, 0, 1] rfl) hf
                ·
                  replace hf := ms_iT c24 hf
                  refine lv_iconst (v := 1) hx hb dX12_part_160 (by decide) (hp_n (n := 161) rfl ?_)
                  refine lv_goto (tgt := 165) hx hb dX12_part_161 (by decide) ?_
                  exact J165 αh11 Hh17 Lh17 Bh17 σh11 Mh11 v1_h11 v2_h11 v3_h11 v4_h11 v5_h11 x15 rh14 (1 : Int32) ls (lv_sub hl [2, 3, 4, 5, 6, 7, 0, 1] rfl) hf
          refine lv_istore (lv' := [(6, .int (0 : Int32)), (5, .int (0 : Int32)), (4, .int w0_h7), (0, .ref a0), (1, .int v1_h7), (2, .int v2_h7), (3, .int v3_h7)]) hx hb dX12_part_121 hl (by decide) rfl (fun ls hl => hp_n (n := 123) rfl ?_)
          exact J123 n αh7 Hh9 Lh9 Bh9 σh7 Mh7 v1_h7 v2_h7 v3_h7 w0_h7 (0 : Int32) (0 : Int32) ls (lv_sub hl [3, 4, 5, 6, 2, 1, 0] rfl) hf
        ·
          replace hf := ms_iT c10 hf
          refine lv_iload_n hx hb dX12_part_88 rfl (lv_at hl 4 rfl) (hp_n (n := 89) rfl ?_)
          refine lv_iconst (v := 1) hx hb dX12_part_89 (by decide) (hp_n (n := 90) rfl ?_)
          refine lv_icmp_ne (tgt := 97) hx hb dX12_part_90 (by decide) (fun c25 => ?_) (fun c25 => hp_n (n := 93) rfl ?_)
          ·
            replace hf := ms_iF c25 hf
            refine lv_aload_n hx hb dX12_part_97 rfl (lv_at hl 1 rfl) (hp_n (n := 98) rfl ?_)
            refine lv_iload_n hx hb dX12_part_98 rfl (lv_at hl 2 rfl) (hp_n (n := 99) rfl ?_)
            obtain ⟨rh26, qh26, hf⟩ := ms_bE hf
            refine m_cp (pc' := 102) Bh9 (hp_runV (As := [.int v1_h7]) (rest := []) C Bh9 (m_X12_sizeOf n Γ l αh7 a0 ρ σh7 Mh7 v1_h7 rh26 qh26) lb_X12_sizeOf lv_X12_sizeOf lk_X12_209 Mh7.1 rfl (by decide) rfl hl.1 rfl (Nat.le_of_ble_eq_true rfl) dX12_part_99 ⟨Nat.le_refl _, Nat.le_refl _⟩) rfl (fun Hh26 Lh26 Bh26 => ?_)
            refine lv_aload_n hx hb dX12_part_102 rfl (lv_at hl 1 rfl) (hp_n (n := 103) rfl ?_)
            refine lv_iload_n hx hb dX12_part_103 rfl (lv_at hl 3 rfl) (hp_n (n := 104) rfl ?_)
            obtain ⟨rh27, qh27, hf⟩ := ms_bE hf
            refine m_cp (pc' := 107) Bh26 (hp_runV (As := [.int v2_h7]) (rest := [.int rh26]) C Bh26 (m_X12_sizeOf n Γ l αh7 a0 ρ σh7 Mh7 v2_h7 rh27 qh27) lb_X12_sizeOf lv_X12_sizeOf lk_X12_209 Mh7.1 rfl (by decide) rfl hl.1 rfl (Nat.le_of_ble_eq_true rfl) dX12_part_104 ⟨Nat.le_refl _, Nat.le_refl _⟩) rfl (fun Hh27 Lh27 Bh27 => ?_)
            refine lv_icmp_ne (tgt := 114) hx hb dX12_part_107 (by decide) (fun c28 => ?_) (fun c28 => hp_n (n := 110) rfl ?_)
            ·
              replace hf := ms_iF c28 hf
              refine lv_iload hx hb dX12_part_114 (lv_at hl 0 rfl) (hp_n (n := 116) rfl ?_)
              cases hf
              exact q_iret C Bh27 hr hlk ⟨rfl, Bh27.2.2, Mh7⟩ dX12_part_116
            ·
              replace hf := ms_iT c28 hf
              refine lv_iconst (v := (-1)) hx hb dX12_part_110 (by decide) (hp_n (n := 111) rfl ?_)
              refine lv_goto (tgt := 116) hx hb dX12_part_111 (by decide) ?_
              cases hf
              exact q_iret C Bh27 hr hlk ⟨rfl, Bh27.2.2, Mh7⟩ dX12_part_116
          ·
            replace hf := ms_iT c25 hf
            refine lv_iconst (v := 0) hx hb dX12_part_93 (by decide) (hp_n (n := 94) rfl ?_)
            refine lv_goto (tgt := 116) hx hb dX12_part_94 (by decide) ?_
            cases hf
            exact q_iret C Bh9 hr hlk ⟨rfl, Bh9.2.2, Mh7⟩ dX12_part_116
      refine lv_icmp_ge (tgt := 64) hx hb dX12_part_53 (by decide) (fun c29 => ?_) (fun c29 => hp_n (n := 56) rfl ?_)
      ·
        replace hf := ms_iT c29 hf
        refine lv_aload_n hx hb dX12_part_64 rfl (lv_at hl 0 rfl) (hp_n (n := 65) rfl ?_)
        refine lv_iload_n hx hb dX12_part_65 rfl (lv_at hl 2 rfl) (hp_n (n := 66) rfl ?_)
        obtain ⟨rh30, qh30, hf⟩ := ms_bE hf
        refine m_cp (pc' := 69) Bh6 (hp_runV (As := [.int v2_h2]) (rest := []) C Bh6 (m_X12_sizeOf n Γ l αh3 a0 ρ σh3 Mh3 v2_h2 rh30 qh30) lb_X12_sizeOf lv_X12_sizeOf lk_X12_209 Mh3.1 rfl (by decide) rfl hl.1 rfl (Nat.le_of_ble_eq_true rfl) dX12_part_66 ⟨Nat.le_refl _, Nat.le_refl _⟩) rfl (fun Hh30 Lh30 Bh30 => ?_)
        exact J69 αh3 Hh30 Lh30 Bh30 σh3 Mh3 v1_h2 v2_h2 v3_h2 rh30 ls (lv_sub hl [0, 1, 2, 3] rfl) hf
      ·
        replace hf := ms_iF c29 hf
        refine lv_aload_n hx hb dX12_part_56 rfl (lv_at hl 0 rfl) (hp_n (n := 57) rfl ?_)
        refine lv_iload_n hx hb dX12_part_57 rfl (lv_at hl 1 rfl) (hp_n (n := 58) rfl ?_)
        obtain ⟨rh31, qh31, hf⟩ := ms_bE hf
        refine m_cp (pc' := 61) Bh6 (hp_runV (As := [.int v1_h2]) (rest := []) C Bh6 (m_X12_sizeOf n Γ l αh3 a0 ρ σh3 Mh3 v1_h2 rh31 qh31) lb_X12_sizeOf lv_X12_sizeOf lk_X12_209 Mh3.1 rfl (by decide) rfl hl.1 rfl (Nat.le_of_ble_eq_true rfl) dX12_part_58 ⟨Nat.le_refl _, Nat.le_refl _⟩) rfl (fun Hh31 Lh31 Bh31 => ?_)
        refine lv_goto (tgt := 69) hx hb dX12_part_61 (by decide) ?_
        exact J69 αh3 Hh31 Lh31 Bh31 σh3 Mh3 v1_h2 v2_h2 v3_h2 rh31 ls (lv_sub hl [0, 1, 2, 3] rfl) hf
    ·
      replace hf := ms_iT c4 hf
      refine lv_iconst (v := (-1)) hx hb dX12_part_41 (by decide) (hp_n (n := 42) rfl ?_)
      cases hf
      exact q_iret C Bh3 hr hlk ⟨rfl, Bh3.2.2, Mh3⟩ dX12_part_42
  refine lv_if_ne (tgt := 14) hx hb dX12_part_7 (by decide) (fun c32 => ?_) (fun c32 => hp_n (n := 10) rfl ?_)
  ·
    replace hf := ms_iF c32 hf
    refine lv_aload_n hx hb dX12_part_14 rfl (lv_at hl 0 rfl) (hp_n (n := 15) rfl ?_)
    refine lv_iload_n hx hb dX12_part_15 rfl (lv_at hl 1 rfl) (hp_n (n := 16) rfl ?_)
    obtain ⟨rh33, qh33, hf⟩ := ms_bE hf
    refine m_cp (pc' := 19) Bh1 (hp_runV (As := [.int a1]) (rest := [.ref a0]) C Bh1 (m_X12_isRecord n Γ l α a0 ρ σ hM a1 rh33 qh33) lb_X12_isRecord lv_X12_isRecord lk_X12_344 hM.1 rfl (by decide) rfl hl.1 rfl (Nat.le_of_ble_eq_true rfl) dX12_part_16 ⟨Nat.le_refl _, Nat.le_refl _⟩) rfl (fun Hh33 Lh33 Bh33 => ?_)
    have J30 : ∀ (αh34 : hp_T) (Hh34 : Heap) (Lh34 : List Loc) (Bh34 : hp_B Γ mo s α αh34 Hh34 Lh34) (σh34 : ms_T) (Mh34 : hm_M αh34 a0 ρ σh34) (v1_h34 : Int32) (v2_h34 : Int32) (v3_h34 : Int32) (ls : Array Slot) (hl : lv_has ls 9 [(0, .ref a0), (1, .int v1_h34), (2, .int v2_h34), (3, .int v3_h34)]) (hf : f_X12_part_J30 n σh34 v1_h34 v2_h34 v3_h34 = some res), W p l e (hp_rm 43 0 0) s m ([.ref a0, .int a1, .int a2, .int a3] : List Value).toArray below meth c Hh34 Lh34 0 0 (MQ below (hp_Qi Γ (fun r β => r = res.1 ∧ mo α β ∧ hm_M β a0 ρ res.2)) ([.ref a0, .int a1, .int a2, .int a3] : List Value).toArray s 0 0 (hp_A Γ)) (F0 m 30 ls [.ref a0]) := by
      intro αh34 Hh34 Lh34 Bh34 σh34 Mh34 v1_h34 v2_h34 v3_h34 ls hl hf
      unfold f_X12_part_J30 at hf
      refine lv_iconst (v := 2) hx hb dX12_part_30 (by decide) (hp_n (n := 31) rfl ?_)
      refine lv_goto (tgt := 35) hx hb dX12_part_31 (by decide) ?_
      exact J35 αh34 Hh34 Lh34 Bh34 σh34 Mh34 v1_h34 v2_h34 v3_h34 (2 : Int32) ls (lv_sub hl [0, 1, 2, 3] rfl) hf
    refine lv_if_eq (tgt := 30) hx hb dX12_part_19 (by decide) (fun c35 => ?_) (fun c35 => hp_n (n := 22) rfl ?_)
    ·
      replace hf := ms_iT c35 hf
      exact J30 α Hh33 Lh33 Bh33 σ hM a1 a2 a3 ls (lv_sub hl [0, 1, 2, 3] rfl) hf
    ·
      replace hf := ms_iF c35 hf
      refine lv_aload_n hx hb dX12_part_22 rfl (lv_at hl 0 rfl) (hp_n (n := 23) rfl ?_)
      refine lv_iload_n hx hb dX12_part_23 rfl (lv_at hl 2 rfl) (hp_n (n := 24) rfl ?_)
      obtain ⟨rh36, qh36, hf⟩ := ms_bE hf
      refine m_cp (pc' := 27) Bh33 (hp_runV (As := [.int a2]) (rest := [.ref a0]) C Bh33 (m_X12_isRecord n Γ l α a0 ρ σ hM a2 rh36 qh36) lb_X12_isRecord lv_X12_isRecord lk_X12_344 hM.1 rfl (by decide) rfl hl.1 rfl (Nat.le_of_ble_eq_true rfl) dX12_part_24 ⟨Nat.le_refl _, Nat.le_refl _⟩) rfl (fun Hh36 Lh36 Bh36 => ?_)
      refine lv_if_ne (tgt := 34) hx hb dX12_part_27 (by decide) (fun c37 => ?_) (fun c37 => hp_n (n := 30) rfl ?_)
      ·
        replace hf := ms_iF c37 hf
        refine lv_iconst (v := 0) hx hb dX12_part_34 (by decide) (hp_n (n := 35) rfl ?_)
        exact J35 α Hh36 Lh36 Bh36 σ hM a1 a2 a3 (0 : Int32) ls (lv_sub hl [0, 1, 2, 3] rfl) hf
      ·
        replace hf := ms_iT c37 hf
        exact J30 α Hh36 Lh36 Bh36 σ hM a1 a2 a3 ls (lv_sub hl [0, 1, 2, 3] rfl) hf
  ·
    replace hf := ms_iT c32 hf
    refine lv_iconst (v := 1) hx hb dX12_part_10 (by decide) (hp_n (n := 11) rfl ?_)
    refine lv_goto (tgt := 35) hx hb dX12_part_11 (by decide) ?_
    exact J35 α Hh1 Lh1 Bh1 σ hM a1 a2 a3 (1 : Int32) ls (lv_sub hl [0, 1, 2, 3] rfl) hf
def f_X12_blame_J190 (n : Nat) (rec127 : ms_T → Int32 → Int32 → Int32 → Int32 → Int32 → Int32 → Option (Int32 × ms_T)) (σh15 : ms_T) (v1_h15 : Int32) (v2_h15 : Int32) (v3_h15 : Int32) (v4_h15 : Int32) (v5_h15 : Int32) (v6_h15 : Int32) : Option (Int32 × ms_T) :=
  ms_l (v6_h15 + 1) fun x16 =>
  rec127 σh15 v1_h15 v2_h15 v3_h15 v4_h15 v5_h15 x16
def f_X12_blame_L127 (n : Nat) : Nat → ms_T → Int32 → Int32 → Int32 → Int32 → Int32 → Int32 → Option (Int32 × ms_T)
  | 0, _, _, _, _, _, _, _ => none
  | k127 + 1, σh9, v1_h9, v2_h9, v3_h9, v4_h9, v5_h9, v6_h9 =>
    ms_g (3 : Int32) 1980 <|
    if (ms_E σh9 40 ((3 : Int32)).toNatClampNeg) ≤ v6_h9 then
      if v2_h9 = 0 then
        some (v3_h9, σh9)
      else
        if v2_h9 = (1 : Int32) then
          some (v5_h9, σh9)
        else
          some (v4_h9, σh9)
    else
      ms_b (f_X12_froze n σh9 v6_h9 (0 : Int32)) fun rh14 =>
      if rh14 = v1_h9 then
        ms_b (f_X12_isSound n σh9 v6_h9) fun rh18 =>
        if rh18 = 0 then
          f_X12_blame_J190 n (f_X12_blame_L127 n k127) σh9 v1_h9 v2_h9 v3_h9 v4_h9 v5_h9 v6_h9
        else
          ms_b (f_X12_froze n σh9 v6_h9 (1 : Int32)) fun rh20 =>
          if v3_h9 ≤ rh20 then
            f_X12_blame_J190 n (f_X12_blame_L127 n k127) σh9 v1_h9 v2_h9 v3_h9 v4_h9 v5_h9 v6_h9
          else
            ms_b (f_X12_froze n σh9 v6_h9 (1 : Int32)) fun rh22 =>
            if rh22 ≤ v5_h9 then
              f_X12_blame_J190 n (f_X12_blame_L127 n k127) σh9 v1_h9 v2_h9 v3_h9 v4_h9 v5_h9 v6_h9
            else
              ms_b (f_X12_froze n σh9 v6_h9 (1 : Int32)) fun rh24 =>
              f_X12_blame_J190 n (f_X12_blame_L127 n k127) σh9 v1_h9 v2_h9 v3_h9 v4_h9 rh24 v6_h9
      else
        f_X12_blame_J190 n (f_X12_blame_L127 n k127) σh9 v1_h9 v2_h9 v3_h9 v4_h9 v5_h9 v6_h9
def f_X12_blame_J122 (n : Nat) (σh8 : ms_T) (v1_h8 : Int32) (v2_h8 : Int32) (v3_h8 : Int32) (v4_h8 : Int32) (w0_h8 : Int32) : Option (Int32 × ms_T) :=
  f_X12_blame_L127 n n σh8 v1_h8 v2_h8 v3_h8 v4_h8 w0_h8 (0 : Int32)
def f_X12_blame_J107 (n : Nat) (rec43 : ms_T → Int32 → Int32 → Int32 → Int32 → Int32 → Option (Int32 × ms_T)) (σh27 : ms_T) (v1_h27 : Int32) (v2_h27 : Int32) (v3_h27 : Int32) (v4_h27 : Int32) (v5_h27 : Int32) : Option (Int32 × ms_T) :=
  ms_l (v5_h27 + 1) fun x28 =>
  rec43 σh27 v1_h27 v2_h27 v3_h27 v4_h27 x28
def f_X12_blame_J106 (n : Nat) (rec43 : ms_T → Int32 → Int32 → Int32 → Int32 → Int32 → Option (Int32 × ms_T)) (σh33 : ms_T) (v1_h33 : Int32) (v2_h33 : Int32) (v4_h33 : Int32) (v5_h33 : Int32) (w0_h33 : Int32) : Option (Int32 × ms_T) :=
  f_X12_blame_J107 n rec43 σh33 v1_h33 v2_h33 w0_h33 v4_h33 v5_h33
def f_X12_blame_J95 (n : Nat) (rec43 : ms_T → Int32 → Int32 → Int32 → Int32 → Int32 → Option (Int32 × ms_T)) (σh34 : ms_T) (v1_h34 : Int32) (v2_h34 : Int32) (v4_h34 : Int32) (v5_h34 : Int32) : Option (Int32 × ms_T) :=
  ms_b (f_X12_froze n σh34 v5_h34 (1 : Int32)) fun rh35 =>
  f_X12_blame_J106 n rec43 σh34 v1_h34 v2_h34 v4_h34 v5_h34 rh35
def f_X12_blame_L43 (n : Nat) : Nat → ms_T → Int32 → Int32 → Int32 → Int32 → Int32 → Option (Int32 × ms_T)
  | 0, _, _, _, _, _, _ => none
  | k43 + 1, σh5, v1_h5, v2_h5, v3_h5, v4_h5, v5_h5 =>
    ms_g (3 : Int32) 1980 <|
    if (ms_E σh5 40 ((3 : Int32)).toNatClampNeg) ≤ v5_h5 then
      if 0 ≤ v3_h5 then
        f_X12_blame_J122 n σh5 v1_h5 v2_h5 v3_h5 v4_h5 (0 : Int32)
      else
        f_X12_blame_J122 n σh5 v1_h5 v2_h5 v3_h5 v4_h5 (-1 : Int32)
    else
      ms_b (f_X12_froze n σh5 v5_h5 (0 : Int32)) fun rh26 =>
      if rh26 = v1_h5 then
        ms_b (f_X12_isSound n σh5 v5_h5) fun rh30 =>
        if rh30 = 0 then
          ms_l (v4_h5 + 1) fun x32 =>
          if v3_h5 < 0 then
            f_X12_blame_J95 n (f_X12_blame_L43 n k43) σh5 v1_h5 v2_h5 x32 v5_h5
          else
            ms_b (f_X12_froze n σh5 v5_h5 (1 : Int32)) fun rh37 =>
            if v3_h5 ≤ rh37 then
              f_X12_blame_J106 n (f_X12_blame_L43 n k43) σh5 v1_h5 v2_h5 x32 v5_h5 v3_h5
            else
              f_X12_blame_J95 n (f_X12_blame_L43 n k43) σh5 v1_h5 v2_h5 x32 v5_h5
        else
          f_X12_blame_J107 n (f_X12_blame_L43 n k43) σh5 v1_h5 v2_h5 v3_h5 v4_h5 v5_h5
      else
        f_X12_blame_J107 n (f_X12_blame_L43 n k43) σh5 v1_h5 v2_h5 v3_h5 v4_h5 v5_h5
def f_X12_blame_J27 (n : Nat) (σh2 : ms_T) (v1_h2 : Int32) (v2_h2 : Int32) (w0_h2 : Int32) : Option (Int32 × ms_T) :=
  ms_c (f_X12_is n σh2 w0_h2) fun rh3 σh3 =>
  if rh3 = 0 then
    some ((-1 : Int32), σh3)
  else
    f_X12_blame_L43 n n σh3 v1_h2 v2_h2 (-1 : Int32) (0 : Int32) (0 : Int32)
def f_X12_blame (n : Nat) (σ : ms_T) (a1 : Int32) (a2 : Int32) : Option (Int32 × ms_T) :=
  ms_b (f_X12_isIn n a2 (0 : Int32) (2 : Int32)) fun rh1 =>
  if rh1 = 0 then
    f_X12_blame_J27 n σ a1 a2 (1 : Int32)
  else
    ms_b (f_X12_isRecord n σ a1) fun rh40 =>
    if rh40 = 0 then
      f_X12_blame_J27 n σ a1 a2 (2 : Int32)
    else
      f_X12_blame_J27 n σ a1 a2 (0 : Int32)
set_option maxRecDepth 100000 in
set_option maxHeartbeats 4000000 in
theorem m_X12_blame (n : Nat) (Γ : hp_G) (l : Launch) (α : hp_T) (a0 : Nat) (ρ : Nat → Nat) (σ : ms_T) (hM : hm_M α a0 ρ σ) (a1 : Int32) (a2 : Int32) (res : (Int32 × ms_T)) (hf : f_X12_blame n σ a1 a2 = some res) : Met l yX12_blame (hp_ws yX12_blame cX12_blame 7 (some .int)) (hp_rm 44 0 0) (hp_Pc Γ α [.ref a0, .int a1, .int a2]) (hp_Qi Γ (fun r β => r = res.1 ∧ mo α β ∧ hm_M β a0 ρ res.2)) 0 0 (hp_A Γ) := by
  unfold f_X12_blame at hf
  refine hp_start (by decide) ?_
  intro p e s m below meth c C hr hlk B0 hnm
  have C : hp_C Γ p m c cX12_blame 7 s ([.ref a0, .int a1, .int a2] : List Value).toArray RX12 := C
  have hx := C.1.1
  have hb := C.1.2.1
  have hown := C.1.2.2.2.1
  have hts := C.1.2.2.2.2
  have B : hp_B Γ mo s α α s.heap [] := ⟨B0.1, B0.2.1, mo_rf⟩
  have hl := lv_entry ([.ref a0, .int a1, .int a2]) (n := 7) (Nat.le_of_ble_eq_true rfl)
  show W p l e (hp_rm 44 0 0) s m ([.ref a0, .int a1, .int a2] : List Value).toArray below meth c s.heap [] 0 0 (MQ below (hp_Qi Γ (fun r β => r = res.1 ∧ mo α β ∧ hm_M β a0 ρ res.2)) ([.ref a0, .int a1, .int a2] : List Value).toArray s 0 0 (hp_A Γ)) (entryFrame m ([.ref a0, .int a1, .int a2] : List Value).toArray 7)
  rw [lg_entry_eq]
  generalize (lg_sl ([.ref a0, .int a1, .int a2]) ++ List.replicate (7 - (lg_sl ([.ref a0, .int a1, .int a2])).length) Slot.unset).toArray = ls at hl ⊢
  have hl : lv_has ls 7 [(0, .ref a0), (1, .int a1), (2, .int a2)] := hl
  refine lv_aload_n hx hb dX12_blame_0 rfl (lv_at hl 0 rfl) (hp_n (n := 1) rfl ?_)
  refine lv_iload_n hx hb dX12_blame_1 rfl (lv_at hl 2 rfl) (hp_n (n := 2) rfl ?_)
  refine lv_iconst (v := 0) hx hb dX12_blame_2 (by decide) (hp_n (n := 3) rfl ?_)
  refine lv_iconst (v := 2) hx hb dX12_blame_3 (by decide) (hp_n (n := 4) rfl ?_)
  obtain ⟨rh1, qh1, hf⟩ := ms_bE hf
  refine m_cp (pc' := 7) B (hp_runS (As := [.int a2, .int (0 : Int32), .int (2 : Int32)]) (rest := [.ref a0]) C B (m_X12_isIn n Γ l α a2 (0 : Int32) (2 : Int32) rh1 qh1) lb_X12_isIn ls_X12_isIn lk_X12_113 rfl (by decide) rfl hl.1 rfl (Nat.le_of_ble_eq_true rfl) dX12_blame_4 ⟨Nat.le_refl _, Nat.le_refl _⟩) rfl (fun Hh1 Lh1 Bh1 => ?_)
  have J27 : ∀ (αh2 : hp_T) (Hh2 : Heap) (Lh2 : List Loc) (Bh2 : hp_B Γ mo s α αh2 Hh2 Lh2) (σh2 : ms_T) (Mh2 : hm_M αh2 a0 ρ σh2) (v1_h2 : Int32) (v2_h2 : Int32) (w0_h2 : Int32) (ls : Array Slot) (hl : lv_has ls 7 [(0, .ref a0), (1, .int v1_h2), (2, .int v2_h2)]) (hf : f_X12_blame_J27 n σh2 v1_h2 v2_h2 w0_h2 = some res), W p l e (hp_rm 44 0 0) s m ([.ref a0, .int a1, .int a2] : List Value).toArray below meth c Hh2 Lh2 0 0 (MQ below (hp_Qi Γ (fun r β => r = res.1 ∧ mo α β ∧ hm_M β a0 ρ res.2)) ([.ref a0, .int a1, .int a2] : List Value).toArray s 0 0 (hp_A Γ)) (F0 m 27 ls [.int w0_h2, .ref a0]) := by
    intro αh2 Hh2 Lh2 Bh2 σh2 Mh2 v1_h2 v2_h2 w0_h2 ls hl hf
    unfold f_X12_blame_J27 at hf
    obtain ⟨rh3, σh3, qh3, hf⟩ := ms_cE hf
    refine m_ci (pc' := 30) (a := a0) (ρ := ρ) Bh2 (hp_runV (As := [.int w0_h2]) (rest := []) C Bh2 (m_X12_is n Γ l αh2 a0 ρ σh2 Mh2 w0_h2 (rh3, σh3) qh3) lb_X12_is lv_X12_is lk_X12_309 Mh2.1 rfl (by decide) rfl hl.1 rfl (Nat.le_of_ble_eq_true rfl) dX12_blame_27 ⟨Nat.le_refl _, Nat.le_refl _⟩) rfl (fun αh3 Hh3 Lh3 Bh3 Mh3 => ?_)
    refine lv_if_ne (tgt := 35) hx hb dX12_blame_30 (by decide) (fun c4 => ?_) (fun c4 => hp_n (n := 33) rfl ?_)
    ·
      replace hf := ms_iF c4 hf
      refine lv_iconst (v := (-1)) hx hb dX12_blame_35 (by decide) (hp_n (n := 36) rfl ?_)
      refine lv_istore_n (lv' := [(3, .int (-1 : Int32)), (0, .ref a0), (1, .int v1_h2), (2, .int v2_h2)]) hx hb dX12_blame_36 rfl hl (by decide) rfl (fun ls hl => hp_n (n := 37) rfl ?_)
      refine lv_iconst (v := 0) hx hb dX12_blame_37 (by decide) (hp_n (n := 38) rfl ?_)
      refine lv_istore (lv' := [(4, .int (0 : Int32)), (3, .int (-1 : Int32)), (0, .ref a0), (1, .int v1_h2), (2, .int v2_h2)]) hx hb dX12_blame_38 hl (by decide) rfl (fun ls hl => hp_n (n := 40) rfl ?_)
      refine lv_iconst (v := 0) hx hb dX12_blame_40 (by decide) (hp_n (n := 41) rfl ?_)
      have J43 : ∀ (k43 : Nat) (αh5 : hp_T) (Hh5 : Heap) (Lh5 : List Loc) (Bh5 : hp_B Γ mo s α αh5 Hh5 Lh5) (σh5 : ms_T) (Mh5 : hm_M αh5 a0 ρ σh5) (v1_h5 : Int32) (v2_h5 : Int32) (v3_h5 : Int32) (v4_h5 : Int32) (v5_h5 : Int32) (ls : Array Slot) (hl : lv_has ls 7 [(0, .ref a0), (1, .int v1_h5), (2, .int v2_h5), (3, .int v3_h5), (4, .int v4_h5), (5, .int v5_h5)]) (hf : f_X12_blame_L43 n k43 σh5 v1_h5 v2_h5 v3_h5 v4_h5 v5_h5 = some res), W p l e (hp_rm 44 0 0) s m ([.ref a0, .int a1, .int a2] : List Value).toArray below meth c Hh5 Lh5 0 0 (MQ below (hp_Qi Γ (fun r β => r = res.1 ∧ mo α β ∧ hm_M β a0 ρ res.2)) ([.ref a0, .int a1, .int a2] : List Value).toArray s 0 0 (hp_A Γ)) (F0 m 43 ls []) := by
        intro k43
        induction k43 with
        | zero => intro αh5 Hh5 Lh5 Bh5 σh5 Mh5 v1_h5 v2_h5 v3_h5 v4_h5 v5_h5 ls hl hf; rw [f_X12_blame_L43.eq_1] at hf; cases hf
        | succ k43 ih43 =>
          intro αh5 Hh5 Lh5 Bh5 σh5 Mh5 v1_h5 v2_h5 v3_h5 v4_h5 v5_h5 ls hl hf
          rw [f_X12_blame_L43.eq_2] at hf
          refine lv_iload hx hb dX12_blame_43 (lv_at hl 5 rfl) (hp_n (n := 45) rfl ?_)
          refine lv_aload_n hx hb dX12_blame_45 rfl (lv_at hl 0 rfl) (hp_n (n := 46) rfl ?_)
          refine m_getr (κ := 40) (k := 0) (pc' := 49) C Bh5 Mh5 fl_X12_7 rfl (by decide) dX12_blame_46 rfl ?_
          refine lv_iconst (v := 3) hx hb dX12_blame_49 (by decide) (hp_n (n := 50) rfl ?_)
          obtain ⟨g6, hf⟩ := ms_gE hf
          refine m_ial (κ := 40) (φ := 650) (n := 1980) (pc' := 51) C Bh5 Mh5 (by decide) (by decide) rfl g6 dX12_blame_50 rfl ?_
          refine lv_icmp_ge (tgt := 113) hx hb dX12_blame_51 (by decide) (fun c7 => ?_) (fun c7 => hp_n (n := 54) rfl ?_)
          ·
            replace hf := ms_iT c7 hf
            refine lv_iload_n hx hb dX12_blame_113 rfl (lv_at hl 3 rfl) (hp_n (n := 114) rfl ?_)
            have J122 : ∀ (αh8 : hp_T) (Hh8 : Heap) (Lh8 : List Loc) (Bh8 : hp_B Γ mo s α αh8 Hh8 Lh8) (σh8 : ms_T) (Mh8 : hm_M αh8 a0 ρ σh8) (v1_h8 : Int32) (v2_h8 : Int32) (v3_h8 : Int32) (v4_h8 : Int32) (w0_h8 : Int32) (ls : Array Slot) (hl : lv_has ls 7 [(0, .ref a0), (1, .int v1_h8), (2, .int v2_h8), (3, .int v3_h8), (4, .int v4_h8)]) (hf : f_X12_blame_J122 n σh8 v1_h8 v2_h8 v3_h8 v4_h8 w0_h8 = some res), W p l e (hp_rm 44 0 0) s m ([.ref a0, .int a1, .int a2] : List Value).toArray below meth c Hh8 Lh8 0 0 (MQ below (hp_Qi Γ (fun r β => r = res.1 ∧ mo α β ∧ hm_M β a0 ρ res.2)) ([.ref a0, .int a1, .int a2] : List Value).toArray s 0 0 (hp_A Γ)) (F0 m 122 ls [.int w0_h8]) := by
              intro αh8 Hh8 Lh8 Bh8 σh8 Mh8 v1_h8 v2_h8 v3_h8 v4_h8 w0_h8 ls hl hf
              unfold f_X12_blame_J122 at hf
              refine lv_istore (lv' := [(5, .int w0_h8), (0, .ref a0), (1, .int v1_h8), (2, .int v2_h8), (3, .int v3_h8), (4, .int v4_h8)]) hx hb dX12_blame_122 hl (by decide) rfl (fun ls hl => hp_n (n := 124) rfl ?_)
              refine lv_iconst (v := 0) hx hb dX12_blame_124 (by decide) (hp_n (n := 125) rfl ?_)
              have J127 : ∀ (k127 : Nat) (αh9 : hp_T) (Hh9 : Heap) (Lh9 : List Loc) (Bh9 : hp_B Γ mo s α αh9 Hh9 Lh9) (σh9 : ms_T) (Mh9 : hm_M αh9 a0 ρ σh9) (v1_h9 : Int32) (v2_h9 : Int32) (v3_h9 : Int32) (v4_h9 : Int32) (v5_h9 : Int32) (v6_h9 : Int32) (ls : Array Slot) (hl : lv_has ls 7 [(0, .ref a0), (1, .int v1_h9), (2, .int v2_h9), (3, .int v3_h9), (4, .int v4_h9), (5, .int v5_h9), (6, .int v6_h9)]) (hf : f_X12_blame_L127 n k127 σh9 v1_h9 v2_h9 v3_h9 v4_h9 v5_h9 v6_h9 = some res), W p l e (hp_rm 44 0 0) s m ([.ref a0, .int a1, .int a2] : List Value).toArray below meth c Hh9 Lh9 0 0 (MQ below (hp_Qi Γ (fun r β => r = res.1 ∧ mo α β ∧ hm_M β a0 ρ res.2)) ([.ref a0, .int a1, .int a2] : List Value).toArray s 0 0 (hp_A Γ)) (F0 m 127 ls []) := by
                intro k127
                induction k127 with
                | zero => intro αh9 Hh9 Lh9 Bh9 σh9 Mh9 v1_h9 v2_h9 v3_h9 v4_h9 v5_h9 v6_h9 ls hl hf; rw [f_X12_blame_L127.eq_1] at hf; cases hf
                | succ k127 ih127 =>
                  intro αh9 Hh9 Lh9 Bh9 σh9 Mh9 v1_h9 v2_h9 v3_h9 v4_h9 v5_h9 v6_h9 ls hl hf
                  rw [f_X12_blame_L127.eq_2] at hf
                  refine lv_iload hx hb dX12_blame_127 (lv_at hl 6 rfl) (hp_n (n := 129) rfl ?_)
                  refine lv_aload_n hx hb dX12_blame_129 rfl (lv_at hl 0 rfl) (hp_n (n := 130) rfl ?_)
                  refine m_getr (κ := 40) (k := 0) (pc' := 133) C Bh9 Mh9 fl_X12_7 rfl (by decide) dX12_blame_130 rfl ?_
                  refine lv_iconst (v := 3) hx hb dX12_blame_133 (by decide) (hp_n (n := 134) rfl ?_)
                  obtain ⟨g10, hf⟩ := ms_gE hf
                  refine m_ial (κ := 40) (φ := 650) (n := 1980) (pc' := 135) C Bh9 Mh9 (by decide) (by decide) rfl g10 dX12_blame_134 rfl ?_
                  refine lv_icmp_ge (tgt := 196) hx hb dX12_blame_135 (by decide) (fun c11 => ?_) (fun c11 => hp_n (n := 138) rfl ?_)
                  ·
                    replace hf := ms_iT c11 hf
                    refine lv_iload_n hx hb dX12_blame_196 rfl (lv_at hl 2 rfl) (hp_n (n := 197) rfl ?_)
                    refine lv_if_ne (tgt := 204) hx hb dX12_blame_197 (by decide) (fun c12 => ?_) (fun c12 => hp_n (n := 200) rfl ?_)
                    ·
                      replace hf := ms_iF c12 hf
                      refine lv_iload_n hx hb dX12_blame_204 rfl (lv_at hl 2 rfl) (hp_n (n := 205) rfl ?_)
                      refine lv_iconst (v := 1) hx hb dX12_blame_205 (by decide) (hp_n (n := 206) rfl ?_)
                      refine lv_icmp_ne (tgt := 214) hx hb dX12_blame_206 (by decide) (fun c13 => ?_) (fun c13 => hp_n (n := 209) rfl ?_)
                      ·
                        replace hf := ms_iF c13 hf
                        refine lv_iload hx hb dX12_blame_214 (lv_at hl 4 rfl) (hp_n (n := 216) rfl ?_)
                        cases hf
                        exact q_iret C Bh9 hr hlk ⟨rfl, Bh9.2.2, Mh9⟩ dX12_blame_216
                      ·
                        replace hf := ms_iT c13 hf
                        refine lv_iload hx hb dX12_blame_209 (lv_at hl 5 rfl) (hp_n (n := 211) rfl ?_)
                        refine lv_goto (tgt := 216) hx hb dX12_blame_211 (by decide) ?_
                        cases hf
                        exact q_iret C Bh9 hr hlk ⟨rfl, Bh9.2.2, Mh9⟩ dX12_blame_216
                    ·
                      replace hf := ms_iT c12 hf
                      refine lv_iload_n hx hb dX12_blame_200 rfl (lv_at hl 3 rfl) (hp_n (n := 201) rfl ?_)
                      refine lv_goto (tgt := 216) hx hb dX12_blame_201 (by decide) ?_
                      cases hf
                      exact q_iret C Bh9 hr hlk ⟨rfl, Bh9.2.2, Mh9⟩ dX12_blame_216
                  ·
                    replace hf := ms_iF c11 hf
                    refine lv_aload_n hx hb dX12_blame_138 rfl (lv_at hl 0 rfl) (hp_n (n := 139) rfl ?_)
                    refine lv_iload hx hb dX12_blame_139 (lv_at hl 6 rfl) (hp_n (n := 141) rfl ?_)
                    refine lv_iconst (v := 0) hx hb dX12_blame_141 (by decide) (hp_n (n := 142) rfl ?_)
                    obtain ⟨rh14, qh14, hf⟩ := ms_bE hf
                    refine m_cp (pc' := 145) Bh9 (hp_runV (As := [.int v6_h9, .int (0 : Int32)]) (rest := []) C Bh9 (m_X12_froze n Γ l αh9 a0 ρ σh9 Mh9 v6_h9 (0 : Int32) rh14 qh14) lb_X12_froze lv_X12_froze lk_X12_350 Mh9.1 rfl (by decide) rfl hl.1 rfl (Nat.le_of_ble_eq_true rfl) dX12_blame_142 ⟨Nat.le_refl _, Nat.le_refl _⟩) rfl (fun Hh14 Lh14 Bh14 => ?_)
                    refine lv_iload_n hx hb dX12_blame_145 rfl (lv_at hl 1 rfl) (hp_n (n := 146) rfl ?_)
                    have J190 : ∀ (αh15 : hp_T) (Hh15 : Heap) (Lh15 : List Loc) (Bh15 : hp_B Γ mo s α αh15 Hh15 Lh15) (σh15 : ms_T) (Mh15 : hm_M αh15 a0 ρ σh15) (v1_h15 : Int32) (v2_h15 : Int32) (v3_h15 : Int32) (v4_h15 : Int32) (v5_h15 : Int32) (v6_h15 : Int32) (ls : Array Slot) (hl : lv_has ls 7 [(0, .ref a0), (1, .int v1_h15), (2, .int v2_h15), (3, .int v3_h15), (4, .int v4_h15), (5, .int v5_h15), (6, .int v6_h15)]) (hf : f_X12_blame_J190 n (f_X12_blame_L127 n k127) σh15 v1_h15 v2_h15 v3_h15 v4_h15 v5_h15 v6_h15 = some res), W p l e (hp_rm 44 0 0) s m ([.ref a0, .int a1, .int a2] : List Value).toArray below meth c Hh15 Lh15 0 0 (MQ below (hp_Qi Γ (fun r β => r = res.1 ∧ mo α β ∧ hm_M β a0 ρ res.2)) ([.ref a0, .int a1, .int a2] : List Value).toArray s 0 0 (hp_A Γ)) (F0 m 190 ls []) := by
                      intro αh15 Hh15 Lh15 Bh15 σh15 Mh15 v1_h15 v2_h15 v3_h15 v4_h15 v5_h15 v6_h15 ls hl hf
                      unfold f_X12_blame_J190 at hf
                      obtain ⟨x16, ex16⟩ : ∃ y : Int32, y = v6_h15 + 1 := ⟨_, rfl⟩
                      replace hf := ms_lE ex16 hf
                      refine lv_iinc (v := x16) (lv' := [(6, .int x16), (0, .ref a0), (1, .int v1_h15), (2, .int v2_h15), (3, .int v3_h15), (4, .int v4_h15), (5, .int v5_h15)]) hx hb dX12_blame_190 hl (k := 6) rfl (by rw [ex16]; rfl) (by decide) rfl (fun ls hl => hp_n (n := 193) rfl ?_)
                      refine lv_goto (tgt := 127) hx hb dX12_blame_193 (by decide) ?_
                      exact ih127 αh15 Hh15 Lh15 Bh15 σh15 Mh15 v1_h15 v2_h15 v3_h15 v4_h15 v5_h15 x16 ls (lv_sub hl [1, 2, 3, 4, 5, 6, 0] rfl) hf
                    refine lv_icmp_ne (tgt := 190) hx hb dX12_blame_146 (by decide) (fun c17 => ?_) (fun c17 => hp_n (n := 149) rfl ?_)
                    ·
                      replace hf := ms_iF c17 hf
                      exact J190 αh9 Hh14 Lh14 Bh14 σh9 Mh9 v1_h9 v2_h9 v3_h9 v4_h9 v5_h9 v6_h9 ls (lv_sub hl [0, 1, 2, 3, 4, 5, 6] rfl) hf
                    ·
                      replace hf := ms_iT c17 hf
                      refine lv_aload_n hx hb dX12_blame_149 rfl (lv_at hl 0 rfl) (hp_n (n := 150) rfl ?_)
                      refine lv_iload hx hb dX12_blame_150 (lv_at hl 6 rfl) (hp_n (n := 152) rfl ?_)
                      obtain ⟨rh18, qh18, hf⟩ := ms_bE hf
                      refine m_cp (pc' := 155) Bh14 (hp_runV (As := [.int v6_h9]) (rest := []) C Bh14 (m_X12_isSound n Γ l αh9 a0 ρ σh9 Mh9 v6_h9 rh18 qh18) lb_X12_isSound lv_X12_isSound lk_X12_353 Mh9.1 rfl (by decide) rfl hl.1 rfl (Nat.le_of_ble_eq_true rfl) dX12_blame_152 ⟨Nat.le_refl _, Nat.le_refl _⟩) rfl (fun Hh18 Lh18 Bh18 => ?_)
                      refine lv_if_eq (tgt := 190) hx hb dX12_blame_155 (by decide) (fun c19 => ?_) (fun c19 => hp_n (n := 158) rfl ?_)
                      ·
                        replace hf := ms_iT c19 hf
                        exact J190 αh9 Hh18 Lh18 Bh18 σh9 Mh9 v1_h9 v2_h9 v3_h9 v4_h9 v5_h9 v6_h9 ls (lv_sub hl [0, 1, 2, 3, 4, 5, 6] rfl) hf
                      ·
                        replace hf := ms_iF c19 hf
                        refine lv_aload_n hx hb dX12_blame_158 rfl (lv_at hl 0 rfl) (hp_n (n := 159) rfl ?_)
                        refine lv_iload hx hb dX12_blame_159 (lv_at hl 6 rfl) (hp_n (n := 161) rfl ?_)
                        refine lv_iconst (v := 1) hx hb dX12_blame_161 (by decide) (hp_n (n := 162) rfl ?_)
                        obtain ⟨rh20, qh20, hf⟩ := ms_bE hf
                        refine m_cp (pc' := 165) Bh18 (hp_runV (As := [.int v6_h9, .int (1 : Int32)]) (rest := []) C Bh18 (m_X12_froze n Γ l αh9 a0 ρ σh9 Mh9 v6_h9 (1 : Int32) rh20 qh20) lb_X12_froze lv_X12_froze lk_X12_350 Mh9.1 rfl (by decide) rfl hl.1 rfl (Nat.le_of_ble_eq_true rfl) dX12_blame_162 ⟨Nat.le_refl _, Nat.le_refl _⟩) rfl (fun Hh20 Lh20 Bh20 => ?_)
                        refine lv_iload_n hx hb dX12_blame_165 rfl (lv_at hl 3 rfl) (hp_n (n := 166) rfl ?_)
                        refine lv_icmp_ge (tgt := 190) hx hb dX12_blame_166 (by decide) (fun c21 => ?_) (fun c21 => hp_n (n := 169) rfl ?_)
                        ·
                          replace hf := ms_iT c21 hf
                          exact J190 αh9 Hh20 Lh20 Bh20 σh9 Mh9 v1_h9 v2_h9 v3_h9 v4_h9 v5_h9 v6_h9 ls (lv_sub hl [0, 1, 2, 3, 4, 5, 6] rfl) hf
                        ·
                          replace hf := ms_iF c21 hf
                          refine lv_aload_n hx hb dX12_blame_169 rfl (lv_at hl 0 rfl) (hp_n (n := 170) rfl ?_)
                          refine lv_iload hx hb dX12_blame_170 (lv_at hl 6 rfl) (hp_n (n := 172) rfl ?_)
                          refine lv_iconst (v := 1) hx hb dX12_blame_172 (by decide) (hp_n (n := 173) rfl ?_)
                          obtain ⟨rh22, qh22, hf⟩ := ms_bE hf
                          refine m_cp (pc' := 176) Bh20 (hp_runV (As := [.int v6_h9, .int (1 : Int32)]) (rest := []) C Bh20 (m_X12_froze n Γ l αh9 a0 ρ σh9 Mh9 v6_h9 (1 : Int32) rh22 qh22) lb_X12_froze lv_X12_froze lk_X12_350 Mh9.1 rfl (by decide) rfl hl.1 rfl (Nat.le_of_ble_eq_true rfl) dX12_blame_173 ⟨Nat.le_refl _, Nat.le_refl _⟩) rfl (fun Hh22 Lh22 Bh22 => ?_)
                          refine lv_iload hx hb dX12_blame_176 (lv_at hl 5 rfl) (hp_n (n := 178) rfl ?_)
                          refine lv_icmp_le (tgt := 190) hx hb dX12_blame_178 (by decide) (fun c23 => ?_) (fun c23 => hp_n (n := 181) rfl ?_)
                          ·
                            replace hf := ms_iT c23 hf
                            exact J190 αh9 Hh22 Lh22 Bh22 σh9 Mh9 v1_h9 v2_h9 v3_h9 v4_h9 v5_h9 v6_h9 ls (lv_sub hl [0, 1, 2, 3, 4, 5, 6] rfl) hf
                          ·
                            replace hf := ms_iF c23 hf
                            refine lv_aload_n hx hb dX12_blame_181 rfl (lv_at hl 0 rfl) (hp_n (n := 182) rfl ?_)
                            refine lv_iload hx hb dX12_blame_182 (lv_at hl 6 rfl) (hp_n (n := 184) rfl ?_)
                            refine lv_iconst (v := 1) hx hb dX12_blame_184 (by decide) (hp_n (n := 185) rfl ?_)
                            obtain ⟨rh24, qh24, hf⟩ := ms_bE hf
                            refine m_cp (pc' := 188) Bh22 (hp_runV (As := [.int v6_h9, .int (1 : Int32)]) (rest := []) C Bh22 (m_X12_froze n Γ l αh9 a0 ρ σh9 Mh9 v6_h9 (1 : Int32) rh24 qh24) lb_X12_froze lv_X12_froze lk_X12_350 Mh9.1 rfl (by decide) rfl hl.1 rfl (Nat.le_of_ble_eq_true rfl) dX12_blame_185 ⟨Nat.le_refl _, Nat.le_refl _⟩) rfl (fun Hh24 Lh24 Bh24 => ?_)
                            refine lv_istore (lv' := [(5, .int rh24), (0, .ref a0), (1, .int v1_h9), (2, .int v2_h9), (3, .int v3_h9), (4, .int v4_h9), (6, .int v6_h9)]) hx hb dX12_blame_188 hl (by decide) rfl (fun ls hl => hp_n (n := 190) rfl ?_)
                            exact J190 αh9 Hh24 Lh24 Bh24 σh9 Mh9 v1_h9 v2_h9 v3_h9 v4_h9 rh24 v6_h9 ls (lv_sub hl [1, 2, 3, 4, 5, 0, 6] rfl) hf
              refine lv_istore (lv' := [(6, .int (0 : Int32)), (5, .int w0_h8), (0, .ref a0), (1, .int v1_h8), (2, .int v2_h8), (3, .int v3_h8), (4, .int v4_h8)]) hx hb dX12_blame_125 hl (by decide) rfl (fun ls hl => hp_n (n := 127) rfl ?_)
              exact J127 n αh8 Hh8 Lh8 Bh8 σh8 Mh8 v1_h8 v2_h8 v3_h8 v4_h8 w0_h8 (0 : Int32) ls (lv_sub hl [2, 3, 4, 5, 6, 1, 0] rfl) hf
            refine lv_if_ge (tgt := 121) hx hb dX12_blame_114 (by decide) (fun c25 => ?_) (fun c25 => hp_n (n := 117) rfl ?_)
            ·
              replace hf := ms_iT c25 hf
              refine lv_iconst (v := 0) hx hb dX12_blame_121 (by decide) (hp_n (n := 122) rfl ?_)
              exact J122 αh5 Hh5 Lh5 Bh5 σh5 Mh5 v1_h5 v2_h5 v3_h5 v4_h5 (0 : Int32) ls (lv_sub hl [0, 1, 2, 3, 4] rfl) hf
            ·
              replace hf := ms_iF c25 hf
              refine lv_iconst (v := (-1)) hx hb dX12_blame_117 (by decide) (hp_n (n := 118) rfl ?_)
              refine lv_goto (tgt := 122) hx hb dX12_blame_118 (by decide) ?_
              exact J122 αh5 Hh5 Lh5 Bh5 σh5 Mh5 v1_h5 v2_h5 v3_h5 v4_h5 (-1 : Int32) ls (lv_sub hl [0, 1, 2, 3, 4] rfl) hf
          ·
            replace hf := ms_iF c7 hf
            refine lv_aload_n hx hb dX12_blame_54 rfl (lv_at hl 0 rfl) (hp_n (n := 55) rfl ?_)
            refine lv_iload hx hb dX12_blame_55 (lv_at hl 5 rfl) (hp_n (n := 57) rfl ?_)
            refine lv_iconst (v := 0) hx hb dX12_blame_57 (by decide) (hp_n (n := 58) rfl ?_)
            obtain ⟨rh26, qh26, hf⟩ := ms_bE hf
            refine m_cp (pc' := 61) Bh5 (hp_runV (As := [.int v5_h5, .int (0 : Int32)]) (rest := []) C Bh5 (m_X12_froze n Γ l αh5 a0 ρ σh5 Mh5 v5_h5 (0 : Int32) rh26 qh26) lb_X12_froze lv_X12_froze lk_X12_350 Mh5.1 rfl (by decide) rfl hl.1 rfl (Nat.le_of_ble_eq_true rfl) dX12_blame_58 ⟨Nat.le_refl _, Nat.le_refl _⟩) rfl (fun Hh26 Lh26 Bh26 => ?_)
            refine lv_iload_n hx hb dX12_blame_61 rfl (lv_at hl 1 rfl) (hp_n (n := 62) rfl ?_)
            have J107 : ∀ (αh27 : hp_T) (Hh27 : Heap) (Lh27 : List Loc) (Bh27 : hp_B Γ mo s α αh27 Hh27 Lh27) (σh27 : ms_T) (Mh27 : hm_M αh27 a0 ρ σh27) (v1_h27 : Int32) (v2_h27 : Int32) (v3_h27 : Int32) (v4_h27 : Int32) (v5_h27 : Int32) (ls : Array Slot) (hl : lv_has ls 7 [(0, .ref a0), (1, .int v1_h27), (2, .int v2_h27), (3, .int v3_h27), (4, .int v4_h27), (5, .int v5_h27)]) (hf : f_X12_blame_J107 n (f_X12_blame_L43 n k43) σh27 v1_h27 v2_h27 v3_h27 v4_h27 v5_h27 = some res), W p l e (hp_rm 44 0 0) s m ([.ref a0, .int a1, .int a2] : List Value).toArray below meth c Hh27 Lh27 0 0 (MQ below (hp_Qi Γ (fun r β => r = res.1 ∧ mo α β ∧ hm_M β a0 ρ res.2)) ([.ref a0, .int a1, .int a2] : List Value).toArray s 0 0 (hp_A Γ)) (F0 m 107 ls []) := by
              intro αh27 Hh27 Lh27 Bh27 σh27 Mh27 v1_h27 v2_h27 v3_h27 v4_h27 v5_h27 ls hl hf
              unfold f_X12_blame_J107 at hf
              obtain ⟨x28, ex28⟩ : ∃ y : Int32, y = v5_h27 + 1 := ⟨_, rfl⟩
              replace hf := ms_lE ex28 hf
              refine lv_iinc (v := x28) (lv' := [(5, .int x28), (0, .ref a0), (1, .int v1_h27), (2, .int v2_h27), (3, .int v3_h27), (4, .int v4_h27)]) hx hb dX12_blame_107 hl (k := 5) rfl (by rw [ex28]; rfl) (by decide) rfl (fun ls hl => hp_n (n := 110) rfl ?_)
              refine lv_goto (tgt := 43) hx hb dX12_blame_110 (by decide) ?_
              exact ih43 αh27 Hh27 Lh27 Bh27 σh27 Mh27 v1_h27 v2_h27 v3_h27 v4_h27 x28 ls (lv_sub hl [1, 2, 3, 4, 5, 0] rfl) hf
            refine lv_icmp_ne (tgt := 107) hx hb dX12_blame_62 (by decide) (fun c29 => ?_) (fun c29 => hp_n (n := 65) rfl ?_)
            ·
              replace hf := ms_iF c29 hf
              exact J107 αh5 Hh26 Lh26 Bh26 σh5 Mh5 v1_h5 v2_h5 v3_h5 v4_h5 v5_h5 ls (lv_sub hl [0, 1, 2, 3, 4, 5] rfl) hf
            ·
              replace hf := ms_iT c29 hf
              refine lv_aload_n hx hb dX12_blame_65 rfl (lv_at hl 0 rfl) (hp_n (n := 66) rfl ?_)
              refine lv_iload hx hb dX12_blame_66 (lv_at hl 5 rfl) (hp_n (n := 68) rfl ?_)
              obtain ⟨rh30, qh30, hf⟩ := ms_bE hf
              refine m_cp (pc' := 71) Bh26 (hp_runV (As := [.int v5_h5]) (rest := []) C Bh26 (m_X12_isSound n Γ l αh5 a0 ρ σh5 Mh5 v5_h5 rh30 qh30) lb_X12_isSound lv_X12_isSound lk_X12_353 Mh5.1 rfl (by decide) rfl hl.1 rfl (Nat.le_of_ble_eq_true rfl) dX12_blame_68 ⟨Nat.le_refl _, Nat.le_refl _⟩) rfl (fun Hh30 Lh30 Bh30 => ?_)
              refine lv_if_eq (tgt := 77) hx hb dX12_blame_71 (by decide) (fun c31 => ?_) (fun c31 => hp_n (n := 74) rfl ?_)
              ·
                replace hf := ms_iT c31 hf
                obtain ⟨x32, ex32⟩ : ∃ y : Int32, y = v4_h5 + 1 := ⟨_, rfl⟩
                replace hf := ms_lE ex32 hf
                refine lv_iinc (v := x32) (lv' := [(4, .int x32), (0, .ref a0), (1, .int v1_h5), (2, .int v2_h5), (3, .int v3_h5), (5, .int v5_h5)]) hx hb dX12_blame_77 hl (k := 4) rfl (by rw [ex32]; rfl) (by decide) rfl (fun ls hl => hp_n (n := 80) rfl ?_)
                refine lv_iload_n hx hb dX12_blame_80 rfl (lv_at hl 4 rfl) (hp_n (n := 81) rfl ?_)
                have J106 : ∀ (αh33 : hp_T) (Hh33 : Heap) (Lh33 : List Loc) (Bh33 : hp_B Γ mo s α αh33 Hh33 Lh33) (σh33 : ms_T) (Mh33 : hm_M αh33 a0 ρ σh33) (v1_h33 : Int32) (v2_h33 : Int32) (v4_h33 : Int32) (v5_h33 : Int32) (w0_h33 : Int32) (ls : Array Slot) (hl : lv_has ls 7 [(0, .ref a0), (1, .int v1_h33), (2, .int v2_h33), (4, .int v4_h33), (5, .int v5_h33)]) (hf : f_X12_blame_J106 n (f_X12_blame_L43 n k43) σh33 v1_h33 v2_h33 v4_h33 v5_h33 w0_h33 = some res), W p l e (hp_rm 44 0 0) s m ([.ref a0, .int a1, .int a2] : List Value).toArray below meth c Hh33 Lh33 0 0 (MQ below (hp_Qi Γ (fun r β => r = res.1 ∧ mo α β ∧ hm_M β a0 ρ res.2)) ([.ref a0, .int a1, .int a2] : List Value).toArray s 0 0 (hp_A Γ)) (F0 m 106 ls [.int w0_h33]) := by
                  intro αh33 Hh33 Lh33 Bh33 σh33 Mh33 v1_h33 v2_h33 v4_h33 v5_h33 w0_h33 ls hl hf
                  unfold f_X12_blame_J106 at hf
                  refine lv_istore_n (lv' := [(3, .int w0_h33), (0, .ref a0), (1, .int v1_h33), (2, .int v2_h33), (4, .int v4_h33), (5, .int v5_h33)]) hx hb dX12_blame_106 rfl hl (by decide) rfl (fun ls hl => hp_n (n := 107) rfl ?_)
                  exact J107 αh33 Hh33 Lh33 Bh33 σh33 Mh33 v1_h33 v2_h33 w0_h33 v4_h33 v5_h33 ls (lv_sub hl [1, 2, 3, 0, 4, 5] rfl) hf
                have J95 : ∀ (αh34 : hp_T) (Hh34 : Heap) (Lh34 : List Loc) (Bh34 : hp_B Γ mo s α αh34 Hh34 Lh34) (σh34 : ms_T) (Mh34 : hm_M αh34 a0 ρ σh34) (v1_h34 : Int32) (v2_h34 : Int32) (v4_h34 : Int32) (v5_h34 : Int32) (ls : Array Slot) (hl : lv_has ls 7 [(0, .ref a0), (1, .int v1_h34), (2, .int v2_h34), (4, .int v4_h34), (5, .int v5_h34)]) (hf : f_X12_blame_J95 n (f_X12_blame_L43 n k43) σh34 v1_h34 v2_h34 v4_h34 v5_h34 = some res), W p l e (hp_rm 44 0 0) s m ([.ref a0, .int a1, .int a2] : List Value).toArray below meth c Hh34 Lh34 0 0 (MQ below (hp_Qi Γ (fun r β => r = res.1 ∧ mo α β ∧ hm_M β a0 ρ res.2)) ([.ref a0, .int a1, .int a2] : List Value).toArray s 0 0 (hp_A Γ)) (F0 m 95 ls []) := by
                  intro αh34 Hh34 Lh34 Bh34 σh34 Mh34 v1_h34 v2_h34 v4_h34 v5_h34 ls hl hf
                  unfold f_X12_blame_J95 at hf
                  refine lv_aload_n hx hb dX12_blame_95 rfl (lv_at hl 0 rfl) (hp_n (n := 96) rfl ?_)
                  refine lv_iload hx hb dX12_blame_96 (lv_at hl 4 rfl) (hp_n (n := 98) rfl ?_)
                  refine lv_iconst (v := 1) hx hb dX12_blame_98 (by decide) (hp_n (n := 99) rfl ?_)
                  obtain ⟨rh35, qh35, hf⟩ := ms_bE hf
                  refine m_cp (pc' := 102) Bh34 (hp_runV (As := [.int v5_h34, .int (1 : Int32)]) (rest := []) C Bh34 (m_X12_froze n Γ l αh34 a0 ρ σh34 Mh34 v5_h34 (1 : Int32) rh35 qh35) lb_X12_froze lv_X12_froze lk_X12_350 Mh34.1 rfl (by decide) rfl hl.1 rfl (Nat.le_of_ble_eq_true rfl) dX12_blame_99 ⟨Nat.le_refl _, Nat.le_refl _⟩) rfl (fun Hh35 Lh35 Bh35 => ?_)
                  refine lv_goto (tgt := 106) hx hb dX12_blame_102 (by decide) ?_
                  exact J106 αh34 Hh35 Lh35 Bh35 σh34 Mh34 v1_h34 v2_h34 v4_h34 v5_h34 rh35 ls (lv_sub hl [0, 1, 2, 3, 4] rfl) hf
                refine lv_if_lt (tgt := 95) hx hb dX12_blame_81 (by decide) (fun c36 => ?_) (fun c36 => hp_n (n := 84) rfl ?_)
                ·
                  replace hf := ms_iT c36 hf
                  exact J95 αh5 Hh30 Lh30 Bh30 σh5 Mh5 v1_h5 v2_h5 x32 v5_h5 ls (lv_sub hl [1, 2, 3, 0, 5] rfl) hf
                ·
                  replace hf := ms_iF c36 hf
                  refine lv_aload_n hx hb dX12_blame_84 rfl (lv_at hl 1 rfl) (hp_n (n := 85) rfl ?_)
                  refine lv_iload hx hb dX12_blame_85 (lv_at hl 5 rfl) (hp_n (n := 87) rfl ?_)
                  refine lv_iconst (v := 1) hx hb dX12_blame_87 (by decide) (hp_n (n := 88) rfl ?_)
                  obtain ⟨rh37, qh37, hf⟩ := ms_bE hf
                  refine m_cp (pc' := 91) Bh30 (hp_runV (As := [.int v5_h5, .int (1 : Int32)]) (rest := []) C Bh30 (m_X12_froze n Γ l αh5 a0 ρ σh5 Mh5 v5_h5 (1 : Int32) rh37 qh37) lb_X12_froze lv_X12_froze lk_X12_350 Mh5.1 rfl (by decide) rfl hl.1 rfl (Nat.le_of_ble_eq_true rfl) dX12_blame_88 ⟨Nat.le_refl _, Nat.le_refl _⟩) rfl (fun Hh37 Lh37 Bh37 => ?_)
                  refine lv_iload_n hx hb dX12_blame_91 rfl (lv_at hl 4 rfl) (hp_n (n := 92) rfl ?_)
                  refine lv_icmp_ge (tgt := 105) hx hb dX12_blame_92 (by decide) (fun c38 => ?_) (fun c38 => hp_n (n := 95) rfl ?_)
                  ·
                    replace hf := ms_iT c38 hf
                    refine lv_iload_n hx hb dX12_blame_105 rfl (lv_at hl 4 rfl) (hp_n (n := 106) rfl ?_)
                    exact J106 αh5 Hh37 Lh37 Bh37 σh5 Mh5 v1_h5 v2_h5 x32 v5_h5 v3_h5 ls (lv_sub hl [1, 2, 3, 0, 5] rfl) hf
                  ·
                    replace hf := ms_iF c38 hf
                    exact J95 αh5 Hh37 Lh37 Bh37 σh5 Mh5 v1_h5 v2_h5 x32 v5_h5 ls (lv_sub hl [1, 2, 3, 0, 5] rfl) hf
              ·
                replace hf := ms_iF c31 hf
                refine lv_goto (tgt := 107) hx hb dX12_blame_74 (by decide) ?_
                exact J107 αh5 Hh30 Lh30 Bh30 σh5 Mh5 v1_h5 v2_h5 v3_h5 v4_h5 v5_h5 ls (lv_sub hl [0, 1, 2, 3, 4, 5] rfl) hf
      refine lv_istore (lv' := [(5, .int (0 : Int32)), (4, .int (0 : Int32)), (3, .int (-1 : Int32)), (0, .ref a0), (1, .int v1_h2), (2, .int v2_h2)]) hx hb dX12_blame_41 hl (by decide) rfl (fun ls hl => hp_n (n := 43) rfl ?_)
      exact J43 n αh3 Hh3 Lh3 Bh3 σh3 Mh3 v1_h2 v2_h2 (-1 : Int32) (0 : Int32) (0 : Int32) ls (lv_sub hl [3, 4, 5, 2, 1, 0] rfl) hf
    ·
      replace hf := ms_iT c4 hf
      refine lv_iconst (v := (-1)) hx hb dX12_blame_33 (by decide) (hp_n (n := 34) rfl ?_)
      cases hf
      exact q_iret C Bh3 hr hlk ⟨rfl, Bh3.2.2, Mh3⟩ dX12_blame_34
  refine lv_if_ne (tgt := 14) hx hb dX12_blame_7 (by decide) (fun c39 => ?_) (fun c39 => hp_n (n := 10) rfl ?_)
  ·
    replace hf := ms_iF c39 hf
    refine lv_aload_n hx hb dX12_blame_14 rfl (lv_at hl 0 rfl) (hp_n (n := 15) rfl ?_)
    refine lv_iload_n hx hb dX12_blame_15 rfl (lv_at hl 1 rfl) (hp_n (n := 16) rfl ?_)
    obtain ⟨rh40, qh40, hf⟩ := ms_bE hf
    refine m_cp (pc' := 19) Bh1 (hp_runV (As := [.int a1]) (rest := [.ref a0]) C Bh1 (m_X12_isRecord n Γ l α a0 ρ σ hM a1 rh40 qh40) lb_X12_isRecord lv_X12_isRecord lk_X12_344 hM.1 rfl (by decide) rfl hl.1 rfl (Nat.le_of_ble_eq_true rfl) dX12_blame_16 ⟨Nat.le_refl _, Nat.le_refl _⟩) rfl (fun Hh40 Lh40 Bh40 => ?_)
    refine lv_if_ne (tgt := 26) hx hb dX12_blame_19 (by decide) (fun c41 => ?_) (fun c41 => hp_n (n := 22) rfl ?_)
    ·
      replace hf := ms_iF c41 hf
      refine lv_iconst (v := 0) hx hb dX12_blame_26 (by decide) (hp_n (n := 27) rfl ?_)
      exact J27 α Hh40 Lh40 Bh40 σ hM a1 a2 (0 : Int32) ls (lv_sub hl [0, 1, 2] rfl) hf
    ·
      replace hf := ms_iT c41 hf
      refine lv_iconst (v := 2) hx hb dX12_blame_22 (by decide) (hp_n (n := 23) rfl ?_)
      refine lv_goto (tgt := 27) hx hb dX12_blame_23 (by decide) ?_
      exact J27 α Hh40 Lh40 Bh40 σ hM a1 a2 (2 : Int32) ls (lv_sub hl [0, 1, 2] rfl) hf
  ·
    replace hf := ms_iT c39 hf
    refine lv_iconst (v := 1) hx hb dX12_blame_10 (by decide) (hp_n (n := 11) rfl ?_)
    refine lv_goto (tgt := 27) hx hb dX12_blame_11 (by decide) ?_
    exact J27 α Hh1 Lh1 Bh1 σ hM a1 a2 (1 : Int32) ls (lv_sub hl [0, 1, 2] rfl) hf
def f_X12_weak_J108 (n : Nat) (rec73 : ms_T → Int32 → Int32 → Int32 → Int32 → Int32 → Int32 → Int32 → Int32 → Option (Int32 × ms_T)) (σh15 : ms_T) (v2_h15 : Int32) (v3_h15 : Int32) (v4_h15 : Int32) (v5_h15 : Int32) (v6_h15 : Int32) (v7_h15 : Int32) (v8_h15 : Int32) (v9_h15 : Int32) : Option (Int32 × ms_T) :=
  ms_l (v9_h15 + (-1)) fun x16 =>
  rec73 σh15 v2_h15 v3_h15 v4_h15 v5_h15 v6_h15 v7_h15 v8_h15 x16
def f_X12_weak_L73 (n : Nat) : Nat → ms_T → Int32 → Int32 → Int32 → Int32 → Int32 → Int32 → Int32 → Int32 → Option (Int32 × ms_T)
  | 0, _, _, _, _, _, _, _, _, _ => none
  | k73 + 1, σh10, v2_h10, v3_h10, v4_h10, v5_h10, v6_h10, v7_h10, v8_h10, v9_h10 =>
    if v9_h10 < 0 then
      if v4_h10 = 0 then
        some (v7_h10, σh10)
      else
        if 0 ≤ v8_h10 then
          some (v8_h10, σh10)
        else
          ms_c (f_X12_refuse n σh10 (5 : Int32)) fun rh14 σh14 =>
          some (rh14, σh14)
    else
      if v9_h10 = v5_h10 then
        f_X12_weak_J108 n (f_X12_weak_L73 n k73) σh10 v2_h10 v3_h10 v4_h10 v5_h10 v6_h10 v7_h10 v8_h10 v9_h10
      else
        ms_c (f_X12_folded n σh10 v9_h10 v2_h10 v3_h10) fun rh18 σh18 =>
        if rh18 = v6_h10 then
          ms_l (v7_h10 + 1) fun x20 =>
          f_X12_weak_J108 n (f_X12_weak_L73 n k73) σh18 v2_h10 v3_h10 v4_h10 v5_h10 v6_h10 x20 v9_h10 v9_h10
        else
          f_X12_weak_J108 n (f_X12_weak_L73 n k73) σh18 v2_h10 v3_h10 v4_h10 v5_h10 v6_h10 v7_h10 v8_h10 v9_h10
def f_X12_weak_J22 (n : Nat) (σh2 : ms_T) (v1_h2 : Int32) (v2_h2 : Int32) (v3_h2 : Int32) (v4_h2 : Int32) (w0_h2 : Int32) : Option (Int32 × ms_T) :=
  ms_c (f_X12_is n σh2 w0_h2) fun rh3 σh3 =>
  if rh3 = 0 then
    some ((-1 : Int32), σh3)
  else
    ms_b (f_X12_inclusion n σh3 v2_h2 v3_h2) fun σh5 =>
    ms_b (f_X12_fetches n σh5 v1_h2) fun σh6 =>
    ms_b (f_X12_entryMark n σh6 v1_h2 v2_h2) fun rh7 =>
    ms_b (f_X12_headOf n σh6 v1_h2 v3_h2) fun rh8 =>
    ms_g (1 : Int32) 1980 <|
    ms_l (((ms_E σh6 40 ((1 : Int32)).toNatClampNeg) - (1 : Int32))) fun x21 =>
    f_X12_weak_L73 n n σh6 v2_h2 v3_h2 v4_h2 rh7 rh8 (0 : Int32) (-1 : Int32) x21
def f_X12_weak (n : Nat) (σ : ms_T) (a1 : Int32) (a2 : Int32) (a3 : Int32) (a4 : Int32) : Option (Int32 × ms_T) :=
  ms_b (f_X12_isIn n a4 (0 : Int32) (1 : Int32)) fun rh1 =>
  if rh1 = 0 then
    f_X12_weak_J22 n σ a1 a2 a3 a4 (1 : Int32)
  else
    ms_b (f_X12_noEntry n σ a1 a2 a3) fun rh23 =>
    f_X12_weak_J22 n σ a1 a2 a3 a4 rh23
set_option maxRecDepth 100000 in
set_option maxHeartbeats 4000000 in
theorem m_X12_weak (n : Nat) (Γ : hp_G) (l : Launch) (α : hp_T) (a0 : Nat) (ρ : Nat → Nat) (σ : ms_T) (hM : hm_M α a0 ρ σ) (a1 : Int32) (a2 : Int32) (a3 : Int32) (a4 : Int32) (res : (Int32 × ms_T)) (hf : f_X12_weak n σ a1 a2 a3 a4 = some res) : Met l yX12_weak (hp_ws yX12_weak cX12_weak 10 (some .int)) (hp_rm 43 0 0) (hp_Pc Γ α [.ref a0, .int a1, .int a2, .int a3, .int a4]) (hp_Qi Γ (fun r β => r = res.1 ∧ mo α β ∧ hm_M β a0 ρ res.2)) 0 0 (hp_A Γ) := by
  unfold f_X12_weak at hf
  refine hp_start (by decide) ?_
  intro p e s m below meth c C hr hlk B0 hnm
  have C : hp_C Γ p m c cX12_weak 10 s ([.ref a0, .int a1, .int a2, .int a3, .int a4] : List Value).toArray RX12 := C
  have hx := C.1.1
  have hb := C.1.2.1
  have hown := C.1.2.2.2.1
  have hts := C.1.2.2.2.2
  have B : hp_B Γ mo s α α s.heap [] := ⟨B0.1, B0.2.1, mo_rf⟩
  have hl := lv_entry ([.ref a0, .int a1, .int a2, .int a3, .int a4]) (n := 10) (Nat.le_of_ble_eq_true rfl)
  show W p l e (hp_rm 43 0 0) s m ([.ref a0, .int a1, .int a2, .int a3, .int a4] : List Value).toArray below meth c s.heap [] 0 0 (MQ below (hp_Qi Γ (fun r β => r = res.1 ∧ mo α β ∧ hm_M β a0 ρ res.2)) ([.ref a0, .int a1, .int a2, .int a3, .int a4] : List Value).toArray s 0 0 (hp_A Γ)) (entryFrame m ([.ref a0, .int a1, .int a2, .int a3, .int a4] : List Value).toArray 10)
  rw [lg_entry_eq]
  generalize (lg_sl ([.ref a0, .int a1, .int a2, .int a3, .int a4]) ++ List.replicate (10 - (lg_sl ([.ref a0, .int a1, .int a2, .int a3, .int a4])).length) Slot.unset).toArray = ls at hl ⊢
  have hl : lv_has ls 10 [(0, .ref a0), (1, .int a1), (2, .int a2), (3, .int a3), (4, .int a4)] := hl
  refine lv_aload_n hx hb dX12_weak_0 rfl (lv_at hl 0 rfl) (hp_n (n := 1) rfl ?_)
  refine lv_iload hx hb dX12_weak_1 (lv_at hl 4 rfl) (hp_n (n := 3) rfl ?_)
  refine lv_iconst (v := 0) hx hb dX12_weak_3 (by decide) (hp_n (n := 4) rfl ?_)
  refine lv_iconst (v := 1) hx hb dX12_weak_4 (by decide) (hp_n (n := 5) rfl ?_)
  obtain ⟨rh1, qh1, hf⟩ := ms_bE hf
  refine m_cp (pc' := 8) B (hp_runS (As := [.int a4, .int (0 : Int32), .int (1 : Int32)]) (rest := [.ref a0]) C B (m_X12_isIn n Γ l α a4 (0 : Int32) (1 : Int32) rh1 qh1) lb_X12_isIn ls_X12_isIn lk_X12_113 rfl (by decide) rfl hl.1 rfl (Nat.le_of_ble_eq_true rfl) dX12_weak_5 ⟨Nat.le_refl _, Nat.le_refl _⟩) rfl (fun Hh1 Lh1 Bh1 => ?_)
  have J22 : ∀ (αh2 : hp_T) (Hh2 : Heap) (Lh2 : List Loc) (Bh2 : hp_B Γ mo s α αh2 Hh2 Lh2) (σh2 : ms_T) (Mh2 : hm_M αh2 a0 ρ σh2) (v1_h2 : Int32) (v2_h2 : Int32) (v3_h2 : Int32) (v4_h2 : Int32) (w0_h2 : Int32) (ls : Array Slot) (hl : lv_has ls 10 [(0, .ref a0), (1, .int v1_h2), (2, .int v2_h2), (3, .int v3_h2), (4, .int v4_h2)]) (hf : f_X12_weak_J22 n σh2 v1_h2 v2_h2 v3_h2 v4_h2 w0_h2 = some res), W p l e (hp_rm 43 0 0) s m ([.ref a0, .int a1, .int a2, .int a3, .int a4] : List Value).toArray below meth c Hh2 Lh2 0 0 (MQ below (hp_Qi Γ (fun r β => r = res.1 ∧ mo α β ∧ hm_M β a0 ρ res.2)) ([.ref a0, .int a1, .int a2, .int a3, .int a4] : List Value).toArray s 0 0 (hp_A Γ)) (F0 m 22 ls [.int w0_h2, .ref a0]) := by
    intro αh2 Hh2 Lh2 Bh2 σh2 Mh2 v1_h2 v2_h2 v3_h2 v4_h2 w0_h2 ls hl hf
    unfold f_X12_weak_J22 at hf
    obtain ⟨rh3, σh3, qh3, hf⟩ := ms_cE hf
    refine m_ci (pc' := 25) (a := a0) (ρ := ρ) Bh2 (hp_runV (As := [.int w0_h2]) (rest := []) C Bh2 (m_X12_is n Γ l αh2 a0 ρ σh2 Mh2 w0_h2 (rh3, σh3) qh3) lb_X12_is lv_X12_is lk_X12_309 Mh2.1 rfl (by decide) rfl hl.1 rfl (Nat.le_of_ble_eq_true rfl) dX12_weak_22 ⟨Nat.le_refl _, Nat.le_refl _⟩) rfl (fun αh3 Hh3 Lh3 Bh3 Mh3 => ?_)
    refine lv_if_ne (tgt := 30) hx hb dX12_weak_25 (by decide) (fun c4 => ?_) (fun c4 => hp_n (n := 28) rfl ?_)
    ·
      replace hf := ms_iF c4 hf
      refine lv_aload_n hx hb dX12_weak_30 rfl (lv_at hl 0 rfl) (hp_n (n := 31) rfl ?_)
      refine lv_iload_n hx hb dX12_weak_31 rfl (lv_at hl 2 rfl) (hp_n (n := 32) rfl ?_)
      refine lv_iload_n hx hb dX12_weak_32 rfl (lv_at hl 3 rfl) (hp_n (n := 33) rfl ?_)
      obtain ⟨σh5, qh5, hf⟩ := ms_bE hf
      refine m_cv (pc' := 36) (a := a0) (ρ := ρ) Bh3 (hp_runV (As := [.int v2_h2, .int v3_h2]) (rest := []) C Bh3 (m_X12_inclusion n Γ l αh3 a0 ρ σh3 Mh3 v2_h2 v3_h2 σh5 qh5) lb_X12_inclusion lv_X12_inclusion lk_X12_171 Mh3.1 rfl (by decide) rfl hl.1 rfl (Nat.le_of_ble_eq_true rfl) dX12_weak_33 ⟨Nat.le_refl _, Nat.le_refl _⟩) rfl (fun αh5 Hh5 Lh5 Bh5 Mh5 => ?_)
      refine lv_aload_n hx hb dX12_weak_36 rfl (lv_at hl 0 rfl) (hp_n (n := 37) rfl ?_)
      refine lv_iload_n hx hb dX12_weak_37 rfl (lv_at hl 1 rfl) (hp_n (n := 38) rfl ?_)
      obtain ⟨σh6, qh6, hf⟩ := ms_bE hf
      refine m_cv (pc' := 41) (a := a0) (ρ := ρ) Bh5 (hp_runV (As := [.int v1_h2]) (rest := []) C Bh5 (m_X12_fetches n Γ l αh5 a0 ρ σh5 Mh5 v1_h2 σh6 qh6) lb_X12_fetches lv_X12_fetches lk_X12_161 Mh5.1 rfl (by decide) rfl hl.1 rfl (Nat.le_of_ble_eq_true rfl) dX12_weak_38 ⟨Nat.le_refl _, Nat.le_refl _⟩) rfl (fun αh6 Hh6 Lh6 Bh6 Mh6 => ?_)
      refine lv_aload_n hx hb dX12_weak_41 rfl (lv_at hl 0 rfl) (hp_n (n := 42) rfl ?_)
      refine lv_iload_n hx hb dX12_weak_42 rfl (lv_at hl 1 rfl) (hp_n (n := 43) rfl ?_)
      refine lv_iload_n hx hb dX12_weak_43 rfl (lv_at hl 2 rfl) (hp_n (n := 44) rfl ?_)
      obtain ⟨rh7, qh7, hf⟩ := ms_bE hf
      refine m_cp (pc' := 47) Bh6 (hp_runV (As := [.int v1_h2, .int v2_h2]) (rest := []) C Bh6 (m_X12_entryMark n Γ l αh6 a0 ρ σh6 Mh6 v1_h2 v2_h2 rh7 qh7) lb_X12_entryMark lv_X12_entryMark lk_X12_125 Mh6.1 rfl (by decide) rfl hl.1 rfl (Nat.le_of_ble_eq_true rfl) dX12_weak_44 ⟨Nat.le_refl _, Nat.le_refl _⟩) rfl (fun Hh7 Lh7 Bh7 => ?_)
      refine lv_istore (lv' := [(5, .int rh7), (0, .ref a0), (1, .int v1_h2), (2, .int v2_h2), (3, .int v3_h2), (4, .int v4_h2)]) hx hb dX12_weak_47 hl (by decide) rfl (fun ls hl => hp_n (n := 49) rfl ?_)
      refine lv_aload_n hx hb dX12_weak_49 rfl (lv_at hl 1 rfl) (hp_n (n := 50) rfl ?_)
      refine lv_iload_n hx hb dX12_weak_50 rfl (lv_at hl 2 rfl) (hp_n (n := 51) rfl ?_)
      refine lv_iload_n hx hb dX12_weak_51 rfl (lv_at hl 4 rfl) (hp_n (n := 52) rfl ?_)
      obtain ⟨rh8, qh8, hf⟩ := ms_bE hf
      refine m_cp (pc' := 55) Bh7 (hp_runV (As := [.int v1_h2, .int v3_h2]) (rest := []) C Bh7 (m_X12_headOf n Γ l αh6 a0 ρ σh6 Mh6 v1_h2 v3_h2 rh8 qh8) lb_X12_headOf lv_X12_headOf lk_X12_215 Mh6.1 rfl (by decide) rfl hl.1 rfl (Nat.le_of_ble_eq_true rfl) dX12_weak_52 ⟨Nat.le_refl _, Nat.le_refl _⟩) rfl (fun Hh8 Lh8 Bh8 => ?_)
      refine lv_istore (lv' := [(6, .int rh8), (5, .int rh7), (0, .ref a0), (1, .int v1_h2), (2, .int v2_h2), (3, .int v3_h2), (4, .int v4_h2)]) hx hb dX12_weak_55 hl (by decide) rfl (fun ls hl => hp_n (n := 57) rfl ?_)
      refine lv_iconst (v := 0) hx hb dX12_weak_57 (by decide) (hp_n (n := 58) rfl ?_)
      refine lv_istore (lv' := [(7, .int (0 : Int32)), (6, .int rh8), (5, .int rh7), (0, .ref a0), (1, .int v1_h2), (2, .int v2_h2), (3, .int v3_h2), (4, .int v4_h2)]) hx hb dX12_weak_58 hl (by decide) rfl (fun ls hl => hp_n (n := 60) rfl ?_)
      refine lv_iconst (v := (-1)) hx hb dX12_weak_60 (by decide) (hp_n (n := 61) rfl ?_)
      refine lv_istore (lv' := [(8, .int (-1 : Int32)), (7, .int (0 : Int32)), (6, .int rh8), (5, .int rh7), (0, .ref a0), (1, .int v1_h2), (2, .int v2_h2), (3, .int v3_h2), (4, .int v4_h2)]) hx hb dX12_weak_61 hl (by decide) rfl (fun ls hl => hp_n (n := 63) rfl ?_)
      refine lv_aload_n hx hb dX12_weak_63 rfl (lv_at hl 4 rfl) (hp_n (n := 64) rfl ?_)
      refine m_getr (κ := 40) (k := 0) (pc' := 67) C Bh8 Mh6 fl_X12_7 rfl (by decide) dX12_weak_64 rfl ?_
      refine lv_iconst (v := 1) hx hb dX12_weak_67 (by decide) (hp_n (n := 68) rfl ?_)
      obtain ⟨g9, hf⟩ := ms_gE hf
      refine m_ial (κ := 40) (φ := 650) (n := 1980) (pc' := 69) C Bh8 Mh6 (by decide) (by decide) rfl g9 dX12_weak_68 rfl ?_
      refine lv_iconst (v := 1) hx hb dX12_weak_69 (by decide) (hp_n (n := 70) rfl ?_)
      refine lv_isub hx hb dX12_weak_70 (hp_n (n := 71) rfl ?_)
      have J73 : ∀ (k73 : Nat) (αh10 : hp_T) (Hh10 : Heap) (Lh10 : List Loc) (Bh10 : hp_B Γ mo s α αh10 Hh10 Lh10) (σh10 : ms_T) (Mh10 : hm_M αh10 a0 ρ σh10) (v2_h10 : Int32) (v3_h10 : Int32) (v4_h10 : Int32) (v5_h10 : Int32) (v6_h10 : Int32) (v7_h10 : Int32) (v8_h10 : Int32) (v9_h10 : Int32) (ls : Array Slot) (hl : lv_has ls 10 [(0, .ref a0), (2, .int v2_h10), (3, .int v3_h10), (4, .int v4_h10), (5, .int v5_h10), (6, .int v6_h10), (7, .int v7_h10), (8, .int v8_h10), (9, .int v9_h10)]) (hf : f_X12_weak_L73 n k73 σh10 v2_h10 v3_h10 v4_h10 v5_h10 v6_h10 v7_h10 v8_h10 v9_h10 = some res), W p l e (hp_rm 43 0 0) s m ([.ref a0, .int a1, .int a2, .int a3, .int a4] : List Value).toArray below meth c Hh10 Lh10 0 0 (MQ below (hp_Qi Γ (fun r β => r = res.1 ∧ mo α β ∧ hm_M β a0 ρ res.2)) ([.ref a0, .int a1, .int a2, .int a3, .int a4] : List Value).toArray s 0 0 (hp_A Γ)) (F0 m 73 ls []) := by
        intro k73
        induction k73 with
        | zero => intro αh10 Hh10 Lh10 Bh10 σh10 Mh10 v2_h10 v3_h10 v4_h10 v5_h10 v6_h10 v7_h10 v8_h10 v9_h10 ls hl hf; rw [f_X12_weak_L73.eq_1] at hf; cases hf
        | succ k73 ih73 =>
          intro αh10 Hh10 Lh10 Bh10 σh10 Mh10 v2_h10 v3_h10 v4_h10 v5_h10 v6_h10 v7_h10 v8_h10 v9_h10 ls hl hf
          rw [f_X12_weak_L73.eq_2] at hf
          refine lv_iload hx hb dX12_weak_73 (lv_at hl 8 rfl) (hp_n (n := 75) rfl ?_)
          refine lv_if_lt (tgt := 114) hx hb dX12_weak_75 (by decide) (fun c11 => ?_) (fun c11 => hp_n (n := 78) rfl ?_)
          ·
            replace hf := ms_iT c11 hf
            refine lv_iload hx hb dX12_weak_114 (lv_at hl 3 rfl) (hp_n (n := 116) rfl ?_)
            refine lv_if_ne (tgt := 124) hx hb dX12_weak_116 (by decide) (fun c12 => ?_) (fun c12 => hp_n (n := 119) rfl ?_)
            ·
              replace hf := ms_iF c12 hf
              refine lv_iload hx hb dX12_weak_124 (lv_at hl 7 rfl) (hp_n (n := 126) rfl ?_)
              refine lv_if_ge (tgt := 137) hx hb dX12_weak_126 (by decide) (fun c13 => ?_) (fun c13 => hp_n (n := 129) rfl ?_)
              ·
                replace hf := ms_iT c13 hf
                refine lv_iload hx hb dX12_weak_137 (lv_at hl 7 rfl) (hp_n (n := 139) rfl ?_)
                cases hf
                exact q_iret C Bh10 hr hlk ⟨rfl, Bh10.2.2, Mh10⟩ dX12_weak_139
              ·
                replace hf := ms_iF c13 hf
                refine lv_aload_n hx hb dX12_weak_129 rfl (lv_at hl 0 rfl) (hp_n (n := 130) rfl ?_)
                refine lv_iconst (v := 5) hx hb dX12_weak_130 (by decide) (hp_n (n := 131) rfl ?_)
                obtain ⟨rh14, σh14, qh14, hf⟩ := ms_cE hf
                refine m_ci (pc' := 134) (a := a0) (ρ := ρ) Bh10 (hp_runV (As := [.int (5 : Int32)]) (rest := []) C Bh10 (m_X12_refuse n Γ l αh10 a0 ρ σh10 Mh10 (5 : Int32) (rh14, σh14) qh14) lb_X12_refuse lv_X12_refuse lk_X12_212 Mh10.1 rfl (by decide) rfl hl.1 rfl (Nat.le_of_ble_eq_true rfl) dX12_weak_131 ⟨Nat.le_refl _, Nat.le_refl _⟩) rfl (fun αh14 Hh14 Lh14 Bh14 Mh14 => ?_)
                refine lv_goto (tgt := 139) hx hb dX12_weak_134 (by decide) ?_
                cases hf
                exact q_iret C Bh14 hr hlk ⟨rfl, Bh14.2.2, Mh14⟩ dX12_weak_139
            ·
              replace hf := ms_iT c12 hf
              refine lv_iload hx hb dX12_weak_119 (lv_at hl 6 rfl) (hp_n (n := 121) rfl ?_)
              refine lv_goto (tgt := 139) hx hb dX12_weak_121 (by decide) ?_
              cases hf
              exact q_iret C Bh10 hr hlk ⟨rfl, Bh10.2.2, Mh10⟩ dX12_weak_139
          ·
            replace hf := ms_iF c11 hf
            refine lv_iload hx hb dX12_weak_78 (lv_at hl 8 rfl) (hp_n (n := 80) rfl ?_)
            refine lv_iload hx hb dX12_weak_80 (lv_at hl 4 rfl) (hp_n (n := 82) rfl ?_)
            have J108 : ∀ (αh15 : hp_T) (Hh15 : Heap) (Lh15 : List Loc) (Bh15 : hp_B Γ mo s α αh15 Hh15 Lh15) (σh15 : ms_T) (Mh15 : hm_M αh15 a0 ρ σh15) (v2_h15 : Int32) (v3_h15 : Int32) (v4_h15 : Int32) (v5_h15 : Int32) (v6_h15 : Int32) (v7_h15 : Int32) (v8_h15 : Int32) (v9_h15 : Int32) (ls : Array Slot) (hl : lv_has ls 10 [(0, .ref a0), (2, .int v2_h15), (3, .int v3_h15), (4, .int v4_h15), (5, .int v5_h15), (6, .int v6_h15), (7, .int v7_h15), (8, .int v8_h15), (9, .int v9_h15)]) (hf : f_X12_weak_J108 n (f_X12_weak_L73 n k73) σh15 v2_h15 v3_h15 v4_h15 v5_h15 v6_h15 v7_h15 v8_h15 v9_h15 = some res), W p l e (hp_rm 43 0 0) s m ([.ref a0, .int a1, .int a2, .int a3, .int a4] : List Value).toArray below meth c Hh15 Lh15 0 0 (MQ below (hp_Qi Γ (fun r β => r = res.1 ∧ mo α β ∧ hm_M β a0 ρ res.2)) ([.ref a0, .int a1, .int a2, .int a3, .int a4] : List Value).toArray s 0 0 (hp_A Γ)) (F0 m 108 ls []) := by
              intro αh15 Hh15 Lh15 Bh15 σh15 Mh15 v2_h15 v3_h15 v4_h15 v5_h15 v6_h15 v7_h15 v8_h15 v9_h15 ls hl hf
              unfold f_X12_weak_J108 at hf
              obtain ⟨x16, ex16⟩ : ∃ y : Int32, y = v9_h15 + (-1) := ⟨_, rfl⟩
              replace hf := ms_lE ex16 hf
              refine lv_iinc (v := x16) (lv' := [(9, .int x16), (0, .ref a0), (2, .int v2_h15), (3, .int v3_h15), (4, .int v4_h15), (5, .int v5_h15), (6, .int v6_h15), (7, .int v7_h15), (8, .int v8_h15)]) hx hb dX12_weak_108 hl (k := 8) rfl (by rw [ex16]; rfl) (by decide) rfl (fun ls hl => hp_n (n := 111) rfl ?_)
              refine lv_goto (tgt := 73) hx hb dX12_weak_111 (by decide) ?_
              exact ih73 αh15 Hh15 Lh15 Bh15 σh15 Mh15 v2_h15 v3_h15 v4_h15 v5_h15 v6_h15 v7_h15 v8_h15 x16 ls (lv_sub hl [1, 2, 3, 4, 5, 6, 7, 8, 0] rfl) hf
            refine lv_icmp_eq (tgt := 108) hx hb dX12_weak_82 (by decide) (fun c17 => ?_) (fun c17 => hp_n (n := 85) rfl ?_)
            ·
              replace hf := ms_iT c17 hf
              exact J108 αh10 Hh10 Lh10 Bh10 σh10 Mh10 v2_h10 v3_h10 v4_h10 v5_h10 v6_h10 v7_h10 v8_h10 v9_h10 ls (lv_sub hl [0, 1, 2, 3, 4, 5, 6, 7, 8] rfl) hf
            ·
              replace hf := ms_iF c17 hf
              refine lv_aload_n hx hb dX12_weak_85 rfl (lv_at hl 0 rfl) (hp_n (n := 86) rfl ?_)
              refine lv_iload hx hb dX12_weak_86 (lv_at hl 8 rfl) (hp_n (n := 88) rfl ?_)
              refine lv_iload_n hx hb dX12_weak_88 rfl (lv_at hl 1 rfl) (hp_n (n := 89) rfl ?_)
              refine lv_iload_n hx hb dX12_weak_89 rfl (lv_at hl 2 rfl) (hp_n (n := 90) rfl ?_)
              obtain ⟨rh18, σh18, qh18, hf⟩ := ms_cE hf
              refine m_ci (pc' := 93) (a := a0) (ρ := ρ) Bh10 (hp_runV (As := [.int v9_h10, .int v2_h10, .int v3_h10]) (rest := []) C Bh10 (m_X12_folded n Γ l αh10 a0 ρ σh10 Mh10 v9_h10 v2_h10 v3_h10 (rh18, σh18) qh18) lb_X12_folded lv_X12_folded lk_X12_174 Mh10.1 rfl (by decide) rfl hl.1 rfl (Nat.le_of_ble_eq_true rfl) dX12_weak_90 ⟨Nat.le_refl _, Nat.le_refl _⟩) rfl (fun αh18 Hh18 Lh18 Bh18 Mh18 => ?_)
              refine lv_iload hx hb dX12_weak_93 (lv_at hl 5 rfl) (hp_n (n := 95) rfl ?_)
              refine lv_icmp_eq (tgt := 101) hx hb dX12_weak_95 (by decide) (fun c19 => ?_) (fun c19 => hp_n (n := 98) rfl ?_)
              ·
                replace hf := ms_iT c19 hf
                obtain ⟨x20, ex20⟩ : ∃ y : Int32, y = v7_h10 + 1 := ⟨_, rfl⟩
                replace hf := ms_lE ex20 hf
                refine lv_iinc (v := x20) (lv' := [(7, .int x20), (0, .ref a0), (2, .int v2_h10), (3, .int v3_h10), (4, .int v4_h10), (5, .int v5_h10), (6, .int v6_h10), (8, .int v8_h10), (9, .int v9_h10)]) hx hb dX12_weak_101 hl (k := 6) rfl (by rw [ex20]; rfl) (by decide) rfl (fun ls hl => hp_n (n := 104) rfl ?_)
                refine lv_iload hx hb dX12_weak_104 (lv_at hl 8 rfl) (hp_n (n := 106) rfl ?_)
                refine lv_istore (lv' := [(8, .int v9_h10), (7, .int x20), (0, .ref a0), (2, .int v2_h10), (3, .int v3_h10), (4, .int v4_h10), (5, .int v5_h10), (6, .int v6_h10), (9, .int v9_h10)]) hx hb dX12_weak_106 hl (by decide) rfl (fun ls hl => hp_n (n := 108) rfl ?_)
                exact J108 αh18 Hh18 Lh18 Bh18 σh18 Mh18 v2_h10 v3_h10 v4_h10 v5_h10 v6_h10 x20 v9_h10 v9_h10 ls (lv_sub hl [2, 3, 4, 5, 6, 7, 1, 0, 8] rfl) hf
              ·
                replace hf := ms_iF c19 hf
                refine lv_goto (tgt := 108) hx hb dX12_weak_98 (by decide) ?_
                exact J108 αh18 Hh18 Lh18 Bh18 σh18 Mh18 v2_h10 v3_h10 v4_h10 v5_h10 v6_h10 v7_h10 v8_h10 v9_h10 ls (lv_sub hl [0, 1, 2, 3, 4, 5, 6, 7, 8] rfl) hf
      refine lv_topi (fun x21 ex21 => ?_)
      replace hf := ms_lE ex21 hf
      refine lv_istore (lv' := [(9, .int x21), (8, .int (-1 : Int32)), (7, .int (0 : Int32)), (6, .int rh8), (5, .int rh7), (0, .ref a0), (1, .int v1_h2), (2, .int v2_h2), (3, .int v3_h2), (4, .int v4_h2)]) hx hb dX12_weak_71 hl (by decide) rfl (fun ls hl => hp_n (n := 73) rfl ?_)
      exact J73 n αh6 Hh8 Lh8 Bh8 σh6 Mh6 v2_h2 v3_h2 v4_h2 rh7 rh8 (0 : Int32) (-1 : Int32) x21 ls (lv_sub hl [5, 7, 8, 9, 4, 3, 2, 1, 0] rfl) hf
    ·
      replace hf := ms_iT c4 hf
      refine lv_iconst (v := (-1)) hx hb dX12_weak_28 (by decide) (hp_n (n := 29) rfl ?_)
      cases hf
      exact q_iret C Bh3 hr hlk ⟨rfl, Bh3.2.2, Mh3⟩ dX12_weak_29
  refine lv_if_ne (tgt := 15) hx hb dX12_weak_8 (by decide) (fun c22 => ?_) (fun c22 => hp_n (n := 11) rfl ?_)
  ·
    replace hf := ms_iF c22 hf
    refine lv_aload_n hx hb dX12_weak_15 rfl (lv_at hl 0 rfl) (hp_n (n := 16) rfl ?_)
    refine lv_iload_n hx hb dX12_weak_16 rfl (lv_at hl 1 rfl) (hp_n (n := 17) rfl ?_)
    refine lv_iload_n hx hb dX12_weak_17 rfl (lv_at hl 2 rfl) (hp_n (n := 18) rfl ?_)
    refine lv_iload_n hx hb dX12_weak_18 rfl (lv_at hl 3 rfl) (hp_n (n := 19) rfl ?_)
    obtain ⟨rh23, qh23, hf⟩ := ms_bE hf
    refine m_cp (pc' := 22) Bh1 (hp_runV (As := [.int a1, .int a2, .int a3]) (rest := [.ref a0]) C Bh1 (m_X12_noEntry n Γ l α a0 ρ σ hM a1 a2 a3 rh23 qh23) lb_X12_noEntry lv_X12_noEntry lk_X12_362 hM.1 rfl (by decide) rfl hl.1 rfl (Nat.le_of_ble_eq_true rfl) dX12_weak_19 ⟨Nat.le_refl _, Nat.le_refl _⟩) rfl (fun Hh23 Lh23 Bh23 => ?_)
    exact J22 α Hh23 Lh23 Bh23 σ hM a1 a2 a3 a4 rh23 ls (lv_sub hl [0, 1, 2, 3, 4] rfl) hf
  ·
    replace hf := ms_iT c22 hf
    refine lv_iconst (v := 1) hx hb dX12_weak_11 (by decide) (hp_n (n := 12) rfl ?_)
    refine lv_goto (tgt := 22) hx hb dX12_weak_12 (by decide) ?_
    exact J22 α Hh1 Lh1 Bh1 σ hM a1 a2 a3 a4 (1 : Int32) ls (lv_sub hl [0, 1, 2, 3, 4] rfl) hf
def f_X12_stepsIn_J102 (n : Nat) (recM : ms_T → Int32 → Int32 → Int32 → Option (Int32 × ms_T)) (σh7 : ms_T) (w0_h7 : Int32) (w1_h7 : Int32) : Option (Int32 × ms_T) :=
  ms_g w1_h7 64 <|
  ms_l (ms_sE σh7 52 (w1_h7).toNatClampNeg w0_h7) fun σh9 =>
  ms_g (ms_I σh9 689) 64 <|
  ms_g (ms_I σh9 689) 64 <|
  ms_b (f_X12_both n σh9 (ms_E σh9 51 ((ms_I σh9 689)).toNatClampNeg) (ms_E σh9 52 ((ms_I σh9 689)).toNatClampNeg)) fun rh12 =>
  ms_g (ms_I σh9 689) 64 <|
  ms_l (ms_sE σh9 53 ((ms_I σh9 689)).toNatClampNeg rh12) fun σh14 =>
  ms_l (ms_sI σh14 689 ((ms_I σh14 689) + (1 : Int32))) fun σh15 =>
  ms_g ((ms_I σh15 689) - (1 : Int32)) 64 <|
  some ((ms_E σh15 53 (((ms_I σh15 689) - (1 : Int32))).toNatClampNeg), σh15)
def f_X12_stepsIn_J73 (n : Nat) (recM : ms_T → Int32 → Int32 → Int32 → Option (Int32 × ms_T)) (σh4 : ms_T) (v2_h4 : Int32) (v4_h4 : Int32) (v5_h4 : Int32) (w0_h4 : Int32) (w1_h4 : Int32) : Option (Int32 × ms_T) :=
  ms_g w1_h4 64 <|
  ms_l (ms_sE σh4 51 (w1_h4).toNatClampNeg w0_h4) fun σh6 =>
  if v4_h4 ≤ v2_h4 then
    f_X12_stepsIn_J102 n recM σh6 v5_h4 (ms_I σh6 689)
  else
    ms_g (ms_I σh6 689) 128 <|
    f_X12_stepsIn_J102 n recM σh6 (ms_E σh6 44 ((ms_I σh6 689)).toNatClampNeg) (ms_I σh6 689)
def f_X12_stepsIn_J43 (n : Nat) (recM : ms_T → Int32 → Int32 → Int32 → Option (Int32 × ms_T)) (σh3 : ms_T) (v2_h3 : Int32) (v4_h3 : Int32) (w0_h3 : Int32) : Option (Int32 × ms_T) :=
  if v4_h3 ≤ v2_h3 then
    ms_g (ms_I σh3 689) 128 <|
    f_X12_stepsIn_J73 n recM σh3 v2_h3 v4_h3 w0_h3 (ms_E σh3 44 ((ms_I σh3 689)).toNatClampNeg) (ms_I σh3 689)
  else
    f_X12_stepsIn_J73 n recM σh3 v2_h3 v4_h3 w0_h3 w0_h3 (ms_I σh3 689)
def f_X12_stepsIn (n : Nat) : Nat → ms_T → Int32 → Int32 → Int32 → Option (Int32 × ms_T)
  | 0, _, _, _, _ => none
  | d + 1, σ, a1, a2, a3 =>
    if a3 = (1 : Int32) then
      some (a1, σ)
    else
      ms_b (f_X12_part0 n a3) fun rh2 =>
      if rh2 ≤ a2 then
        ms_c ((f_X12_stepsIn n d) σ a1 (a2 - rh2) (a3 - rh2)) fun rh22 σh22 =>
        f_X12_stepsIn_J43 n (f_X12_stepsIn n d) σh22 a2 rh2 rh22
      else
        ms_c ((f_X12_stepsIn n d) σ a1 a2 rh2) fun rh23 σh23 =>
        f_X12_stepsIn_J43 n (f_X12_stepsIn n d) σh23 a2 rh2 rh23
set_option maxRecDepth 100000 in
set_option maxHeartbeats 4000000 in
theorem m_X12_stepsIn (n : Nat) : ∀ (d : Nat) (Γ : hp_G) (l : Launch) (α : hp_T) (a0 : Nat) (ρ : Nat → Nat) (σ : ms_T) (hM : hm_M α a0 ρ σ) (a1 : Int32) (a2 : Int32) (a3 : Int32) (res : (Int32 × ms_T)) (hf : f_X12_stepsIn n d σ a1 a2 a3 = some res), Met l yX12_stepsIn (hp_ws yX12_stepsIn cX12_stepsIn 6 (some .int)) (hp_rm (d + 1) 0 0) (hp_Pc Γ α [.ref a0, .int a1, .int a2, .int a3]) (hp_Qi Γ (fun r β => r = res.1 ∧ mo α β ∧ hm_M β a0 ρ res.2)) 0 0 (hp_A Γ) := by
  intro d
  induction d with
  | zero => intro Γ l α a0 ρ σ hM a1 a2 a3 res hf; rw [f_X12_stepsIn.eq_1] at hf; cases hf
  | succ d ihM =>
    intro Γ l α a0 ρ σ hM a1 a2 a3 res hf
    rw [f_X12_stepsIn.eq_2] at hf
    refine hp_start (by decide) ?_
    intro p e s m below meth c C hr hlk B0 hnm
    have C : hp_C Γ p m c cX12_stepsIn 6 s ([.ref a0, .int a1, .int a2, .int a3] : List Value).toArray RX12 := C
    have hx := C.1.1
    have hb := C.1.2.1
    have hown := C.1.2.2.2.1
    have hts := C.1.2.2.2.2
    have B : hp_B Γ mo s α α s.heap [] := ⟨B0.1, B0.2.1, mo_rf⟩
    have hl := lv_entry ([.ref a0, .int a1, .int a2, .int a3]) (n := 6) (Nat.le_of_ble_eq_true rfl)
    show W p l e (hp_rm (d + 1 + 1) 0 0) s m ([.ref a0, .int a1, .int a2, .int a3] : List Value).toArray below meth c s.heap [] 0 0 (MQ below (hp_Qi Γ (fun r β => r = res.1 ∧ mo α β ∧ hm_M β a0 ρ res.2)) ([.ref a0, .int a1, .int a2, .int a3] : List Value).toArray s 0 0 (hp_A Γ)) (entryFrame m ([.ref a0, .int a1, .int a2, .int a3] : List Value).toArray 6)
    rw [lg_entry_eq]
    generalize (lg_sl ([.ref a0, .int a1, .int a2, .int a3]) ++ List.replicate (6 - (lg_sl ([.ref a0, .int a1, .int a2, .int a3])).length) Slot.unset).toArray = ls at hl ⊢
    have hl : lv_has ls 6 [(0, .ref a0), (1, .int a1), (2, .int a2), (3, .int a3)] := hl
    refine lv_iload_n hx hb dX12_stepsIn_0 rfl (lv_at hl 3 rfl) (hp_n (n := 1) rfl ?_)
    refine lv_iconst (v := 1) hx hb dX12_stepsIn_1 (by decide) (hp_n (n := 2) rfl ?_)
    refine lv_icmp_ne (tgt := 7) hx hb dX12_stepsIn_2 (by decide) (fun c1 => ?_) (fun c1 => hp_n (n := 5) rfl ?_)
    ·
      replace hf := ms_iF c1 hf
      refine lv_iload_n hx hb dX12_stepsIn_7 rfl (lv_at hl 3 rfl) (hp_n (n := 8) rfl ?_)
      obtain ⟨rh2, qh2, hf⟩ := ms_bE hf
      refine m_cp (pc' := 11) B (hp_runS (As := [.int a3]) (rest := []) C B (m_X12_part0 n Γ l α a3 rh2 qh2) lb_X12_part0 ls_X12_part0 lk_X12_128 rfl (by omega) rfl hl.1 rfl (Nat.le_of_ble_eq_true rfl) dX12_stepsIn_8 ⟨Nat.le_refl _, Nat.le_refl _⟩) rfl (fun Hh2 Lh2 Bh2 => ?_)
      refine lv_istore (lv' := [(4, .int rh2), (0, .ref a0), (1, .int a1), (2, .int a2), (3, .int a3)]) hx hb dX12_stepsIn_11 hl (by decide) rfl (fun ls hl => hp_n (n := 13) rfl ?_)
      refine lv_iload_n hx hb dX12_stepsIn_13 rfl (lv_at hl 3 rfl) (hp_n (n := 14) rfl ?_)
      refine lv_iload hx hb dX12_stepsIn_14 (lv_at hl 0 rfl) (hp_n (n := 16) rfl ?_)
      have J43 : ∀ (αh3 : hp_T) (Hh3 : Heap) (Lh3 : List Loc) (Bh3 : hp_B Γ mo s α αh3 Hh3 Lh3) (σh3 : ms_T) (Mh3 : hm_M αh3 a0 ρ σh3) (v2_h3 : Int32) (v4_h3 : Int32) (w0_h3 : Int32) (ls : Array Slot) (hl : lv_has ls 6 [(0, .ref a0), (2, .int v2_h3), (4, .int v4_h3)]) (hf : f_X12_stepsIn_J43 n (f_X12_stepsIn n d) σh3 v2_h3 v4_h3 w0_h3 = some res), W p l e (hp_rm (d + 1 + 1) 0 0) s m ([.ref a0, .int a1, .int a2, .int a3] : List Value).toArray below meth c Hh3 Lh3 0 0 (MQ below (hp_Qi Γ (fun r β => r = res.1 ∧ mo α β ∧ hm_M β a0 ρ res.2)) ([.ref a0, .int a1, .int a2, .int a3] : List Value).toArray s 0 0 (hp_A Γ)) (F0 m 43 ls [.int w0_h3]) := by
        intro αh3 Hh3 Lh3 Bh3 σh3 Mh3 v2_h3 v4_h3 w0_h3 ls hl hf
        unfold f_X12_stepsIn_J43 at hf
        refine lv_istore (lv' := [(5, .int w0_h3), (0, .ref a0), (2, .int v2_h3), (4, .int v4_h3)]) hx hb dX12_stepsIn_43 hl (by decide) rfl (fun ls hl => hp_n (n := 45) rfl ?_)
        refine lv_aload_n hx hb dX12_stepsIn_45 rfl (lv_at hl 1 rfl) (hp_n (n := 46) rfl ?_)
        refine m_getr (κ := 51) (k := 36) (pc' := 49) C Bh3 Mh3 fl_X12_76 rfl (by decide) dX12_stepsIn_46 rfl ?_
        refine lv_aload_n hx hb dX12_stepsIn_49 rfl (lv_at hl 1 rfl) (hp_n (n := 50) rfl ?_)
        refine m_geti (k := 39) (φ := 689) (pc' := 53) C Bh3 Mh3 fl_X12_411 rfl rfl dX12_stepsIn_50 rfl ?_
        refine lv_iload_n hx hb dX12_stepsIn_53 rfl (lv_at hl 2 rfl) (hp_n (n := 54) rfl ?_)
        refine lv_iload hx hb dX12_stepsIn_54 (lv_at hl 3 rfl) (hp_n (n := 56) rfl ?_)
        have J73 : ∀ (αh4 : hp_T) (Hh4 : Heap) (Lh4 : List Loc) (Bh4 : hp_B Γ mo s α αh4 Hh4 Lh4) (σh4 : ms_T) (Mh4 : hm_M αh4 a0 ρ σh4) (v2_h4 : Int32) (v4_h4 : Int32) (v5_h4 : Int32) (w0_h4 : Int32) (w1_h4 : Int32) (ls : Array Slot) (hl : lv_has ls 6 [(0, .ref a0), (2, .int v2_h4), (4, .int v4_h4), (5, .int v5_h4)]) (hf : f_X12_stepsIn_J73 n (f_X12_stepsIn n d) σh4 v2_h4 v4_h4 v5_h4 w0_h4 w1_h4 = some res), W p l e (hp_rm (d + 1 + 1) 0 0) s m ([.ref a0, .int a1, .int a2, .int a3] : List Value).toArray below meth c Hh4 Lh4 0 0 (MQ below (hp_Qi Γ (fun r β => r = res.1 ∧ mo α β ∧ hm_M β a0 ρ res.2)) ([.ref a0, .int a1, .int a2, .int a3] : List Value).toArray s 0 0 (hp_A Γ)) (F0 m 73 ls [.int w0_h4, .int w1_h4, .ref (ρ 51)]) := by
          intro αh4 Hh4 Lh4 Bh4 σh4 Mh4 v2_h4 v4_h4 v5_h4 w0_h4 w1_h4 ls hl hf
          unfold f_X12_stepsIn_J73 at hf
          obtain ⟨g5, hf⟩ := ms_gE hf
          refine m_ias (κ := 51) (φ := 686) (n := 64) (pc' := 74) C Bh4 Mh4 (by decide) (by decide) rfl g5 dX12_stepsIn_73 rfl (fun αh6 Hh6 Lh6 σh6 eh6 Bh6 Mh6 => ?_)
          replace hf := ms_lE eh6 hf
          refine lv_aload_n hx hb dX12_stepsIn_74 rfl (lv_at hl 0 rfl) (hp_n (n := 75) rfl ?_)
          refine m_getr (κ := 52) (k := 37) (pc' := 78) C Bh6 Mh6 fl_X12_79 rfl (by decide) dX12_stepsIn_75 rfl ?_
          refine lv_aload_n hx hb dX12_stepsIn_78 rfl (lv_at hl 0 rfl) (hp_n (n := 79) rfl ?_)
          refine m_geti (k := 39) (φ := 689) (pc' := 82) C Bh6 Mh6 fl_X12_411 rfl rfl dX12_stepsIn_79 rfl ?_
          refine lv_iload_n hx hb dX12_stepsIn_82 rfl (lv_at hl 1 rfl) (hp_n (n := 83) rfl ?_)
          refine lv_iload hx hb dX12_stepsIn_83 (lv_at hl 2 rfl) (hp_n (n := 85) rfl ?_)
          have J102 : ∀ (αh7 : hp_T) (Hh7 : Heap) (Lh7 : List Loc) (Bh7 : hp_B Γ mo s α αh7 Hh7 Lh7) (σh7 : ms_T) (Mh7 : hm_M αh7 a0 ρ σh7) (w0_h7 : Int32) (w1_h7 : Int32) (ls : Array Slot) (hl : lv_has ls 6 [(0, .ref a0)]) (hf : f_X12_stepsIn_J102 n (f_X12_stepsIn n d) σh7 w0_h7 w1_h7 = some res), W p l e (hp_rm (d + 1 + 1) 0 0) s m ([.ref a0, .int a1, .int a2, .int a3] : List Value).toArray below meth c Hh7 Lh7 0 0 (MQ below (hp_Qi Γ (fun r β => r = res.1 ∧ mo α β ∧ hm_M β a0 ρ res.2)) ([.ref a0, .int a1, .int a2, .int a3] : List Value).toArray s 0 0 (hp_A Γ)) (F0 m 102 ls [.int w0_h7, .int w1_h7, .ref (ρ 52)]) := by
            intro αh7 Hh7 Lh7 Bh7 σh7 Mh7 w0_h7 w1_h7 ls hl hf
            unfold f_X12_stepsIn_J102 at hf
            obtain ⟨g8, hf⟩ := ms_gE hf
            refine m_ias (κ := 52) (φ := 687) (n := 64) (pc' := 103) C Bh7 Mh7 (by decide) (by decide) rfl g8 dX12_stepsIn_102 rfl (fun αh9 Hh9 Lh9 σh9 eh9 Bh9 Mh9 => ?_)
            replace hf := ms_lE eh9 hf
            refine lv_aload_n hx hb dX12_stepsIn_103 rfl (lv_at hl 0 rfl) (hp_n (n := 104) rfl ?_)
            refine m_getr (κ := 53) (k := 38) (pc' := 107) C Bh9 Mh9 fl_X12_82 rfl (by decide) dX12_stepsIn_104 rfl ?_
            refine lv_aload_n hx hb dX12_stepsIn_107 rfl (lv_at hl 0 rfl) (hp_n (n := 108) rfl ?_)
            refine m_geti (k := 39) (φ := 689) (pc' := 111) C Bh9 Mh9 fl_X12_411 rfl rfl dX12_stepsIn_108 rfl ?_
            refine lv_aload_n hx hb dX12_stepsIn_111 rfl (lv_at hl 0 rfl) (hp_n (n := 112) rfl ?_)
            refine lv_aload_n hx hb dX12_stepsIn_112 rfl (lv_at hl 0 rfl) (hp_n (n := 113) rfl ?_)
            refine m_getr (κ := 51) (k := 36) (pc' := 116) C Bh9 Mh9 fl_X12_76 rfl (by decide) dX12_stepsIn_113 rfl ?_
            refine lv_aload_n hx hb dX12_stepsIn_116 rfl (lv_at hl 0 rfl) (hp_n (n := 117) rfl ?_)
            refine m_geti (k := 39) (φ := 689) (pc' := 120) C Bh9 Mh9 fl_X12_411 rfl rfl dX12_stepsIn_117 rfl ?_
            obtain ⟨g10, hf⟩ := ms_gE hf
            refine m_ial (κ := 51) (φ := 686) (n := 64) (pc' := 121) C Bh9 Mh9 (by decide) (by decide) rfl g10 dX12_stepsIn_120 rfl ?_
            refine lv_aload_n hx hb dX12_stepsIn_121 rfl (lv_at hl 0 rfl) (hp_n (n := 122) rfl ?_)
            refine m_getr (κ := 52) (k := 37) (pc' := 125) C Bh9 Mh9 fl_X12_79 rfl (by decide) dX12_stepsIn_122 rfl ?_
            refine lv_aload_n hx hb dX12_stepsIn_125 rfl (lv_at hl 0 rfl) (hp_n (n := 126) rfl ?_)
            refine m_geti (k := 39) (φ := 689) (pc' := 129) C Bh9 Mh9 fl_X12_411 rfl rfl dX12_stepsIn_126 rfl ?_
            obtain ⟨g11, hf⟩ := ms_gE hf
            refine m_ial (κ := 52) (φ := 687) (n := 64) (pc' := 130) C Bh9 Mh9 (by decide) (by decide) rfl g11 dX12_stepsIn_129 rfl ?_
            obtain ⟨rh12, qh12, hf⟩ := ms_bE hf
            refine m_cp (pc' := 133) Bh9 (hp_runV (As := [.int (ms_E σh9 51 ((ms_I σh9 689)).toNatClampNeg), .int (ms_E σh9 52 ((ms_I σh9 689)).toNatClampNeg)]) (rest := [.int (ms_I σh9 689), .ref (ρ 53)]) C Bh9 (m_X12_both n Γ l αh9 a0 ρ σh9 Mh9 (ms_E σh9 51 ((ms_I σh9 689)).toNatClampNeg) (ms_E σh9 52 ((ms_I σh9 689)).toNatClampNeg) rh12 qh12) lb_X12_both lv_X12_both lk_X12_136 Mh9.1 rfl (by omega) rfl hl.1 rfl (Nat.le_of_ble_eq_true rfl) dX12_stepsIn_130 ⟨Nat.le_refl _, Nat.le_refl _⟩) rfl (fun Hh12 Lh12 Bh12 => ?_)
            obtain ⟨g13, hf⟩ := ms_gE hf
            refine m_ias (κ := 53) (φ := 688) (n := 64) (pc' := 134) C Bh12 Mh9 (by decide) (by decide) rfl g13 dX12_stepsIn_133 rfl (fun αh14 Hh14 Lh14 σh14 eh14 Bh14 Mh14 => ?_)
            replace hf := ms_lE eh14 hf
            refine lv_aload_n hx hb dX12_stepsIn_134 rfl (lv_at hl 0 rfl) (hp_n (n := 135) rfl ?_)
            refine lv_dup hx hb dX12_stepsIn_135 rfl (hp_n (n := 136) rfl ?_)
            refine m_geti (k := 39) (φ := 689) (pc' := 139) C Bh14 Mh14 fl_X12_411 rfl rfl dX12_stepsIn_136 rfl ?_
            refine lv_iconst (v := 1) hx hb dX12_stepsIn_139 (by decide) (hp_n (n := 140) rfl ?_)
            refine lv_iadd hx hb dX12_stepsIn_140 (hp_n (n := 141) rfl ?_)
            refine m_puti (k := 39) (φ := 689) (pc' := 144) C Bh14 Mh14 fl_X12_411 rfl rfl rfl rfl rfl dX12_stepsIn_141 rfl (fun αh15 Hh15 Lh15 σh15 eh15 Bh15 Mh15 => ?_)
            replace hf := ms_lE eh15 hf
            refine lv_aload_n hx hb dX12_stepsIn_144 rfl (lv_at hl 0 rfl) (hp_n (n := 145) rfl ?_)
            refine m_getr (κ := 53) (k := 38) (pc' := 148) C Bh15 Mh15 fl_X12_82 rfl (by decide) dX12_stepsIn_145 rfl ?_
            refine lv_aload_n hx hb dX12_stepsIn_148 rfl (lv_at hl 0 rfl) (hp_n (n := 149) rfl ?_)
            refine m_geti (k := 39) (φ := 689) (pc' := 152) C Bh15 Mh15 fl_X12_411 rfl rfl dX12_stepsIn_149 rfl ?_
            refine lv_iconst (v := 1) hx hb dX12_stepsIn_152 (by decide) (hp_n (n := 153) rfl ?_)
            refine lv_isub hx hb dX12_stepsIn_153 (hp_n (n := 154) rfl ?_)
            obtain ⟨g16, hf⟩ := ms_gE hf
            refine m_ial (κ := 53) (φ := 688) (n := 64) (pc' := 155) C Bh15 Mh15 (by decide) (by decide) rfl g16 dX12_stepsIn_154 rfl ?_
            cases hf
            exact q_iret C Bh15 hr hlk ⟨rfl, Bh15.2.2, Mh15⟩ dX12_stepsIn_155
          refine lv_icmp_ge (tgt := 100) hx hb dX12_stepsIn_85 (by decide) (fun c17 => ?_) (fun c17 => hp_n (n := 88) rfl ?_)
          ·
            replace hf := ms_iT c17 hf
            refine lv_iload hx hb dX12_stepsIn_100 (lv_at hl 3 rfl) (hp_n (n := 102) rfl ?_)
            exact J102 αh6 Hh6 Lh6 Bh6 σh6 Mh6 v5_h4 (ms_I σh6 689) ls (lv_sub hl [0] rfl) hf
          ·
            replace hf := ms_iF c17 hf
            refine lv_aload_n hx hb dX12_stepsIn_88 rfl (lv_at hl 0 rfl) (hp_n (n := 89) rfl ?_)
            refine m_getr (κ := 44) (k := 6) (pc' := 92) C Bh6 Mh6 fl_X12_22 rfl (by decide) dX12_stepsIn_89 rfl ?_
            refine lv_aload_n hx hb dX12_stepsIn_92 rfl (lv_at hl 0 rfl) (hp_n (n := 93) rfl ?_)
            refine m_geti (k := 39) (φ := 689) (pc' := 96) C Bh6 Mh6 fl_X12_411 rfl rfl dX12_stepsIn_93 rfl ?_
            obtain ⟨g18, hf⟩ := ms_gE hf
            refine m_ial (κ := 44) (φ := 656) (n := 128) (pc' := 97) C Bh6 Mh6 (by decide) (by decide) rfl g18 dX12_stepsIn_96 rfl ?_
            refine lv_goto (tgt := 102) hx hb dX12_stepsIn_97 (by decide) ?_
            exact J102 αh6 Hh6 Lh6 Bh6 σh6 Mh6 (ms_E σh6 44 ((ms_I σh6 689)).toNatClampNeg) (ms_I σh6 689) ls (lv_sub hl [0] rfl) hf
        refine lv_icmp_ge (tgt := 64) hx hb dX12_stepsIn_56 (by decide) (fun c19 => ?_) (fun c19 => hp_n (n := 59) rfl ?_)
        ·
          replace hf := ms_iT c19 hf
          refine lv_aload_n hx hb dX12_stepsIn_64 rfl (lv_at hl 1 rfl) (hp_n (n := 65) rfl ?_)
          refine m_getr (κ := 44) (k := 6) (pc' := 68) C Bh3 Mh3 fl_X12_22 rfl (by decide) dX12_stepsIn_65 rfl ?_
          refine lv_aload_n hx hb dX12_stepsIn_68 rfl (lv_at hl 1 rfl) (hp_n (n := 69) rfl ?_)
          refine m_geti (k := 39) (φ := 689) (pc' := 72) C Bh3 Mh3 fl_X12_411 rfl rfl dX12_stepsIn_69 rfl ?_
          obtain ⟨g20, hf⟩ := ms_gE hf
          refine m_ial (κ := 44) (φ := 656) (n := 128) (pc' := 73) C Bh3 Mh3 (by decide) (by decide) rfl g20 dX12_stepsIn_72 rfl ?_
          exact J73 αh3 Hh3 Lh3 Bh3 σh3 Mh3 v2_h3 v4_h3 w0_h3 (ms_E σh3 44 ((ms_I σh3 689)).toNatClampNeg) (ms_I σh3 689) ls (lv_sub hl [1, 2, 3, 0] rfl) hf
        ·
          replace hf := ms_iF c19 hf
          refine lv_iload hx hb dX12_stepsIn_59 (lv_at hl 0 rfl) (hp_n (n := 61) rfl ?_)
          refine lv_goto (tgt := 73) hx hb dX12_stepsIn_61 (by decide) ?_
          exact J73 αh3 Hh3 Lh3 Bh3 σh3 Mh3 v2_h3 v4_h3 w0_h3 w0_h3 (ms_I σh3 689) ls (lv_sub hl [1, 2, 3, 0] rfl) hf
      refine lv_icmp_ge (tgt := 30) hx hb dX12_stepsIn_16 (by decide) (fun c21 => ?_) (fun c21 => hp_n (n := 19) rfl ?_)
      ·
        replace hf := ms_iT c21 hf
        refine lv_aload_n hx hb dX12_stepsIn_30 rfl (lv_at hl 1 rfl) (hp_n (n := 31) rfl ?_)
        refine lv_iload_n hx hb dX12_stepsIn_31 rfl (lv_at hl 2 rfl) (hp_n (n := 32) rfl ?_)
        refine lv_iload_n hx hb dX12_stepsIn_32 rfl (lv_at hl 3 rfl) (hp_n (n := 33) rfl ?_)
        refine lv_iload hx hb dX12_stepsIn_33 (lv_at hl 0 rfl) (hp_n (n := 35) rfl ?_)
        refine lv_isub hx hb dX12_stepsIn_35 (hp_n (n := 36) rfl ?_)
        refine lv_iload_n hx hb dX12_stepsIn_36 rfl (lv_at hl 4 rfl) (hp_n (n := 37) rfl ?_)
        refine lv_iload hx hb dX12_stepsIn_37 (lv_at hl 0 rfl) (hp_n (n := 39) rfl ?_)
        refine lv_isub hx hb dX12_stepsIn_39 (hp_n (n := 40) rfl ?_)
        obtain ⟨rh22, σh22, qh22, hf⟩ := ms_cE hf
        refine m_ci (pc' := 43) (a := a0) (ρ := ρ) Bh2 (hp_runV (As := [.int a1, .int (a2 - rh2), .int (a3 - rh2)]) (rest := []) C Bh2 (ihM Γ l α a0 ρ σ hM a1 (a2 - rh2) (a3 - rh2) (rh22, σh22) qh22) lb_X12_stepsIn lv_X12_stepsIn lk_X12_408 hM.1 rfl (by omega) rfl hl.1 rfl (Nat.le_of_ble_eq_true rfl) dX12_stepsIn_40 ⟨Nat.le_refl _, Nat.le_refl _⟩) rfl (fun αh22 Hh22 Lh22 Bh22 Mh22 => ?_)
        exact J43 αh22 Hh22 Lh22 Bh22 σh22 Mh22 a2 rh2 rh22 ls (lv_sub hl [1, 3, 0] rfl) hf
      ·
        replace hf := ms_iF c21 hf
        refine lv_aload_n hx hb dX12_stepsIn_19 rfl (lv_at hl 1 rfl) (hp_n (n := 20) rfl ?_)
        refine lv_iload_n hx hb dX12_stepsIn_20 rfl (lv_at hl 2 rfl) (hp_n (n := 21) rfl ?_)
        refine lv_iload_n hx hb dX12_stepsIn_21 rfl (lv_at hl 3 rfl) (hp_n (n := 22) rfl ?_)
        refine lv_iload hx hb dX12_stepsIn_22 (lv_at hl 0 rfl) (hp_n (n := 24) rfl ?_)
        obtain ⟨rh23, σh23, qh23, hf⟩ := ms_cE hf
        refine m_ci (pc' := 27) (a := a0) (ρ := ρ) Bh2 (hp_runV (As := [.int a1, .int a2, .int rh2]) (rest := []) C Bh2 (ihM Γ l α a0 ρ σ hM a1 a2 rh2 (rh23, σh23) qh23) lb_X12_stepsIn lv_X12_stepsIn lk_X12_408 hM.1 rfl (by omega) rfl hl.1 rfl (Nat.le_of_ble_eq_true rfl) dX12_stepsIn_24 ⟨Nat.le_refl _, Nat.le_refl _⟩) rfl (fun αh23 Hh23 Lh23 Bh23 Mh23 => ?_)
        refine lv_goto (tgt := 43) hx hb dX12_stepsIn_27 (by decide) ?_
        exact J43 αh23 Hh23 Lh23 Bh23 σh23 Mh23 a2 rh2 rh23 ls (lv_sub hl [1, 3, 0] rfl) hf
    ·
      replace hf := ms_iT c1 hf
      refine lv_iload_n hx hb dX12_stepsIn_5 rfl (lv_at hl 1 rfl) (hp_n (n := 6) rfl ?_)
      cases hf
      exact q_iret C B hr hlk ⟨rfl, B.2.2, hM⟩ dX12_stepsIn_6
end JN6_1
section JN6_2
def f_X12_clash_J301 (n : Nat) (rec172 : ms_T → Int32 → Int32 → Option (Int32 × ms_T)) (σh23 : ms_T) (v5_h23 : Int32) (v6_h23 : Int32) : Option (Int32 × ms_T) :=
  ms_l (v6_h23 + 1) fun x24 =>
  rec172 σh23 v5_h23 x24
def f_X12_clash_J235 (n : Nat) (σh28 : ms_T) (v5_h28 : Int32) (v6_h28 : Int32) : Option (Int32 × ms_T) :=
  if v5_h28 = 0 then
    some (v6_h28, σh28)
  else
    if v5_h28 = (1 : Int32) then
      ms_g v6_h28 64 <|
      some ((ms_E σh28 51 (v6_h28).toNatClampNeg), σh28)
    else
      if v5_h28 = (2 : Int32) then
        ms_g v6_h28 64 <|
        some ((ms_E σh28 52 (v6_h28).toNatClampNeg), σh28)
      else
        if v5_h28 = (3 : Int32) then
          ms_g v6_h28 64 <|
          some ((ms_E σh28 54 (v6_h28).toNatClampNeg), σh28)
        else
          ms_g v6_h28 64 <|
          some ((ms_E σh28 55 (v6_h28).toNatClampNeg), σh28)
def f_X12_clash_L172 (n : Nat) : Nat → ms_T → Int32 → Int32 → Option (Int32 × ms_T)
  | 0, _, _, _ => none
  | k172 + 1, σh18, v5_h18, v6_h18 =>
    if (ms_I σh18 689) ≤ v6_h18 then
      ms_c (f_X12_refuse n σh18 (5 : Int32)) fun rh20 σh20 =>
      some (rh20, σh20)
    else
      ms_g v6_h18 64 <|
      ms_g v6_h18 64 <|
      if (ms_E σh18 53 (v6_h18).toNatClampNeg) = (ms_E σh18 56 (v6_h18).toNatClampNeg) then
        ms_g v6_h18 64 <|
        ms_g v6_h18 64 <|
        if (ms_E σh18 51 (v6_h18).toNatClampNeg) = (ms_E σh18 54 (v6_h18).toNatClampNeg) then
          ms_g v6_h18 64 <|
          ms_g v6_h18 64 <|
          if (ms_E σh18 52 (v6_h18).toNatClampNeg) = (ms_E σh18 55 (v6_h18).toNatClampNeg) then
            f_X12_clash_J301 n (f_X12_clash_L172 n k172) σh18 v5_h18 v6_h18
          else
            f_X12_clash_J235 n σh18 v5_h18 v6_h18
        else
          f_X12_clash_J235 n σh18 v5_h18 v6_h18
      else
        f_X12_clash_J301 n (f_X12_clash_L172 n k172) σh18 v5_h18 v6_h18
def f_X12_clash_L83 (n : Nat) : Nat → ms_T → Int32 → Int32 → Int32 → Int32 → Int32 → Option (Int32 × ms_T)
  | 0, _, _, _, _, _, _ => none
  | k83 + 1, σh11, v1_h11, v2_h11, v3_h11, v5_h11, v6_h11 =>
    if (ms_I σh11 689) ≤ v6_h11 then
      ms_b (f_X12_inclusion n σh11 v2_h11 v3_h11) fun σh13 =>
      ms_b (f_X12_fetches n σh13 v1_h11) fun σh14 =>
      ms_l (ms_sI σh14 689 (0 : Int32)) fun σh15 =>
      ms_b (f_X12_entryMark n σh15 v1_h11 v2_h11) fun rh16 =>
      ms_c (f_X12_stepsIn n 40 σh15 rh16 v2_h11 v3_h11) fun rh17 σh17 =>
      f_X12_clash_L172 n n σh17 v5_h11 (0 : Int32)
    else
      ms_g v6_h11 64 <|
      ms_g v6_h11 64 <|
      ms_l (ms_sE σh11 54 (v6_h11).toNatClampNeg (ms_E σh11 51 (v6_h11).toNatClampNeg)) fun σh43 =>
      ms_g v6_h11 64 <|
      ms_g v6_h11 64 <|
      ms_l (ms_sE σh43 55 (v6_h11).toNatClampNeg (ms_E σh43 52 (v6_h11).toNatClampNeg)) fun σh46 =>
      ms_g v6_h11 64 <|
      ms_g v6_h11 64 <|
      ms_l (ms_sE σh46 56 (v6_h11).toNatClampNeg (ms_E σh46 53 (v6_h11).toNatClampNeg)) fun σh49 =>
      ms_l (v6_h11 + 1) fun x50 =>
      (f_X12_clash_L83 n k83) σh49 v1_h11 v2_h11 v3_h11 v5_h11 x50
def f_X12_clash_J31 (n : Nat) (σh2 : ms_T) (v1_h2 : Int32) (v2_h2 : Int32) (v3_h2 : Int32) (v4_h2 : Int32) (v5_h2 : Int32) (w0_h2 : Int32) : Option (Int32 × ms_T) :=
  ms_c (f_X12_is n σh2 w0_h2) fun rh3 σh3 =>
  if rh3 = 0 then
    some ((-1 : Int32), σh3)
  else
    ms_c (f_X12_fromPad n σh3) fun rh5 σh5 =>
    ms_b (f_X12_headOf n σh5 v1_h2 v3_h2) fun rh6 =>
    ms_c (f_X12_whyIn n σh5 rh5 v4_h2 v2_h2 v3_h2 rh6) fun rh7 σh7 =>
    if rh7 ≤ 0 then
      ms_l (ms_sI σh7 689 (0 : Int32)) fun σh9 =>
      ms_c (f_X12_stepsIn n 40 σh9 v4_h2 v2_h2 v3_h2) fun rh10 σh10 =>
      f_X12_clash_L83 n n σh10 v1_h2 v2_h2 v3_h2 v5_h2 (0 : Int32)
    else
      ms_c (f_X12_refuse n σh7 (5 : Int32)) fun rh51 σh51 =>
      some (rh51, σh51)
def f_X12_clash_J20 (n : Nat) (σh52 : ms_T) (v1_h52 : Int32) (v2_h52 : Int32) (v3_h52 : Int32) (v4_h52 : Int32) (v5_h52 : Int32) : Option (Int32 × ms_T) :=
  f_X12_clash_J31 n σh52 v1_h52 v2_h52 v3_h52 v4_h52 v5_h52 (1 : Int32)
def f_X12_clash (n : Nat) (σ : ms_T) (a1 : Int32) (a2 : Int32) (a3 : Int32) (a4 : Int32) (a5 : Int32) : Option (Int32 × ms_T) :=
  ms_b (f_X12_isIn n a5 (0 : Int32) (4 : Int32)) fun rh1 =>
  if rh1 = 0 then
    f_X12_clash_J20 n σ a1 a2 a3 a4 a5
  else
    ms_b (f_X12_isMark n σ a4) fun rh54 =>
    if rh54 = 0 then
      f_X12_clash_J20 n σ a1 a2 a3 a4 a5
    else
      ms_b (f_X12_noEntry n σ a1 a2 a3) fun rh56 =>
      f_X12_clash_J31 n σ a1 a2 a3 a4 a5 rh56
set_option maxRecDepth 100000 in
set_option maxHeartbeats 4000000 in
theorem m_X12_clash (n : Nat) (Γ : hp_G) (l : Launch) (α : hp_T) (a0 : Nat) (ρ : Nat → Nat) (σ : ms_T) (hM : hm_M α a0 ρ σ) (a1 : Int32) (a2 : Int32) (a3 : Int32) (a4 : Int32) (a5 : Int32) (res : (Int32 × ms_T)) (hf : f_X12_clash n σ a1 a2 a3 a4 a5 = some res) : Met l yX12_clash (hp_ws yX12_clash cX12_clash 7 (some .int)) (hp_rm 44 0 0) (hp_Pc Γ α [.ref a0, .int a1, .int a2, .int a3, .int a4, .int a5]) (hp_Qi Γ (fun r β => r = res.1 ∧ mo α β ∧ hm_M β a0 ρ res.2)) 0 0 (hp_A Γ) := by
  unfold f_X12_clash at hf
  refine hp_start (by decide) ?_
  intro p e s m below meth c C hr hlk B0 hnm
  have C : hp_C Γ p m c cX12_clash 7 s ([.ref a0, .int a1, .int a2, .int a3, .int a4, .int a5] : List Value).toArray RX12 := C
  have hx := C.1.1
  have hb := C.1.2.1
  have hown := C.1.2.2.2.1
  have hts := C.1.2.2.2.2
  have B : hp_B Γ mo s α α s.heap [] := ⟨B0.1, B0.2.1, mo_rf⟩
  have hl := lv_entry ([.ref a0, .int a1, .int a2, .int a3, .int a4, .int a5]) (n := 7) (Nat.le_of_ble_eq_true rfl)
  show W p l e (hp_rm 44 0 0) s m ([.ref a0, .int a1, .int a2, .int a3, .int a4, .int a5] : List Value).toArray below meth c s.heap [] 0 0 (MQ below (hp_Qi Γ (fun r β => r = res.1 ∧ mo α β ∧ hm_M β a0 ρ res.2)) ([.ref a0, .int a1, .int a2, .int a3, .int a4, .int a5] : List Value).toArray s 0 0 (hp_A Γ)) (entryFrame m ([.ref a0, .int a1, .int a2, .int a3, .int a4, .int a5] : List Value).toArray 7)
  rw [lg_entry_eq]
  generalize (lg_sl ([.ref a0, .int a1, .int a2, .int a3, .int a4, .int a5]) ++ List.replicate (7 - (lg_sl ([.ref a0, .int a1, .int a2, .int a3, .int a4, .int a5])).length) Slot.unset).toArray = ls at hl ⊢
  have hl : lv_has ls 7 [(0, .ref a0), (1, .int a1), (2, .int a2), (3, .int a3), (4, .int a4), (5, .int a5)] := hl
  refine lv_aload_n hx hb dX12_clash_0 rfl (lv_at hl 0 rfl) (hp_n (n := 1) rfl ?_)
  refine lv_iload hx hb dX12_clash_1 (lv_at hl 5 rfl) (hp_n (n := 3) rfl ?_)
  refine lv_iconst (v := 0) hx hb dX12_clash_3 (by decide) (hp_n (n := 4) rfl ?_)
  refine lv_iconst (v := 4) hx hb dX12_clash_4 (by decide) (hp_n (n := 5) rfl ?_)
  obtain ⟨rh1, qh1, hf⟩ := ms_bE hf
  refine m_cp (pc' := 8) B (hp_runS (As := [.int a5, .int (0 : Int32), .int (4 : Int32)]) (rest := [.ref a0]) C B (m_X12_isIn n Γ l α a5 (0 : Int32) (4 : Int32) rh1 qh1) lb_X12_isIn ls_X12_isIn lk_X12_113 rfl (by decide) rfl hl.1 rfl (Nat.le_of_ble_eq_true rfl) dX12_clash_5 ⟨Nat.le_refl _, Nat.le_refl _⟩) rfl (fun Hh1 Lh1 Bh1 => ?_)
  have J31 : ∀ (αh2 : hp_T) (Hh2 : Heap) (Lh2 : List Loc) (Bh2 : hp_B Γ mo s α αh2 Hh2 Lh2) (σh2 : ms_T) (Mh2 : hm_M αh2 a0 ρ σh2) (v1_h2 : Int32) (v2_h2 : Int32) (v3_h2 : Int32) (v4_h2 : Int32) (v5_h2 : Int32) (w0_h2 : Int32) (ls : Array Slot) (hl : lv_has ls 7 [(0, .ref a0), (1, .int v1_h2), (2, .int v2_h2), (3, .int v3_h2), (4, .int v4_h2), (5, .int v5_h2)]) (hf : f_X12_clash_J31 n σh2 v1_h2 v2_h2 v3_h2 v4_h2 v5_h2 w0_h2 = some res), W p l e (hp_rm 44 0 0) s m ([.ref a0, .int a1, .int a2, .int a3, .int a4, .int a5] : List Value).toArray below meth c Hh2 Lh2 0 0 (MQ below (hp_Qi Γ (fun r β => r = res.1 ∧ mo α β ∧ hm_M β a0 ρ res.2)) ([.ref a0, .int a1, .int a2, .int a3, .int a4, .int a5] : List Value).toArray s 0 0 (hp_A Γ)) (F0 m 31 ls [.int w0_h2, .ref a0]) := by
    intro αh2 Hh2 Lh2 Bh2 σh2 Mh2 v1_h2 v2_h2 v3_h2 v4_h2 v5_h2 w0_h2 ls hl hf
    unfold f_X12_clash_J31 at hf
    obtain ⟨rh3, σh3, qh3, hf⟩ := ms_cE hf
    refine m_ci (pc' := 34) (a := a0) (ρ := ρ) Bh2 (hp_runV (As := [.int w0_h2]) (rest := []) C Bh2 (m_X12_is n Γ l αh2 a0 ρ σh2 Mh2 w0_h2 (rh3, σh3) qh3) lb_X12_is lv_X12_is lk_X12_309 Mh2.1 rfl (by decide) rfl hl.1 rfl (Nat.le_of_ble_eq_true rfl) dX12_clash_31 ⟨Nat.le_refl _, Nat.le_refl _⟩) rfl (fun αh3 Hh3 Lh3 Bh3 Mh3 => ?_)
    refine lv_if_ne (tgt := 39) hx hb dX12_clash_34 (by decide) (fun c4 => ?_) (fun c4 => hp_n (n := 37) rfl ?_)
    ·
      replace hf := ms_iF c4 hf
      refine lv_aload_n hx hb dX12_clash_39 rfl (lv_at hl 0 rfl) (hp_n (n := 40) rfl ?_)
      refine lv_aload_n hx hb dX12_clash_40 rfl (lv_at hl 0 rfl) (hp_n (n := 41) rfl ?_)
      obtain ⟨rh5, σh5, qh5, hf⟩ := ms_cE hf
      refine m_ci (pc' := 44) (a := a0) (ρ := ρ) Bh3 (hp_runV (As := []) (rest := [.ref a0]) C Bh3 (m_X12_fromPad n Γ l αh3 a0 ρ σh3 Mh3  (rh5, σh5) qh5) lb_X12_fromPad lv_X12_fromPad lk_X12_384 Mh3.1 rfl (by decide) rfl hl.1 rfl (Nat.le_of_ble_eq_true rfl) dX12_clash_41 ⟨Nat.le_refl _, Nat.le_refl _⟩) rfl (fun αh5 Hh5 Lh5 Bh5 Mh5 => ?_)
      refine lv_iload hx hb dX12_clash_44 (lv_at hl 4 rfl) (hp_n (n := 46) rfl ?_)
      refine lv_iload_n hx hb dX12_clash_46 rfl (lv_at hl 2 rfl) (hp_n (n := 47) rfl ?_)
      refine lv_iload_n hx hb dX12_clash_47 rfl (lv_at hl 3 rfl) (hp_n (n := 48) rfl ?_)
      refine lv_aload_n hx hb dX12_clash_48 rfl (lv_at hl 0 rfl) (hp_n (n := 49) rfl ?_)
      refine lv_iload_n hx hb dX12_clash_49 rfl (lv_at hl 1 rfl) (hp_n (n := 50) rfl ?_)
      refine lv_iload_n hx hb dX12_clash_50 rfl (lv_at hl 3 rfl) (hp_n (n := 51) rfl ?_)
      obtain ⟨rh6, qh6, hf⟩ := ms_bE hf
      refine m_cp (pc' := 54) Bh5 (hp_runV (As := [.int v1_h2, .int v3_h2]) (rest := [.int v3_h2, .int v2_h2, .int v4_h2, .int rh5, .ref a0]) C Bh5 (m_X12_headOf n Γ l αh5 a0 ρ σh5 Mh5 v1_h2 v3_h2 rh6 qh6) lb_X12_headOf lv_X12_headOf lk_X12_215 Mh5.1 rfl (by decide) rfl hl.1 rfl (Nat.le_of_ble_eq_true rfl) dX12_clash_51 ⟨Nat.le_refl _, Nat.le_refl _⟩) rfl (fun Hh6 Lh6 Bh6 => ?_)
      obtain ⟨rh7, σh7, qh7, hf⟩ := ms_cE hf
      refine m_ci (pc' := 57) (a := a0) (ρ := ρ) Bh6 (hp_runV (As := [.int rh5, .int v4_h2, .int v2_h2, .int v3_h2, .int rh6]) (rest := []) C Bh6 (m_X12_whyIn n Γ l αh5 a0 ρ σh5 Mh5 rh5 v4_h2 v2_h2 v3_h2 rh6 (rh7, σh7) qh7) lb_X12_whyIn lv_X12_whyIn lk_X12_332 Mh5.1 rfl (by decide) rfl hl.1 rfl (Nat.le_of_ble_eq_true rfl) dX12_clash_54 ⟨Nat.le_refl _, Nat.le_refl _⟩) rfl (fun αh7 Hh7 Lh7 Bh7 Mh7 => ?_)
      refine lv_if_le (tgt := 66) hx hb dX12_clash_57 (by decide) (fun c8 => ?_) (fun c8 => hp_n (n := 60) rfl ?_)
      ·
        replace hf := ms_iT c8 hf
        refine lv_aload_n hx hb dX12_clash_66 rfl (lv_at hl 0 rfl) (hp_n (n := 67) rfl ?_)
        refine lv_iconst (v := 0) hx hb dX12_clash_67 (by decide) (hp_n (n := 68) rfl ?_)
        refine m_puti (k := 39) (φ := 689) (pc' := 71) C Bh7 Mh7 fl_X12_411 rfl rfl rfl rfl rfl dX12_clash_68 rfl (fun αh9 Hh9 Lh9 σh9 eh9 Bh9 Mh9 => ?_)
        replace hf := ms_lE eh9 hf
        refine lv_aload_n hx hb dX12_clash_71 rfl (lv_at hl 0 rfl) (hp_n (n := 72) rfl ?_)
        refine lv_iload hx hb dX12_clash_72 (lv_at hl 4 rfl) (hp_n (n := 74) rfl ?_)
        refine lv_iload_n hx hb dX12_clash_74 rfl (lv_at hl 2 rfl) (hp_n (n := 75) rfl ?_)
        refine lv_iload_n hx hb dX12_clash_75 rfl (lv_at hl 3 rfl) (hp_n (n := 76) rfl ?_)
        obtain ⟨rh10, σh10, qh10, hf⟩ := ms_cE hf
        refine m_ci (pc' := 79) (a := a0) (ρ := ρ) Bh9 (hp_runV (As := [.int v4_h2, .int v2_h2, .int v3_h2]) (rest := []) C Bh9 (m_X12_stepsIn n 40 Γ l αh9 a0 ρ σh9 Mh9 v4_h2 v2_h2 v3_h2 (rh10, σh10) qh10) lb_X12_stepsIn lv_X12_stepsIn lk_X12_408 Mh9.1 rfl (by decide) rfl hl.1 rfl (Nat.le_of_ble_eq_true rfl) dX12_clash_76 ⟨Nat.le_refl _, Nat.le_refl _⟩) rfl (fun αh10 Hh10 Lh10 Bh10 Mh10 => ?_)
        refine lv_pop hx hb dX12_clash_79 rfl (hp_n (n := 80) rfl ?_)
        refine lv_iconst (v := 0) hx hb dX12_clash_80 (by decide) (hp_n (n := 81) rfl ?_)
        have J83 : ∀ (k83 : Nat) (αh11 : hp_T) (Hh11 : Heap) (Lh11 : List Loc) (Bh11 : hp_B Γ mo s α αh11 Hh11 Lh11) (σh11 : ms_T) (Mh11 : hm_M αh11 a0 ρ σh11) (v1_h11 : Int32) (v2_h11 : Int32) (v3_h11 : Int32) (v5_h11 : Int32) (v6_h11 : Int32) (ls : Array Slot) (hl : lv_has ls 7 [(0, .ref a0), (1, .int v1_h11), (2, .int v2_h11), (3, .int v3_h11), (5, .int v5_h11), (6, .int v6_h11)]) (hf : f_X12_clash_L83 n k83 σh11 v1_h11 v2_h11 v3_h11 v5_h11 v6_h11 = some res), W p l e (hp_rm 44 0 0) s m ([.ref a0, .int a1, .int a2, .int a3, .int a4, .int a5] : List Value).toArray below meth c Hh11 Lh11 0 0 (MQ below (hp_Qi Γ (fun r β => r = res.1 ∧ mo α β ∧ hm_M β a0 ρ res.2)) ([.ref a0, .int a1, .int a2, .int a3, .int a4, .int a5] : List Value).toArray s 0 0 (hp_A Γ)) (F0 m 83 ls []) := by
          intro k83
          induction k83 with
          | zero => intro αh11 Hh11 Lh11 Bh11 σh11 Mh11 v1_h11 v2_h11 v3_h11 v5_h11 v6_h11 ls hl hf; rw [f_X12_clash_L83.eq_1] at hf; cases hf
          | succ k83 ih83 =>
            intro αh11 Hh11 Lh11 Bh11 σh11 Mh11 v1_h11 v2_h11 v3_h11 v5_h11 v6_h11 ls hl hf
            rw [f_X12_clash_L83.eq_2] at hf
            refine lv_iload hx hb dX12_clash_83 (lv_at hl 5 rfl) (hp_n (n := 85) rfl ?_)
            refine lv_aload_n hx hb dX12_clash_85 rfl (lv_at hl 0 rfl) (hp_n (n := 86) rfl ?_)
            refine m_geti (k := 39) (φ := 689) (pc' := 89) C Bh11 Mh11 fl_X12_411 rfl rfl dX12_clash_86 rfl ?_
            refine lv_icmp_ge (tgt := 140) hx hb dX12_clash_89 (by decide) (fun c12 => ?_) (fun c12 => hp_n (n := 92) rfl ?_)
            ·
              replace hf := ms_iT c12 hf
              refine lv_aload_n hx hb dX12_clash_140 rfl (lv_at hl 0 rfl) (hp_n (n := 141) rfl ?_)
              refine lv_iload_n hx hb dX12_clash_141 rfl (lv_at hl 2 rfl) (hp_n (n := 142) rfl ?_)
              refine lv_iload_n hx hb dX12_clash_142 rfl (lv_at hl 3 rfl) (hp_n (n := 143) rfl ?_)
              obtain ⟨σh13, qh13, hf⟩ := ms_bE hf
              refine m_cv (pc' := 146) (a := a0) (ρ := ρ) Bh11 (hp_runV (As := [.int v2_h11, .int v3_h11]) (rest := []) C Bh11 (m_X12_inclusion n Γ l αh11 a0 ρ σh11 Mh11 v2_h11 v3_h11 σh13 qh13) lb_X12_inclusion lv_X12_inclusion lk_X12_171 Mh11.1 rfl (by decide) rfl hl.1 rfl (Nat.le_of_ble_eq_true rfl) dX12_clash_143 ⟨Nat.le_refl _, Nat.le_refl _⟩) rfl (fun αh13 Hh13 Lh13 Bh13 Mh13 => ?_)
              refine lv_aload_n hx hb dX12_clash_146 rfl (lv_at hl 0 rfl) (hp_n (n := 147) rfl ?_)
              refine lv_iload_n hx hb dX12_clash_147 rfl (lv_at hl 1 rfl) (hp_n (n := 148) rfl ?_)
              obtain ⟨σh14, qh14, hf⟩ := ms_bE hf
              refine m_cv (pc' := 151) (a := a0) (ρ := ρ) Bh13 (hp_runV (As := [.int v1_h11]) (rest := []) C Bh13 (m_X12_fetches n Γ l αh13 a0 ρ σh13 Mh13 v1_h11 σh14 qh14) lb_X12_fetches lv_X12_fetches lk_X12_161 Mh13.1 rfl (by decide) rfl hl.1 rfl (Nat.le_of_ble_eq_true rfl) dX12_clash_148 ⟨Nat.le_refl _, Nat.le_refl _⟩) rfl (fun αh14 Hh14 Lh14 Bh14 Mh14 => ?_)
              refine lv_aload_n hx hb dX12_clash_151 rfl (lv_at hl 0 rfl) (hp_n (n := 152) rfl ?_)
              refine lv_iconst (v := 0) hx hb dX12_clash_152 (by decide) (hp_n (n := 153) rfl ?_)
              refine m_puti (k := 39) (φ := 689) (pc' := 156) C Bh14 Mh14 fl_X12_411 rfl rfl rfl rfl rfl dX12_clash_153 rfl (fun αh15 Hh15 Lh15 σh15 eh15 Bh15 Mh15 => ?_)
              replace hf := ms_lE eh15 hf
              refine lv_aload_n hx hb dX12_clash_156 rfl (lv_at hl 0 rfl) (hp_n (n := 157) rfl ?_)
              refine lv_aload_n hx hb dX12_clash_157 rfl (lv_at hl 0 rfl) (hp_n (n := 158) rfl ?_)
              refine lv_iload_n hx hb dX12_clash_158 rfl (lv_at hl 1 rfl) (hp_n (n := 159) rfl ?_)
              refine lv_iload_n hx hb dX12_clash_159 rfl (lv_at hl 2 rfl) (hp_n (n := 160) rfl ?_)
              obtain ⟨rh16, qh16, hf⟩ := ms_bE hf
              refine m_cp (pc' := 163) Bh15 (hp_runV (As := [.int v1_h11, .int v2_h11]) (rest := [.ref a0]) C Bh15 (m_X12_entryMark n Γ l αh15 a0 ρ σh15 Mh15 v1_h11 v2_h11 rh16 qh16) lb_X12_entryMark lv_X12_entryMark lk_X12_125 Mh15.1 rfl (by decide) rfl hl.1 rfl (Nat.le_of_ble_eq_true rfl) dX12_clash_160 ⟨Nat.le_refl _, Nat.le_refl _⟩) rfl (fun Hh16 Lh16 Bh16 => ?_)
              refine lv_iload_n hx hb dX12_clash_163 rfl (lv_at hl 2 rfl) (hp_n (n := 164) rfl ?_)
              refine lv_iload_n hx hb dX12_clash_164 rfl (lv_at hl 3 rfl) (hp_n (n := 165) rfl ?_)
              obtain ⟨rh17, σh17, qh17, hf⟩ := ms_cE hf
              refine m_ci (pc' := 168) (a := a0) (ρ := ρ) Bh16 (hp_runV (As := [.int rh16, .int v2_h11, .int v3_h11]) (rest := []) C Bh16 (m_X12_stepsIn n 40 Γ l αh15 a0 ρ σh15 Mh15 rh16 v2_h11 v3_h11 (rh17, σh17) qh17) lb_X12_stepsIn lv_X12_stepsIn lk_X12_408 Mh15.1 rfl (by decide) rfl hl.1 rfl (Nat.le_of_ble_eq_true rfl) dX12_clash_165 ⟨Nat.le_refl _, Nat.le_refl _⟩) rfl (fun αh17 Hh17 Lh17 Bh17 Mh17 => ?_)
              refine lv_pop hx hb dX12_clash_168 rfl (hp_n (n := 169) rfl ?_)
              refine lv_iconst (v := 0) hx hb dX12_clash_169 (by decide) (hp_n (n := 170) rfl ?_)
              have J172 : ∀ (k172 : Nat) (αh18 : hp_T) (Hh18 : Heap) (Lh18 : List Loc) (Bh18 : hp_B Γ mo s α αh18 Hh18 Lh18) (σh18 : ms_T) (Mh18 : hm_M αh18 a0 ρ σh18) (v5_h18 : Int32) (v6_h18 : Int32) (ls : Array Slot) (hl : lv_has ls 7 [(0, .ref a0), (5, .int v5_h18), (6, .int v6_h18)]) (hf : f_X12_clash_L172 n k172 σh18 v5_h18 v6_h18 = some res), W p l e (hp_rm 44 0 0) s m ([.ref a0, .int a1, .int a2, .int a3, .int a4, .int a5] : List Value).toArray below meth c Hh18 Lh18 0 0 (MQ below (hp_Qi Γ (fun r β => r = res.1 ∧ mo α β ∧ hm_M β a0 ρ res.2)) ([.ref a0, .int a1, .int a2, .int a3, .int a4, .int a5] : List Value).toArray s 0 0 (hp_A Γ)) (F0 m 172 ls []) := by
                intro k172
                induction k172 with
                | zero => intro αh18 Hh18 Lh18 Bh18 σh18 Mh18 v5_h18 v6_h18 ls hl hf; rw [f_X12_clash_L172.eq_1] at hf; cases hf
                | succ k172 ih172 =>
                  intro αh18 Hh18 Lh18 Bh18 σh18 Mh18 v5_h18 v6_h18 ls hl hf
                  rw [f_X12_clash_L172.eq_2] at hf
                  refine lv_iload hx hb dX12_clash_172 (lv_at hl 2 rfl) (hp_n (n := 174) rfl ?_)
                  refine lv_aload_n hx hb dX12_clash_174 rfl (lv_at hl 0 rfl) (hp_n (n := 175) rfl ?_)
                  refine m_geti (k := 39) (φ := 689) (pc' := 178) C Bh18 Mh18 fl_X12_411 rfl rfl dX12_clash_175 rfl ?_
                  refine lv_icmp_ge (tgt := 307) hx hb dX12_clash_178 (by decide) (fun c19 => ?_) (fun c19 => hp_n (n := 181) rfl ?_)
                  ·
                    replace hf := ms_iT c19 hf
                    refine lv_aload_n hx hb dX12_clash_307 rfl (lv_at hl 0 rfl) (hp_n (n := 308) rfl ?_)
                    refine lv_iconst (v := 5) hx hb dX12_clash_308 (by decide) (hp_n (n := 309) rfl ?_)
                    obtain ⟨rh20, σh20, qh20, hf⟩ := ms_cE hf
                    refine m_ci (pc' := 312) (a := a0) (ρ := ρ) Bh18 (hp_runV (As := [.int (5 : Int32)]) (rest := []) C Bh18 (m_X12_refuse n Γ l αh18 a0 ρ σh18 Mh18 (5 : Int32) (rh20, σh20) qh20) lb_X12_refuse lv_X12_refuse lk_X12_212 Mh18.1 rfl (by decide) rfl hl.1 rfl (Nat.le_of_ble_eq_true rfl) dX12_clash_309 ⟨Nat.le_refl _, Nat.le_refl _⟩) rfl (fun αh20 Hh20 Lh20 Bh20 Mh20 => ?_)
                    cases hf
                    exact q_iret C Bh20 hr hlk ⟨rfl, Bh20.2.2, Mh20⟩ dX12_clash_312
                  ·
                    replace hf := ms_iF c19 hf
                    refine lv_aload_n hx hb dX12_clash_181 rfl (lv_at hl 0 rfl) (hp_n (n := 182) rfl ?_)
                    refine m_getr (κ := 53) (k := 38) (pc' := 185) C Bh18 Mh18 fl_X12_82 rfl (by decide) dX12_clash_182 rfl ?_
                    refine lv_iload hx hb dX12_clash_185 (lv_at hl 2 rfl) (hp_n (n := 187) rfl ?_)
                    obtain ⟨g21, hf⟩ := ms_gE hf
                    refine m_ial (κ := 53) (φ := 688) (n := 64) (pc' := 188) C Bh18 Mh18 (by decide) (by decide) rfl g21 dX12_clash_187 rfl ?_
                    refine lv_aload_n hx hb dX12_clash_188 rfl (lv_at hl 0 rfl) (hp_n (n := 189) rfl ?_)
                    refine m_getr (κ := 56) (k := 42) (pc' := 192) C Bh18 Mh18 fl_X12_91 rfl (by decide) dX12_clash_189 rfl ?_
                    refine lv_iload hx hb dX12_clash_192 (lv_at hl 2 rfl) (hp_n (n := 194) rfl ?_)
                    obtain ⟨g22, hf⟩ := ms_gE hf
                    refine m_ial (κ := 56) (φ := 692) (n := 64) (pc' := 195) C Bh18 Mh18 (by decide) (by decide) rfl g22 dX12_clash_194 rfl ?_
                    have J301 : ∀ (αh23 : hp_T) (Hh23 : Heap) (Lh23 : List Loc) (Bh23 : hp_B Γ mo s α αh23 Hh23 Lh23) (σh23 : ms_T) (Mh23 : hm_M αh23 a0 ρ σh23) (v5_h23 : Int32) (v6_h23 : Int32) (ls : Array Slot) (hl : lv_has ls 7 [(0, .ref a0), (5, .int v5_h23), (6, .int v6_h23)]) (hf : f_X12_clash_J301 n (f_X12_clash_L172 n k172) σh23 v5_h23 v6_h23 = some res), W p l e (hp_rm 44 0 0) s m ([.ref a0, .int a1, .int a2, .int a3, .int a4, .int a5] : List Value).toArray below meth c Hh23 Lh23 0 0 (MQ below (hp_Qi Γ (fun r β => r = res.1 ∧ mo α β ∧ hm_M β a0 ρ res.2)) ([.ref a0, .int a1, .int a2, .int a3, .int a4, .int a5] : List Value).toArray s 0 0 (hp_A Γ)) (F0 m 301 ls []) := by
                      intro αh23 Hh23 Lh23 Bh23 σh23 Mh23 v5_h23 v6_h23 ls hl hf
                      unfold f_X12_clash_J301 at hf
                      obtain ⟨x24, ex24⟩ : ∃ y : Int32, y = v6_h23 + 1 := ⟨_, rfl⟩
                      replace hf := ms_lE ex24 hf
                      refine lv_iinc (v := x24) (lv' := [(6, .int x24), (0, .ref a0), (5, .int v5_h23)]) hx hb dX12_clash_301 hl (k := 2) rfl (by rw [ex24]; rfl) (by decide) rfl (fun ls hl => hp_n (n := 304) rfl ?_)
                      refine lv_goto (tgt := 172) hx hb dX12_clash_304 (by decide) ?_
                      exact ih172 αh23 Hh23 Lh23 Bh23 σh23 Mh23 v5_h23 x24 ls (lv_sub hl [1, 2, 0] rfl) hf
                    refine lv_icmp_ne (tgt := 301) hx hb dX12_clash_195 (by decide) (fun c25 => ?_) (fun c25 => hp_n (n := 198) rfl ?_)
                    ·
                      replace hf := ms_iF c25 hf
                      exact J301 αh18 Hh18 Lh18 Bh18 σh18 Mh18 v5_h18 v6_h18 ls (lv_sub hl [0, 1, 2] rfl) hf
                    ·
                      replace hf := ms_iT c25 hf
                      refine lv_aload_n hx hb dX12_clash_198 rfl (lv_at hl 0 rfl) (hp_n (n := 199) rfl ?_)
                      refine m_getr (κ := 51) (k := 36) (pc' := 202) C Bh18 Mh18 fl_X12_76 rfl (by decide) dX12_clash_199 rfl ?_
                      refine lv_iload hx hb dX12_clash_202 (lv_at hl 2 rfl) (hp_n (n := 204) rfl ?_)
                      obtain ⟨g26, hf⟩ := ms_gE hf
                      refine m_ial (κ := 51) (φ := 686) (n := 64) (pc' := 205) C Bh18 Mh18 (by decide) (by decide) rfl g26 dX12_clash_204 rfl ?_
                      refine lv_aload_n hx hb dX12_clash_205 rfl (lv_at hl 0 rfl) (hp_n (n := 206) rfl ?_)
                      refine m_getr (κ := 54) (k := 40) (pc' := 209) C Bh18 Mh18 fl_X12_85 rfl (by decide) dX12_clash_206 rfl ?_
                      refine lv_iload hx hb dX12_clash_209 (lv_at hl 2 rfl) (hp_n (n := 211) rfl ?_)
                      obtain ⟨g27, hf⟩ := ms_gE hf
                      refine m_ial (κ := 54) (φ := 690) (n := 64) (pc' := 212) C Bh18 Mh18 (by decide) (by decide) rfl g27 dX12_clash_211 rfl ?_
                      have J235 : ∀ (αh28 : hp_T) (Hh28 : Heap) (Lh28 : List Loc) (Bh28 : hp_B Γ mo s α αh28 Hh28 Lh28) (σh28 : ms_T) (Mh28 : hm_M αh28 a0 ρ σh28) (v5_h28 : Int32) (v6_h28 : Int32) (ls : Array Slot) (hl : lv_has ls 7 [(0, .ref a0), (5, .int v5_h28), (6, .int v6_h28)]) (hf : f_X12_clash_J235 n σh28 v5_h28 v6_h28 = some res), W p l e (hp_rm 44 0 0) s m ([.ref a0, .int a1, .int a2, .int a3, .int a4, .int a5] : List Value).toArray below meth c Hh28 Lh28 0 0 (MQ below (hp_Qi Γ (fun r β => r = res.1 ∧ mo α β ∧ hm_M β a0 ρ res.2)) ([.ref a0, .int a1, .int a2, .int a3, .int a4, .int a5] : List Value).toArray s 0 0 (hp_A Γ)) (F0 m 235 ls []) := by
                        intro αh28 Hh28 Lh28 Bh28 σh28 Mh28 v5_h28 v6_h28 ls hl hf
                        unfold f_X12_clash_J235 at hf
                        refine lv_iload hx hb dX12_clash_235 (lv_at hl 1 rfl) (hp_n (n := 237) rfl ?_)
                        refine lv_if_ne (tgt := 245) hx hb dX12_clash_237 (by decide) (fun c29 => ?_) (fun c29 => hp_n (n := 240) rfl ?_)
                        ·
                          replace hf := ms_iF c29 hf
                          refine lv_iload hx hb dX12_clash_245 (lv_at hl 1 rfl) (hp_n (n := 247) rfl ?_)
                          refine lv_iconst (v := 1) hx hb dX12_clash_247 (by decide) (hp_n (n := 248) rfl ?_)
                          refine lv_icmp_ne (tgt := 261) hx hb dX12_clash_248 (by decide) (fun c30 => ?_) (fun c30 => hp_n (n := 251) rfl ?_)
                          ·
                            replace hf := ms_iF c30 hf
                            refine lv_iload hx hb dX12_clash_261 (lv_at hl 1 rfl) (hp_n (n := 263) rfl ?_)
                            refine lv_iconst (v := 2) hx hb dX12_clash_263 (by decide) (hp_n (n := 264) rfl ?_)
                            refine lv_icmp_ne (tgt := 277) hx hb dX12_clash_264 (by decide) (fun c31 => ?_) (fun c31 => hp_n (n := 267) rfl ?_)
                            ·
                              replace hf := ms_iF c31 hf
                              refine lv_iload hx hb dX12_clash_277 (lv_at hl 1 rfl) (hp_n (n := 279) rfl ?_)
                              refine lv_iconst (v := 3) hx hb dX12_clash_279 (by decide) (hp_n (n := 280) rfl ?_)
                              refine lv_icmp_ne (tgt := 293) hx hb dX12_clash_280 (by decide) (fun c32 => ?_) (fun c32 => hp_n (n := 283) rfl ?_)
                              ·
                                replace hf := ms_iF c32 hf
                                refine lv_aload_n hx hb dX12_clash_293 rfl (lv_at hl 0 rfl) (hp_n (n := 294) rfl ?_)
                                refine m_getr (κ := 55) (k := 41) (pc' := 297) C Bh28 Mh28 fl_X12_88 rfl (by decide) dX12_clash_294 rfl ?_
                                refine lv_iload hx hb dX12_clash_297 (lv_at hl 2 rfl) (hp_n (n := 299) rfl ?_)
                                obtain ⟨g33, hf⟩ := ms_gE hf
                                refine m_ial (κ := 55) (φ := 691) (n := 64) (pc' := 300) C Bh28 Mh28 (by decide) (by decide) rfl g33 dX12_clash_299 rfl ?_
                                cases hf
                                exact q_iret C Bh28 hr hlk ⟨rfl, Bh28.2.2, Mh28⟩ dX12_clash_300
                              ·
                                replace hf := ms_iT c32 hf
                                refine lv_aload_n hx hb dX12_clash_283 rfl (lv_at hl 0 rfl) (hp_n (n := 284) rfl ?_)
                                refine m_getr (κ := 54) (k := 40) (pc' := 287) C Bh28 Mh28 fl_X12_85 rfl (by decide) dX12_clash_284 rfl ?_
                                refine lv_iload hx hb dX12_clash_287 (lv_at hl 2 rfl) (hp_n (n := 289) rfl ?_)
                                obtain ⟨g34, hf⟩ := ms_gE hf
                                refine m_ial (κ := 54) (φ := 690) (n := 64) (pc' := 290) C Bh28 Mh28 (by decide) (by decide) rfl g34 dX12_clash_289 rfl ?_
                                refine lv_goto (tgt := 300) hx hb dX12_clash_290 (by decide) ?_
                                cases hf
                                exact q_iret C Bh28 hr hlk ⟨rfl, Bh28.2.2, Mh28⟩ dX12_clash_300
                            ·
                              replace hf := ms_iT c31 hf
                              refine lv_aload_n hx hb dX12_clash_267 rfl (lv_at hl 0 rfl) (hp_n (n := 268) rfl ?_)
                              refine m_getr (κ := 52) (k := 37) (pc' := 271) C Bh28 Mh28 fl_X12_79 rfl (by decide) dX12_clash_268 rfl ?_
                              refine lv_iload hx hb dX12_clash_271 (lv_at hl 2 rfl) (hp_n (n := 273) rfl ?_)
                              obtain ⟨g35, hf⟩ := ms_gE hf
                              refine m_ial (κ := 52) (φ := 687) (n := 64) (pc' := 274) C Bh28 Mh28 (by decide) (by decide) rfl g35 dX12_clash_273 rfl ?_
                              refine lv_goto (tgt := 300) hx hb dX12_clash_274 (by decide) ?_
                              cases hf
                              exact q_iret C Bh28 hr hlk ⟨rfl, Bh28.2.2, Mh28⟩ dX12_clash_300
                          ·
                            replace hf := ms_iT c30 hf
                            refine lv_aload_n hx hb dX12_clash_251 rfl (lv_at hl 0 rfl) (hp_n (n := 252) rfl ?_)
                            refine m_getr (κ := 51) (k := 36) (pc' := 255) C Bh28 Mh28 fl_X12_76 rfl (by decide) dX12_clash_252 rfl ?_
                            refine lv_iload hx hb dX12_clash_255 (lv_at hl 2 rfl) (hp_n (n := 257) rfl ?_)
                            obtain ⟨g36, hf⟩ := ms_gE hf
                            refine m_ial (κ := 51) (φ := 686) (n := 64) (pc' := 258) C Bh28 Mh28 (by decide) (by decide) rfl g36 dX12_clash_257 rfl ?_
                            refine lv_goto (tgt := 300) hx hb dX12_clash_258 (by decide) ?_
                            cases hf
                            exact q_iret C Bh28 hr hlk ⟨rfl, Bh28.2.2, Mh28⟩ dX12_clash_300
                        ·
                          replace hf := ms_iT c29 hf
                          refine lv_iload hx hb dX12_clash_240 (lv_at hl 2 rfl) (hp_n (n := 242) rfl ?_)
                          refine lv_goto (tgt := 300) hx hb dX12_clash_242 (by decide) ?_
                          cases hf
                          exact q_iret C Bh28 hr hlk ⟨rfl, Bh28.2.2, Mh28⟩ dX12_clash_300
                      refine lv_icmp_ne (tgt := 235) hx hb dX12_clash_212 (by decide) (fun c37 => ?_) (fun c37 => hp_n (n := 215) rfl ?_)
                      ·
                        replace hf := ms_iF c37 hf
                        exact J235 αh18 Hh18 Lh18 Bh18 σh18 Mh18 v5_h18 v6_h18 ls (lv_sub hl [0, 1, 2] rfl) hf
                      ·
                        replace hf := ms_iT c37 hf
                        refine lv_aload_n hx hb dX12_clash_215 rfl (lv_at hl 0 rfl) (hp_n (n := 216) rfl ?_)
                        refine m_getr (κ := 52) (k := 37) (pc' := 219) C Bh18 Mh18 fl_X12_79 rfl (by decide) dX12_clash_216 rfl ?_
                        refine lv_iload hx hb dX12_clash_219 (lv_at hl 2 rfl) (hp_n (n := 221) rfl ?_)
                        obtain ⟨g38, hf⟩ := ms_gE hf
                        refine m_ial (κ := 52) (φ := 687) (n := 64) (pc' := 222) C Bh18 Mh18 (by decide) (by decide) rfl g38 dX12_clash_221 rfl ?_
                        refine lv_aload_n hx hb dX12_clash_222 rfl (lv_at hl 0 rfl) (hp_n (n := 223) rfl ?_)
                        refine m_getr (κ := 55) (k := 41) (pc' := 226) C Bh18 Mh18 fl_X12_88 rfl (by decide) dX12_clash_223 rfl ?_
                        refine lv_iload hx hb dX12_clash_226 (lv_at hl 2 rfl) (hp_n (n := 228) rfl ?_)
                        obtain ⟨g39, hf⟩ := ms_gE hf
                        refine m_ial (κ := 55) (φ := 691) (n := 64) (pc' := 229) C Bh18 Mh18 (by decide) (by decide) rfl g39 dX12_clash_228 rfl ?_
                        refine lv_icmp_ne (tgt := 235) hx hb dX12_clash_229 (by decide) (fun c40 => ?_) (fun c40 => hp_n (n := 232) rfl ?_)
                        ·
                          replace hf := ms_iF c40 hf
                          exact J235 αh18 Hh18 Lh18 Bh18 σh18 Mh18 v5_h18 v6_h18 ls (lv_sub hl [0, 1, 2] rfl) hf
                        ·
                          replace hf := ms_iT c40 hf
                          refine lv_goto (tgt := 301) hx hb dX12_clash_232 (by decide) ?_
                          exact J301 αh18 Hh18 Lh18 Bh18 σh18 Mh18 v5_h18 v6_h18 ls (lv_sub hl [0, 1, 2] rfl) hf
              refine lv_istore (lv' := [(6, .int (0 : Int32)), (0, .ref a0), (1, .int v1_h11), (2, .int v2_h11), (3, .int v3_h11), (5, .int v5_h11)]) hx hb dX12_clash_170 hl (by decide) rfl (fun ls hl => hp_n (n := 172) rfl ?_)
              exact J172 n αh17 Hh17 Lh17 Bh17 σh17 Mh17 v5_h11 (0 : Int32) ls (lv_sub hl [1, 5, 0] rfl) hf
            ·
              replace hf := ms_iF c12 hf
              refine lv_aload_n hx hb dX12_clash_92 rfl (lv_at hl 0 rfl) (hp_n (n := 93) rfl ?_)
              refine m_getr (κ := 54) (k := 40) (pc' := 96) C Bh11 Mh11 fl_X12_85 rfl (by decide) dX12_clash_93 rfl ?_
              refine lv_iload hx hb dX12_clash_96 (lv_at hl 5 rfl) (hp_n (n := 98) rfl ?_)
              refine lv_aload_n hx hb dX12_clash_98 rfl (lv_at hl 0 rfl) (hp_n (n := 99) rfl ?_)
              refine m_getr (κ := 51) (k := 36) (pc' := 102) C Bh11 Mh11 fl_X12_76 rfl (by decide) dX12_clash_99 rfl ?_
              refine lv_iload hx hb dX12_clash_102 (lv_at hl 5 rfl) (hp_n (n := 104) rfl ?_)
              obtain ⟨g41, hf⟩ := ms_gE hf
              refine m_ial (κ := 51) (φ := 686) (n := 64) (pc' := 105) C Bh11 Mh11 (by decide) (by decide) rfl g41 dX12_clash_104 rfl ?_
              obtain ⟨g42, hf⟩ := ms_gE hf
              refine m_ias (κ := 54) (φ := 690) (n := 64) (pc' := 106) C Bh11 Mh11 (by decide) (by decide) rfl g42 dX12_clash_105 rfl (fun αh43 Hh43 Lh43 σh43 eh43 Bh43 Mh43 => ?_)
              replace hf := ms_lE eh43 hf
              refine lv_aload_n hx hb dX12_clash_106 rfl (lv_at hl 0 rfl) (hp_n (n := 107) rfl ?_)
              refine m_getr (κ := 55) (k := 41) (pc' := 110) C Bh43 Mh43 fl_X12_88 rfl (by decide) dX12_clash_107 rfl ?_
              refine lv_iload hx hb dX12_clash_110 (lv_at hl 5 rfl) (hp_n (n := 112) rfl ?_)
              refine lv_aload_n hx hb dX12_clash_112 rfl (lv_at hl 0 rfl) (hp_n (n := 113) rfl ?_)
              refine m_getr (κ := 52) (k := 37) (pc' := 116) C Bh43 Mh43 fl_X12_79 rfl (by decide) dX12_clash_113 rfl ?_
              refine lv_iload hx hb dX12_clash_116 (lv_at hl 5 rfl) (hp_n (n := 118) rfl ?_)
              obtain ⟨g44, hf⟩ := ms_gE hf
              refine m_ial (κ := 52) (φ := 687) (n := 64) (pc' := 119) C Bh43 Mh43 (by decide) (by decide) rfl g44 dX12_clash_118 rfl ?_
              obtain ⟨g45, hf⟩ := ms_gE hf
              refine m_ias (κ := 55) (φ := 691) (n := 64) (pc' := 120) C Bh43 Mh43 (by decide) (by decide) rfl g45 dX12_clash_119 rfl (fun αh46 Hh46 Lh46 σh46 eh46 Bh46 Mh46 => ?_)
              replace hf := ms_lE eh46 hf
              refine lv_aload_n hx hb dX12_clash_120 rfl (lv_at hl 0 rfl) (hp_n (n := 121) rfl ?_)
              refine m_getr (κ := 56) (k := 42) (pc' := 124) C Bh46 Mh46 fl_X12_91 rfl (by decide) dX12_clash_121 rfl ?_
              refine lv_iload hx hb dX12_clash_124 (lv_at hl 5 rfl) (hp_n (n := 126) rfl ?_)
              refine lv_aload_n hx hb dX12_clash_126 rfl (lv_at hl 0 rfl) (hp_n (n := 127) rfl ?_)
              refine m_getr (κ := 53) (k := 38) (pc' := 130) C Bh46 Mh46 fl_X12_82 rfl (by decide) dX12_clash_127 rfl ?_
              refine lv_iload hx hb dX12_clash_130 (lv_at hl 5 rfl) (hp_n (n := 132) rfl ?_)
              obtain ⟨g47, hf⟩ := ms_gE hf
              refine m_ial (κ := 53) (φ := 688) (n := 64) (pc' := 133) C Bh46 Mh46 (by decide) (by decide) rfl g47 dX12_clash_132 rfl ?_
              obtain ⟨g48, hf⟩ := ms_gE hf
              refine m_ias (κ := 56) (φ := 692) (n := 64) (pc' := 134) C Bh46 Mh46 (by decide) (by decide) rfl g48 dX12_clash_133 rfl (fun αh49 Hh49 Lh49 σh49 eh49 Bh49 Mh49 => ?_)
              replace hf := ms_lE eh49 hf
              obtain ⟨x50, ex50⟩ : ∃ y : Int32, y = v6_h11 + 1 := ⟨_, rfl⟩
              replace hf := ms_lE ex50 hf
              refine lv_iinc (v := x50) (lv' := [(6, .int x50), (0, .ref a0), (1, .int v1_h11), (2, .int v2_h11), (3, .int v3_h11), (5, .int v5_h11)]) hx hb dX12_clash_134 hl (k := 5) rfl (by rw [ex50]; rfl) (by decide) rfl (fun ls hl => hp_n (n := 137) rfl ?_)
              refine lv_goto (tgt := 83) hx hb dX12_clash_137 (by decide) ?_
              exact ih83 αh49 Hh49 Lh49 Bh49 σh49 Mh49 v1_h11 v2_h11 v3_h11 v5_h11 x50 ls (lv_sub hl [1, 2, 3, 4, 5, 0] rfl) hf
        refine lv_istore (lv' := [(6, .int (0 : Int32)), (0, .ref a0), (1, .int v1_h2), (2, .int v2_h2), (3, .int v3_h2), (4, .int v4_h2), (5, .int v5_h2)]) hx hb dX12_clash_81 hl (by decide) rfl (fun ls hl => hp_n (n := 83) rfl ?_)
        exact J83 n αh10 Hh10 Lh10 Bh10 σh10 Mh10 v1_h2 v2_h2 v3_h2 v5_h2 (0 : Int32) ls (lv_sub hl [1, 2, 3, 4, 6, 0] rfl) hf
      ·
        replace hf := ms_iF c8 hf
        refine lv_aload_n hx hb dX12_clash_60 rfl (lv_at hl 0 rfl) (hp_n (n := 61) rfl ?_)
        refine lv_iconst (v := 5) hx hb dX12_clash_61 (by decide) (hp_n (n := 62) rfl ?_)
        obtain ⟨rh51, σh51, qh51, hf⟩ := ms_cE hf
        refine m_ci (pc' := 65) (a := a0) (ρ := ρ) Bh7 (hp_runV (As := [.int (5 : Int32)]) (rest := []) C Bh7 (m_X12_refuse n Γ l αh7 a0 ρ σh7 Mh7 (5 : Int32) (rh51, σh51) qh51) lb_X12_refuse lv_X12_refuse lk_X12_212 Mh7.1 rfl (by decide) rfl hl.1 rfl (Nat.le_of_ble_eq_true rfl) dX12_clash_62 ⟨Nat.le_refl _, Nat.le_refl _⟩) rfl (fun αh51 Hh51 Lh51 Bh51 Mh51 => ?_)
        cases hf
        exact q_iret C Bh51 hr hlk ⟨rfl, Bh51.2.2, Mh51⟩ dX12_clash_65
    ·
      replace hf := ms_iT c4 hf
      refine lv_iconst (v := (-1)) hx hb dX12_clash_37 (by decide) (hp_n (n := 38) rfl ?_)
      cases hf
      exact q_iret C Bh3 hr hlk ⟨rfl, Bh3.2.2, Mh3⟩ dX12_clash_38
  have J20 : ∀ (αh52 : hp_T) (Hh52 : Heap) (Lh52 : List Loc) (Bh52 : hp_B Γ mo s α αh52 Hh52 Lh52) (σh52 : ms_T) (Mh52 : hm_M αh52 a0 ρ σh52) (v1_h52 : Int32) (v2_h52 : Int32) (v3_h52 : Int32) (v4_h52 : Int32) (v5_h52 : Int32) (ls : Array Slot) (hl : lv_has ls 7 [(0, .ref a0), (1, .int v1_h52), (2, .int v2_h52), (3, .int v3_h52), (4, .int v4_h52), (5, .int v5_h52)]) (hf : f_X12_clash_J20 n σh52 v1_h52 v2_h52 v3_h52 v4_h52 v5_h52 = some res), W p l e (hp_rm 44 0 0) s m ([.ref a0, .int a1, .int a2, .int a3, .int a4, .int a5] : List Value).toArray below meth c Hh52 Lh52 0 0 (MQ below (hp_Qi Γ (fun r β => r = res.1 ∧ mo α β ∧ hm_M β a0 ρ res.2)) ([.ref a0, .int a1, .int a2, .int a3, .int a4, .int a5] : List Value).toArray s 0 0 (hp_A Γ)) (F0 m 20 ls [.ref a0]) := by
    intro αh52 Hh52 Lh52 Bh52 σh52 Mh52 v1_h52 v2_h52 v3_h52 v4_h52 v5_h52 ls hl hf
    unfold f_X12_clash_J20 at hf
    refine lv_iconst (v := 1) hx hb dX12_clash_20 (by decide) (hp_n (n := 21) rfl ?_)
    refine lv_goto (tgt := 31) hx hb dX12_clash_21 (by decide) ?_
    exact J31 αh52 Hh52 Lh52 Bh52 σh52 Mh52 v1_h52 v2_h52 v3_h52 v4_h52 v5_h52 (1 : Int32) ls (lv_sub hl [0, 1, 2, 3, 4, 5] rfl) hf
  refine lv_if_eq (tgt := 20) hx hb dX12_clash_8 (by decide) (fun c53 => ?_) (fun c53 => hp_n (n := 11) rfl ?_)
  ·
    replace hf := ms_iT c53 hf
    exact J20 α Hh1 Lh1 Bh1 σ hM a1 a2 a3 a4 a5 ls (lv_sub hl [0, 1, 2, 3, 4, 5] rfl) hf
  ·
    replace hf := ms_iF c53 hf
    refine lv_aload_n hx hb dX12_clash_11 rfl (lv_at hl 0 rfl) (hp_n (n := 12) rfl ?_)
    refine lv_iload hx hb dX12_clash_12 (lv_at hl 4 rfl) (hp_n (n := 14) rfl ?_)
    obtain ⟨rh54, qh54, hf⟩ := ms_bE hf
    refine m_cp (pc' := 17) Bh1 (hp_runV (As := [.int a4]) (rest := [.ref a0]) C Bh1 (m_X12_isMark n Γ l α a0 ρ σ hM a4 rh54 qh54) lb_X12_isMark lv_X12_isMark lk_X12_321 hM.1 rfl (by decide) rfl hl.1 rfl (Nat.le_of_ble_eq_true rfl) dX12_clash_14 ⟨Nat.le_refl _, Nat.le_refl _⟩) rfl (fun Hh54 Lh54 Bh54 => ?_)
    refine lv_if_ne (tgt := 24) hx hb dX12_clash_17 (by decide) (fun c55 => ?_) (fun c55 => hp_n (n := 20) rfl ?_)
    ·
      replace hf := ms_iF c55 hf
      refine lv_aload_n hx hb dX12_clash_24 rfl (lv_at hl 0 rfl) (hp_n (n := 25) rfl ?_)
      refine lv_iload_n hx hb dX12_clash_25 rfl (lv_at hl 1 rfl) (hp_n (n := 26) rfl ?_)
      refine lv_iload_n hx hb dX12_clash_26 rfl (lv_at hl 2 rfl) (hp_n (n := 27) rfl ?_)
      refine lv_iload_n hx hb dX12_clash_27 rfl (lv_at hl 3 rfl) (hp_n (n := 28) rfl ?_)
      obtain ⟨rh56, qh56, hf⟩ := ms_bE hf
      refine m_cp (pc' := 31) Bh54 (hp_runV (As := [.int a1, .int a2, .int a3]) (rest := [.ref a0]) C Bh54 (m_X12_noEntry n Γ l α a0 ρ σ hM a1 a2 a3 rh56 qh56) lb_X12_noEntry lv_X12_noEntry lk_X12_362 hM.1 rfl (by decide) rfl hl.1 rfl (Nat.le_of_ble_eq_true rfl) dX12_clash_28 ⟨Nat.le_refl _, Nat.le_refl _⟩) rfl (fun Hh56 Lh56 Bh56 => ?_)
      exact J31 α Hh56 Lh56 Bh56 σ hM a1 a2 a3 a4 a5 rh56 ls (lv_sub hl [0, 1, 2, 3, 4, 5] rfl) hf
    ·
      replace hf := ms_iT c55 hf
      exact J20 α Hh54 Lh54 Bh54 σ hM a1 a2 a3 a4 a5 ls (lv_sub hl [0, 1, 2, 3, 4, 5] rfl) hf
def f_X12_forge_J71 (n : Nat) (σh7 : ms_T) : Option (Int32 × ms_T) :=
  ms_c (f_X12_refuse n σh7 (5 : Int32)) fun rh8 σh8 =>
  some (rh8, σh8)
def f_X12_forge_L80 (n : Nat) : Nat → ms_T → Int32 → Int32 → Int32 → Int32 → Int32 → Int32 → Option (Int32 × ms_T)
  | 0, _, _, _, _, _, _, _ => none
  | k80 + 1, σh11, v1_h11, v2_h11, v3_h11, v4_h11, v5_h11, v6_h11 =>
    ms_g (1 : Int32) 1980 <|
    if (ms_E σh11 40 ((1 : Int32)).toNatClampNeg) ≤ v6_h11 then
      ms_c (f_X12_refuse n σh11 (5 : Int32)) fun rh14 σh14 =>
      some (rh14, σh14)
    else
      ms_g v5_h11 128 <|
      ms_l (ms_sE σh11 44 (v5_h11).toNatClampNeg v6_h11) fun σh16 =>
      ms_c (f_X12_folded n σh16 v1_h11 v2_h11 v3_h11) fun rh17 σh17 =>
      if rh17 = v4_h11 then
        some (v6_h11, σh17)
      else
        ms_l (v6_h11 + 1) fun x19 =>
        (f_X12_forge_L80 n k80) σh17 v1_h11 v2_h11 v3_h11 v4_h11 v5_h11 x19
def f_X12_forge_J37 (n : Nat) (σh2 : ms_T) (v1_h2 : Int32) (v2_h2 : Int32) (v3_h2 : Int32) (v4_h2 : Int32) (v5_h2 : Int32) (w0_h2 : Int32) : Option (Int32 × ms_T) :=
  ms_c (f_X12_is n σh2 w0_h2) fun rh3 σh3 =>
  if rh3 = 0 then
    some ((-1 : Int32), σh3)
  else
    ms_b (f_X12_inclusion n σh3 v2_h2 v3_h2) fun σh5 =>
    ms_c (f_X12_fromPad n σh5) fun rh6 σh6 =>
    if rh6 = (ms_I σh6 657) then
      if v5_h2 < (ms_I σh6 657) then
        f_X12_forge_L80 n n σh6 v1_h2 v2_h2 v3_h2 v4_h2 v5_h2 (0 : Int32)
      else
        f_X12_forge_J71 n σh6
    else
      f_X12_forge_J71 n σh6
def f_X12_forge_J36 (n : Nat) (σh20 : ms_T) (v1_h20 : Int32) (v2_h20 : Int32) (v3_h20 : Int32) (v4_h20 : Int32) (v5_h20 : Int32) : Option (Int32 × ms_T) :=
  f_X12_forge_J37 n σh20 v1_h20 v2_h20 v3_h20 v4_h20 v5_h20 (1 : Int32)
def f_X12_forge (n : Nat) (σ : ms_T) (a1 : Int32) (a2 : Int32) (a3 : Int32) (a4 : Int32) (a5 : Int32) : Option (Int32 × ms_T) :=
  ms_b (f_X12_isThing n σ a2 a3) fun rh1 =>
  if rh1 = 0 then
    f_X12_forge_J36 n σ a1 a2 a3 a4 a5
  else
    if a5 < 0 then
      f_X12_forge_J36 n σ a1 a2 a3 a4 a5
    else
      ms_b (f_X12_isMark n σ a1) fun rh23 =>
      if rh23 = 0 then
        f_X12_forge_J36 n σ a1 a2 a3 a4 a5
      else
        ms_b (f_X12_isMark n σ a4) fun rh25 =>
        if rh25 = 0 then
          f_X12_forge_J36 n σ a1 a2 a3 a4 a5
        else
          f_X12_forge_J37 n σ a1 a2 a3 a4 a5 (0 : Int32)
set_option maxRecDepth 100000 in
set_option maxHeartbeats 4000000 in
theorem m_X12_forge (n : Nat) (Γ : hp_G) (l : Launch) (α : hp_T) (a0 : Nat) (ρ : Nat → Nat) (σ : ms_T) (hM : hm_M α a0 ρ σ) (a1 : Int32) (a2 : Int32) (a3 : Int32) (a4 : Int32) (a5 : Int32) (res : (Int32 × ms_T)) (hf : f_X12_forge n σ a1 a2 a3 a4 a5 = some res) : Met l yX12_forge (hp_ws yX12_forge cX12_forge 7 (some .int)) (hp_rm 43 0 0) (hp_Pc Γ α [.ref a0, .int a1, .int a2, .int a3, .int a4, .int a5]) (hp_Qi Γ (fun r β => r = res.1 ∧ mo α β ∧ hm_M β a0 ρ res.2)) 0 0 (hp_A Γ) := by
  unfold f_X12_forge at hf
  refine hp_start (by decide) ?_
  intro p e s m below meth c C hr hlk B0 hnm
  have C : hp_C Γ p m c cX12_forge 7 s ([.ref a0, .int a1, .int a2, .int a3, .int a4, .int a5] : List Value).toArray RX12 := C
  have hx := C.1.1
  have hb := C.1.2.1
  have hown := C.1.2.2.2.1
  have hts := C.1.2.2.2.2
  have B : hp_B Γ mo s α α s.heap [] := ⟨B0.1, B0.2.1, mo_rf⟩
  have hl := lv_entry ([.ref a0, .int a1, .int a2, .int a3, .int a4, .int a5]) (n := 7) (Nat.le_of_ble_eq_true rfl)
  show W p l e (hp_rm 43 0 0) s m ([.ref a0, .int a1, .int a2, .int a3, .int a4, .int a5] : List Value).toArray below meth c s.heap [] 0 0 (MQ below (hp_Qi Γ (fun r β => r = res.1 ∧ mo α β ∧ hm_M β a0 ρ res.2)) ([.ref a0, .int a1, .int a2, .int a3, .int a4, .int a5] : List Value).toArray s 0 0 (hp_A Γ)) (entryFrame m ([.ref a0, .int a1, .int a2, .int a3, .int a4, .int a5] : List Value).toArray 7)
  rw [lg_entry_eq]
  generalize (lg_sl ([.ref a0, .int a1, .int a2, .int a3, .int a4, .int a5]) ++ List.replicate (7 - (lg_sl ([.ref a0, .int a1, .int a2, .int a3, .int a4, .int a5])).length) Slot.unset).toArray = ls at hl ⊢
  have hl : lv_has ls 7 [(0, .ref a0), (1, .int a1), (2, .int a2), (3, .int a3), (4, .int a4), (5, .int a5)] := hl
  refine lv_aload_n hx hb dX12_forge_0 rfl (lv_at hl 0 rfl) (hp_n (n := 1) rfl ?_)
  refine lv_aload_n hx hb dX12_forge_1 rfl (lv_at hl 0 rfl) (hp_n (n := 2) rfl ?_)
  refine lv_iload_n hx hb dX12_forge_2 rfl (lv_at hl 2 rfl) (hp_n (n := 3) rfl ?_)
  refine lv_iload_n hx hb dX12_forge_3 rfl (lv_at hl 3 rfl) (hp_n (n := 4) rfl ?_)
  obtain ⟨rh1, qh1, hf⟩ := ms_bE hf
  refine m_cp (pc' := 7) B (hp_runV (As := [.int a2, .int a3]) (rest := [.ref a0]) C B (m_X12_isThing n Γ l α a0 ρ σ hM a2 a3 rh1 qh1) lb_X12_isThing lv_X12_isThing lk_X12_381 hM.1 rfl (by decide) rfl hl.1 rfl (Nat.le_of_ble_eq_true rfl) dX12_forge_4 ⟨Nat.le_refl _, Nat.le_refl _⟩) rfl (fun Hh1 Lh1 Bh1 => ?_)
  have J37 : ∀ (αh2 : hp_T) (Hh2 : Heap) (Lh2 : List Loc) (Bh2 : hp_B Γ mo s α αh2 Hh2 Lh2) (σh2 : ms_T) (Mh2 : hm_M αh2 a0 ρ σh2) (v1_h2 : Int32) (v2_h2 : Int32) (v3_h2 : Int32) (v4_h2 : Int32) (v5_h2 : Int32) (w0_h2 : Int32) (ls : Array Slot) (hl : lv_has ls 7 [(0, .ref a0), (1, .int v1_h2), (2, .int v2_h2), (3, .int v3_h2), (4, .int v4_h2), (5, .int v5_h2)]) (hf : f_X12_forge_J37 n σh2 v1_h2 v2_h2 v3_h2 v4_h2 v5_h2 w0_h2 = some res), W p l e (hp_rm 43 0 0) s m ([.ref a0, .int a1, .int a2, .int a3, .int a4, .int a5] : List Value).toArray below meth c Hh2 Lh2 0 0 (MQ below (hp_Qi Γ (fun r β => r = res.1 ∧ mo α β ∧ hm_M β a0 ρ res.2)) ([.ref a0, .int a1, .int a2, .int a3, .int a4, .int a5] : List Value).toArray s 0 0 (hp_A Γ)) (F0 m 37 ls [.int w0_h2, .ref a0]) := by
    intro αh2 Hh2 Lh2 Bh2 σh2 Mh2 v1_h2 v2_h2 v3_h2 v4_h2 v5_h2 w0_h2 ls hl hf
    unfold f_X12_forge_J37 at hf
    obtain ⟨rh3, σh3, qh3, hf⟩ := ms_cE hf
    refine m_ci (pc' := 40) (a := a0) (ρ := ρ) Bh2 (hp_runV (As := [.int w0_h2]) (rest := []) C Bh2 (m_X12_is n Γ l αh2 a0 ρ σh2 Mh2 w0_h2 (rh3, σh3) qh3) lb_X12_is lv_X12_is lk_X12_309 Mh2.1 rfl (by decide) rfl hl.1 rfl (Nat.le_of_ble_eq_true rfl) dX12_forge_37 ⟨Nat.le_refl _, Nat.le_refl _⟩) rfl (fun αh3 Hh3 Lh3 Bh3 Mh3 => ?_)
    refine lv_if_ne (tgt := 45) hx hb dX12_forge_40 (by decide) (fun c4 => ?_) (fun c4 => hp_n (n := 43) rfl ?_)
    ·
      replace hf := ms_iF c4 hf
      refine lv_aload_n hx hb dX12_forge_45 rfl (lv_at hl 0 rfl) (hp_n (n := 46) rfl ?_)
      refine lv_iload_n hx hb dX12_forge_46 rfl (lv_at hl 2 rfl) (hp_n (n := 47) rfl ?_)
      refine lv_iload_n hx hb dX12_forge_47 rfl (lv_at hl 3 rfl) (hp_n (n := 48) rfl ?_)
      obtain ⟨σh5, qh5, hf⟩ := ms_bE hf
      refine m_cv (pc' := 51) (a := a0) (ρ := ρ) Bh3 (hp_runV (As := [.int v2_h2, .int v3_h2]) (rest := []) C Bh3 (m_X12_inclusion n Γ l αh3 a0 ρ σh3 Mh3 v2_h2 v3_h2 σh5 qh5) lb_X12_inclusion lv_X12_inclusion lk_X12_171 Mh3.1 rfl (by decide) rfl hl.1 rfl (Nat.le_of_ble_eq_true rfl) dX12_forge_48 ⟨Nat.le_refl _, Nat.le_refl _⟩) rfl (fun αh5 Hh5 Lh5 Bh5 Mh5 => ?_)
      refine lv_aload_n hx hb dX12_forge_51 rfl (lv_at hl 0 rfl) (hp_n (n := 52) rfl ?_)
      obtain ⟨rh6, σh6, qh6, hf⟩ := ms_cE hf
      refine m_ci (pc' := 55) (a := a0) (ρ := ρ) Bh5 (hp_runV (As := []) (rest := []) C Bh5 (m_X12_fromPad n Γ l αh5 a0 ρ σh5 Mh5  (rh6, σh6) qh6) lb_X12_fromPad lv_X12_fromPad lk_X12_384 Mh5.1 rfl (by decide) rfl hl.1 rfl (Nat.le_of_ble_eq_true rfl) dX12_forge_52 ⟨Nat.le_refl _, Nat.le_refl _⟩) rfl (fun αh6 Hh6 Lh6 Bh6 Mh6 => ?_)
      refine lv_aload_n hx hb dX12_forge_55 rfl (lv_at hl 0 rfl) (hp_n (n := 56) rfl ?_)
      refine m_geti (k := 7) (φ := 657) (pc' := 59) C Bh6 Mh6 fl_X12_139 rfl rfl dX12_forge_56 rfl ?_
      have J71 : ∀ (αh7 : hp_T) (Hh7 : Heap) (Lh7 : List Loc) (Bh7 : hp_B Γ mo s α αh7 Hh7 Lh7) (σh7 : ms_T) (Mh7 : hm_M αh7 a0 ρ σh7) (ls : Array Slot) (hl : lv_has ls 7 [(0, .ref a0)]) (hf : f_X12_forge_J71 n σh7 = some res), W p l e (hp_rm 43 0 0) s m ([.ref a0, .int a1, .int a2, .int a3, .int a4, .int a5] : List Value).toArray below meth c Hh7 Lh7 0 0 (MQ below (hp_Qi Γ (fun r β => r = res.1 ∧ mo α β ∧ hm_M β a0 ρ res.2)) ([.ref a0, .int a1, .int a2, .int a3, .int a4, .int a5] : List Value).toArray s 0 0 (hp_A Γ)) (F0 m 71 ls []) := by
        intro αh7 Hh7 Lh7 Bh7 σh7 Mh7 ls hl hf
        unfold f_X12_forge_J71 at hf
        refine lv_aload_n hx hb dX12_forge_71 rfl (lv_at hl 0 rfl) (hp_n (n := 72) rfl ?_)
        refine lv_iconst (v := 5) hx hb dX12_forge_72 (by decide) (hp_n (n := 73) rfl ?_)
        obtain ⟨rh8, σh8, qh8, hf⟩ := ms_cE hf
        refine m_ci (pc' := 76) (a := a0) (ρ := ρ) Bh7 (hp_runV (As := [.int (5 : Int32)]) (rest := []) C Bh7 (m_X12_refuse n Γ l αh7 a0 ρ σh7 Mh7 (5 : Int32) (rh8, σh8) qh8) lb_X12_refuse lv_X12_refuse lk_X12_212 Mh7.1 rfl (by decide) rfl hl.1 rfl (Nat.le_of_ble_eq_true rfl) dX12_forge_73 ⟨Nat.le_refl _, Nat.le_refl _⟩) rfl (fun αh8 Hh8 Lh8 Bh8 Mh8 => ?_)
        cases hf
        exact q_iret C Bh8 hr hlk ⟨rfl, Bh8.2.2, Mh8⟩ dX12_forge_76
      refine lv_icmp_ne (tgt := 71) hx hb dX12_forge_59 (by decide) (fun c9 => ?_) (fun c9 => hp_n (n := 62) rfl ?_)
      ·
        replace hf := ms_iF c9 hf
        exact J71 αh6 Hh6 Lh6 Bh6 σh6 Mh6 ls (lv_sub hl [0] rfl) hf
      ·
        replace hf := ms_iT c9 hf
        refine lv_iload hx hb dX12_forge_62 (lv_at hl 5 rfl) (hp_n (n := 64) rfl ?_)
        refine lv_aload_n hx hb dX12_forge_64 rfl (lv_at hl 0 rfl) (hp_n (n := 65) rfl ?_)
        refine m_geti (k := 7) (φ := 657) (pc' := 68) C Bh6 Mh6 fl_X12_139 rfl rfl dX12_forge_65 rfl ?_
        refine lv_icmp_lt (tgt := 77) hx hb dX12_forge_68 (by decide) (fun c10 => ?_) (fun c10 => hp_n (n := 71) rfl ?_)
        ·
          replace hf := ms_iT c10 hf
          refine lv_iconst (v := 0) hx hb dX12_forge_77 (by decide) (hp_n (n := 78) rfl ?_)
          have J80 : ∀ (k80 : Nat) (αh11 : hp_T) (Hh11 : Heap) (Lh11 : List Loc) (Bh11 : hp_B Γ mo s α αh11 Hh11 Lh11) (σh11 : ms_T) (Mh11 : hm_M αh11 a0 ρ σh11) (v1_h11 : Int32) (v2_h11 : Int32) (v3_h11 : Int32) (v4_h11 : Int32) (v5_h11 : Int32) (v6_h11 : Int32) (ls : Array Slot) (hl : lv_has ls 7 [(0, .ref a0), (1, .int v1_h11), (2, .int v2_h11), (3, .int v3_h11), (4, .int v4_h11), (5, .int v5_h11), (6, .int v6_h11)]) (hf : f_X12_forge_L80 n k80 σh11 v1_h11 v2_h11 v3_h11 v4_h11 v5_h11 v6_h11 = some res), W p l e (hp_rm 43 0 0) s m ([.ref a0, .int a1, .int a2, .int a3, .int a4, .int a5] : List Value).toArray below meth c Hh11 Lh11 0 0 (MQ below (hp_Qi Γ (fun r β => r = res.1 ∧ mo α β ∧ hm_M β a0 ρ res.2)) ([.ref a0, .int a1, .int a2, .int a3, .int a4, .int a5] : List Value).toArray s 0 0 (hp_A Γ)) (F0 m 80 ls []) := by
            intro k80
            induction k80 with
            | zero => intro αh11 Hh11 Lh11 Bh11 σh11 Mh11 v1_h11 v2_h11 v3_h11 v4_h11 v5_h11 v6_h11 ls hl hf; rw [f_X12_forge_L80.eq_1] at hf; cases hf
            | succ k80 ih80 =>
              intro αh11 Hh11 Lh11 Bh11 σh11 Mh11 v1_h11 v2_h11 v3_h11 v4_h11 v5_h11 v6_h11 ls hl hf
              rw [f_X12_forge_L80.eq_2] at hf
              refine lv_iload hx hb dX12_forge_80 (lv_at hl 6 rfl) (hp_n (n := 82) rfl ?_)
              refine lv_aload_n hx hb dX12_forge_82 rfl (lv_at hl 0 rfl) (hp_n (n := 83) rfl ?_)
              refine m_getr (κ := 40) (k := 0) (pc' := 86) C Bh11 Mh11 fl_X12_7 rfl (by decide) dX12_forge_83 rfl ?_
              refine lv_iconst (v := 1) hx hb dX12_forge_86 (by decide) (hp_n (n := 87) rfl ?_)
              obtain ⟨g12, hf⟩ := ms_gE hf
              refine m_ial (κ := 40) (φ := 650) (n := 1980) (pc' := 88) C Bh11 Mh11 (by decide) (by decide) rfl g12 dX12_forge_87 rfl ?_
              refine lv_icmp_ge (tgt := 121) hx hb dX12_forge_88 (by decide) (fun c13 => ?_) (fun c13 => hp_n (n := 91) rfl ?_)
              ·
                replace hf := ms_iT c13 hf
                refine lv_aload_n hx hb dX12_forge_121 rfl (lv_at hl 0 rfl) (hp_n (n := 122) rfl ?_)
                refine lv_iconst (v := 5) hx hb dX12_forge_122 (by decide) (hp_n (n := 123) rfl ?_)
                obtain ⟨rh14, σh14, qh14, hf⟩ := ms_cE hf
                refine m_ci (pc' := 126) (a := a0) (ρ := ρ) Bh11 (hp_runV (As := [.int (5 : Int32)]) (rest := []) C Bh11 (m_X12_refuse n Γ l αh11 a0 ρ σh11 Mh11 (5 : Int32) (rh14, σh14) qh14) lb_X12_refuse lv_X12_refuse lk_X12_212 Mh11.1 rfl (by decide) rfl hl.1 rfl (Nat.le_of_ble_eq_true rfl) dX12_forge_123 ⟨Nat.le_refl _, Nat.le_refl _⟩) rfl (fun αh14 Hh14 Lh14 Bh14 Mh14 => ?_)
                cases hf
                exact q_iret C Bh14 hr hlk ⟨rfl, Bh14.2.2, Mh14⟩ dX12_forge_126
              ·
                replace hf := ms_iF c13 hf
                refine lv_aload_n hx hb dX12_forge_91 rfl (lv_at hl 0 rfl) (hp_n (n := 92) rfl ?_)
                refine m_getr (κ := 44) (k := 6) (pc' := 95) C Bh11 Mh11 fl_X12_22 rfl (by decide) dX12_forge_92 rfl ?_
                refine lv_iload hx hb dX12_forge_95 (lv_at hl 5 rfl) (hp_n (n := 97) rfl ?_)
                refine lv_iload hx hb dX12_forge_97 (lv_at hl 6 rfl) (hp_n (n := 99) rfl ?_)
                obtain ⟨g15, hf⟩ := ms_gE hf
                refine m_ias (κ := 44) (φ := 656) (n := 128) (pc' := 100) C Bh11 Mh11 (by decide) (by decide) rfl g15 dX12_forge_99 rfl (fun αh16 Hh16 Lh16 σh16 eh16 Bh16 Mh16 => ?_)
                replace hf := ms_lE eh16 hf
                refine lv_aload_n hx hb dX12_forge_100 rfl (lv_at hl 0 rfl) (hp_n (n := 101) rfl ?_)
                refine lv_iload_n hx hb dX12_forge_101 rfl (lv_at hl 1 rfl) (hp_n (n := 102) rfl ?_)
                refine lv_iload_n hx hb dX12_forge_102 rfl (lv_at hl 2 rfl) (hp_n (n := 103) rfl ?_)
                refine lv_iload_n hx hb dX12_forge_103 rfl (lv_at hl 3 rfl) (hp_n (n := 104) rfl ?_)
                obtain ⟨rh17, σh17, qh17, hf⟩ := ms_cE hf
                refine m_ci (pc' := 107) (a := a0) (ρ := ρ) Bh16 (hp_runV (As := [.int v1_h11, .int v2_h11, .int v3_h11]) (rest := []) C Bh16 (m_X12_folded n Γ l αh16 a0 ρ σh16 Mh16 v1_h11 v2_h11 v3_h11 (rh17, σh17) qh17) lb_X12_folded lv_X12_folded lk_X12_174 Mh16.1 rfl (by decide) rfl hl.1 rfl (Nat.le_of_ble_eq_true rfl) dX12_forge_104 ⟨Nat.le_refl _, Nat.le_refl _⟩) rfl (fun αh17 Hh17 Lh17 Bh17 Mh17 => ?_)
                refine lv_iload hx hb dX12_forge_107 (lv_at hl 4 rfl) (hp_n (n := 109) rfl ?_)
                refine lv_icmp_ne (tgt := 115) hx hb dX12_forge_109 (by decide) (fun c18 => ?_) (fun c18 => hp_n (n := 112) rfl ?_)
                ·
                  replace hf := ms_iF c18 hf
                  obtain ⟨x19, ex19⟩ : ∃ y : Int32, y = v6_h11 + 1 := ⟨_, rfl⟩
                  replace hf := ms_lE ex19 hf
                  refine lv_iinc (v := x19) (lv' := [(6, .int x19), (0, .ref a0), (1, .int v1_h11), (2, .int v2_h11), (3, .int v3_h11), (4, .int v4_h11), (5, .int v5_h11)]) hx hb dX12_forge_115 hl (k := 6) rfl (by rw [ex19]; rfl) (by decide) rfl (fun ls hl => hp_n (n := 118) rfl ?_)
                  refine lv_goto (tgt := 80) hx hb dX12_forge_118 (by decide) ?_
                  exact ih80 αh17 Hh17 Lh17 Bh17 σh17 Mh17 v1_h11 v2_h11 v3_h11 v4_h11 v5_h11 x19 ls (lv_sub hl [1, 2, 3, 4, 5, 6, 0] rfl) hf
                ·
                  replace hf := ms_iT c18 hf
                  refine lv_iload hx hb dX12_forge_112 (lv_at hl 6 rfl) (hp_n (n := 114) rfl ?_)
                  cases hf
                  exact q_iret C Bh17 hr hlk ⟨rfl, Bh17.2.2, Mh17⟩ dX12_forge_114
          refine lv_istore (lv' := [(6, .int (0 : Int32)), (0, .ref a0), (1, .int v1_h2), (2, .int v2_h2), (3, .int v3_h2), (4, .int v4_h2), (5, .int v5_h2)]) hx hb dX12_forge_78 hl (by decide) rfl (fun ls hl => hp_n (n := 80) rfl ?_)
          exact J80 n αh6 Hh6 Lh6 Bh6 σh6 Mh6 v1_h2 v2_h2 v3_h2 v4_h2 v5_h2 (0 : Int32) ls (lv_sub hl [1, 2, 3, 4, 5, 6, 0] rfl) hf
        ·
          replace hf := ms_iF c10 hf
          exact J71 αh6 Hh6 Lh6 Bh6 σh6 Mh6 ls (lv_sub hl [0] rfl) hf
    ·
      replace hf := ms_iT c4 hf
      refine lv_iconst (v := (-1)) hx hb dX12_forge_43 (by decide) (hp_n (n := 44) rfl ?_)
      cases hf
      exact q_iret C Bh3 hr hlk ⟨rfl, Bh3.2.2, Mh3⟩ dX12_forge_44
  have J36 : ∀ (αh20 : hp_T) (Hh20 : Heap) (Lh20 : List Loc) (Bh20 : hp_B Γ mo s α αh20 Hh20 Lh20) (σh20 : ms_T) (Mh20 : hm_M αh20 a0 ρ σh20) (v1_h20 : Int32) (v2_h20 : Int32) (v3_h20 : Int32) (v4_h20 : Int32) (v5_h20 : Int32) (ls : Array Slot) (hl : lv_has ls 7 [(0, .ref a0), (1, .int v1_h20), (2, .int v2_h20), (3, .int v3_h20), (4, .int v4_h20), (5, .int v5_h20)]) (hf : f_X12_forge_J36 n σh20 v1_h20 v2_h20 v3_h20 v4_h20 v5_h20 = some res), W p l e (hp_rm 43 0 0) s m ([.ref a0, .int a1, .int a2, .int a3, .int a4, .int a5] : List Value).toArray below meth c Hh20 Lh20 0 0 (MQ below (hp_Qi Γ (fun r β => r = res.1 ∧ mo α β ∧ hm_M β a0 ρ res.2)) ([.ref a0, .int a1, .int a2, .int a3, .int a4, .int a5] : List Value).toArray s 0 0 (hp_A Γ)) (F0 m 36 ls [.ref a0]) := by
    intro αh20 Hh20 Lh20 Bh20 σh20 Mh20 v1_h20 v2_h20 v3_h20 v4_h20 v5_h20 ls hl hf
    unfold f_X12_forge_J36 at hf
    refine lv_iconst (v := 1) hx hb dX12_forge_36 (by decide) (hp_n (n := 37) rfl ?_)
    exact J37 αh20 Hh20 Lh20 Bh20 σh20 Mh20 v1_h20 v2_h20 v3_h20 v4_h20 v5_h20 (1 : Int32) ls (lv_sub hl [0, 1, 2, 3, 4, 5] rfl) hf
  refine lv_if_eq (tgt := 36) hx hb dX12_forge_7 (by decide) (fun c21 => ?_) (fun c21 => hp_n (n := 10) rfl ?_)
  ·
    replace hf := ms_iT c21 hf
    exact J36 α Hh1 Lh1 Bh1 σ hM a1 a2 a3 a4 a5 ls (lv_sub hl [0, 1, 2, 3, 4, 5] rfl) hf
  ·
    replace hf := ms_iF c21 hf
    refine lv_iload hx hb dX12_forge_10 (lv_at hl 5 rfl) (hp_n (n := 12) rfl ?_)
    refine lv_if_lt (tgt := 36) hx hb dX12_forge_12 (by decide) (fun c22 => ?_) (fun c22 => hp_n (n := 15) rfl ?_)
    ·
      replace hf := ms_iT c22 hf
      exact J36 α Hh1 Lh1 Bh1 σ hM a1 a2 a3 a4 a5 ls (lv_sub hl [0, 1, 2, 3, 4, 5] rfl) hf
    ·
      replace hf := ms_iF c22 hf
      refine lv_aload_n hx hb dX12_forge_15 rfl (lv_at hl 0 rfl) (hp_n (n := 16) rfl ?_)
      refine lv_iload_n hx hb dX12_forge_16 rfl (lv_at hl 1 rfl) (hp_n (n := 17) rfl ?_)
      obtain ⟨rh23, qh23, hf⟩ := ms_bE hf
      refine m_cp (pc' := 20) Bh1 (hp_runV (As := [.int a1]) (rest := [.ref a0]) C Bh1 (m_X12_isMark n Γ l α a0 ρ σ hM a1 rh23 qh23) lb_X12_isMark lv_X12_isMark lk_X12_321 hM.1 rfl (by decide) rfl hl.1 rfl (Nat.le_of_ble_eq_true rfl) dX12_forge_17 ⟨Nat.le_refl _, Nat.le_refl _⟩) rfl (fun Hh23 Lh23 Bh23 => ?_)
      refine lv_if_eq (tgt := 36) hx hb dX12_forge_20 (by decide) (fun c24 => ?_) (fun c24 => hp_n (n := 23) rfl ?_)
      ·
        replace hf := ms_iT c24 hf
        exact J36 α Hh23 Lh23 Bh23 σ hM a1 a2 a3 a4 a5 ls (lv_sub hl [0, 1, 2, 3, 4, 5] rfl) hf
      ·
        replace hf := ms_iF c24 hf
        refine lv_aload_n hx hb dX12_forge_23 rfl (lv_at hl 0 rfl) (hp_n (n := 24) rfl ?_)
        refine lv_iload hx hb dX12_forge_24 (lv_at hl 4 rfl) (hp_n (n := 26) rfl ?_)
        obtain ⟨rh25, qh25, hf⟩ := ms_bE hf
        refine m_cp (pc' := 29) Bh23 (hp_runV (As := [.int a4]) (rest := [.ref a0]) C Bh23 (m_X12_isMark n Γ l α a0 ρ σ hM a4 rh25 qh25) lb_X12_isMark lv_X12_isMark lk_X12_321 hM.1 rfl (by decide) rfl hl.1 rfl (Nat.le_of_ble_eq_true rfl) dX12_forge_26 ⟨Nat.le_refl _, Nat.le_refl _⟩) rfl (fun Hh25 Lh25 Bh25 => ?_)
        refine lv_if_eq (tgt := 36) hx hb dX12_forge_29 (by decide) (fun c26 => ?_) (fun c26 => hp_n (n := 32) rfl ?_)
        ·
          replace hf := ms_iT c26 hf
          exact J36 α Hh25 Lh25 Bh25 σ hM a1 a2 a3 a4 a5 ls (lv_sub hl [0, 1, 2, 3, 4, 5] rfl) hf
        ·
          replace hf := ms_iF c26 hf
          refine lv_iconst (v := 0) hx hb dX12_forge_32 (by decide) (hp_n (n := 33) rfl ?_)
          refine lv_goto (tgt := 37) hx hb dX12_forge_33 (by decide) ?_
          exact J37 α Hh25 Lh25 Bh25 σ hM a1 a2 a3 a4 a5 (0 : Int32) ls (lv_sub hl [0, 1, 2, 3, 4, 5] rfl) hf
def f_X12_trace_J60 (n : Nat) (σh6 : ms_T) : Option (Int32 × ms_T) :=
  ms_c (f_X12_refuse n σh6 (5 : Int32)) fun rh7 σh7 =>
  some (rh7, σh7)
def f_X12_trace_L72 (n : Nat) : Nat → ms_T → Int32 → Int32 → Int32 → Int32 → Int32 → Option (Int32 × ms_T)
  | 0, _, _, _, _, _, _ => none
  | k72 + 1, σh12, v1_h12, v2_h12, v3_h12, v4_h12, v5_h12 =>
    if (ms_I σh12 657) ≤ v5_h12 then
      ms_l (ms_sI σh12 689 (0 : Int32)) fun σh14 =>
      ms_c (f_X12_stepsIn n 40 σh14 v1_h12 v2_h12 v3_h12) fun rh15 σh15 =>
      if v4_h12 = 0 then
        some (v1_h12, σh15)
      else
        ms_g (v4_h12 - (1 : Int32)) 64 <|
        some ((ms_E σh15 53 ((v4_h12 - (1 : Int32))).toNatClampNeg), σh15)
    else
      ms_g v5_h12 128 <|
      ms_l (ms_sE σh12 44 (v5_h12).toNatClampNeg (0 : Int32)) fun σh19 =>
      ms_l (v5_h12 + 1) fun x20 =>
      (f_X12_trace_L72 n k72) σh19 v1_h12 v2_h12 v3_h12 v4_h12 x20
def f_X12_trace_J28 (n : Nat) (σh2 : ms_T) (v1_h2 : Int32) (v2_h2 : Int32) (v3_h2 : Int32) (v4_h2 : Int32) (w0_h2 : Int32) : Option (Int32 × ms_T) :=
  ms_c (f_X12_is n σh2 w0_h2) fun rh3 σh3 =>
  if rh3 = 0 then
    some ((-1 : Int32), σh3)
  else
    ms_b (f_X12_inclusion n σh3 v2_h2 v3_h2) fun σh5 =>
    if (ms_I σh5 657) < v4_h2 then
      f_X12_trace_J60 n σh5
    else
      ms_c (f_X12_fromPad n σh5) fun rh9 σh9 =>
      if v4_h2 ≤ rh9 then
        ms_c (f_X12_fromPad n σh9) fun rh11 σh11 =>
        f_X12_trace_L72 n n σh11 v1_h2 v2_h2 v3_h2 v4_h2 rh11
      else
        f_X12_trace_J60 n σh9
def f_X12_trace_J27 (n : Nat) (σh21 : ms_T) (v1_h21 : Int32) (v2_h21 : Int32) (v3_h21 : Int32) (v4_h21 : Int32) : Option (Int32 × ms_T) :=
  f_X12_trace_J28 n σh21 v1_h21 v2_h21 v3_h21 v4_h21 (1 : Int32)
def f_X12_trace (n : Nat) (σ : ms_T) (a1 : Int32) (a2 : Int32) (a3 : Int32) (a4 : Int32) : Option (Int32 × ms_T) :=
  ms_b (f_X12_isThing n σ a2 a3) fun rh1 =>
  if rh1 = 0 then
    f_X12_trace_J27 n σ a1 a2 a3 a4
  else
    if a4 < 0 then
      f_X12_trace_J27 n σ a1 a2 a3 a4
    else
      ms_b (f_X12_isMark n σ a1) fun rh24 =>
      if rh24 = 0 then
        f_X12_trace_J27 n σ a1 a2 a3 a4
      else
        f_X12_trace_J28 n σ a1 a2 a3 a4 (0 : Int32)
set_option maxRecDepth 100000 in
set_option maxHeartbeats 4000000 in
theorem m_X12_trace (n : Nat) (Γ : hp_G) (l : Launch) (α : hp_T) (a0 : Nat) (ρ : Nat → Nat) (σ : ms_T) (hM : hm_M α a0 ρ σ) (a1 : Int32) (a2 : Int32) (a3 : Int32) (a4 : Int32) (res : (Int32 × ms_T)) (hf : f_X12_trace n σ a1 a2 a3 a4 = some res) : Met l yX12_trace (hp_ws yX12_trace cX12_trace 6 (some .int)) (hp_rm 42 0 0) (hp_Pc Γ α [.ref a0, .int a1, .int a2, .int a3, .int a4]) (hp_Qi Γ (fun r β => r = res.1 ∧ mo α β ∧ hm_M β a0 ρ res.2)) 0 0 (hp_A Γ) := by
  unfold f_X12_trace at hf
  refine hp_start (by decide) ?_
  intro p e s m below meth c C hr hlk B0 hnm
  have C : hp_C Γ p m c cX12_trace 6 s ([.ref a0, .int a1, .int a2, .int a3, .int a4] : List Value).toArray RX12 := C
  have hx := C.1.1
  have hb := C.1.2.1
  have hown := C.1.2.2.2.1
  have hts := C.1.2.2.2.2
  have B : hp_B Γ mo s α α s.heap [] := ⟨B0.1, B0.2.1, mo_rf⟩
  have hl := lv_entry ([.ref a0, .int a1, .int a2, .int a3, .int a4]) (n := 6) (Nat.le_of_ble_eq_true rfl)
  show W p l e (hp_rm 42 0 0) s m ([.ref a0, .int a1, .int a2, .int a3, .int a4] : List Value).toArray below meth c s.heap [] 0 0 (MQ below (hp_Qi Γ (fun r β => r = res.1 ∧ mo α β ∧ hm_M β a0 ρ res.2)) ([.ref a0, .int a1, .int a2, .int a3, .int a4] : List Value).toArray s 0 0 (hp_A Γ)) (entryFrame m ([.ref a0, .int a1, .int a2, .int a3, .int a4] : List Value).toArray 6)
  rw [lg_entry_eq]
  generalize (lg_sl ([.ref a0, .int a1, .int a2, .int a3, .int a4]) ++ List.replicate (6 - (lg_sl ([.ref a0, .int a1, .int a2, .int a3, .int a4])).length) Slot.unset).toArray = ls at hl ⊢
  have hl : lv_has ls 6 [(0, .ref a0), (1, .int a1), (2, .int a2), (3, .int a3), (4, .int a4)] := hl
  refine lv_aload_n hx hb dX12_trace_0 rfl (lv_at hl 0 rfl) (hp_n (n := 1) rfl ?_)
  refine lv_aload_n hx hb dX12_trace_1 rfl (lv_at hl 0 rfl) (hp_n (n := 2) rfl ?_)
  refine lv_iload_n hx hb dX12_trace_2 rfl (lv_at hl 2 rfl) (hp_n (n := 3) rfl ?_)
  refine lv_iload_n hx hb dX12_trace_3 rfl (lv_at hl 3 rfl) (hp_n (n := 4) rfl ?_)
  obtain ⟨rh1, qh1, hf⟩ := ms_bE hf
  refine m_cp (pc' := 7) B (hp_runV (As := [.int a2, .int a3]) (rest := [.ref a0]) C B (m_X12_isThing n Γ l α a0 ρ σ hM a2 a3 rh1 qh1) lb_X12_isThing lv_X12_isThing lk_X12_381 hM.1 rfl (by decide) rfl hl.1 rfl (Nat.le_of_ble_eq_true rfl) dX12_trace_4 ⟨Nat.le_refl _, Nat.le_refl _⟩) rfl (fun Hh1 Lh1 Bh1 => ?_)
  have J28 : ∀ (αh2 : hp_T) (Hh2 : Heap) (Lh2 : List Loc) (Bh2 : hp_B Γ mo s α αh2 Hh2 Lh2) (σh2 : ms_T) (Mh2 : hm_M αh2 a0 ρ σh2) (v1_h2 : Int32) (v2_h2 : Int32) (v3_h2 : Int32) (v4_h2 : Int32) (w0_h2 : Int32) (ls : Array Slot) (hl : lv_has ls 6 [(0, .ref a0), (1, .int v1_h2), (2, .int v2_h2), (3, .int v3_h2), (4, .int v4_h2)]) (hf : f_X12_trace_J28 n σh2 v1_h2 v2_h2 v3_h2 v4_h2 w0_h2 = some res), W p l e (hp_rm 42 0 0) s m ([.ref a0, .int a1, .int a2, .int a3, .int a4] : List Value).toArray below meth c Hh2 Lh2 0 0 (MQ below (hp_Qi Γ (fun r β => r = res.1 ∧ mo α β ∧ hm_M β a0 ρ res.2)) ([.ref a0, .int a1, .int a2, .int a3, .int a4] : List Value).toArray s 0 0 (hp_A Γ)) (F0 m 28 ls [.int w0_h2, .ref a0]) := by
    intro αh2 Hh2 Lh2 Bh2 σh2 Mh2 v1_h2 v2_h2 v3_h2 v4_h2 w0_h2 ls hl hf
    unfold f_X12_trace_J28 at hf
    obtain ⟨rh3, σh3, qh3, hf⟩ := ms_cE hf
    refine m_ci (pc' := 31) (a := a0) (ρ := ρ) Bh2 (hp_runV (As := [.int w0_h2]) (rest := []) C Bh2 (m_X12_is n Γ l αh2 a0 ρ σh2 Mh2 w0_h2 (rh3, σh3) qh3) lb_X12_is lv_X12_is lk_X12_309 Mh2.1 rfl (by decide) rfl hl.1 rfl (Nat.le_of_ble_eq_true rfl) dX12_trace_28 ⟨Nat.le_refl _, Nat.le_refl _⟩) rfl (fun αh3 Hh3 Lh3 Bh3 Mh3 => ?_)
    refine lv_if_ne (tgt := 36) hx hb dX12_trace_31 (by decide) (fun c4 => ?_) (fun c4 => hp_n (n := 34) rfl ?_)
    ·
      replace hf := ms_iF c4 hf
      refine lv_aload_n hx hb dX12_trace_36 rfl (lv_at hl 0 rfl) (hp_n (n := 37) rfl ?_)
      refine lv_iload_n hx hb dX12_trace_37 rfl (lv_at hl 2 rfl) (hp_n (n := 38) rfl ?_)
      refine lv_iload_n hx hb dX12_trace_38 rfl (lv_at hl 3 rfl) (hp_n (n := 39) rfl ?_)
      obtain ⟨σh5, qh5, hf⟩ := ms_bE hf
      refine m_cv (pc' := 42) (a := a0) (ρ := ρ) Bh3 (hp_runV (As := [.int v2_h2, .int v3_h2]) (rest := []) C Bh3 (m_X12_inclusion n Γ l αh3 a0 ρ σh3 Mh3 v2_h2 v3_h2 σh5 qh5) lb_X12_inclusion lv_X12_inclusion lk_X12_171 Mh3.1 rfl (by decide) rfl hl.1 rfl (Nat.le_of_ble_eq_true rfl) dX12_trace_39 ⟨Nat.le_refl _, Nat.le_refl _⟩) rfl (fun αh5 Hh5 Lh5 Bh5 Mh5 => ?_)
      refine lv_iload hx hb dX12_trace_42 (lv_at hl 4 rfl) (hp_n (n := 44) rfl ?_)
      refine lv_aload_n hx hb dX12_trace_44 rfl (lv_at hl 0 rfl) (hp_n (n := 45) rfl ?_)
      refine m_geti (k := 7) (φ := 657) (pc' := 48) C Bh5 Mh5 fl_X12_139 rfl rfl dX12_trace_45 rfl ?_
      have J60 : ∀ (αh6 : hp_T) (Hh6 : Heap) (Lh6 : List Loc) (Bh6 : hp_B Γ mo s α αh6 Hh6 Lh6) (σh6 : ms_T) (Mh6 : hm_M αh6 a0 ρ σh6) (ls : Array Slot) (hl : lv_has ls 6 [(0, .ref a0)]) (hf : f_X12_trace_J60 n σh6 = some res), W p l e (hp_rm 42 0 0) s m ([.ref a0, .int a1, .int a2, .int a3, .int a4] : List Value).toArray below meth c Hh6 Lh6 0 0 (MQ below (hp_Qi Γ (fun r β => r = res.1 ∧ mo α β ∧ hm_M β a0 ρ res.2)) ([.ref a0, .int a1, .int a2, .int a3, .int a4] : List Value).toArray s 0 0 (hp_A Γ)) (F0 m 60 ls []) := by
        intro αh6 Hh6 Lh6 Bh6 σh6 Mh6 ls hl hf
        unfold f_X12_trace_J60 at hf
        refine lv_aload_n hx hb dX12_trace_60 rfl (lv_at hl 0 rfl) (hp_n (n := 61) rfl ?_)
        refine lv_iconst (v := 5) hx hb dX12_trace_61 (by decide) (hp_n (n := 62) rfl ?_)
        obtain ⟨rh7, σh7, qh7, hf⟩ := ms_cE hf
        refine m_ci (pc' := 65) (a := a0) (ρ := ρ) Bh6 (hp_runV (As := [.int (5 : Int32)]) (rest := []) C Bh6 (m_X12_refuse n Γ l αh6 a0 ρ σh6 Mh6 (5 : Int32) (rh7, σh7) qh7) lb_X12_refuse lv_X12_refuse lk_X12_212 Mh6.1 rfl (by decide) rfl hl.1 rfl (Nat.le_of_ble_eq_true rfl) dX12_trace_62 ⟨Nat.le_refl _, Nat.le_refl _⟩) rfl (fun αh7 Hh7 Lh7 Bh7 Mh7 => ?_)
        cases hf
        exact q_iret C Bh7 hr hlk ⟨rfl, Bh7.2.2, Mh7⟩ dX12_trace_65
      refine lv_icmp_gt (tgt := 60) hx hb dX12_trace_48 (by decide) (fun c8 => ?_) (fun c8 => hp_n (n := 51) rfl ?_)
      ·
        replace hf := ms_iT c8 hf
        exact J60 αh5 Hh5 Lh5 Bh5 σh5 Mh5 ls (lv_sub hl [0] rfl) hf
      ·
        replace hf := ms_iF c8 hf
        refine lv_iload hx hb dX12_trace_51 (lv_at hl 4 rfl) (hp_n (n := 53) rfl ?_)
        refine lv_aload_n hx hb dX12_trace_53 rfl (lv_at hl 0 rfl) (hp_n (n := 54) rfl ?_)
        obtain ⟨rh9, σh9, qh9, hf⟩ := ms_cE hf
        refine m_ci (pc' := 57) (a := a0) (ρ := ρ) Bh5 (hp_runV (As := []) (rest := [.int v4_h2]) C Bh5 (m_X12_fromPad n Γ l αh5 a0 ρ σh5 Mh5  (rh9, σh9) qh9) lb_X12_fromPad lv_X12_fromPad lk_X12_384 Mh5.1 rfl (by decide) rfl hl.1 rfl (Nat.le_of_ble_eq_true rfl) dX12_trace_54 ⟨Nat.le_refl _, Nat.le_refl _⟩) rfl (fun αh9 Hh9 Lh9 Bh9 Mh9 => ?_)
        refine lv_icmp_le (tgt := 66) hx hb dX12_trace_57 (by decide) (fun c10 => ?_) (fun c10 => hp_n (n := 60) rfl ?_)
        ·
          replace hf := ms_iT c10 hf
          refine lv_aload_n hx hb dX12_trace_66 rfl (lv_at hl 0 rfl) (hp_n (n := 67) rfl ?_)
          obtain ⟨rh11, σh11, qh11, hf⟩ := ms_cE hf
          refine m_ci (pc' := 70) (a := a0) (ρ := ρ) Bh9 (hp_runV (As := []) (rest := []) C Bh9 (m_X12_fromPad n Γ l αh9 a0 ρ σh9 Mh9  (rh11, σh11) qh11) lb_X12_fromPad lv_X12_fromPad lk_X12_384 Mh9.1 rfl (by decide) rfl hl.1 rfl (Nat.le_of_ble_eq_true rfl) dX12_trace_67 ⟨Nat.le_refl _, Nat.le_refl _⟩) rfl (fun αh11 Hh11 Lh11 Bh11 Mh11 => ?_)
          have J72 : ∀ (k72 : Nat) (αh12 : hp_T) (Hh12 : Heap) (Lh12 : List Loc) (Bh12 : hp_B Γ mo s α αh12 Hh12 Lh12) (σh12 : ms_T) (Mh12 : hm_M αh12 a0 ρ σh12) (v1_h12 : Int32) (v2_h12 : Int32) (v3_h12 : Int32) (v4_h12 : Int32) (v5_h12 : Int32) (ls : Array Slot) (hl : lv_has ls 6 [(0, .ref a0), (1, .int v1_h12), (2, .int v2_h12), (3, .int v3_h12), (4, .int v4_h12), (5, .int v5_h12)]) (hf : f_X12_trace_L72 n k72 σh12 v1_h12 v2_h12 v3_h12 v4_h12 v5_h12 = some res), W p l e (hp_rm 42 0 0) s m ([.ref a0, .int a1, .int a2, .int a3, .int a4] : List Value).toArray below meth c Hh12 Lh12 0 0 (MQ below (hp_Qi Γ (fun r β => r = res.1 ∧ mo α β ∧ hm_M β a0 ρ res.2)) ([.ref a0, .int a1, .int a2, .int a3, .int a4] : List Value).toArray s 0 0 (hp_A Γ)) (F0 m 72 ls []) := by
            intro k72
            induction k72 with
            | zero => intro αh12 Hh12 Lh12 Bh12 σh12 Mh12 v1_h12 v2_h12 v3_h12 v4_h12 v5_h12 ls hl hf; rw [f_X12_trace_L72.eq_1] at hf; cases hf
            | succ k72 ih72 =>
              intro αh12 Hh12 Lh12 Bh12 σh12 Mh12 v1_h12 v2_h12 v3_h12 v4_h12 v5_h12 ls hl hf
              rw [f_X12_trace_L72.eq_2] at hf
              refine lv_iload hx hb dX12_trace_72 (lv_at hl 5 rfl) (hp_n (n := 74) rfl ?_)
              refine lv_aload_n hx hb dX12_trace_74 rfl (lv_at hl 0 rfl) (hp_n (n := 75) rfl ?_)
              refine m_geti (k := 7) (φ := 657) (pc' := 78) C Bh12 Mh12 fl_X12_139 rfl rfl dX12_trace_75 rfl ?_
              refine lv_icmp_ge (tgt := 95) hx hb dX12_trace_78 (by decide) (fun c13 => ?_) (fun c13 => hp_n (n := 81) rfl ?_)
              ·
                replace hf := ms_iT c13 hf
                refine lv_aload_n hx hb dX12_trace_95 rfl (lv_at hl 0 rfl) (hp_n (n := 96) rfl ?_)
                refine lv_iconst (v := 0) hx hb dX12_trace_96 (by decide) (hp_n (n := 97) rfl ?_)
                refine m_puti (k := 39) (φ := 689) (pc' := 100) C Bh12 Mh12 fl_X12_411 rfl rfl rfl rfl rfl dX12_trace_97 rfl (fun αh14 Hh14 Lh14 σh14 eh14 Bh14 Mh14 => ?_)
                replace hf := ms_lE eh14 hf
                refine lv_aload_n hx hb dX12_trace_100 rfl (lv_at hl 0 rfl) (hp_n (n := 101) rfl ?_)
                refine lv_iload_n hx hb dX12_trace_101 rfl (lv_at hl 1 rfl) (hp_n (n := 102) rfl ?_)
                refine lv_iload_n hx hb dX12_trace_102 rfl (lv_at hl 2 rfl) (hp_n (n := 103) rfl ?_)
                refine lv_iload_n hx hb dX12_trace_103 rfl (lv_at hl 3 rfl) (hp_n (n := 104) rfl ?_)
                obtain ⟨rh15, σh15, qh15, hf⟩ := ms_cE hf
                refine m_ci (pc' := 107) (a := a0) (ρ := ρ) Bh14 (hp_runV (As := [.int v1_h12, .int v2_h12, .int v3_h12]) (rest := []) C Bh14 (m_X12_stepsIn n 40 Γ l αh14 a0 ρ σh14 Mh14 v1_h12 v2_h12 v3_h12 (rh15, σh15) qh15) lb_X12_stepsIn lv_X12_stepsIn lk_X12_408 Mh14.1 rfl (by decide) rfl hl.1 rfl (Nat.le_of_ble_eq_true rfl) dX12_trace_104 ⟨Nat.le_refl _, Nat.le_refl _⟩) rfl (fun αh15 Hh15 Lh15 Bh15 Mh15 => ?_)
                refine lv_pop hx hb dX12_trace_107 rfl (hp_n (n := 108) rfl ?_)
                refine lv_iload hx hb dX12_trace_108 (lv_at hl 4 rfl) (hp_n (n := 110) rfl ?_)
                refine lv_if_ne (tgt := 117) hx hb dX12_trace_110 (by decide) (fun c16 => ?_) (fun c16 => hp_n (n := 113) rfl ?_)
                ·
                  replace hf := ms_iF c16 hf
                  refine lv_aload_n hx hb dX12_trace_117 rfl (lv_at hl 0 rfl) (hp_n (n := 118) rfl ?_)
                  refine m_getr (κ := 53) (k := 38) (pc' := 121) C Bh15 Mh15 fl_X12_82 rfl (by decide) dX12_trace_118 rfl ?_
                  refine lv_iload hx hb dX12_trace_121 (lv_at hl 4 rfl) (hp_n (n := 123) rfl ?_)
                  refine lv_iconst (v := 1) hx hb dX12_trace_123 (by decide) (hp_n (n := 124) rfl ?_)
                  refine lv_isub hx hb dX12_trace_124 (hp_n (n := 125) rfl ?_)
                  obtain ⟨g17, hf⟩ := ms_gE hf
                  refine m_ial (κ := 53) (φ := 688) (n := 64) (pc' := 126) C Bh15 Mh15 (by decide) (by decide) rfl g17 dX12_trace_125 rfl ?_
                  cases hf
                  exact q_iret C Bh15 hr hlk ⟨rfl, Bh15.2.2, Mh15⟩ dX12_trace_126
                ·
                  replace hf := ms_iT c16 hf
                  refine lv_iload_n hx hb dX12_trace_113 rfl (lv_at hl 1 rfl) (hp_n (n := 114) rfl ?_)
                  refine lv_goto (tgt := 126) hx hb dX12_trace_114 (by decide) ?_
                  cases hf
                  exact q_iret C Bh15 hr hlk ⟨rfl, Bh15.2.2, Mh15⟩ dX12_trace_126
              ·
                replace hf := ms_iF c13 hf
                refine lv_aload_n hx hb dX12_trace_81 rfl (lv_at hl 0 rfl) (hp_n (n := 82) rfl ?_)
                refine m_getr (κ := 44) (k := 6) (pc' := 85) C Bh12 Mh12 fl_X12_22 rfl (by decide) dX12_trace_82 rfl ?_
                refine lv_iload hx hb dX12_trace_85 (lv_at hl 5 rfl) (hp_n (n := 87) rfl ?_)
                refine lv_iconst (v := 0) hx hb dX12_trace_87 (by decide) (hp_n (n := 88) rfl ?_)
                obtain ⟨g18, hf⟩ := ms_gE hf
                refine m_ias (κ := 44) (φ := 656) (n := 128) (pc' := 89) C Bh12 Mh12 (by decide) (by decide) rfl g18 dX12_trace_88 rfl (fun αh19 Hh19 Lh19 σh19 eh19 Bh19 Mh19 => ?_)
                replace hf := ms_lE eh19 hf
                obtain ⟨x20, ex20⟩ : ∃ y : Int32, y = v5_h12 + 1 := ⟨_, rfl⟩
                replace hf := ms_lE ex20 hf
                refine lv_iinc (v := x20) (lv' := [(5, .int x20), (0, .ref a0), (1, .int v1_h12), (2, .int v2_h12), (3, .int v3_h12), (4, .int v4_h12)]) hx hb dX12_trace_89 hl (k := 5) rfl (by rw [ex20]; rfl) (by decide) rfl (fun ls hl => hp_n (n := 92) rfl ?_)
                refine lv_goto (tgt := 72) hx hb dX12_trace_92 (by decide) ?_
                exact ih72 αh19 Hh19 Lh19 Bh19 σh19 Mh19 v1_h12 v2_h12 v3_h12 v4_h12 x20 ls (lv_sub hl [1, 2, 3, 4, 5, 0] rfl) hf
          refine lv_istore (lv' := [(5, .int rh11), (0, .ref a0), (1, .int v1_h2), (2, .int v2_h2), (3, .int v3_h2), (4, .int v4_h2)]) hx hb dX12_trace_70 hl (by decide) rfl (fun ls hl => hp_n (n := 72) rfl ?_)
          exact J72 n αh11 Hh11 Lh11 Bh11 σh11 Mh11 v1_h2 v2_h2 v3_h2 v4_h2 rh11 ls (lv_sub hl [1, 2, 3, 4, 5, 0] rfl) hf
        ·
          replace hf := ms_iF c10 hf
          exact J60 αh9 Hh9 Lh9 Bh9 σh9 Mh9 ls (lv_sub hl [0] rfl) hf
    ·
      replace hf := ms_iT c4 hf
      refine lv_iconst (v := (-1)) hx hb dX12_trace_34 (by decide) (hp_n (n := 35) rfl ?_)
      cases hf
      exact q_iret C Bh3 hr hlk ⟨rfl, Bh3.2.2, Mh3⟩ dX12_trace_35
  have J27 : ∀ (αh21 : hp_T) (Hh21 : Heap) (Lh21 : List Loc) (Bh21 : hp_B Γ mo s α αh21 Hh21 Lh21) (σh21 : ms_T) (Mh21 : hm_M αh21 a0 ρ σh21) (v1_h21 : Int32) (v2_h21 : Int32) (v3_h21 : Int32) (v4_h21 : Int32) (ls : Array Slot) (hl : lv_has ls 6 [(0, .ref a0), (1, .int v1_h21), (2, .int v2_h21), (3, .int v3_h21), (4, .int v4_h21)]) (hf : f_X12_trace_J27 n σh21 v1_h21 v2_h21 v3_h21 v4_h21 = some res), W p l e (hp_rm 42 0 0) s m ([.ref a0, .int a1, .int a2, .int a3, .int a4] : List Value).toArray below meth c Hh21 Lh21 0 0 (MQ below (hp_Qi Γ (fun r β => r = res.1 ∧ mo α β ∧ hm_M β a0 ρ res.2)) ([.ref a0, .int a1, .int a2, .int a3, .int a4] : List Value).toArray s 0 0 (hp_A Γ)) (F0 m 27 ls [.ref a0]) := by
    intro αh21 Hh21 Lh21 Bh21 σh21 Mh21 v1_h21 v2_h21 v3_h21 v4_h21 ls hl hf
    unfold f_X12_trace_J27 at hf
    refine lv_iconst (v := 1) hx hb dX12_trace_27 (by decide) (hp_n (n := 28) rfl ?_)
    exact J28 αh21 Hh21 Lh21 Bh21 σh21 Mh21 v1_h21 v2_h21 v3_h21 v4_h21 (1 : Int32) ls (lv_sub hl [0, 1, 2, 3, 4] rfl) hf
  refine lv_if_eq (tgt := 27) hx hb dX12_trace_7 (by decide) (fun c22 => ?_) (fun c22 => hp_n (n := 10) rfl ?_)
  ·
    replace hf := ms_iT c22 hf
    exact J27 α Hh1 Lh1 Bh1 σ hM a1 a2 a3 a4 ls (lv_sub hl [0, 1, 2, 3, 4] rfl) hf
  ·
    replace hf := ms_iF c22 hf
    refine lv_iload hx hb dX12_trace_10 (lv_at hl 4 rfl) (hp_n (n := 12) rfl ?_)
    refine lv_if_lt (tgt := 27) hx hb dX12_trace_12 (by decide) (fun c23 => ?_) (fun c23 => hp_n (n := 15) rfl ?_)
    ·
      replace hf := ms_iT c23 hf
      exact J27 α Hh1 Lh1 Bh1 σ hM a1 a2 a3 a4 ls (lv_sub hl [0, 1, 2, 3, 4] rfl) hf
    ·
      replace hf := ms_iF c23 hf
      refine lv_aload_n hx hb dX12_trace_15 rfl (lv_at hl 0 rfl) (hp_n (n := 16) rfl ?_)
      refine lv_iload_n hx hb dX12_trace_16 rfl (lv_at hl 1 rfl) (hp_n (n := 17) rfl ?_)
      obtain ⟨rh24, qh24, hf⟩ := ms_bE hf
      refine m_cp (pc' := 20) Bh1 (hp_runV (As := [.int a1]) (rest := [.ref a0]) C Bh1 (m_X12_isMark n Γ l α a0 ρ σ hM a1 rh24 qh24) lb_X12_isMark lv_X12_isMark lk_X12_321 hM.1 rfl (by decide) rfl hl.1 rfl (Nat.le_of_ble_eq_true rfl) dX12_trace_17 ⟨Nat.le_refl _, Nat.le_refl _⟩) rfl (fun Hh24 Lh24 Bh24 => ?_)
      refine lv_if_eq (tgt := 27) hx hb dX12_trace_20 (by decide) (fun c25 => ?_) (fun c25 => hp_n (n := 23) rfl ?_)
      ·
        replace hf := ms_iT c25 hf
        exact J27 α Hh24 Lh24 Bh24 σ hM a1 a2 a3 a4 ls (lv_sub hl [0, 1, 2, 3, 4] rfl) hf
      ·
        replace hf := ms_iF c25 hf
        refine lv_iconst (v := 0) hx hb dX12_trace_23 (by decide) (hp_n (n := 24) rfl ?_)
        refine lv_goto (tgt := 28) hx hb dX12_trace_24 (by decide) ?_
        exact J28 α Hh24 Lh24 Bh24 σ hM a1 a2 a3 a4 (0 : Int32) ls (lv_sub hl [0, 1, 2, 3, 4] rfl) hf
def f_X12_wayAt (n : Nat) (σ : ms_T) (a1 : Int32) (a2 : Int32) : Option (Int32 × ms_T) :=
  if a1 < (ms_I σ 657) then
    if a2 = 0 then
      ms_g a1 128 <|
      some ((ms_E σ 42 (a1).toNatClampNeg), σ)
    else
      ms_g a1 128 <|
      some ((ms_E σ 43 (a1).toNatClampNeg), σ)
  else
    ms_c (f_X12_refuse n σ (5 : Int32)) fun rh5 σh5 =>
    some (rh5, σh5)
set_option maxRecDepth 100000 in
set_option maxHeartbeats 4000000 in
theorem m_X12_wayAt (n : Nat) (Γ : hp_G) (l : Launch) (α : hp_T) (a0 : Nat) (ρ : Nat → Nat) (σ : ms_T) (hM : hm_M α a0 ρ σ) (a1 : Int32) (a2 : Int32) (res : (Int32 × ms_T)) (hf : f_X12_wayAt n σ a1 a2 = some res) : Met l yX12_wayAt (hp_ws yX12_wayAt cX12_wayAt 3 (some .int)) (hp_rm 1 0 0) (hp_Pc Γ α [.ref a0, .int a1, .int a2]) (hp_Qi Γ (fun r β => r = res.1 ∧ mo α β ∧ hm_M β a0 ρ res.2)) 0 0 (hp_A Γ) := by
  unfold f_X12_wayAt at hf
  refine hp_start (by decide) ?_
  intro p e s m below meth c C hr hlk B0 hnm
  have C : hp_C Γ p m c cX12_wayAt 3 s ([.ref a0, .int a1, .int a2] : List Value).toArray RX12 := C
  have hx := C.1.1
  have hb := C.1.2.1
  have hown := C.1.2.2.2.1
  have hts := C.1.2.2.2.2
  have B : hp_B Γ mo s α α s.heap [] := ⟨B0.1, B0.2.1, mo_rf⟩
  have hl := lv_entry ([.ref a0, .int a1, .int a2]) (n := 3) (Nat.le_of_ble_eq_true rfl)
  show W p l e (hp_rm 1 0 0) s m ([.ref a0, .int a1, .int a2] : List Value).toArray below meth c s.heap [] 0 0 (MQ below (hp_Qi Γ (fun r β => r = res.1 ∧ mo α β ∧ hm_M β a0 ρ res.2)) ([.ref a0, .int a1, .int a2] : List Value).toArray s 0 0 (hp_A Γ)) (entryFrame m ([.ref a0, .int a1, .int a2] : List Value).toArray 3)
  rw [lg_entry_eq]
  generalize (lg_sl ([.ref a0, .int a1, .int a2]) ++ List.replicate (3 - (lg_sl ([.ref a0, .int a1, .int a2])).length) Slot.unset).toArray = ls at hl ⊢
  have hl : lv_has ls 3 [(0, .ref a0), (1, .int a1), (2, .int a2)] := hl
  refine lv_iload_n hx hb dX12_wayAt_0 rfl (lv_at hl 1 rfl) (hp_n (n := 1) rfl ?_)
  refine lv_aload_n hx hb dX12_wayAt_1 rfl (lv_at hl 0 rfl) (hp_n (n := 2) rfl ?_)
  refine m_geti (k := 7) (φ := 657) (pc' := 5) C B hM fl_X12_139 rfl rfl dX12_wayAt_2 rfl ?_
  refine lv_icmp_lt (tgt := 16) hx hb dX12_wayAt_5 (by decide) (fun c1 => ?_) (fun c1 => hp_n (n := 8) rfl ?_)
  ·
    replace hf := ms_iT c1 hf
    refine lv_iload_n hx hb dX12_wayAt_16 rfl (lv_at hl 2 rfl) (hp_n (n := 17) rfl ?_)
    refine lv_if_ne (tgt := 29) hx hb dX12_wayAt_17 (by decide) (fun c2 => ?_) (fun c2 => hp_n (n := 20) rfl ?_)
    ·
      replace hf := ms_iF c2 hf
      refine lv_aload_n hx hb dX12_wayAt_29 rfl (lv_at hl 0 rfl) (hp_n (n := 30) rfl ?_)
      refine m_getr (κ := 43) (k := 5) (pc' := 33) C B hM fl_X12_19 rfl (by decide) dX12_wayAt_30 rfl ?_
      refine lv_iload_n hx hb dX12_wayAt_33 rfl (lv_at hl 1 rfl) (hp_n (n := 34) rfl ?_)
      obtain ⟨g3, hf⟩ := ms_gE hf
      refine m_ial (κ := 43) (φ := 655) (n := 128) (pc' := 35) C B hM (by decide) (by decide) rfl g3 dX12_wayAt_34 rfl ?_
      cases hf
      exact q_iret C B hr hlk ⟨rfl, B.2.2, hM⟩ dX12_wayAt_35
    ·
      replace hf := ms_iT c2 hf
      refine lv_aload_n hx hb dX12_wayAt_20 rfl (lv_at hl 0 rfl) (hp_n (n := 21) rfl ?_)
      refine m_getr (κ := 42) (k := 4) (pc' := 24) C B hM fl_X12_16 rfl (by decide) dX12_wayAt_21 rfl ?_
      refine lv_iload_n hx hb dX12_wayAt_24 rfl (lv_at hl 1 rfl) (hp_n (n := 25) rfl ?_)
      obtain ⟨g4, hf⟩ := ms_gE hf
      refine m_ial (κ := 42) (φ := 654) (n := 128) (pc' := 26) C B hM (by decide) (by decide) rfl g4 dX12_wayAt_25 rfl ?_
      refine lv_goto (tgt := 35) hx hb dX12_wayAt_26 (by decide) ?_
      cases hf
      exact q_iret C B hr hlk ⟨rfl, B.2.2, hM⟩ dX12_wayAt_35
  ·
    replace hf := ms_iF c1 hf
    refine lv_aload_n hx hb dX12_wayAt_8 rfl (lv_at hl 0 rfl) (hp_n (n := 9) rfl ?_)
    refine lv_iconst (v := 5) hx hb dX12_wayAt_9 (by decide) (hp_n (n := 10) rfl ?_)
    obtain ⟨rh5, σh5, qh5, hf⟩ := ms_cE hf
    refine m_ci (pc' := 13) (a := a0) (ρ := ρ) B (hp_runV (As := [.int (5 : Int32)]) (rest := []) C B (m_X12_refuse n Γ l α a0 ρ σ hM (5 : Int32) (rh5, σh5) qh5) lb_X12_refuse lv_X12_refuse lk_X12_212 hM.1 rfl (by decide) rfl hl.1 rfl (Nat.le_of_ble_eq_true rfl) dX12_wayAt_10 ⟨Nat.le_refl _, Nat.le_refl _⟩) rfl (fun αh5 Hh5 Lh5 Bh5 Mh5 => ?_)
    refine lv_goto (tgt := 35) hx hb dX12_wayAt_13 (by decide) ?_
    cases hf
    exact q_iret C Bh5 hr hlk ⟨rfl, Bh5.2.2, Mh5⟩ dX12_wayAt_35
def f_X12_span_J29 (n : Nat) (σh2 : ms_T) (v1_h2 : Int32) (v2_h2 : Int32) (v3_h2 : Int32) (v4_h2 : Int32) (w0_h2 : Int32) : Option (Int32 × ms_T) :=
  ms_c (f_X12_is n σh2 w0_h2) fun rh3 σh3 =>
  if rh3 = 0 then
    some ((-1 : Int32), σh3)
  else
    ms_b (f_X12_inclusion n σh3 v1_h2 v2_h2) fun σh5 =>
    ms_c (f_X12_wayAt n σh5 v3_h2 v4_h2) fun rh6 σh6 =>
    some (rh6, σh6)
def f_X12_span_J28 (n : Nat) (σh7 : ms_T) (v1_h7 : Int32) (v2_h7 : Int32) (v3_h7 : Int32) (v4_h7 : Int32) : Option (Int32 × ms_T) :=
  f_X12_span_J29 n σh7 v1_h7 v2_h7 v3_h7 v4_h7 (1 : Int32)
def f_X12_span (n : Nat) (σ : ms_T) (a1 : Int32) (a2 : Int32) (a3 : Int32) (a4 : Int32) : Option (Int32 × ms_T) :=
  ms_b (f_X12_isThing n σ a1 a2) fun rh1 =>
  if rh1 = 0 then
    f_X12_span_J28 n σ a1 a2 a3 a4
  else
    if a3 < 0 then
      f_X12_span_J28 n σ a1 a2 a3 a4
    else
      ms_b (f_X12_isIn n a4 (0 : Int32) (1 : Int32)) fun rh10 =>
      if rh10 = 0 then
        f_X12_span_J28 n σ a1 a2 a3 a4
      else
        f_X12_span_J29 n σ a1 a2 a3 a4 (0 : Int32)
set_option maxRecDepth 100000 in
set_option maxHeartbeats 4000000 in
theorem m_X12_span (n : Nat) (Γ : hp_G) (l : Launch) (α : hp_T) (a0 : Nat) (ρ : Nat → Nat) (σ : ms_T) (hM : hm_M α a0 ρ σ) (a1 : Int32) (a2 : Int32) (a3 : Int32) (a4 : Int32) (res : (Int32 × ms_T)) (hf : f_X12_span n σ a1 a2 a3 a4 = some res) : Met l yX12_span (hp_ws yX12_span cX12_span 5 (some .int)) (hp_rm 42 0 0) (hp_Pc Γ α [.ref a0, .int a1, .int a2, .int a3, .int a4]) (hp_Qi Γ (fun r β => r = res.1 ∧ mo α β ∧ hm_M β a0 ρ res.2)) 0 0 (hp_A Γ) := by
  unfold f_X12_span at hf
  refine hp_start (by decide) ?_
  intro p e s m below meth c C hr hlk B0 hnm
  have C : hp_C Γ p m c cX12_span 5 s ([.ref a0, .int a1, .int a2, .int a3, .int a4] : List Value).toArray RX12 := C
  have hx := C.1.1
  have hb := C.1.2.1
  have hown := C.1.2.2.2.1
  have hts := C.1.2.2.2.2
  have B : hp_B Γ mo s α α s.heap [] := ⟨B0.1, B0.2.1, mo_rf⟩
  have hl := lv_entry ([.ref a0, .int a1, .int a2, .int a3, .int a4]) (n := 5) (Nat.le_of_ble_eq_true rfl)
  show W p l e (hp_rm 42 0 0) s m ([.ref a0, .int a1, .int a2, .int a3, .int a4] : List Value).toArray below meth c s.heap [] 0 0 (MQ below (hp_Qi Γ (fun r β => r = res.1 ∧ mo α β ∧ hm_M β a0 ρ res.2)) ([.ref a0, .int a1, .int a2, .int a3, .int a4] : List Value).toArray s 0 0 (hp_A Γ)) (entryFrame m ([.ref a0, .int a1, .int a2, .int a3, .int a4] : List Value).toArray 5)
  rw [lg_entry_eq]
  generalize (lg_sl ([.ref a0, .int a1, .int a2, .int a3, .int a4]) ++ List.replicate (5 - (lg_sl ([.ref a0, .int a1, .int a2, .int a3, .int a4])).length) Slot.unset).toArray = ls at hl ⊢
  have hl : lv_has ls 5 [(0, .ref a0), (1, .int a1), (2, .int a2), (3, .int a3), (4, .int a4)] := hl
  refine lv_aload_n hx hb dX12_span_0 rfl (lv_at hl 0 rfl) (hp_n (n := 1) rfl ?_)
  refine lv_aload_n hx hb dX12_span_1 rfl (lv_at hl 0 rfl) (hp_n (n := 2) rfl ?_)
  refine lv_iload_n hx hb dX12_span_2 rfl (lv_at hl 1 rfl) (hp_n (n := 3) rfl ?_)
  refine lv_iload_n hx hb dX12_span_3 rfl (lv_at hl 2 rfl) (hp_n (n := 4) rfl ?_)
  obtain ⟨rh1, qh1, hf⟩ := ms_bE hf
  refine m_cp (pc' := 7) B (hp_runV (As := [.int a1, .int a2]) (rest := [.ref a0]) C B (m_X12_isThing n Γ l α a0 ρ σ hM a1 a2 rh1 qh1) lb_X12_isThing lv_X12_isThing lk_X12_381 hM.1 rfl (by decide) rfl hl.1 rfl (Nat.le_of_ble_eq_true rfl) dX12_span_4 ⟨Nat.le_refl _, Nat.le_refl _⟩) rfl (fun Hh1 Lh1 Bh1 => ?_)
  have J29 : ∀ (αh2 : hp_T) (Hh2 : Heap) (Lh2 : List Loc) (Bh2 : hp_B Γ mo s α αh2 Hh2 Lh2) (σh2 : ms_T) (Mh2 : hm_M αh2 a0 ρ σh2) (v1_h2 : Int32) (v2_h2 : Int32) (v3_h2 : Int32) (v4_h2 : Int32) (w0_h2 : Int32) (ls : Array Slot) (hl : lv_has ls 5 [(0, .ref a0), (1, .int v1_h2), (2, .int v2_h2), (3, .int v3_h2), (4, .int v4_h2)]) (hf : f_X12_span_J29 n σh2 v1_h2 v2_h2 v3_h2 v4_h2 w0_h2 = some res), W p l e (hp_rm 42 0 0) s m ([.ref a0, .int a1, .int a2, .int a3, .int a4] : List Value).toArray below meth c Hh2 Lh2 0 0 (MQ below (hp_Qi Γ (fun r β => r = res.1 ∧ mo α β ∧ hm_M β a0 ρ res.2)) ([.ref a0, .int a1, .int a2, .int a3, .int a4] : List Value).toArray s 0 0 (hp_A Γ)) (F0 m 29 ls [.int w0_h2, .ref a0]) := by
    intro αh2 Hh2 Lh2 Bh2 σh2 Mh2 v1_h2 v2_h2 v3_h2 v4_h2 w0_h2 ls hl hf
    unfold f_X12_span_J29 at hf
    obtain ⟨rh3, σh3, qh3, hf⟩ := ms_cE hf
    refine m_ci (pc' := 32) (a := a0) (ρ := ρ) Bh2 (hp_runV (As := [.int w0_h2]) (rest := []) C Bh2 (m_X12_is n Γ l αh2 a0 ρ σh2 Mh2 w0_h2 (rh3, σh3) qh3) lb_X12_is lv_X12_is lk_X12_309 Mh2.1 rfl (by decide) rfl hl.1 rfl (Nat.le_of_ble_eq_true rfl) dX12_span_29 ⟨Nat.le_refl _, Nat.le_refl _⟩) rfl (fun αh3 Hh3 Lh3 Bh3 Mh3 => ?_)
    refine lv_if_ne (tgt := 37) hx hb dX12_span_32 (by decide) (fun c4 => ?_) (fun c4 => hp_n (n := 35) rfl ?_)
    ·
      replace hf := ms_iF c4 hf
      refine lv_aload_n hx hb dX12_span_37 rfl (lv_at hl 0 rfl) (hp_n (n := 38) rfl ?_)
      refine lv_iload_n hx hb dX12_span_38 rfl (lv_at hl 1 rfl) (hp_n (n := 39) rfl ?_)
      refine lv_iload_n hx hb dX12_span_39 rfl (lv_at hl 2 rfl) (hp_n (n := 40) rfl ?_)
      obtain ⟨σh5, qh5, hf⟩ := ms_bE hf
      refine m_cv (pc' := 43) (a := a0) (ρ := ρ) Bh3 (hp_runV (As := [.int v1_h2, .int v2_h2]) (rest := []) C Bh3 (m_X12_inclusion n Γ l αh3 a0 ρ σh3 Mh3 v1_h2 v2_h2 σh5 qh5) lb_X12_inclusion lv_X12_inclusion lk_X12_171 Mh3.1 rfl (by decide) rfl hl.1 rfl (Nat.le_of_ble_eq_true rfl) dX12_span_40 ⟨Nat.le_refl _, Nat.le_refl _⟩) rfl (fun αh5 Hh5 Lh5 Bh5 Mh5 => ?_)
      refine lv_aload_n hx hb dX12_span_43 rfl (lv_at hl 0 rfl) (hp_n (n := 44) rfl ?_)
      refine lv_iload_n hx hb dX12_span_44 rfl (lv_at hl 3 rfl) (hp_n (n := 45) rfl ?_)
      refine lv_iload hx hb dX12_span_45 (lv_at hl 4 rfl) (hp_n (n := 47) rfl ?_)
      obtain ⟨rh6, σh6, qh6, hf⟩ := ms_cE hf
      refine m_ci (pc' := 50) (a := a0) (ρ := ρ) Bh5 (hp_runV (As := [.int v3_h2, .int v4_h2]) (rest := []) C Bh5 (m_X12_wayAt n Γ l αh5 a0 ρ σh5 Mh5 v3_h2 v4_h2 (rh6, σh6) qh6) lb_X12_wayAt lv_X12_wayAt lk_X12_414 Mh5.1 rfl (by decide) rfl hl.1 rfl (Nat.le_of_ble_eq_true rfl) dX12_span_47 ⟨Nat.le_refl _, Nat.le_refl _⟩) rfl (fun αh6 Hh6 Lh6 Bh6 Mh6 => ?_)
      cases hf
      exact q_iret C Bh6 hr hlk ⟨rfl, Bh6.2.2, Mh6⟩ dX12_span_50
    ·
      replace hf := ms_iT c4 hf
      refine lv_iconst (v := (-1)) hx hb dX12_span_35 (by decide) (hp_n (n := 36) rfl ?_)
      cases hf
      exact q_iret C Bh3 hr hlk ⟨rfl, Bh3.2.2, Mh3⟩ dX12_span_36
  have J28 : ∀ (αh7 : hp_T) (Hh7 : Heap) (Lh7 : List Loc) (Bh7 : hp_B Γ mo s α αh7 Hh7 Lh7) (σh7 : ms_T) (Mh7 : hm_M αh7 a0 ρ σh7) (v1_h7 : Int32) (v2_h7 : Int32) (v3_h7 : Int32) (v4_h7 : Int32) (ls : Array Slot) (hl : lv_has ls 5 [(0, .ref a0), (1, .int v1_h7), (2, .int v2_h7), (3, .int v3_h7), (4, .int v4_h7)]) (hf : f_X12_span_J28 n σh7 v1_h7 v2_h7 v3_h7 v4_h7 = some res), W p l e (hp_rm 42 0 0) s m ([.ref a0, .int a1, .int a2, .int a3, .int a4] : List Value).toArray below meth c Hh7 Lh7 0 0 (MQ below (hp_Qi Γ (fun r β => r = res.1 ∧ mo α β ∧ hm_M β a0 ρ res.2)) ([.ref a0, .int a1, .int a2, .int a3, .int a4] : List Value).toArray s 0 0 (hp_A Γ)) (F0 m 28 ls [.ref a0]) := by
    intro αh7 Hh7 Lh7 Bh7 σh7 Mh7 v1_h7 v2_h7 v3_h7 v4_h7 ls hl hf
    unfold f_X12_span_J28 at hf
    refine lv_iconst (v := 1) hx hb dX12_span_28 (by decide) (hp_n (n := 29) rfl ?_)
    exact J29 αh7 Hh7 Lh7 Bh7 σh7 Mh7 v1_h7 v2_h7 v3_h7 v4_h7 (1 : Int32) ls (lv_sub hl [0, 1, 2, 3, 4] rfl) hf
  refine lv_if_eq (tgt := 28) hx hb dX12_span_7 (by decide) (fun c8 => ?_) (fun c8 => hp_n (n := 10) rfl ?_)
  ·
    replace hf := ms_iT c8 hf
    exact J28 α Hh1 Lh1 Bh1 σ hM a1 a2 a3 a4 ls (lv_sub hl [0, 1, 2, 3, 4] rfl) hf
  ·
    replace hf := ms_iF c8 hf
    refine lv_iload_n hx hb dX12_span_10 rfl (lv_at hl 3 rfl) (hp_n (n := 11) rfl ?_)
    refine lv_if_lt (tgt := 28) hx hb dX12_span_11 (by decide) (fun c9 => ?_) (fun c9 => hp_n (n := 14) rfl ?_)
    ·
      replace hf := ms_iT c9 hf
      exact J28 α Hh1 Lh1 Bh1 σ hM a1 a2 a3 a4 ls (lv_sub hl [0, 1, 2, 3, 4] rfl) hf
    ·
      replace hf := ms_iF c9 hf
      refine lv_iload hx hb dX12_span_14 (lv_at hl 4 rfl) (hp_n (n := 16) rfl ?_)
      refine lv_iconst (v := 0) hx hb dX12_span_16 (by decide) (hp_n (n := 17) rfl ?_)
      refine lv_iconst (v := 1) hx hb dX12_span_17 (by decide) (hp_n (n := 18) rfl ?_)
      obtain ⟨rh10, qh10, hf⟩ := ms_bE hf
      refine m_cp (pc' := 21) Bh1 (hp_runS (As := [.int a4, .int (0 : Int32), .int (1 : Int32)]) (rest := [.ref a0]) C Bh1 (m_X12_isIn n Γ l α a4 (0 : Int32) (1 : Int32) rh10 qh10) lb_X12_isIn ls_X12_isIn lk_X12_113 rfl (by decide) rfl hl.1 rfl (Nat.le_of_ble_eq_true rfl) dX12_span_18 ⟨Nat.le_refl _, Nat.le_refl _⟩) rfl (fun Hh10 Lh10 Bh10 => ?_)
      refine lv_if_eq (tgt := 28) hx hb dX12_span_21 (by decide) (fun c11 => ?_) (fun c11 => hp_n (n := 24) rfl ?_)
      ·
        replace hf := ms_iT c11 hf
        exact J28 α Hh10 Lh10 Bh10 σ hM a1 a2 a3 a4 ls (lv_sub hl [0, 1, 2, 3, 4] rfl) hf
      ·
        replace hf := ms_iF c11 hf
        refine lv_iconst (v := 0) hx hb dX12_span_24 (by decide) (hp_n (n := 25) rfl ?_)
        refine lv_goto (tgt := 29) hx hb dX12_span_25 (by decide) ?_
        exact J29 α Hh10 Lh10 Bh10 σ hM a1 a2 a3 a4 (0 : Int32) ls (lv_sub hl [0, 1, 2, 3, 4] rfl) hf
def f_X12_rise_J29 (n : Nat) (σh1 : ms_T) (v1_h1 : Int32) (v2_h1 : Int32) (v3_h1 : Int32) (v4_h1 : Int32) (w0_h1 : Int32) : Option (Int32 × ms_T) :=
  ms_c (f_X12_is n σh1 w0_h1) fun rh2 σh2 =>
  if rh2 = 0 then
    some ((-1 : Int32), σh2)
  else
    ms_b (f_X12_growth n σh2 v1_h1 v2_h1) fun σh4 =>
    ms_c (f_X12_wayAt n σh4 v3_h1 v4_h1) fun rh5 σh5 =>
    some (rh5, σh5)
def f_X12_rise_J28 (n : Nat) (σh6 : ms_T) (v1_h6 : Int32) (v2_h6 : Int32) (v3_h6 : Int32) (v4_h6 : Int32) : Option (Int32 × ms_T) :=
  f_X12_rise_J29 n σh6 v1_h6 v2_h6 v3_h6 v4_h6 (1 : Int32)
def f_X12_rise (n : Nat) (σ : ms_T) (a1 : Int32) (a2 : Int32) (a3 : Int32) (a4 : Int32) : Option (Int32 × ms_T) :=
  if a1 < 0 then
    f_X12_rise_J28 n σ a1 a2 a3 a4
  else
    if a2 < a1 then
      f_X12_rise_J28 n σ a1 a2 a3 a4
    else
      if a3 < 0 then
        f_X12_rise_J28 n σ a1 a2 a3 a4
      else
        ms_b (f_X12_isIn n a4 (0 : Int32) (1 : Int32)) fun rh10 =>
        if rh10 = 0 then
          f_X12_rise_J28 n σ a1 a2 a3 a4
        else
          f_X12_rise_J29 n σ a1 a2 a3 a4 (0 : Int32)
set_option maxRecDepth 100000 in
set_option maxHeartbeats 4000000 in
theorem m_X12_rise (n : Nat) (Γ : hp_G) (l : Launch) (α : hp_T) (a0 : Nat) (ρ : Nat → Nat) (σ : ms_T) (hM : hm_M α a0 ρ σ) (a1 : Int32) (a2 : Int32) (a3 : Int32) (a4 : Int32) (res : (Int32 × ms_T)) (hf : f_X12_rise n σ a1 a2 a3 a4 = some res) : Met l yX12_rise (hp_ws yX12_rise cX12_rise 5 (some .int)) (hp_rm 42 0 0) (hp_Pc Γ α [.ref a0, .int a1, .int a2, .int a3, .int a4]) (hp_Qi Γ (fun r β => r = res.1 ∧ mo α β ∧ hm_M β a0 ρ res.2)) 0 0 (hp_A Γ) := by
  unfold f_X12_rise at hf
  refine hp_start (by decide) ?_
  intro p e s m below meth c C hr hlk B0 hnm
  have C : hp_C Γ p m c cX12_rise 5 s ([.ref a0, .int a1, .int a2, .int a3, .int a4] : List Value).toArray RX12 := C
  have hx := C.1.1
  have hb := C.1.2.1
  have hown := C.1.2.2.2.1
  have hts := C.1.2.2.2.2
  have B : hp_B Γ mo s α α s.heap [] := ⟨B0.1, B0.2.1, mo_rf⟩
  have hl := lv_entry ([.ref a0, .int a1, .int a2, .int a3, .int a4]) (n := 5) (Nat.le_of_ble_eq_true rfl)
  show W p l e (hp_rm 42 0 0) s m ([.ref a0, .int a1, .int a2, .int a3, .int a4] : List Value).toArray below meth c s.heap [] 0 0 (MQ below (hp_Qi Γ (fun r β => r = res.1 ∧ mo α β ∧ hm_M β a0 ρ res.2)) ([.ref a0, .int a1, .int a2, .int a3, .int a4] : List Value).toArray s 0 0 (hp_A Γ)) (entryFrame m ([.ref a0, .int a1, .int a2, .int a3, .int a4] : List Value).toArray 5)
  rw [lg_entry_eq]
  generalize (lg_sl ([.ref a0, .int a1, .int a2, .int a3, .int a4]) ++ List.replicate (5 - (lg_sl ([.ref a0, .int a1, .int a2, .int a3, .int a4])).length) Slot.unset).toArray = ls at hl ⊢
  have hl : lv_has ls 5 [(0, .ref a0), (1, .int a1), (2, .int a2), (3, .int a3), (4, .int a4)] := hl
  refine lv_aload_n hx hb dX12_rise_0 rfl (lv_at hl 0 rfl) (hp_n (n := 1) rfl ?_)
  refine lv_iload_n hx hb dX12_rise_1 rfl (lv_at hl 1 rfl) (hp_n (n := 2) rfl ?_)
  have J29 : ∀ (αh1 : hp_T) (Hh1 : Heap) (Lh1 : List Loc) (Bh1 : hp_B Γ mo s α αh1 Hh1 Lh1) (σh1 : ms_T) (Mh1 : hm_M αh1 a0 ρ σh1) (v1_h1 : Int32) (v2_h1 : Int32) (v3_h1 : Int32) (v4_h1 : Int32) (w0_h1 : Int32) (ls : Array Slot) (hl : lv_has ls 5 [(0, .ref a0), (1, .int v1_h1), (2, .int v2_h1), (3, .int v3_h1), (4, .int v4_h1)]) (hf : f_X12_rise_J29 n σh1 v1_h1 v2_h1 v3_h1 v4_h1 w0_h1 = some res), W p l e (hp_rm 42 0 0) s m ([.ref a0, .int a1, .int a2, .int a3, .int a4] : List Value).toArray below meth c Hh1 Lh1 0 0 (MQ below (hp_Qi Γ (fun r β => r = res.1 ∧ mo α β ∧ hm_M β a0 ρ res.2)) ([.ref a0, .int a1, .int a2, .int a3, .int a4] : List Value).toArray s 0 0 (hp_A Γ)) (F0 m 29 ls [.int w0_h1, .ref a0]) := by
    intro αh1 Hh1 Lh1 Bh1 σh1 Mh1 v1_h1 v2_h1 v3_h1 v4_h1 w0_h1 ls hl hf
    unfold f_X12_rise_J29 at hf
    obtain ⟨rh2, σh2, qh2, hf⟩ := ms_cE hf
    refine m_ci (pc' := 32) (a := a0) (ρ := ρ) Bh1 (hp_runV (As := [.int w0_h1]) (rest := []) C Bh1 (m_X12_is n Γ l αh1 a0 ρ σh1 Mh1 w0_h1 (rh2, σh2) qh2) lb_X12_is lv_X12_is lk_X12_309 Mh1.1 rfl (by decide) rfl hl.1 rfl (Nat.le_of_ble_eq_true rfl) dX12_rise_29 ⟨Nat.le_refl _, Nat.le_refl _⟩) rfl (fun αh2 Hh2 Lh2 Bh2 Mh2 => ?_)
    refine lv_if_ne (tgt := 37) hx hb dX12_rise_32 (by decide) (fun c3 => ?_) (fun c3 => hp_n (n := 35) rfl ?_)
    ·
      replace hf := ms_iF c3 hf
      refine lv_aload_n hx hb dX12_rise_37 rfl (lv_at hl 0 rfl) (hp_n (n := 38) rfl ?_)
      refine lv_iload_n hx hb dX12_rise_38 rfl (lv_at hl 1 rfl) (hp_n (n := 39) rfl ?_)
      refine lv_iload_n hx hb dX12_rise_39 rfl (lv_at hl 2 rfl) (hp_n (n := 40) rfl ?_)
      obtain ⟨σh4, qh4, hf⟩ := ms_bE hf
      refine m_cv (pc' := 43) (a := a0) (ρ := ρ) Bh2 (hp_runV (As := [.int v1_h1, .int v2_h1]) (rest := []) C Bh2 (m_X12_growth n Γ l αh2 a0 ρ σh2 Mh2 v1_h1 v2_h1 σh4 qh4) lb_X12_growth lv_X12_growth lk_X12_190 Mh2.1 rfl (by decide) rfl hl.1 rfl (Nat.le_of_ble_eq_true rfl) dX12_rise_40 ⟨Nat.le_refl _, Nat.le_refl _⟩) rfl (fun αh4 Hh4 Lh4 Bh4 Mh4 => ?_)
      refine lv_aload_n hx hb dX12_rise_43 rfl (lv_at hl 0 rfl) (hp_n (n := 44) rfl ?_)
      refine lv_iload_n hx hb dX12_rise_44 rfl (lv_at hl 3 rfl) (hp_n (n := 45) rfl ?_)
      refine lv_iload hx hb dX12_rise_45 (lv_at hl 4 rfl) (hp_n (n := 47) rfl ?_)
      obtain ⟨rh5, σh5, qh5, hf⟩ := ms_cE hf
      refine m_ci (pc' := 50) (a := a0) (ρ := ρ) Bh4 (hp_runV (As := [.int v3_h1, .int v4_h1]) (rest := []) C Bh4 (m_X12_wayAt n Γ l αh4 a0 ρ σh4 Mh4 v3_h1 v4_h1 (rh5, σh5) qh5) lb_X12_wayAt lv_X12_wayAt lk_X12_414 Mh4.1 rfl (by decide) rfl hl.1 rfl (Nat.le_of_ble_eq_true rfl) dX12_rise_47 ⟨Nat.le_refl _, Nat.le_refl _⟩) rfl (fun αh5 Hh5 Lh5 Bh5 Mh5 => ?_)
      cases hf
      exact q_iret C Bh5 hr hlk ⟨rfl, Bh5.2.2, Mh5⟩ dX12_rise_50
    ·
      replace hf := ms_iT c3 hf
      refine lv_iconst (v := (-1)) hx hb dX12_rise_35 (by decide) (hp_n (n := 36) rfl ?_)
      cases hf
      exact q_iret C Bh2 hr hlk ⟨rfl, Bh2.2.2, Mh2⟩ dX12_rise_36
  have J28 : ∀ (αh6 : hp_T) (Hh6 : Heap) (Lh6 : List Loc) (Bh6 : hp_B Γ mo s α αh6 Hh6 Lh6) (σh6 : ms_T) (Mh6 : hm_M αh6 a0 ρ σh6) (v1_h6 : Int32) (v2_h6 : Int32) (v3_h6 : Int32) (v4_h6 : Int32) (ls : Array Slot) (hl : lv_has ls 5 [(0, .ref a0), (1, .int v1_h6), (2, .int v2_h6), (3, .int v3_h6), (4, .int v4_h6)]) (hf : f_X12_rise_J28 n σh6 v1_h6 v2_h6 v3_h6 v4_h6 = some res), W p l e (hp_rm 42 0 0) s m ([.ref a0, .int a1, .int a2, .int a3, .int a4] : List Value).toArray below meth c Hh6 Lh6 0 0 (MQ below (hp_Qi Γ (fun r β => r = res.1 ∧ mo α β ∧ hm_M β a0 ρ res.2)) ([.ref a0, .int a1, .int a2, .int a3, .int a4] : List Value).toArray s 0 0 (hp_A Γ)) (F0 m 28 ls [.ref a0]) := by
    intro αh6 Hh6 Lh6 Bh6 σh6 Mh6 v1_h6 v2_h6 v3_h6 v4_h6 ls hl hf
    unfold f_X12_rise_J28 at hf
    refine lv_iconst (v := 1) hx hb dX12_rise_28 (by decide) (hp_n (n := 29) rfl ?_)
    exact J29 αh6 Hh6 Lh6 Bh6 σh6 Mh6 v1_h6 v2_h6 v3_h6 v4_h6 (1 : Int32) ls (lv_sub hl [0, 1, 2, 3, 4] rfl) hf
  refine lv_if_lt (tgt := 28) hx hb dX12_rise_2 (by decide) (fun c7 => ?_) (fun c7 => hp_n (n := 5) rfl ?_)
  ·
    replace hf := ms_iT c7 hf
    exact J28 α s.heap [] B σ hM a1 a2 a3 a4 ls (lv_sub hl [0, 1, 2, 3, 4] rfl) hf
  ·
    replace hf := ms_iF c7 hf
    refine lv_iload_n hx hb dX12_rise_5 rfl (lv_at hl 1 rfl) (hp_n (n := 6) rfl ?_)
    refine lv_iload_n hx hb dX12_rise_6 rfl (lv_at hl 2 rfl) (hp_n (n := 7) rfl ?_)
    refine lv_icmp_gt (tgt := 28) hx hb dX12_rise_7 (by decide) (fun c8 => ?_) (fun c8 => hp_n (n := 10) rfl ?_)
    ·
      replace hf := ms_iT c8 hf
      exact J28 α s.heap [] B σ hM a1 a2 a3 a4 ls (lv_sub hl [0, 1, 2, 3, 4] rfl) hf
    ·
      replace hf := ms_iF c8 hf
      refine lv_iload_n hx hb dX12_rise_10 rfl (lv_at hl 3 rfl) (hp_n (n := 11) rfl ?_)
      refine lv_if_lt (tgt := 28) hx hb dX12_rise_11 (by decide) (fun c9 => ?_) (fun c9 => hp_n (n := 14) rfl ?_)
      ·
        replace hf := ms_iT c9 hf
        exact J28 α s.heap [] B σ hM a1 a2 a3 a4 ls (lv_sub hl [0, 1, 2, 3, 4] rfl) hf
      ·
        replace hf := ms_iF c9 hf
        refine lv_iload hx hb dX12_rise_14 (lv_at hl 4 rfl) (hp_n (n := 16) rfl ?_)
        refine lv_iconst (v := 0) hx hb dX12_rise_16 (by decide) (hp_n (n := 17) rfl ?_)
        refine lv_iconst (v := 1) hx hb dX12_rise_17 (by decide) (hp_n (n := 18) rfl ?_)
        obtain ⟨rh10, qh10, hf⟩ := ms_bE hf
        refine m_cp (pc' := 21) B (hp_runS (As := [.int a4, .int (0 : Int32), .int (1 : Int32)]) (rest := [.ref a0]) C B (m_X12_isIn n Γ l α a4 (0 : Int32) (1 : Int32) rh10 qh10) lb_X12_isIn ls_X12_isIn lk_X12_113 rfl (by decide) rfl hl.1 rfl (Nat.le_of_ble_eq_true rfl) dX12_rise_18 ⟨Nat.le_refl _, Nat.le_refl _⟩) rfl (fun Hh10 Lh10 Bh10 => ?_)
        refine lv_if_eq (tgt := 28) hx hb dX12_rise_21 (by decide) (fun c11 => ?_) (fun c11 => hp_n (n := 24) rfl ?_)
        ·
          replace hf := ms_iT c11 hf
          exact J28 α Hh10 Lh10 Bh10 σ hM a1 a2 a3 a4 ls (lv_sub hl [0, 1, 2, 3, 4] rfl) hf
        ·
          replace hf := ms_iF c11 hf
          refine lv_iconst (v := 0) hx hb dX12_rise_24 (by decide) (hp_n (n := 25) rfl ?_)
          refine lv_goto (tgt := 29) hx hb dX12_rise_25 (by decide) ?_
          exact J29 α Hh10 Lh10 Bh10 σ hM a1 a2 a3 a4 (0 : Int32) ls (lv_sub hl [0, 1, 2, 3, 4] rfl) hf
def f_X12_had_J32 (n : Nat) (σ : ms_T) (rec2 : Int32 → Int32 → Int32 → Option Int32) (v1_h4 : Int32) (v2_h4 : Int32) (v3_h4 : Int32) : Option Int32 :=
  ms_l (v3_h4 + 1) fun x5 =>
  rec2 v1_h4 v2_h4 x5
def f_X12_had_L2 (n : Nat) (σ : ms_T) : Nat → Int32 → Int32 → Int32 → Option Int32
  | 0, _, _, _ => none
  | k2 + 1, v1_h1, v2_h1, v3_h1 =>
    if (ms_I σ 695) ≤ v3_h1 then
      some (0 : Int32)
    else
      ms_g v3_h1 256 <|
      if (ms_E σ 57 (v3_h1).toNatClampNeg) = v1_h1 then
        ms_g v3_h1 256 <|
        if (ms_E σ 58 (v3_h1).toNatClampNeg) = v2_h1 then
          some (1 : Int32)
        else
          f_X12_had_J32 n σ (f_X12_had_L2 n σ k2) v1_h1 v2_h1 v3_h1
      else
        f_X12_had_J32 n σ (f_X12_had_L2 n σ k2) v1_h1 v2_h1 v3_h1
def f_X12_had (n : Nat) (σ : ms_T) (a1 : Int32) (a2 : Int32) : Option Int32 :=
  f_X12_had_L2 n σ n a1 a2 (0 : Int32)
set_option maxRecDepth 100000 in
set_option maxHeartbeats 4000000 in
theorem m_X12_had (n : Nat) (Γ : hp_G) (l : Launch) (α : hp_T) (a0 : Nat) (ρ : Nat → Nat) (σ : ms_T) (hM : hm_M α a0 ρ σ) (a1 : Int32) (a2 : Int32) (res : Int32) (hf : f_X12_had n σ a1 a2 = some res) : Met l yX12_had (hp_ws yX12_had cX12_had 4 (some .boolean)) (hp_rm 0 0 0) (hp_Pc Γ α [.ref a0, .int a1, .int a2]) (hp_Qi Γ (fun r β => β = α ∧ r = res)) 0 0 (hp_A Γ) := by
  unfold f_X12_had at hf
  refine hp_start (by decide) ?_
  intro p e s m below meth c C hr hlk B0 hnm
  have C : hp_C Γ p m c cX12_had 4 s ([.ref a0, .int a1, .int a2] : List Value).toArray RX12 := C
  have hx := C.1.1
  have hb := C.1.2.1
  have hown := C.1.2.2.2.1
  have hts := C.1.2.2.2.2
  have B : hp_B Γ (fun _ _ => True) s α α s.heap [] := ⟨B0.1, B0.2.1, trivial⟩
  have hl := lv_entry ([.ref a0, .int a1, .int a2]) (n := 4) (Nat.le_of_ble_eq_true rfl)
  show W p l e (hp_rm 0 0 0) s m ([.ref a0, .int a1, .int a2] : List Value).toArray below meth c s.heap [] 0 0 (MQ below (hp_Qi Γ (fun r β => β = α ∧ r = res)) ([.ref a0, .int a1, .int a2] : List Value).toArray s 0 0 (hp_A Γ)) (entryFrame m ([.ref a0, .int a1, .int a2] : List Value).toArray 4)
  rw [lg_entry_eq]
  generalize (lg_sl ([.ref a0, .int a1, .int a2]) ++ List.replicate (4 - (lg_sl ([.ref a0, .int a1, .int a2])).length) Slot.unset).toArray = ls at hl ⊢
  have hl : lv_has ls 4 [(0, .ref a0), (1, .int a1), (2, .int a2)] := hl
  refine lv_iconst (v := 0) hx hb dX12_had_0 (by decide) (hp_n (n := 1) rfl ?_)
  have J2 : ∀ (k2 : Nat) (Hh1 : Heap) (Lh1 : List Loc) (Bh1 : hp_B Γ (fun _ _ => True) s α α Hh1 Lh1) (v1_h1 : Int32) (v2_h1 : Int32) (v3_h1 : Int32) (ls : Array Slot) (hl : lv_has ls 4 [(0, .ref a0), (1, .int v1_h1), (2, .int v2_h1), (3, .int v3_h1)]) (hf : f_X12_had_L2 n σ k2 v1_h1 v2_h1 v3_h1 = some res), W p l e (hp_rm 0 0 0) s m ([.ref a0, .int a1, .int a2] : List Value).toArray below meth c Hh1 Lh1 0 0 (MQ below (hp_Qi Γ (fun r β => β = α ∧ r = res)) ([.ref a0, .int a1, .int a2] : List Value).toArray s 0 0 (hp_A Γ)) (F0 m 2 ls []) := by
    intro k2
    induction k2 with
    | zero => intro Hh1 Lh1 Bh1 v1_h1 v2_h1 v3_h1 ls hl hf; rw [f_X12_had_L2.eq_1] at hf; cases hf
    | succ k2 ih2 =>
      intro Hh1 Lh1 Bh1 v1_h1 v2_h1 v3_h1 ls hl hf
      rw [f_X12_had_L2.eq_2] at hf
      refine lv_iload_n hx hb dX12_had_2 rfl (lv_at hl 3 rfl) (hp_n (n := 3) rfl ?_)
      refine lv_aload_n hx hb dX12_had_3 rfl (lv_at hl 0 rfl) (hp_n (n := 4) rfl ?_)
      refine m_geti (k := 45) (φ := 695) (pc' := 7) C Bh1 hM fl_X12_417 rfl rfl dX12_had_4 rfl ?_
      refine lv_icmp_ge (tgt := 38) hx hb dX12_had_7 (by decide) (fun c2 => ?_) (fun c2 => hp_n (n := 10) rfl ?_)
      ·
        replace hf := ms_iT c2 hf
        refine lv_iconst (v := 0) hx hb dX12_had_38 (by decide) (hp_n (n := 39) rfl ?_)
        cases hf
        exact q_zret C Bh1 hr hlk (by decide) ⟨rfl, rfl⟩ dX12_had_39
      ·
        replace hf := ms_iF c2 hf
        refine lv_aload_n hx hb dX12_had_10 rfl (lv_at hl 0 rfl) (hp_n (n := 11) rfl ?_)
        refine m_getr (κ := 57) (k := 43) (pc' := 14) C Bh1 hM fl_X12_94 rfl (by decide) dX12_had_11 rfl ?_
        refine lv_iload_n hx hb dX12_had_14 rfl (lv_at hl 3 rfl) (hp_n (n := 15) rfl ?_)
        obtain ⟨g3, hf⟩ := ms_gE hf
        refine m_ial (κ := 57) (φ := 693) (n := 256) (pc' := 16) C Bh1 hM (by decide) (by decide) rfl g3 dX12_had_15 rfl ?_
        refine lv_iload_n hx hb dX12_had_16 rfl (lv_at hl 1 rfl) (hp_n (n := 17) rfl ?_)
        have J32 : ∀ (Hh4 : Heap) (Lh4 : List Loc) (Bh4 : hp_B Γ (fun _ _ => True) s α α Hh4 Lh4) (v1_h4 : Int32) (v2_h4 : Int32) (v3_h4 : Int32) (ls : Array Slot) (hl : lv_has ls 4 [(0, .ref a0), (1, .int v1_h4), (2, .int v2_h4), (3, .int v3_h4)]) (hf : f_X12_had_J32 n σ (f_X12_had_L2 n σ k2) v1_h4 v2_h4 v3_h4 = some res), W p l e (hp_rm 0 0 0) s m ([.ref a0, .int a1, .int a2] : List Value).toArray below meth c Hh4 Lh4 0 0 (MQ below (hp_Qi Γ (fun r β => β = α ∧ r = res)) ([.ref a0, .int a1, .int a2] : List Value).toArray s 0 0 (hp_A Γ)) (F0 m 32 ls []) := by
          intro Hh4 Lh4 Bh4 v1_h4 v2_h4 v3_h4 ls hl hf
          unfold f_X12_had_J32 at hf
          obtain ⟨x5, ex5⟩ : ∃ y : Int32, y = v3_h4 + 1 := ⟨_, rfl⟩
          replace hf := ms_lE ex5 hf
          refine lv_iinc (v := x5) (lv' := [(3, .int x5), (0, .ref a0), (1, .int v1_h4), (2, .int v2_h4)]) hx hb dX12_had_32 hl (k := 3) rfl (by rw [ex5]; rfl) (by decide) rfl (fun ls hl => hp_n (n := 35) rfl ?_)
          refine lv_goto (tgt := 2) hx hb dX12_had_35 (by decide) ?_
          exact ih2 Hh4 Lh4 Bh4 v1_h4 v2_h4 x5 ls (lv_sub hl [1, 2, 3, 0] rfl) hf
        refine lv_icmp_ne (tgt := 32) hx hb dX12_had_17 (by decide) (fun c6 => ?_) (fun c6 => hp_n (n := 20) rfl ?_)
        ·
          replace hf := ms_iF c6 hf
          exact J32 Hh1 Lh1 Bh1 v1_h1 v2_h1 v3_h1 ls (lv_sub hl [0, 1, 2, 3] rfl) hf
        ·
          replace hf := ms_iT c6 hf
          refine lv_aload_n hx hb dX12_had_20 rfl (lv_at hl 0 rfl) (hp_n (n := 21) rfl ?_)
          refine m_getr (κ := 58) (k := 44) (pc' := 24) C Bh1 hM fl_X12_97 rfl (by decide) dX12_had_21 rfl ?_
          refine lv_iload_n hx hb dX12_had_24 rfl (lv_at hl 3 rfl) (hp_n (n := 25) rfl ?_)
          obtain ⟨g7, hf⟩ := ms_gE hf
          refine m_ial (κ := 58) (φ := 694) (n := 256) (pc' := 26) C Bh1 hM (by decide) (by decide) rfl g7 dX12_had_25 rfl ?_
          refine lv_iload_n hx hb dX12_had_26 rfl (lv_at hl 2 rfl) (hp_n (n := 27) rfl ?_)
          refine lv_icmp_ne (tgt := 32) hx hb dX12_had_27 (by decide) (fun c8 => ?_) (fun c8 => hp_n (n := 30) rfl ?_)
          ·
            replace hf := ms_iF c8 hf
            exact J32 Hh1 Lh1 Bh1 v1_h1 v2_h1 v3_h1 ls (lv_sub hl [0, 1, 2, 3] rfl) hf
          ·
            replace hf := ms_iT c8 hf
            refine lv_iconst (v := 1) hx hb dX12_had_30 (by decide) (hp_n (n := 31) rfl ?_)
            cases hf
            exact q_zret C Bh1 hr hlk (by decide) ⟨rfl, rfl⟩ dX12_had_31
  refine lv_istore_n (lv' := [(3, .int (0 : Int32)), (0, .ref a0), (1, .int a1), (2, .int a2)]) hx hb dX12_had_1 rfl hl (by decide) rfl (fun ls hl => hp_n (n := 2) rfl ?_)
  exact J2 n s.heap [] B a1 a2 (0 : Int32) ls (lv_sub hl [1, 2, 3, 0] rfl) hf
def f_X12_notes_J72 (n : Nat) (rec2 : ms_T → Int32 → Option ms_T) (σh6 : ms_T) (v1_h6 : Int32) : Option ms_T :=
  ms_l (v1_h6 + 1) fun x7 =>
  rec2 σh6 x7
def f_X12_notes_L2 (n : Nat) : Nat → ms_T → Int32 → Option ms_T
  | 0, _, _ => none
  | k2 + 1, σh1, v1_h1 =>
    if (ms_I σh1 657) ≤ v1_h1 then
      some σh1
    else
      ms_g v1_h1 128 <|
      ms_g v1_h1 128 <|
      ms_b (f_X12_had n σh1 (ms_E σh1 42 (v1_h1).toNatClampNeg) (ms_E σh1 43 (v1_h1).toNatClampNeg)) fun rh5 =>
      if rh5 = 0 then
        ms_g v1_h1 128 <|
        ms_g (ms_I σh1 695) 256 <|
        ms_l (ms_sE σh1 57 ((ms_I σh1 695)).toNatClampNeg (ms_E σh1 42 (v1_h1).toNatClampNeg)) fun σh11 =>
        ms_g v1_h1 128 <|
        ms_g (ms_I σh11 695) 256 <|
        ms_l (ms_sE σh11 58 ((ms_I σh11 695)).toNatClampNeg (ms_E σh11 43 (v1_h1).toNatClampNeg)) fun σh14 =>
        ms_l (ms_sI σh14 695 ((ms_I σh14 695) + (1 : Int32))) fun σh15 =>
        f_X12_notes_J72 n (f_X12_notes_L2 n k2) σh15 v1_h1
      else
        f_X12_notes_J72 n (f_X12_notes_L2 n k2) σh1 v1_h1
def f_X12_notes (n : Nat) (σ : ms_T) : Option ms_T :=
  f_X12_notes_L2 n n σ (0 : Int32)
set_option maxRecDepth 100000 in
set_option maxHeartbeats 4000000 in
theorem m_X12_notes (n : Nat) (Γ : hp_G) (l : Launch) (α : hp_T) (a0 : Nat) (ρ : Nat → Nat) (σ : ms_T) (hM : hm_M α a0 ρ σ)  (res : ms_T) (hf : f_X12_notes n σ = some res) : Met l yX12_notes (hp_ws yX12_notes cX12_notes 2 none) (hp_rm 1 0 0) (hp_Pc Γ α [.ref a0]) (hp_Qv Γ (fun β => mo α β ∧ hm_M β a0 ρ res)) 0 0 (hp_A Γ) := by
  unfold f_X12_notes at hf
  refine hp_start (by decide) ?_
  intro p e s m below meth c C hr hlk B0 hnm
  have C : hp_C Γ p m c cX12_notes 2 s ([.ref a0] : List Value).toArray RX12 := C
  have hx := C.1.1
  have hb := C.1.2.1
  have hown := C.1.2.2.2.1
  have hts := C.1.2.2.2.2
  have B : hp_B Γ mo s α α s.heap [] := ⟨B0.1, B0.2.1, mo_rf⟩
  have hl := lv_entry ([.ref a0]) (n := 2) (Nat.le_of_ble_eq_true rfl)
  show W p l e (hp_rm 1 0 0) s m ([.ref a0] : List Value).toArray below meth c s.heap [] 0 0 (MQ below (hp_Qv Γ (fun β => mo α β ∧ hm_M β a0 ρ res)) ([.ref a0] : List Value).toArray s 0 0 (hp_A Γ)) (entryFrame m ([.ref a0] : List Value).toArray 2)
  rw [lg_entry_eq]
  generalize (lg_sl ([.ref a0]) ++ List.replicate (2 - (lg_sl ([.ref a0])).length) Slot.unset).toArray = ls at hl ⊢
  have hl : lv_has ls 2 [(0, .ref a0)] := hl
  refine lv_iconst (v := 0) hx hb dX12_notes_0 (by decide) (hp_n (n := 1) rfl ?_)
  have J2 : ∀ (k2 : Nat) (αh1 : hp_T) (Hh1 : Heap) (Lh1 : List Loc) (Bh1 : hp_B Γ mo s α αh1 Hh1 Lh1) (σh1 : ms_T) (Mh1 : hm_M αh1 a0 ρ σh1) (v1_h1 : Int32) (ls : Array Slot) (hl : lv_has ls 2 [(0, .ref a0), (1, .int v1_h1)]) (hf : f_X12_notes_L2 n k2 σh1 v1_h1 = some res), W p l e (hp_rm 1 0 0) s m ([.ref a0] : List Value).toArray below meth c Hh1 Lh1 0 0 (MQ below (hp_Qv Γ (fun β => mo α β ∧ hm_M β a0 ρ res)) ([.ref a0] : List Value).toArray s 0 0 (hp_A Γ)) (F0 m 2 ls []) := by
    intro k2
    induction k2 with
    | zero => intro αh1 Hh1 Lh1 Bh1 σh1 Mh1 v1_h1 ls hl hf; rw [f_X12_notes_L2.eq_1] at hf; cases hf
    | succ k2 ih2 =>
      intro αh1 Hh1 Lh1 Bh1 σh1 Mh1 v1_h1 ls hl hf
      rw [f_X12_notes_L2.eq_2] at hf
      refine lv_iload_n hx hb dX12_notes_2 rfl (lv_at hl 1 rfl) (hp_n (n := 3) rfl ?_)
      refine lv_aload_n hx hb dX12_notes_3 rfl (lv_at hl 0 rfl) (hp_n (n := 4) rfl ?_)
      refine m_geti (k := 7) (φ := 657) (pc' := 7) C Bh1 Mh1 fl_X12_139 rfl rfl dX12_notes_4 rfl ?_
      refine lv_icmp_ge (tgt := 78) hx hb dX12_notes_7 (by decide) (fun c2 => ?_) (fun c2 => hp_n (n := 10) rfl ?_)
      ·
        replace hf := ms_iT c2 hf
        cases hf
        exact q_vret C Bh1 hr hlk ⟨Bh1.2.2, Mh1⟩ dX12_notes_78
      ·
        replace hf := ms_iF c2 hf
        refine lv_aload_n hx hb dX12_notes_10 rfl (lv_at hl 0 rfl) (hp_n (n := 11) rfl ?_)
        refine lv_aload_n hx hb dX12_notes_11 rfl (lv_at hl 0 rfl) (hp_n (n := 12) rfl ?_)
        refine m_getr (κ := 42) (k := 4) (pc' := 15) C Bh1 Mh1 fl_X12_16 rfl (by decide) dX12_notes_12 rfl ?_
        refine lv_iload_n hx hb dX12_notes_15 rfl (lv_at hl 1 rfl) (hp_n (n := 16) rfl ?_)
        obtain ⟨g3, hf⟩ := ms_gE hf
        refine m_ial (κ := 42) (φ := 654) (n := 128) (pc' := 17) C Bh1 Mh1 (by decide) (by decide) rfl g3 dX12_notes_16 rfl ?_
        refine lv_aload_n hx hb dX12_notes_17 rfl (lv_at hl 0 rfl) (hp_n (n := 18) rfl ?_)
        refine m_getr (κ := 43) (k := 5) (pc' := 21) C Bh1 Mh1 fl_X12_19 rfl (by decide) dX12_notes_18 rfl ?_
        refine lv_iload_n hx hb dX12_notes_21 rfl (lv_at hl 1 rfl) (hp_n (n := 22) rfl ?_)
        obtain ⟨g4, hf⟩ := ms_gE hf
        refine m_ial (κ := 43) (φ := 655) (n := 128) (pc' := 23) C Bh1 Mh1 (by decide) (by decide) rfl g4 dX12_notes_22 rfl ?_
        obtain ⟨rh5, qh5, hf⟩ := ms_bE hf
        refine m_cp (pc' := 26) Bh1 (hp_runV (As := [.int (ms_E σh1 42 (v1_h1).toNatClampNeg), .int (ms_E σh1 43 (v1_h1).toNatClampNeg)]) (rest := []) C Bh1 (m_X12_had n Γ l αh1 a0 ρ σh1 Mh1 (ms_E σh1 42 (v1_h1).toNatClampNeg) (ms_E σh1 43 (v1_h1).toNatClampNeg) rh5 qh5) lb_X12_had lv_X12_had lk_X12_420 Mh1.1 rfl (by decide) rfl hl.1 rfl (Nat.le_of_ble_eq_true rfl) dX12_notes_23 ⟨Nat.le_refl _, Nat.le_refl _⟩) rfl (fun Hh5 Lh5 Bh5 => ?_)
        have J72 : ∀ (αh6 : hp_T) (Hh6 : Heap) (Lh6 : List Loc) (Bh6 : hp_B Γ mo s α αh6 Hh6 Lh6) (σh6 : ms_T) (Mh6 : hm_M αh6 a0 ρ σh6) (v1_h6 : Int32) (ls : Array Slot) (hl : lv_has ls 2 [(0, .ref a0), (1, .int v1_h6)]) (hf : f_X12_notes_J72 n (f_X12_notes_L2 n k2) σh6 v1_h6 = some res), W p l e (hp_rm 1 0 0) s m ([.ref a0] : List Value).toArray below meth c Hh6 Lh6 0 0 (MQ below (hp_Qv Γ (fun β => mo α β ∧ hm_M β a0 ρ res)) ([.ref a0] : List Value).toArray s 0 0 (hp_A Γ)) (F0 m 72 ls []) := by
          intro αh6 Hh6 Lh6 Bh6 σh6 Mh6 v1_h6 ls hl hf
          unfold f_X12_notes_J72 at hf
          obtain ⟨x7, ex7⟩ : ∃ y : Int32, y = v1_h6 + 1 := ⟨_, rfl⟩
          replace hf := ms_lE ex7 hf
          refine lv_iinc (v := x7) (lv' := [(1, .int x7), (0, .ref a0)]) hx hb dX12_notes_72 hl (k := 1) rfl (by rw [ex7]; rfl) (by decide) rfl (fun ls hl => hp_n (n := 75) rfl ?_)
          refine lv_goto (tgt := 2) hx hb dX12_notes_75 (by decide) ?_
          exact ih2 αh6 Hh6 Lh6 Bh6 σh6 Mh6 x7 ls (lv_sub hl [1, 0] rfl) hf
        refine lv_if_eq (tgt := 32) hx hb dX12_notes_26 (by decide) (fun c8 => ?_) (fun c8 => hp_n (n := 29) rfl ?_)
        ·
          replace hf := ms_iT c8 hf
          refine lv_aload_n hx hb dX12_notes_32 rfl (lv_at hl 0 rfl) (hp_n (n := 33) rfl ?_)
          refine m_getr (κ := 57) (k := 43) (pc' := 36) C Bh5 Mh1 fl_X12_94 rfl (by decide) dX12_notes_33 rfl ?_
          refine lv_aload_n hx hb dX12_notes_36 rfl (lv_at hl 0 rfl) (hp_n (n := 37) rfl ?_)
          refine m_geti (k := 45) (φ := 695) (pc' := 40) C Bh5 Mh1 fl_X12_417 rfl rfl dX12_notes_37 rfl ?_
          refine lv_aload_n hx hb dX12_notes_40 rfl (lv_at hl 0 rfl) (hp_n (n := 41) rfl ?_)
          refine m_getr (κ := 42) (k := 4) (pc' := 44) C Bh5 Mh1 fl_X12_16 rfl (by decide) dX12_notes_41 rfl ?_
          refine lv_iload_n hx hb dX12_notes_44 rfl (lv_at hl 1 rfl) (hp_n (n := 45) rfl ?_)
          obtain ⟨g9, hf⟩ := ms_gE hf
          refine m_ial (κ := 42) (φ := 654) (n := 128) (pc' := 46) C Bh5 Mh1 (by decide) (by decide) rfl g9 dX12_notes_45 rfl ?_
          obtain ⟨g10, hf⟩ := ms_gE hf
          refine m_ias (κ := 57) (φ := 693) (n := 256) (pc' := 47) C Bh5 Mh1 (by decide) (by decide) rfl g10 dX12_notes_46 rfl (fun αh11 Hh11 Lh11 σh11 eh11 Bh11 Mh11 => ?_)
          replace hf := ms_lE eh11 hf
          refine lv_aload_n hx hb dX12_notes_47 rfl (lv_at hl 0 rfl) (hp_n (n := 48) rfl ?_)
          refine m_getr (κ := 58) (k := 44) (pc' := 51) C Bh11 Mh11 fl_X12_97 rfl (by decide) dX12_notes_48 rfl ?_
          refine lv_aload_n hx hb dX12_notes_51 rfl (lv_at hl 0 rfl) (hp_n (n := 52) rfl ?_)
          refine m_geti (k := 45) (φ := 695) (pc' := 55) C Bh11 Mh11 fl_X12_417 rfl rfl dX12_notes_52 rfl ?_
          refine lv_aload_n hx hb dX12_notes_55 rfl (lv_at hl 0 rfl) (hp_n (n := 56) rfl ?_)
          refine m_getr (κ := 43) (k := 5) (pc' := 59) C Bh11 Mh11 fl_X12_19 rfl (by decide) dX12_notes_56 rfl ?_
          refine lv_iload_n hx hb dX12_notes_59 rfl (lv_at hl 1 rfl) (hp_n (n := 60) rfl ?_)
          obtain ⟨g12, hf⟩ := ms_gE hf
          refine m_ial (κ := 43) (φ := 655) (n := 128) (pc' := 61) C Bh11 Mh11 (by decide) (by decide) rfl g12 dX12_notes_60 rfl ?_
          obtain ⟨g13, hf⟩ := ms_gE hf
          refine m_ias (κ := 58) (φ := 694) (n := 256) (pc' := 62) C Bh11 Mh11 (by decide) (by decide) rfl g13 dX12_notes_61 rfl (fun αh14 Hh14 Lh14 σh14 eh14 Bh14 Mh14 => ?_)
          replace hf := ms_lE eh14 hf
          refine lv_aload_n hx hb dX12_notes_62 rfl (lv_at hl 0 rfl) (hp_n (n := 63) rfl ?_)
          refine lv_dup hx hb dX12_notes_63 rfl (hp_n (n := 64) rfl ?_)
          refine m_geti (k := 45) (φ := 695) (pc' := 67) C Bh14 Mh14 fl_X12_417 rfl rfl dX12_notes_64 rfl ?_
          refine lv_iconst (v := 1) hx hb dX12_notes_67 (by decide) (hp_n (n := 68) rfl ?_)
          refine lv_iadd hx hb dX12_notes_68 (hp_n (n := 69) rfl ?_)
          refine m_puti (k := 45) (φ := 695) (pc' := 72) C Bh14 Mh14 fl_X12_417 rfl rfl rfl rfl rfl dX12_notes_69 rfl (fun αh15 Hh15 Lh15 σh15 eh15 Bh15 Mh15 => ?_)
          replace hf := ms_lE eh15 hf
          exact J72 αh15 Hh15 Lh15 Bh15 σh15 Mh15 v1_h1 ls (lv_sub hl [0, 1] rfl) hf
        ·
          replace hf := ms_iF c8 hf
          refine lv_goto (tgt := 72) hx hb dX12_notes_29 (by decide) ?_
          exact J72 αh1 Hh5 Lh5 Bh5 σh1 Mh1 v1_h1 ls (lv_sub hl [0, 1] rfl) hf
  refine lv_istore_n (lv' := [(1, .int (0 : Int32)), (0, .ref a0)]) hx hb dX12_notes_1 rfl hl (by decide) rfl (fun ls hl => hp_n (n := 2) rfl ?_)
  exact J2 n α s.heap [] B σ hM (0 : Int32) ls (lv_sub hl [1, 0] rfl) hf
def f_X12_kept_J92 (n : Nat) (rec55 : ms_T → Int32 → Int32 → Option (Int32 × ms_T)) (σh14 : ms_T) (v5_h14 : Int32) (w0_h14 : Int32) (w1_h14 : Int32) : Option (Int32 × ms_T) :=
  ms_l ((w1_h14 + w0_h14)) fun x15 =>
  ms_l (v5_h14 + 1) fun x16 =>
  rec55 σh14 x15 x16
def f_X12_kept_L55 (n : Nat) : Nat → ms_T → Int32 → Int32 → Option (Int32 × ms_T)
  | 0, _, _, _ => none
  | k55 + 1, σh9, v4_h9, v5_h9 =>
    if (ms_I σh9 657) ≤ v5_h9 then
      some (v4_h9, σh9)
    else
      ms_g v5_h9 128 <|
      ms_g v5_h9 128 <|
      ms_b (f_X12_had n σh9 (ms_E σh9 42 (v5_h9).toNatClampNeg) (ms_E σh9 43 (v5_h9).toNatClampNeg)) fun rh13 =>
      if rh13 = 0 then
        f_X12_kept_J92 n (f_X12_kept_L55 n k55) σh9 v5_h9 (0 : Int32) v4_h9
      else
        f_X12_kept_J92 n (f_X12_kept_L55 n k55) σh9 v5_h9 (1 : Int32) v4_h9
def f_X12_kept_J20 (n : Nat) (σh2 : ms_T) (v1_h2 : Int32) (v2_h2 : Int32) (v3_h2 : Int32) (w0_h2 : Int32) : Option (Int32 × ms_T) :=
  ms_c (f_X12_is n σh2 w0_h2) fun rh3 σh3 =>
  if rh3 = 0 then
    some ((-1 : Int32), σh3)
  else
    ms_l (ms_sI σh3 695 (0 : Int32)) fun σh5 =>
    ms_b (f_X12_inclusion n σh5 v1_h2 v2_h2) fun σh6 =>
    ms_b (f_X12_notes n σh6) fun σh7 =>
    ms_b (f_X12_inclusion n σh7 v1_h2 v3_h2) fun σh8 =>
    f_X12_kept_L55 n n σh8 (0 : Int32) (0 : Int32)
def f_X12_kept_J19 (n : Nat) (σh18 : ms_T) (v1_h18 : Int32) (v2_h18 : Int32) (v3_h18 : Int32) : Option (Int32 × ms_T) :=
  f_X12_kept_J20 n σh18 v1_h18 v2_h18 v3_h18 (1 : Int32)
def f_X12_kept (n : Nat) (σ : ms_T) (a1 : Int32) (a2 : Int32) (a3 : Int32) : Option (Int32 × ms_T) :=
  ms_b (f_X12_isThing n σ a1 a2) fun rh1 =>
  if rh1 = 0 then
    f_X12_kept_J19 n σ a1 a2 a3
  else
    if a3 < a2 then
      f_X12_kept_J19 n σ a1 a2 a3
    else
      f_X12_kept_J20 n σ a1 a2 a3 (0 : Int32)
set_option maxRecDepth 100000 in
set_option maxHeartbeats 4000000 in
theorem m_X12_kept (n : Nat) (Γ : hp_G) (l : Launch) (α : hp_T) (a0 : Nat) (ρ : Nat → Nat) (σ : ms_T) (hM : hm_M α a0 ρ σ) (a1 : Int32) (a2 : Int32) (a3 : Int32) (res : (Int32 × ms_T)) (hf : f_X12_kept n σ a1 a2 a3 = some res) : Met l yX12_kept (hp_ws yX12_kept cX12_kept 6 (some .int)) (hp_rm 42 0 0) (hp_Pc Γ α [.ref a0, .int a1, .int a2, .int a3]) (hp_Qi Γ (fun r β => r = res.1 ∧ mo α β ∧ hm_M β a0 ρ res.2)) 0 0 (hp_A Γ) := by
  unfold f_X12_kept at hf
  refine hp_start (by decide) ?_
  intro p e s m below meth c C hr hlk B0 hnm
  have C : hp_C Γ p m c cX12_kept 6 s ([.ref a0, .int a1, .int a2, .int a3] : List Value).toArray RX12 := C
  have hx := C.1.1
  have hb := C.1.2.1
  have hown := C.1.2.2.2.1
  have hts := C.1.2.2.2.2
  have B : hp_B Γ mo s α α s.heap [] := ⟨B0.1, B0.2.1, mo_rf⟩
  have hl := lv_entry ([.ref a0, .int a1, .int a2, .int a3]) (n := 6) (Nat.le_of_ble_eq_true rfl)
  show W p l e (hp_rm 42 0 0) s m ([.ref a0, .int a1, .int a2, .int a3] : List Value).toArray below meth c s.heap [] 0 0 (MQ below (hp_Qi Γ (fun r β => r = res.1 ∧ mo α β ∧ hm_M β a0 ρ res.2)) ([.ref a0, .int a1, .int a2, .int a3] : List Value).toArray s 0 0 (hp_A Γ)) (entryFrame m ([.ref a0, .int a1, .int a2, .int a3] : List Value).toArray 6)
  rw [lg_entry_eq]
  generalize (lg_sl ([.ref a0, .int a1, .int a2, .int a3]) ++ List.replicate (6 - (lg_sl ([.ref a0, .int a1, .int a2, .int a3])).length) Slot.unset).toArray = ls at hl ⊢
  have hl : lv_has ls 6 [(0, .ref a0), (1, .int a1), (2, .int a2), (3, .int a3)] := hl
  refine lv_aload_n hx hb dX12_kept_0 rfl (lv_at hl 0 rfl) (hp_n (n := 1) rfl ?_)
  refine lv_aload_n hx hb dX12_kept_1 rfl (lv_at hl 0 rfl) (hp_n (n := 2) rfl ?_)
  refine lv_iload_n hx hb dX12_kept_2 rfl (lv_at hl 1 rfl) (hp_n (n := 3) rfl ?_)
  refine lv_iload_n hx hb dX12_kept_3 rfl (lv_at hl 2 rfl) (hp_n (n := 4) rfl ?_)
  obtain ⟨rh1, qh1, hf⟩ := ms_bE hf
  refine m_cp (pc' := 7) B (hp_runV (As := [.int a1, .int a2]) (rest := [.ref a0]) C B (m_X12_isThing n Γ l α a0 ρ σ hM a1 a2 rh1 qh1) lb_X12_isThing lv_X12_isThing lk_X12_381 hM.1 rfl (by decide) rfl hl.1 rfl (Nat.le_of_ble_eq_true rfl) dX12_kept_4 ⟨Nat.le_refl _, Nat.le_refl _⟩) rfl (fun Hh1 Lh1 Bh1 => ?_)
  have J20 : ∀ (αh2 : hp_T) (Hh2 : Heap) (Lh2 : List Loc) (Bh2 : hp_B Γ mo s α αh2 Hh2 Lh2) (σh2 : ms_T) (Mh2 : hm_M αh2 a0 ρ σh2) (v1_h2 : Int32) (v2_h2 : Int32) (v3_h2 : Int32) (w0_h2 : Int32) (ls : Array Slot) (hl : lv_has ls 6 [(0, .ref a0), (1, .int v1_h2), (2, .int v2_h2), (3, .int v3_h2)]) (hf : f_X12_kept_J20 n σh2 v1_h2 v2_h2 v3_h2 w0_h2 = some res), W p l e (hp_rm 42 0 0) s m ([.ref a0, .int a1, .int a2, .int a3] : List Value).toArray below meth c Hh2 Lh2 0 0 (MQ below (hp_Qi Γ (fun r β => r = res.1 ∧ mo α β ∧ hm_M β a0 ρ res.2)) ([.ref a0, .int a1, .int a2, .int a3] : List Value).toArray s 0 0 (hp_A Γ)) (F0 m 20 ls [.int w0_h2, .ref a0]) := by
    intro αh2 Hh2 Lh2 Bh2 σh2 Mh2 v1_h2 v2_h2 v3_h2 w0_h2 ls hl hf
    unfold f_X12_kept_J20 at hf
    obtain ⟨rh3, σh3, qh3, hf⟩ := ms_cE hf
    refine m_ci (pc' := 23) (a := a0) (ρ := ρ) Bh2 (hp_runV (As := [.int w0_h2]) (rest := []) C Bh2 (m_X12_is n Γ l αh2 a0 ρ σh2 Mh2 w0_h2 (rh3, σh3) qh3) lb_X12_is lv_X12_is lk_X12_309 Mh2.1 rfl (by decide) rfl hl.1 rfl (Nat.le_of_ble_eq_true rfl) dX12_kept_20 ⟨Nat.le_refl _, Nat.le_refl _⟩) rfl (fun αh3 Hh3 Lh3 Bh3 Mh3 => ?_)
    refine lv_if_ne (tgt := 28) hx hb dX12_kept_23 (by decide) (fun c4 => ?_) (fun c4 => hp_n (n := 26) rfl ?_)
    ·
      replace hf := ms_iF c4 hf
      refine lv_aload_n hx hb dX12_kept_28 rfl (lv_at hl 0 rfl) (hp_n (n := 29) rfl ?_)
      refine lv_iconst (v := 0) hx hb dX12_kept_29 (by decide) (hp_n (n := 30) rfl ?_)
      refine m_puti (k := 45) (φ := 695) (pc' := 33) C Bh3 Mh3 fl_X12_417 rfl rfl rfl rfl rfl dX12_kept_30 rfl (fun αh5 Hh5 Lh5 σh5 eh5 Bh5 Mh5 => ?_)
      replace hf := ms_lE eh5 hf
      refine lv_aload_n hx hb dX12_kept_33 rfl (lv_at hl 0 rfl) (hp_n (n := 34) rfl ?_)
      refine lv_iload_n hx hb dX12_kept_34 rfl (lv_at hl 1 rfl) (hp_n (n := 35) rfl ?_)
      refine lv_iload_n hx hb dX12_kept_35 rfl (lv_at hl 2 rfl) (hp_n (n := 36) rfl ?_)
      obtain ⟨σh6, qh6, hf⟩ := ms_bE hf
      refine m_cv (pc' := 39) (a := a0) (ρ := ρ) Bh5 (hp_runV (As := [.int v1_h2, .int v2_h2]) (rest := []) C Bh5 (m_X12_inclusion n Γ l αh5 a0 ρ σh5 Mh5 v1_h2 v2_h2 σh6 qh6) lb_X12_inclusion lv_X12_inclusion lk_X12_171 Mh5.1 rfl (by decide) rfl hl.1 rfl (Nat.le_of_ble_eq_true rfl) dX12_kept_36 ⟨Nat.le_refl _, Nat.le_refl _⟩) rfl (fun αh6 Hh6 Lh6 Bh6 Mh6 => ?_)
      refine lv_aload_n hx hb dX12_kept_39 rfl (lv_at hl 0 rfl) (hp_n (n := 40) rfl ?_)
      obtain ⟨σh7, qh7, hf⟩ := ms_bE hf
      refine m_cv (pc' := 43) (a := a0) (ρ := ρ) Bh6 (hp_runV (As := []) (rest := []) C Bh6 (m_X12_notes n Γ l αh6 a0 ρ σh6 Mh6  σh7 qh7) lb_X12_notes lv_X12_notes lk_X12_423 Mh6.1 rfl (by decide) rfl hl.1 rfl (Nat.le_of_ble_eq_true rfl) dX12_kept_40 ⟨Nat.le_refl _, Nat.le_refl _⟩) rfl (fun αh7 Hh7 Lh7 Bh7 Mh7 => ?_)
      refine lv_aload_n hx hb dX12_kept_43 rfl (lv_at hl 0 rfl) (hp_n (n := 44) rfl ?_)
      refine lv_iload_n hx hb dX12_kept_44 rfl (lv_at hl 1 rfl) (hp_n (n := 45) rfl ?_)
      refine lv_iload_n hx hb dX12_kept_45 rfl (lv_at hl 3 rfl) (hp_n (n := 46) rfl ?_)
      obtain ⟨σh8, qh8, hf⟩ := ms_bE hf
      refine m_cv (pc' := 49) (a := a0) (ρ := ρ) Bh7 (hp_runV (As := [.int v1_h2, .int v3_h2]) (rest := []) C Bh7 (m_X12_inclusion n Γ l αh7 a0 ρ σh7 Mh7 v1_h2 v3_h2 σh8 qh8) lb_X12_inclusion lv_X12_inclusion lk_X12_171 Mh7.1 rfl (by decide) rfl hl.1 rfl (Nat.le_of_ble_eq_true rfl) dX12_kept_46 ⟨Nat.le_refl _, Nat.le_refl _⟩) rfl (fun αh8 Hh8 Lh8 Bh8 Mh8 => ?_)
      refine lv_iconst (v := 0) hx hb dX12_kept_49 (by decide) (hp_n (n := 50) rfl ?_)
      refine lv_istore (lv' := [(4, .int (0 : Int32)), (0, .ref a0), (1, .int v1_h2), (2, .int v2_h2), (3, .int v3_h2)]) hx hb dX12_kept_50 hl (by decide) rfl (fun ls hl => hp_n (n := 52) rfl ?_)
      refine lv_iconst (v := 0) hx hb dX12_kept_52 (by decide) (hp_n (n := 53) rfl ?_)
      have J55 : ∀ (k55 : Nat) (αh9 : hp_T) (Hh9 : Heap) (Lh9 : List Loc) (Bh9 : hp_B Γ mo s α αh9 Hh9 Lh9) (σh9 : ms_T) (Mh9 : hm_M αh9 a0 ρ σh9) (v4_h9 : Int32) (v5_h9 : Int32) (ls : Array Slot) (hl : lv_has ls 6 [(0, .ref a0), (4, .int v4_h9), (5, .int v5_h9)]) (hf : f_X12_kept_L55 n k55 σh9 v4_h9 v5_h9 = some res), W p l e (hp_rm 42 0 0) s m ([.ref a0, .int a1, .int a2, .int a3] : List Value).toArray below meth c Hh9 Lh9 0 0 (MQ below (hp_Qi Γ (fun r β => r = res.1 ∧ mo α β ∧ hm_M β a0 ρ res.2)) ([.ref a0, .int a1, .int a2, .int a3] : List Value).toArray s 0 0 (hp_A Γ)) (F0 m 55 ls []) := by
        intro k55
        induction k55 with
        | zero => intro αh9 Hh9 Lh9 Bh9 σh9 Mh9 v4_h9 v5_h9 ls hl hf; rw [f_X12_kept_L55.eq_1] at hf; cases hf
        | succ k55 ih55 =>
          intro αh9 Hh9 Lh9 Bh9 σh9 Mh9 v4_h9 v5_h9 ls hl hf
          rw [f_X12_kept_L55.eq_2] at hf
          refine lv_iload hx hb dX12_kept_55 (lv_at hl 2 rfl) (hp_n (n := 57) rfl ?_)
          refine lv_aload_n hx hb dX12_kept_57 rfl (lv_at hl 0 rfl) (hp_n (n := 58) rfl ?_)
          refine m_geti (k := 7) (φ := 657) (pc' := 61) C Bh9 Mh9 fl_X12_139 rfl rfl dX12_kept_58 rfl ?_
          refine lv_icmp_ge (tgt := 101) hx hb dX12_kept_61 (by decide) (fun c10 => ?_) (fun c10 => hp_n (n := 64) rfl ?_)
          ·
            replace hf := ms_iT c10 hf
            refine lv_iload hx hb dX12_kept_101 (lv_at hl 1 rfl) (hp_n (n := 103) rfl ?_)
            cases hf
            exact q_iret C Bh9 hr hlk ⟨rfl, Bh9.2.2, Mh9⟩ dX12_kept_103
          ·
            replace hf := ms_iF c10 hf
            refine lv_iload hx hb dX12_kept_64 (lv_at hl 1 rfl) (hp_n (n := 66) rfl ?_)
            refine lv_aload_n hx hb dX12_kept_66 rfl (lv_at hl 0 rfl) (hp_n (n := 67) rfl ?_)
            refine lv_aload_n hx hb dX12_kept_67 rfl (lv_at hl 0 rfl) (hp_n (n := 68) rfl ?_)
            refine m_getr (κ := 42) (k := 4) (pc' := 71) C Bh9 Mh9 fl_X12_16 rfl (by decide) dX12_kept_68 rfl ?_
            refine lv_iload hx hb dX12_kept_71 (lv_at hl 2 rfl) (hp_n (n := 73) rfl ?_)
            obtain ⟨g11, hf⟩ := ms_gE hf
            refine m_ial (κ := 42) (φ := 654) (n := 128) (pc' := 74) C Bh9 Mh9 (by decide) (by decide) rfl g11 dX12_kept_73 rfl ?_
            refine lv_aload_n hx hb dX12_kept_74 rfl (lv_at hl 0 rfl) (hp_n (n := 75) rfl ?_)
            refine m_getr (κ := 43) (k := 5) (pc' := 78) C Bh9 Mh9 fl_X12_19 rfl (by decide) dX12_kept_75 rfl ?_
            refine lv_iload hx hb dX12_kept_78 (lv_at hl 2 rfl) (hp_n (n := 80) rfl ?_)
            obtain ⟨g12, hf⟩ := ms_gE hf
            refine m_ial (κ := 43) (φ := 655) (n := 128) (pc' := 81) C Bh9 Mh9 (by decide) (by decide) rfl g12 dX12_kept_80 rfl ?_
            obtain ⟨rh13, qh13, hf⟩ := ms_bE hf
            refine m_cp (pc' := 84) Bh9 (hp_runV (As := [.int (ms_E σh9 42 (v5_h9).toNatClampNeg), .int (ms_E σh9 43 (v5_h9).toNatClampNeg)]) (rest := [.int v4_h9]) C Bh9 (m_X12_had n Γ l αh9 a0 ρ σh9 Mh9 (ms_E σh9 42 (v5_h9).toNatClampNeg) (ms_E σh9 43 (v5_h9).toNatClampNeg) rh13 qh13) lb_X12_had lv_X12_had lk_X12_420 Mh9.1 rfl (by decide) rfl hl.1 rfl (Nat.le_of_ble_eq_true rfl) dX12_kept_81 ⟨Nat.le_refl _, Nat.le_refl _⟩) rfl (fun Hh13 Lh13 Bh13 => ?_)
            have J92 : ∀ (αh14 : hp_T) (Hh14 : Heap) (Lh14 : List Loc) (Bh14 : hp_B Γ mo s α αh14 Hh14 Lh14) (σh14 : ms_T) (Mh14 : hm_M αh14 a0 ρ σh14) (v5_h14 : Int32) (w0_h14 : Int32) (w1_h14 : Int32) (ls : Array Slot) (hl : lv_has ls 6 [(0, .ref a0), (5, .int v5_h14)]) (hf : f_X12_kept_J92 n (f_X12_kept_L55 n k55) σh14 v5_h14 w0_h14 w1_h14 = some res), W p l e (hp_rm 42 0 0) s m ([.ref a0, .int a1, .int a2, .int a3] : List Value).toArray below meth c Hh14 Lh14 0 0 (MQ below (hp_Qi Γ (fun r β => r = res.1 ∧ mo α β ∧ hm_M β a0 ρ res.2)) ([.ref a0, .int a1, .int a2, .int a3] : List Value).toArray s 0 0 (hp_A Γ)) (F0 m 92 ls [.int w0_h14, .int w1_h14]) := by
              intro αh14 Hh14 Lh14 Bh14 σh14 Mh14 v5_h14 w0_h14 w1_h14 ls hl hf
              unfold f_X12_kept_J92 at hf
              refine lv_iadd hx hb dX12_kept_92 (hp_n (n := 93) rfl ?_)
              refine lv_topi (fun x15 ex15 => ?_)
              replace hf := ms_lE ex15 hf
              refine lv_istore (lv' := [(4, .int x15), (0, .ref a0), (5, .int v5_h14)]) hx hb dX12_kept_93 hl (by decide) rfl (fun ls hl => hp_n (n := 95) rfl ?_)
              obtain ⟨x16, ex16⟩ : ∃ y : Int32, y = v5_h14 + 1 := ⟨_, rfl⟩
              replace hf := ms_lE ex16 hf
              refine lv_iinc (v := x16) (lv' := [(5, .int x16), (4, .int x15), (0, .ref a0)]) hx hb dX12_kept_95 hl (k := 2) rfl (by rw [ex16]; rfl) (by decide) rfl (fun ls hl => hp_n (n := 98) rfl ?_)
              refine lv_goto (tgt := 55) hx hb dX12_kept_98 (by decide) ?_
              exact ih55 αh14 Hh14 Lh14 Bh14 σh14 Mh14 x15 x16 ls (lv_sub hl [2, 1, 0] rfl) hf
            refine lv_if_eq (tgt := 91) hx hb dX12_kept_84 (by decide) (fun c17 => ?_) (fun c17 => hp_n (n := 87) rfl ?_)
            ·
              replace hf := ms_iT c17 hf
              refine lv_iconst (v := 0) hx hb dX12_kept_91 (by decide) (hp_n (n := 92) rfl ?_)
              exact J92 αh9 Hh13 Lh13 Bh13 σh9 Mh9 v5_h9 (0 : Int32) v4_h9 ls (lv_sub hl [0, 2] rfl) hf
            ·
              replace hf := ms_iF c17 hf
              refine lv_iconst (v := 1) hx hb dX12_kept_87 (by decide) (hp_n (n := 88) rfl ?_)
              refine lv_goto (tgt := 92) hx hb dX12_kept_88 (by decide) ?_
              exact J92 αh9 Hh13 Lh13 Bh13 σh9 Mh9 v5_h9 (1 : Int32) v4_h9 ls (lv_sub hl [0, 2] rfl) hf
      refine lv_istore (lv' := [(5, .int (0 : Int32)), (4, .int (0 : Int32)), (0, .ref a0), (1, .int v1_h2), (2, .int v2_h2), (3, .int v3_h2)]) hx hb dX12_kept_53 hl (by decide) rfl (fun ls hl => hp_n (n := 55) rfl ?_)
      exact J55 n αh8 Hh8 Lh8 Bh8 σh8 Mh8 (0 : Int32) (0 : Int32) ls (lv_sub hl [2, 1, 0] rfl) hf
    ·
      replace hf := ms_iT c4 hf
      refine lv_iconst (v := (-1)) hx hb dX12_kept_26 (by decide) (hp_n (n := 27) rfl ?_)
      cases hf
      exact q_iret C Bh3 hr hlk ⟨rfl, Bh3.2.2, Mh3⟩ dX12_kept_27
  have J19 : ∀ (αh18 : hp_T) (Hh18 : Heap) (Lh18 : List Loc) (Bh18 : hp_B Γ mo s α αh18 Hh18 Lh18) (σh18 : ms_T) (Mh18 : hm_M αh18 a0 ρ σh18) (v1_h18 : Int32) (v2_h18 : Int32) (v3_h18 : Int32) (ls : Array Slot) (hl : lv_has ls 6 [(0, .ref a0), (1, .int v1_h18), (2, .int v2_h18), (3, .int v3_h18)]) (hf : f_X12_kept_J19 n σh18 v1_h18 v2_h18 v3_h18 = some res), W p l e (hp_rm 42 0 0) s m ([.ref a0, .int a1, .int a2, .int a3] : List Value).toArray below meth c Hh18 Lh18 0 0 (MQ below (hp_Qi Γ (fun r β => r = res.1 ∧ mo α β ∧ hm_M β a0 ρ res.2)) ([.ref a0, .int a1, .int a2, .int a3] : List Value).toArray s 0 0 (hp_A Γ)) (F0 m 19 ls [.ref a0]) := by
    intro αh18 Hh18 Lh18 Bh18 σh18 Mh18 v1_h18 v2_h18 v3_h18 ls hl hf
    unfold f_X12_kept_J19 at hf
    refine lv_iconst (v := 1) hx hb dX12_kept_19 (by decide) (hp_n (n := 20) rfl ?_)
    exact J20 αh18 Hh18 Lh18 Bh18 σh18 Mh18 v1_h18 v2_h18 v3_h18 (1 : Int32) ls (lv_sub hl [0, 1, 2, 3] rfl) hf
  refine lv_if_eq (tgt := 19) hx hb dX12_kept_7 (by decide) (fun c19 => ?_) (fun c19 => hp_n (n := 10) rfl ?_)
  ·
    replace hf := ms_iT c19 hf
    exact J19 α Hh1 Lh1 Bh1 σ hM a1 a2 a3 ls (lv_sub hl [0, 1, 2, 3] rfl) hf
  ·
    replace hf := ms_iF c19 hf
    refine lv_iload_n hx hb dX12_kept_10 rfl (lv_at hl 3 rfl) (hp_n (n := 11) rfl ?_)
    refine lv_iload_n hx hb dX12_kept_11 rfl (lv_at hl 2 rfl) (hp_n (n := 12) rfl ?_)
    refine lv_icmp_lt (tgt := 19) hx hb dX12_kept_12 (by decide) (fun c20 => ?_) (fun c20 => hp_n (n := 15) rfl ?_)
    ·
      replace hf := ms_iT c20 hf
      exact J19 α Hh1 Lh1 Bh1 σ hM a1 a2 a3 ls (lv_sub hl [0, 1, 2, 3] rfl) hf
    ·
      replace hf := ms_iF c20 hf
      refine lv_iconst (v := 0) hx hb dX12_kept_15 (by decide) (hp_n (n := 16) rfl ?_)
      refine lv_goto (tgt := 20) hx hb dX12_kept_16 (by decide) ?_
      exact J20 α Hh1 Lh1 Bh1 σ hM a1 a2 a3 (0 : Int32) ls (lv_sub hl [0, 1, 2, 3] rfl) hf
def f_X12_sick_J89 (n : Nat) (rec56 : ms_T → Int32 → Int32 → Int32 → Option (Int32 × ms_T)) (σh12 : ms_T) (v1_h12 : Int32) (v3_h12 : Int32) (w0_h12 : Int32) (w1_h12 : Int32) : Option (Int32 × ms_T) :=
  ms_l ((w1_h12 ||| w0_h12)) fun x13 =>
  ms_l (v3_h12 + 1) fun x14 =>
  rec56 σh12 v1_h12 x13 x14
def f_X12_sick_L56 (n : Nat) : Nat → ms_T → Int32 → Int32 → Int32 → Option (Int32 × ms_T)
  | 0, _, _, _, _ => none
  | k56 + 1, σh8, v1_h8, v2_h8, v3_h8 =>
    if (ms_I σh8 657) ≤ v3_h8 then
      some (v2_h8, σh8)
    else
      ms_g v3_h8 128 <|
      ms_b (f_X12_froze n σh8 v1_h8 ((4 : Int32) + v3_h8)) fun rh11 =>
      if (ms_E σh8 44 (v3_h8).toNatClampNeg) = rh11 then
        f_X12_sick_J89 n (f_X12_sick_L56 n k56) σh8 v1_h8 v3_h8 (0 : Int32) v2_h8
      else
        f_X12_sick_J89 n (f_X12_sick_L56 n k56) σh8 v1_h8 v3_h8 ((1 : Int32) <<< (v3_h8 &&& 31)) v2_h8
def f_X12_sick_J24 (n : Nat) (σh1 : ms_T) (v1_h1 : Int32) (w0_h1 : Int32) : Option (Int32 × ms_T) :=
  ms_c (f_X12_is n σh1 w0_h1) fun rh2 σh2 =>
  if rh2 = 0 then
    some ((-1 : Int32), σh2)
  else
    ms_b (f_X12_froze n σh2 v1_h1 (1 : Int32)) fun rh4 =>
    ms_b (f_X12_peaksOf n σh2 rh4) fun σh5 =>
    ms_b (f_X12_froze n σh5 v1_h1 (0 : Int32)) fun rh6 =>
    ms_b (f_X12_fetches n σh5 rh6) fun σh7 =>
    f_X12_sick_L56 n n σh7 v1_h1 (0 : Int32) (0 : Int32)
def f_X12_sick (n : Nat) (σ : ms_T) (a1 : Int32) : Option (Int32 × ms_T) :=
  if 0 ≤ a1 then
    ms_g (3 : Int32) 1980 <|
    if a1 < (ms_E σ 40 ((3 : Int32)).toNatClampNeg) then
      f_X12_sick_J24 n σ a1 (0 : Int32)
    else
      f_X12_sick_J24 n σ a1 (5 : Int32)
  else
    f_X12_sick_J24 n σ a1 (1 : Int32)
set_option maxRecDepth 100000 in
set_option maxHeartbeats 4000000 in
theorem m_X12_sick (n : Nat) (Γ : hp_G) (l : Launch) (α : hp_T) (a0 : Nat) (ρ : Nat → Nat) (σ : ms_T) (hM : hm_M α a0 ρ σ) (a1 : Int32) (res : (Int32 × ms_T)) (hf : f_X12_sick n σ a1 = some res) : Met l yX12_sick (hp_ws yX12_sick cX12_sick 4 (some .int)) (hp_rm 43 0 0) (hp_Pc Γ α [.ref a0, .int a1]) (hp_Qi Γ (fun r β => r = res.1 ∧ mo α β ∧ hm_M β a0 ρ res.2)) 0 0 (hp_A Γ) := by
  unfold f_X12_sick at hf
  refine hp_start (by decide) ?_
  intro p e s m below meth c C hr hlk B0 hnm
  have C : hp_C Γ p m c cX12_sick 4 s ([.ref a0, .int a1] : List Value).toArray RX12 := C
  have hx := C.1.1
  have hb := C.1.2.1
  have hown := C.1.2.2.2.1
  have hts := C.1.2.2.2.2
  have B : hp_B Γ mo s α α s.heap [] := ⟨B0.1, B0.2.1, mo_rf⟩
  have hl := lv_entry ([.ref a0, .int a1]) (n := 4) (Nat.le_of_ble_eq_true rfl)
  show W p l e (hp_rm 43 0 0) s m ([.ref a0, .int a1] : List Value).toArray below meth c s.heap [] 0 0 (MQ below (hp_Qi Γ (fun r β => r = res.1 ∧ mo α β ∧ hm_M β a0 ρ res.2)) ([.ref a0, .int a1] : List Value).toArray s 0 0 (hp_A Γ)) (entryFrame m ([.ref a0, .int a1] : List Value).toArray 4)
  rw [lg_entry_eq]
  generalize (lg_sl ([.ref a0, .int a1]) ++ List.replicate (4 - (lg_sl ([.ref a0, .int a1])).length) Slot.unset).toArray = ls at hl ⊢
  have hl : lv_has ls 4 [(0, .ref a0), (1, .int a1)] := hl
  refine lv_aload_n hx hb dX12_sick_0 rfl (lv_at hl 0 rfl) (hp_n (n := 1) rfl ?_)
  refine lv_iload_n hx hb dX12_sick_1 rfl (lv_at hl 1 rfl) (hp_n (n := 2) rfl ?_)
  have J24 : ∀ (αh1 : hp_T) (Hh1 : Heap) (Lh1 : List Loc) (Bh1 : hp_B Γ mo s α αh1 Hh1 Lh1) (σh1 : ms_T) (Mh1 : hm_M αh1 a0 ρ σh1) (v1_h1 : Int32) (w0_h1 : Int32) (ls : Array Slot) (hl : lv_has ls 4 [(0, .ref a0), (1, .int v1_h1)]) (hf : f_X12_sick_J24 n σh1 v1_h1 w0_h1 = some res), W p l e (hp_rm 43 0 0) s m ([.ref a0, .int a1] : List Value).toArray below meth c Hh1 Lh1 0 0 (MQ below (hp_Qi Γ (fun r β => r = res.1 ∧ mo α β ∧ hm_M β a0 ρ res.2)) ([.ref a0, .int a1] : List Value).toArray s 0 0 (hp_A Γ)) (F0 m 24 ls [.int w0_h1, .ref a0]) := by
    intro αh1 Hh1 Lh1 Bh1 σh1 Mh1 v1_h1 w0_h1 ls hl hf
    unfold f_X12_sick_J24 at hf
    obtain ⟨rh2, σh2, qh2, hf⟩ := ms_cE hf
    refine m_ci (pc' := 27) (a := a0) (ρ := ρ) Bh1 (hp_runV (As := [.int w0_h1]) (rest := []) C Bh1 (m_X12_is n Γ l αh1 a0 ρ σh1 Mh1 w0_h1 (rh2, σh2) qh2) lb_X12_is lv_X12_is lk_X12_309 Mh1.1 rfl (by decide) rfl hl.1 rfl (Nat.le_of_ble_eq_true rfl) dX12_sick_24 ⟨Nat.le_refl _, Nat.le_refl _⟩) rfl (fun αh2 Hh2 Lh2 Bh2 Mh2 => ?_)
    refine lv_if_ne (tgt := 32) hx hb dX12_sick_27 (by decide) (fun c3 => ?_) (fun c3 => hp_n (n := 30) rfl ?_)
    ·
      replace hf := ms_iF c3 hf
      refine lv_aload_n hx hb dX12_sick_32 rfl (lv_at hl 0 rfl) (hp_n (n := 33) rfl ?_)
      refine lv_aload_n hx hb dX12_sick_33 rfl (lv_at hl 0 rfl) (hp_n (n := 34) rfl ?_)
      refine lv_iload_n hx hb dX12_sick_34 rfl (lv_at hl 1 rfl) (hp_n (n := 35) rfl ?_)
      refine lv_iconst (v := 1) hx hb dX12_sick_35 (by decide) (hp_n (n := 36) rfl ?_)
      obtain ⟨rh4, qh4, hf⟩ := ms_bE hf
      refine m_cp (pc' := 39) Bh2 (hp_runV (As := [.int v1_h1, .int (1 : Int32)]) (rest := [.ref a0]) C Bh2 (m_X12_froze n Γ l αh2 a0 ρ σh2 Mh2 v1_h1 (1 : Int32) rh4 qh4) lb_X12_froze lv_X12_froze lk_X12_350 Mh2.1 rfl (by decide) rfl hl.1 rfl (Nat.le_of_ble_eq_true rfl) dX12_sick_36 ⟨Nat.le_refl _, Nat.le_refl _⟩) rfl (fun Hh4 Lh4 Bh4 => ?_)
      obtain ⟨σh5, qh5, hf⟩ := ms_bE hf
      refine m_cv (pc' := 42) (a := a0) (ρ := ρ) Bh4 (hp_runV (As := [.int rh4]) (rest := []) C Bh4 (m_X12_peaksOf n Γ l αh2 a0 ρ σh2 Mh2 rh4 σh5 qh5) lb_X12_peaksOf lv_X12_peaksOf lk_X12_218 Mh2.1 rfl (by decide) rfl hl.1 rfl (Nat.le_of_ble_eq_true rfl) dX12_sick_39 ⟨Nat.le_refl _, Nat.le_refl _⟩) rfl (fun αh5 Hh5 Lh5 Bh5 Mh5 => ?_)
      refine lv_aload_n hx hb dX12_sick_42 rfl (lv_at hl 0 rfl) (hp_n (n := 43) rfl ?_)
      refine lv_aload_n hx hb dX12_sick_43 rfl (lv_at hl 0 rfl) (hp_n (n := 44) rfl ?_)
      refine lv_iload_n hx hb dX12_sick_44 rfl (lv_at hl 1 rfl) (hp_n (n := 45) rfl ?_)
      refine lv_iconst (v := 0) hx hb dX12_sick_45 (by decide) (hp_n (n := 46) rfl ?_)
      obtain ⟨rh6, qh6, hf⟩ := ms_bE hf
      refine m_cp (pc' := 49) Bh5 (hp_runV (As := [.int v1_h1, .int (0 : Int32)]) (rest := [.ref a0]) C Bh5 (m_X12_froze n Γ l αh5 a0 ρ σh5 Mh5 v1_h1 (0 : Int32) rh6 qh6) lb_X12_froze lv_X12_froze lk_X12_350 Mh5.1 rfl (by decide) rfl hl.1 rfl (Nat.le_of_ble_eq_true rfl) dX12_sick_46 ⟨Nat.le_refl _, Nat.le_refl _⟩) rfl (fun Hh6 Lh6 Bh6 => ?_)
      obtain ⟨σh7, qh7, hf⟩ := ms_bE hf
      refine m_cv (pc' := 52) (a := a0) (ρ := ρ) Bh6 (hp_runV (As := [.int rh6]) (rest := []) C Bh6 (m_X12_fetches n Γ l αh5 a0 ρ σh5 Mh5 rh6 σh7 qh7) lb_X12_fetches lv_X12_fetches lk_X12_161 Mh5.1 rfl (by decide) rfl hl.1 rfl (Nat.le_of_ble_eq_true rfl) dX12_sick_49 ⟨Nat.le_refl _, Nat.le_refl _⟩) rfl (fun αh7 Hh7 Lh7 Bh7 Mh7 => ?_)
      refine lv_iconst (v := 0) hx hb dX12_sick_52 (by decide) (hp_n (n := 53) rfl ?_)
      refine lv_istore_n (lv' := [(2, .int (0 : Int32)), (0, .ref a0), (1, .int v1_h1)]) hx hb dX12_sick_53 rfl hl (by decide) rfl (fun ls hl => hp_n (n := 54) rfl ?_)
      refine lv_iconst (v := 0) hx hb dX12_sick_54 (by decide) (hp_n (n := 55) rfl ?_)
      have J56 : ∀ (k56 : Nat) (αh8 : hp_T) (Hh8 : Heap) (Lh8 : List Loc) (Bh8 : hp_B Γ mo s α αh8 Hh8 Lh8) (σh8 : ms_T) (Mh8 : hm_M αh8 a0 ρ σh8) (v1_h8 : Int32) (v2_h8 : Int32) (v3_h8 : Int32) (ls : Array Slot) (hl : lv_has ls 4 [(0, .ref a0), (1, .int v1_h8), (2, .int v2_h8), (3, .int v3_h8)]) (hf : f_X12_sick_L56 n k56 σh8 v1_h8 v2_h8 v3_h8 = some res), W p l e (hp_rm 43 0 0) s m ([.ref a0, .int a1] : List Value).toArray below meth c Hh8 Lh8 0 0 (MQ below (hp_Qi Γ (fun r β => r = res.1 ∧ mo α β ∧ hm_M β a0 ρ res.2)) ([.ref a0, .int a1] : List Value).toArray s 0 0 (hp_A Γ)) (F0 m 56 ls []) := by
        intro k56
        induction k56 with
        | zero => intro αh8 Hh8 Lh8 Bh8 σh8 Mh8 v1_h8 v2_h8 v3_h8 ls hl hf; rw [f_X12_sick_L56.eq_1] at hf; cases hf
        | succ k56 ih56 =>
          intro αh8 Hh8 Lh8 Bh8 σh8 Mh8 v1_h8 v2_h8 v3_h8 ls hl hf
          rw [f_X12_sick_L56.eq_2] at hf
          refine lv_iload_n hx hb dX12_sick_56 rfl (lv_at hl 3 rfl) (hp_n (n := 57) rfl ?_)
          refine lv_aload_n hx hb dX12_sick_57 rfl (lv_at hl 0 rfl) (hp_n (n := 58) rfl ?_)
          refine m_geti (k := 7) (φ := 657) (pc' := 61) C Bh8 Mh8 fl_X12_139 rfl rfl dX12_sick_58 rfl ?_
          refine lv_icmp_ge (tgt := 97) hx hb dX12_sick_61 (by decide) (fun c9 => ?_) (fun c9 => hp_n (n := 64) rfl ?_)
          ·
            replace hf := ms_iT c9 hf
            refine lv_iload_n hx hb dX12_sick_97 rfl (lv_at hl 2 rfl) (hp_n (n := 98) rfl ?_)
            cases hf
            exact q_iret C Bh8 hr hlk ⟨rfl, Bh8.2.2, Mh8⟩ dX12_sick_98
          ·
            replace hf := ms_iF c9 hf
            refine lv_iload_n hx hb dX12_sick_64 rfl (lv_at hl 2 rfl) (hp_n (n := 65) rfl ?_)
            refine lv_aload_n hx hb dX12_sick_65 rfl (lv_at hl 0 rfl) (hp_n (n := 66) rfl ?_)
            refine m_getr (κ := 44) (k := 6) (pc' := 69) C Bh8 Mh8 fl_X12_22 rfl (by decide) dX12_sick_66 rfl ?_
            refine lv_iload_n hx hb dX12_sick_69 rfl (lv_at hl 3 rfl) (hp_n (n := 70) rfl ?_)
            obtain ⟨g10, hf⟩ := ms_gE hf
            refine m_ial (κ := 44) (φ := 656) (n := 128) (pc' := 71) C Bh8 Mh8 (by decide) (by decide) rfl g10 dX12_sick_70 rfl ?_
            refine lv_aload_n hx hb dX12_sick_71 rfl (lv_at hl 0 rfl) (hp_n (n := 72) rfl ?_)
            refine lv_iload_n hx hb dX12_sick_72 rfl (lv_at hl 1 rfl) (hp_n (n := 73) rfl ?_)
            refine lv_iconst (v := 4) hx hb dX12_sick_73 (by decide) (hp_n (n := 74) rfl ?_)
            refine lv_iload_n hx hb dX12_sick_74 rfl (lv_at hl 3 rfl) (hp_n (n := 75) rfl ?_)
            refine lv_iadd hx hb dX12_sick_75 (hp_n (n := 76) rfl ?_)
            obtain ⟨rh11, qh11, hf⟩ := ms_bE hf
            refine m_cp (pc' := 79) Bh8 (hp_runV (As := [.int v1_h8, .int ((4 : Int32) + v3_h8)]) (rest := [.int (ms_E σh8 44 (v3_h8).toNatClampNeg), .int v2_h8]) C Bh8 (m_X12_froze n Γ l αh8 a0 ρ σh8 Mh8 v1_h8 ((4 : Int32) + v3_h8) rh11 qh11) lb_X12_froze lv_X12_froze lk_X12_350 Mh8.1 rfl (by decide) rfl hl.1 rfl (Nat.le_of_ble_eq_true rfl) dX12_sick_76 ⟨Nat.le_refl _, Nat.le_refl _⟩) rfl (fun Hh11 Lh11 Bh11 => ?_)
            have J89 : ∀ (αh12 : hp_T) (Hh12 : Heap) (Lh12 : List Loc) (Bh12 : hp_B Γ mo s α αh12 Hh12 Lh12) (σh12 : ms_T) (Mh12 : hm_M αh12 a0 ρ σh12) (v1_h12 : Int32) (v3_h12 : Int32) (w0_h12 : Int32) (w1_h12 : Int32) (ls : Array Slot) (hl : lv_has ls 4 [(0, .ref a0), (1, .int v1_h12), (3, .int v3_h12)]) (hf : f_X12_sick_J89 n (f_X12_sick_L56 n k56) σh12 v1_h12 v3_h12 w0_h12 w1_h12 = some res), W p l e (hp_rm 43 0 0) s m ([.ref a0, .int a1] : List Value).toArray below meth c Hh12 Lh12 0 0 (MQ below (hp_Qi Γ (fun r β => r = res.1 ∧ mo α β ∧ hm_M β a0 ρ res.2)) ([.ref a0, .int a1] : List Value).toArray s 0 0 (hp_A Γ)) (F0 m 89 ls [.int w0_h12, .int w1_h12]) := by
              intro αh12 Hh12 Lh12 Bh12 σh12 Mh12 v1_h12 v3_h12 w0_h12 w1_h12 ls hl hf
              unfold f_X12_sick_J89 at hf
              refine lv_ior hx hb dX12_sick_89 (hp_n (n := 90) rfl ?_)
              refine lv_topi (fun x13 ex13 => ?_)
              replace hf := ms_lE ex13 hf
              refine lv_istore_n (lv' := [(2, .int x13), (0, .ref a0), (1, .int v1_h12), (3, .int v3_h12)]) hx hb dX12_sick_90 rfl hl (by decide) rfl (fun ls hl => hp_n (n := 91) rfl ?_)
              obtain ⟨x14, ex14⟩ : ∃ y : Int32, y = v3_h12 + 1 := ⟨_, rfl⟩
              replace hf := ms_lE ex14 hf
              refine lv_iinc (v := x14) (lv' := [(3, .int x14), (2, .int x13), (0, .ref a0), (1, .int v1_h12)]) hx hb dX12_sick_91 hl (k := 3) rfl (by rw [ex14]; rfl) (by decide) rfl (fun ls hl => hp_n (n := 94) rfl ?_)
              refine lv_goto (tgt := 56) hx hb dX12_sick_94 (by decide) ?_
              exact ih56 αh12 Hh12 Lh12 Bh12 σh12 Mh12 v1_h12 x13 x14 ls (lv_sub hl [2, 3, 1, 0] rfl) hf
            refine lv_icmp_eq (tgt := 88) hx hb dX12_sick_79 (by decide) (fun c15 => ?_) (fun c15 => hp_n (n := 82) rfl ?_)
            ·
              replace hf := ms_iT c15 hf
              refine lv_iconst (v := 0) hx hb dX12_sick_88 (by decide) (hp_n (n := 89) rfl ?_)
              exact J89 αh8 Hh11 Lh11 Bh11 σh8 Mh8 v1_h8 v3_h8 (0 : Int32) v2_h8 ls (lv_sub hl [0, 1, 3] rfl) hf
            ·
              replace hf := ms_iF c15 hf
              refine lv_iconst (v := 1) hx hb dX12_sick_82 (by decide) (hp_n (n := 83) rfl ?_)
              refine lv_iload_n hx hb dX12_sick_83 rfl (lv_at hl 3 rfl) (hp_n (n := 84) rfl ?_)
              refine lv_ishl hx hb dX12_sick_84 (hp_n (n := 85) rfl ?_)
              refine lv_goto (tgt := 89) hx hb dX12_sick_85 (by decide) ?_
              exact J89 αh8 Hh11 Lh11 Bh11 σh8 Mh8 v1_h8 v3_h8 ((1 : Int32) <<< (v3_h8 &&& 31)) v2_h8 ls (lv_sub hl [0, 1, 3] rfl) hf
      refine lv_istore_n (lv' := [(3, .int (0 : Int32)), (2, .int (0 : Int32)), (0, .ref a0), (1, .int v1_h1)]) hx hb dX12_sick_55 rfl hl (by decide) rfl (fun ls hl => hp_n (n := 56) rfl ?_)
      exact J56 n αh7 Hh7 Lh7 Bh7 σh7 Mh7 v1_h1 (0 : Int32) (0 : Int32) ls (lv_sub hl [2, 3, 1, 0] rfl) hf
    ·
      replace hf := ms_iT c3 hf
      refine lv_iconst (v := (-1)) hx hb dX12_sick_30 (by decide) (hp_n (n := 31) rfl ?_)
      cases hf
      exact q_iret C Bh2 hr hlk ⟨rfl, Bh2.2.2, Mh2⟩ dX12_sick_31
  refine lv_if_ge (tgt := 9) hx hb dX12_sick_2 (by decide) (fun c16 => ?_) (fun c16 => hp_n (n := 5) rfl ?_)
  ·
    replace hf := ms_iT c16 hf
    refine lv_iload_n hx hb dX12_sick_9 rfl (lv_at hl 1 rfl) (hp_n (n := 10) rfl ?_)
    refine lv_aload_n hx hb dX12_sick_10 rfl (lv_at hl 0 rfl) (hp_n (n := 11) rfl ?_)
    refine m_getr (κ := 40) (k := 0) (pc' := 14) C B hM fl_X12_7 rfl (by decide) dX12_sick_11 rfl ?_
    refine lv_iconst (v := 3) hx hb dX12_sick_14 (by decide) (hp_n (n := 15) rfl ?_)
    obtain ⟨g17, hf⟩ := ms_gE hf
    refine m_ial (κ := 40) (φ := 650) (n := 1980) (pc' := 16) C B hM (by decide) (by decide) rfl g17 dX12_sick_15 rfl ?_
    refine lv_icmp_lt (tgt := 23) hx hb dX12_sick_16 (by decide) (fun c18 => ?_) (fun c18 => hp_n (n := 19) rfl ?_)
    ·
      replace hf := ms_iT c18 hf
      refine lv_iconst (v := 0) hx hb dX12_sick_23 (by decide) (hp_n (n := 24) rfl ?_)
      exact J24 α s.heap [] B σ hM a1 (0 : Int32) ls (lv_sub hl [0, 1] rfl) hf
    ·
      replace hf := ms_iF c18 hf
      refine lv_iconst (v := 5) hx hb dX12_sick_19 (by decide) (hp_n (n := 20) rfl ?_)
      refine lv_goto (tgt := 24) hx hb dX12_sick_20 (by decide) ?_
      exact J24 α s.heap [] B σ hM a1 (5 : Int32) ls (lv_sub hl [0, 1] rfl) hf
  ·
    replace hf := ms_iF c16 hf
    refine lv_iconst (v := 1) hx hb dX12_sick_5 (by decide) (hp_n (n := 6) rfl ?_)
    refine lv_goto (tgt := 24) hx hb dX12_sick_6 (by decide) ?_
    exact J24 α s.heap [] B σ hM a1 (1 : Int32) ls (lv_sub hl [0, 1] rfl) hf
def f_X12_sizeAbove_J61 (n : Nat) (σ : ms_T) (rec5 : Int32 → Int32 → Int32 → Int32 → Option Int32) (v1_h5 : Int32) (v2_h5 : Int32) (v3_h5 : Int32) (v4_h5 : Int32) : Option Int32 :=
  ms_l (v4_h5 + 1) fun x6 =>
  rec5 v1_h5 v2_h5 v3_h5 x6
def f_X12_sizeAbove_J53 (n : Nat) (σ : ms_T) (rec5 : Int32 → Int32 → Int32 → Int32 → Option Int32) (v1_h10 : Int32) (v2_h10 : Int32) (v4_h10 : Int32) : Option Int32 :=
  ms_b (f_X12_froze n σ v4_h10 (1 : Int32)) fun rh11 =>
  f_X12_sizeAbove_J61 n σ rec5 v1_h10 v2_h10 rh11 v4_h10
def f_X12_sizeAbove_L5 (n : Nat) (σ : ms_T) : Nat → Int32 → Int32 → Int32 → Int32 → Option Int32
  | 0, _, _, _, _ => none
  | k5 + 1, v1_h1, v2_h1, v3_h1, v4_h1 =>
    ms_g (3 : Int32) 1980 <|
    if (ms_E σ 40 ((3 : Int32)).toNatClampNeg) ≤ v4_h1 then
      some v3_h1
    else
      ms_b (f_X12_froze n σ v4_h1 (0 : Int32)) fun rh4 =>
      if rh4 = v1_h1 then
        ms_b (f_X12_froze n σ v4_h1 (1 : Int32)) fun rh8 =>
        if rh8 ≤ v2_h1 then
          f_X12_sizeAbove_J61 n σ (f_X12_sizeAbove_L5 n σ k5) v1_h1 v2_h1 v3_h1 v4_h1
        else
          if v3_h1 < 0 then
            f_X12_sizeAbove_J53 n σ (f_X12_sizeAbove_L5 n σ k5) v1_h1 v2_h1 v4_h1
          else
            ms_b (f_X12_froze n σ v4_h1 (1 : Int32)) fun rh13 =>
            if v3_h1 ≤ rh13 then
              f_X12_sizeAbove_J61 n σ (f_X12_sizeAbove_L5 n σ k5) v1_h1 v2_h1 v3_h1 v4_h1
            else
              f_X12_sizeAbove_J53 n σ (f_X12_sizeAbove_L5 n σ k5) v1_h1 v2_h1 v4_h1
      else
        f_X12_sizeAbove_J61 n σ (f_X12_sizeAbove_L5 n σ k5) v1_h1 v2_h1 v3_h1 v4_h1
def f_X12_sizeAbove (n : Nat) (σ : ms_T) (a1 : Int32) (a2 : Int32) : Option Int32 :=
  f_X12_sizeAbove_L5 n σ n a1 a2 (-1 : Int32) (0 : Int32)
set_option maxRecDepth 100000 in
set_option maxHeartbeats 4000000 in
theorem m_X12_sizeAbove (n : Nat) (Γ : hp_G) (l : Launch) (α : hp_T) (a0 : Nat) (ρ : Nat → Nat) (σ : ms_T) (hM : hm_M α a0 ρ σ) (a1 : Int32) (a2 : Int32) (res : Int32) (hf : f_X12_sizeAbove n σ a1 a2 = some res) : Met l yX12_sizeAbove (hp_ws yX12_sizeAbove cX12_sizeAbove 5 (some .int)) (hp_rm 1 0 0) (hp_Pc Γ α [.ref a0, .int a1, .int a2]) (hp_Qi Γ (fun r β => β = α ∧ r = res)) 0 0 (hp_A Γ) := by
  unfold f_X12_sizeAbove at hf
  refine hp_start (by decide) ?_
  intro p e s m below meth c C hr hlk B0 hnm
  have C : hp_C Γ p m c cX12_sizeAbove 5 s ([.ref a0, .int a1, .int a2] : List Value).toArray RX12 := C
  have hx := C.1.1
  have hb := C.1.2.1
  have hown := C.1.2.2.2.1
  have hts := C.1.2.2.2.2
  have B : hp_B Γ (fun _ _ => True) s α α s.heap [] := ⟨B0.1, B0.2.1, trivial⟩
  have hl := lv_entry ([.ref a0, .int a1, .int a2]) (n := 5) (Nat.le_of_ble_eq_true rfl)
  show W p l e (hp_rm 1 0 0) s m ([.ref a0, .int a1, .int a2] : List Value).toArray below meth c s.heap [] 0 0 (MQ below (hp_Qi Γ (fun r β => β = α ∧ r = res)) ([.ref a0, .int a1, .int a2] : List Value).toArray s 0 0 (hp_A Γ)) (entryFrame m ([.ref a0, .int a1, .int a2] : List Value).toArray 5)
  rw [lg_entry_eq]
  generalize (lg_sl ([.ref a0, .int a1, .int a2]) ++ List.replicate (5 - (lg_sl ([.ref a0, .int a1, .int a2])).length) Slot.unset).toArray = ls at hl ⊢
  have hl : lv_has ls 5 [(0, .ref a0), (1, .int a1), (2, .int a2)] := hl
  refine lv_iconst (v := (-1)) hx hb dX12_sizeAbove_0 (by decide) (hp_n (n := 1) rfl ?_)
  refine lv_istore_n (lv' := [(3, .int (-1 : Int32)), (0, .ref a0), (1, .int a1), (2, .int a2)]) hx hb dX12_sizeAbove_1 rfl hl (by decide) rfl (fun ls hl => hp_n (n := 2) rfl ?_)
  refine lv_iconst (v := 0) hx hb dX12_sizeAbove_2 (by decide) (hp_n (n := 3) rfl ?_)
  have J5 : ∀ (k5 : Nat) (Hh1 : Heap) (Lh1 : List Loc) (Bh1 : hp_B Γ (fun _ _ => True) s α α Hh1 Lh1) (v1_h1 : Int32) (v2_h1 : Int32) (v3_h1 : Int32) (v4_h1 : Int32) (ls : Array Slot) (hl : lv_has ls 5 [(0, .ref a0), (1, .int v1_h1), (2, .int v2_h1), (3, .int v3_h1), (4, .int v4_h1)]) (hf : f_X12_sizeAbove_L5 n σ k5 v1_h1 v2_h1 v3_h1 v4_h1 = some res), W p l e (hp_rm 1 0 0) s m ([.ref a0, .int a1, .int a2] : List Value).toArray below meth c Hh1 Lh1 0 0 (MQ below (hp_Qi Γ (fun r β => β = α ∧ r = res)) ([.ref a0, .int a1, .int a2] : List Value).toArray s 0 0 (hp_A Γ)) (F0 m 5 ls []) := by
    intro k5
    induction k5 with
    | zero => intro Hh1 Lh1 Bh1 v1_h1 v2_h1 v3_h1 v4_h1 ls hl hf; rw [f_X12_sizeAbove_L5.eq_1] at hf; cases hf
    | succ k5 ih5 =>
      intro Hh1 Lh1 Bh1 v1_h1 v2_h1 v3_h1 v4_h1 ls hl hf
      rw [f_X12_sizeAbove_L5.eq_2] at hf
      refine lv_iload hx hb dX12_sizeAbove_5 (lv_at hl 4 rfl) (hp_n (n := 7) rfl ?_)
      refine lv_aload_n hx hb dX12_sizeAbove_7 rfl (lv_at hl 0 rfl) (hp_n (n := 8) rfl ?_)
      refine m_getr (κ := 40) (k := 0) (pc' := 11) C Bh1 hM fl_X12_7 rfl (by decide) dX12_sizeAbove_8 rfl ?_
      refine lv_iconst (v := 3) hx hb dX12_sizeAbove_11 (by decide) (hp_n (n := 12) rfl ?_)
      obtain ⟨g2, hf⟩ := ms_gE hf
      refine m_ial (κ := 40) (φ := 650) (n := 1980) (pc' := 13) C Bh1 hM (by decide) (by decide) rfl g2 dX12_sizeAbove_12 rfl ?_
      refine lv_icmp_ge (tgt := 67) hx hb dX12_sizeAbove_13 (by decide) (fun c3 => ?_) (fun c3 => hp_n (n := 16) rfl ?_)
      ·
        replace hf := ms_iT c3 hf
        refine lv_iload_n hx hb dX12_sizeAbove_67 rfl (lv_at hl 3 rfl) (hp_n (n := 68) rfl ?_)
        cases hf
        exact q_iret C Bh1 hr hlk ⟨rfl, rfl⟩ dX12_sizeAbove_68
      ·
        replace hf := ms_iF c3 hf
        refine lv_aload_n hx hb dX12_sizeAbove_16 rfl (lv_at hl 0 rfl) (hp_n (n := 17) rfl ?_)
        refine lv_iload hx hb dX12_sizeAbove_17 (lv_at hl 4 rfl) (hp_n (n := 19) rfl ?_)
        refine lv_iconst (v := 0) hx hb dX12_sizeAbove_19 (by decide) (hp_n (n := 20) rfl ?_)
        obtain ⟨rh4, qh4, hf⟩ := ms_bE hf
        refine m_cp (pc' := 23) Bh1 (hp_runV (As := [.int v4_h1, .int (0 : Int32)]) (rest := []) C Bh1 (m_X12_froze n Γ l α a0 ρ σ hM v4_h1 (0 : Int32) rh4 qh4) lb_X12_froze lv_X12_froze lk_X12_350 hM.1 rfl (by decide) rfl hl.1 rfl (Nat.le_of_ble_eq_true rfl) dX12_sizeAbove_20 ⟨Nat.le_refl _, Nat.le_refl _⟩) rfl (fun Hh4 Lh4 Bh4 => ?_)
        refine lv_iload_n hx hb dX12_sizeAbove_23 rfl (lv_at hl 1 rfl) (hp_n (n := 24) rfl ?_)
        have J61 : ∀ (Hh5 : Heap) (Lh5 : List Loc) (Bh5 : hp_B Γ (fun _ _ => True) s α α Hh5 Lh5) (v1_h5 : Int32) (v2_h5 : Int32) (v3_h5 : Int32) (v4_h5 : Int32) (ls : Array Slot) (hl : lv_has ls 5 [(0, .ref a0), (1, .int v1_h5), (2, .int v2_h5), (3, .int v3_h5), (4, .int v4_h5)]) (hf : f_X12_sizeAbove_J61 n σ (f_X12_sizeAbove_L5 n σ k5) v1_h5 v2_h5 v3_h5 v4_h5 = some res), W p l e (hp_rm 1 0 0) s m ([.ref a0, .int a1, .int a2] : List Value).toArray below meth c Hh5 Lh5 0 0 (MQ below (hp_Qi Γ (fun r β => β = α ∧ r = res)) ([.ref a0, .int a1, .int a2] : List Value).toArray s 0 0 (hp_A Γ)) (F0 m 61 ls []) := by
          intro Hh5 Lh5 Bh5 v1_h5 v2_h5 v3_h5 v4_h5 ls hl hf
          unfold f_X12_sizeAbove_J61 at hf
          obtain ⟨x6, ex6⟩ : ∃ y : Int32, y = v4_h5 + 1 := ⟨_, rfl⟩
          replace hf := ms_lE ex6 hf
          refine lv_iinc (v := x6) (lv' := [(4, .int x6), (0, .ref a0), (1, .int v1_h5), (2, .int v2_h5), (3, .int v3_h5)]) hx hb dX12_sizeAbove_61 hl (k := 4) rfl (by rw [ex6]; rfl) (by decide) rfl (fun ls hl => hp_n (n := 64) rfl ?_)
          refine lv_goto (tgt := 5) hx hb dX12_sizeAbove_64 (by decide) ?_
          exact ih5 Hh5 Lh5 Bh5 v1_h5 v2_h5 v3_h5 x6 ls (lv_sub hl [1, 2, 3, 4, 0] rfl) hf
        refine lv_icmp_ne (tgt := 61) hx hb dX12_sizeAbove_24 (by decide) (fun c7 => ?_) (fun c7 => hp_n (n := 27) rfl ?_)
        ·
          replace hf := ms_iF c7 hf
          exact J61 Hh4 Lh4 Bh4 v1_h1 v2_h1 v3_h1 v4_h1 ls (lv_sub hl [0, 1, 2, 3, 4] rfl) hf
        ·
          replace hf := ms_iT c7 hf
          refine lv_aload_n hx hb dX12_sizeAbove_27 rfl (lv_at hl 0 rfl) (hp_n (n := 28) rfl ?_)
          refine lv_iload hx hb dX12_sizeAbove_28 (lv_at hl 4 rfl) (hp_n (n := 30) rfl ?_)
          refine lv_iconst (v := 1) hx hb dX12_sizeAbove_30 (by decide) (hp_n (n := 31) rfl ?_)
          obtain ⟨rh8, qh8, hf⟩ := ms_bE hf
          refine m_cp (pc' := 34) Bh4 (hp_runV (As := [.int v4_h1, .int (1 : Int32)]) (rest := []) C Bh4 (m_X12_froze n Γ l α a0 ρ σ hM v4_h1 (1 : Int32) rh8 qh8) lb_X12_froze lv_X12_froze lk_X12_350 hM.1 rfl (by decide) rfl hl.1 rfl (Nat.le_of_ble_eq_true rfl) dX12_sizeAbove_31 ⟨Nat.le_refl _, Nat.le_refl _⟩) rfl (fun Hh8 Lh8 Bh8 => ?_)
          refine lv_iload_n hx hb dX12_sizeAbove_34 rfl (lv_at hl 2 rfl) (hp_n (n := 35) rfl ?_)
          refine lv_icmp_le (tgt := 61) hx hb dX12_sizeAbove_35 (by decide) (fun c9 => ?_) (fun c9 => hp_n (n := 38) rfl ?_)
          ·
            replace hf := ms_iT c9 hf
            exact J61 Hh8 Lh8 Bh8 v1_h1 v2_h1 v3_h1 v4_h1 ls (lv_sub hl [0, 1, 2, 3, 4] rfl) hf
          ·
            replace hf := ms_iF c9 hf
            refine lv_iload_n hx hb dX12_sizeAbove_38 rfl (lv_at hl 3 rfl) (hp_n (n := 39) rfl ?_)
            have J53 : ∀ (Hh10 : Heap) (Lh10 : List Loc) (Bh10 : hp_B Γ (fun _ _ => True) s α α Hh10 Lh10) (v1_h10 : Int32) (v2_h10 : Int32) (v4_h10 : Int32) (ls : Array Slot) (hl : lv_has ls 5 [(0, .ref a0), (1, .int v1_h10), (2, .int v2_h10), (4, .int v4_h10)]) (hf : f_X12_sizeAbove_J53 n σ (f_X12_sizeAbove_L5 n σ k5) v1_h10 v2_h10 v4_h10 = some res), W p l e (hp_rm 1 0 0) s m ([.ref a0, .int a1, .int a2] : List Value).toArray below meth c Hh10 Lh10 0 0 (MQ below (hp_Qi Γ (fun r β => β = α ∧ r = res)) ([.ref a0, .int a1, .int a2] : List Value).toArray s 0 0 (hp_A Γ)) (F0 m 53 ls []) := by
              intro Hh10 Lh10 Bh10 v1_h10 v2_h10 v4_h10 ls hl hf
              unfold f_X12_sizeAbove_J53 at hf
              refine lv_aload_n hx hb dX12_sizeAbove_53 rfl (lv_at hl 0 rfl) (hp_n (n := 54) rfl ?_)
              refine lv_iload hx hb dX12_sizeAbove_54 (lv_at hl 3 rfl) (hp_n (n := 56) rfl ?_)
              refine lv_iconst (v := 1) hx hb dX12_sizeAbove_56 (by decide) (hp_n (n := 57) rfl ?_)
              obtain ⟨rh11, qh11, hf⟩ := ms_bE hf
              refine m_cp (pc' := 60) Bh10 (hp_runV (As := [.int v4_h10, .int (1 : Int32)]) (rest := []) C Bh10 (m_X12_froze n Γ l α a0 ρ σ hM v4_h10 (1 : Int32) rh11 qh11) lb_X12_froze lv_X12_froze lk_X12_350 hM.1 rfl (by decide) rfl hl.1 rfl (Nat.le_of_ble_eq_true rfl) dX12_sizeAbove_57 ⟨Nat.le_refl _, Nat.le_refl _⟩) rfl (fun Hh11 Lh11 Bh11 => ?_)
              refine lv_istore_n (lv' := [(3, .int rh11), (0, .ref a0), (1, .int v1_h10), (2, .int v2_h10), (4, .int v4_h10)]) hx hb dX12_sizeAbove_60 rfl hl (by decide) rfl (fun ls hl => hp_n (n := 61) rfl ?_)
              exact J61 Hh11 Lh11 Bh11 v1_h10 v2_h10 rh11 v4_h10 ls (lv_sub hl [1, 2, 3, 0, 4] rfl) hf
            refine lv_if_lt (tgt := 53) hx hb dX12_sizeAbove_39 (by decide) (fun c12 => ?_) (fun c12 => hp_n (n := 42) rfl ?_)
            ·
              replace hf := ms_iT c12 hf
              exact J53 Hh8 Lh8 Bh8 v1_h1 v2_h1 v4_h1 ls (lv_sub hl [0, 1, 2, 4] rfl) hf
            ·
              replace hf := ms_iF c12 hf
              refine lv_aload_n hx hb dX12_sizeAbove_42 rfl (lv_at hl 0 rfl) (hp_n (n := 43) rfl ?_)
              refine lv_iload hx hb dX12_sizeAbove_43 (lv_at hl 4 rfl) (hp_n (n := 45) rfl ?_)
              refine lv_iconst (v := 1) hx hb dX12_sizeAbove_45 (by decide) (hp_n (n := 46) rfl ?_)
              obtain ⟨rh13, qh13, hf⟩ := ms_bE hf
              refine m_cp (pc' := 49) Bh8 (hp_runV (As := [.int v4_h1, .int (1 : Int32)]) (rest := []) C Bh8 (m_X12_froze n Γ l α a0 ρ σ hM v4_h1 (1 : Int32) rh13 qh13) lb_X12_froze lv_X12_froze lk_X12_350 hM.1 rfl (by decide) rfl hl.1 rfl (Nat.le_of_ble_eq_true rfl) dX12_sizeAbove_46 ⟨Nat.le_refl _, Nat.le_refl _⟩) rfl (fun Hh13 Lh13 Bh13 => ?_)
              refine lv_iload_n hx hb dX12_sizeAbove_49 rfl (lv_at hl 3 rfl) (hp_n (n := 50) rfl ?_)
              refine lv_icmp_ge (tgt := 61) hx hb dX12_sizeAbove_50 (by decide) (fun c14 => ?_) (fun c14 => hp_n (n := 53) rfl ?_)
              ·
                replace hf := ms_iT c14 hf
                exact J61 Hh13 Lh13 Bh13 v1_h1 v2_h1 v3_h1 v4_h1 ls (lv_sub hl [0, 1, 2, 3, 4] rfl) hf
              ·
                replace hf := ms_iF c14 hf
                exact J53 Hh13 Lh13 Bh13 v1_h1 v2_h1 v4_h1 ls (lv_sub hl [0, 1, 2, 4] rfl) hf
  refine lv_istore (lv' := [(4, .int (0 : Int32)), (3, .int (-1 : Int32)), (0, .ref a0), (1, .int a1), (2, .int a2)]) hx hb dX12_sizeAbove_3 hl (by decide) rfl (fun ls hl => hp_n (n := 5) rfl ?_)
  exact J5 n s.heap [] B a1 a2 (-1 : Int32) (0 : Int32) ls (lv_sub hl [2, 3, 4, 1, 0] rfl) hf
def f_X12_chain_J82 (n : Nat) (rec56 : ms_T → Int32 → Int32 → Int32 → Int32 → Int32 → Int32 → Option (Int32 × ms_T)) (σh13 : ms_T) (v1_h13 : Int32) (v2_h13 : Int32) (v3_h13 : Int32) (v4_h13 : Int32) (v6_h13 : Int32) : Option (Int32 × ms_T) :=
  ms_l ((v4_h13 + (ms_I σh13 657))) fun x14 =>
  ms_b (f_X12_notes n σh13) fun σh15 =>
  ms_b (f_X12_sizeAbove n σh15 v1_h13 v6_h13) fun rh16 =>
  rec56 σh15 v1_h13 v2_h13 v3_h13 x14 v6_h13 rh16
def f_X12_chain_L56 (n : Nat) : Nat → ms_T → Int32 → Int32 → Int32 → Int32 → Int32 → Int32 → Option (Int32 × ms_T)
  | 0, _, _, _, _, _, _, _ => none
  | k56 + 1, σh7, v1_h7, v2_h7, v3_h7, v4_h7, v5_h7, v6_h7 =>
    if v6_h7 < 0 then
      if v2_h7 = 0 then
        some (v3_h7, σh7)
      else
        if v2_h7 = (1 : Int32) then
          some (v4_h7, σh7)
        else
          some ((ms_I σh7 695), σh7)
    else
      ms_l (v3_h7 + 1) fun x11 =>
      ms_l (ms_sI σh7 657 (0 : Int32)) fun σh12 =>
      if v5_h7 < 0 then
        f_X12_chain_J82 n (f_X12_chain_L56 n k56) σh12 v1_h7 v2_h7 x11 v4_h7 v6_h7
      else
        ms_b (f_X12_growth n σh12 v5_h7 v6_h7) fun σh18 =>
        f_X12_chain_J82 n (f_X12_chain_L56 n k56) σh18 v1_h7 v2_h7 x11 v4_h7 v6_h7
def f_X12_chain_J27 (n : Nat) (σh2 : ms_T) (v1_h2 : Int32) (v2_h2 : Int32) (w0_h2 : Int32) : Option (Int32 × ms_T) :=
  ms_c (f_X12_is n σh2 w0_h2) fun rh3 σh3 =>
  if rh3 = 0 then
    some ((-1 : Int32), σh3)
  else
    ms_l (ms_sI σh3 695 (0 : Int32)) fun σh5 =>
    ms_b (f_X12_sizeAbove n σh5 v1_h2 (-1 : Int32)) fun rh6 =>
    f_X12_chain_L56 n n σh5 v1_h2 v2_h2 (0 : Int32) (0 : Int32) (-1 : Int32) rh6
def f_X12_chain (n : Nat) (σ : ms_T) (a1 : Int32) (a2 : Int32) : Option (Int32 × ms_T) :=
  ms_b (f_X12_isIn n a2 (0 : Int32) (2 : Int32)) fun rh1 =>
  if rh1 = 0 then
    f_X12_chain_J27 n σ a1 a2 (1 : Int32)
  else
    ms_b (f_X12_isRecord n σ a1) fun rh20 =>
    if rh20 = 0 then
      f_X12_chain_J27 n σ a1 a2 (2 : Int32)
    else
      f_X12_chain_J27 n σ a1 a2 (0 : Int32)
set_option maxRecDepth 100000 in
set_option maxHeartbeats 4000000 in
theorem m_X12_chain (n : Nat) (Γ : hp_G) (l : Launch) (α : hp_T) (a0 : Nat) (ρ : Nat → Nat) (σ : ms_T) (hM : hm_M α a0 ρ σ) (a1 : Int32) (a2 : Int32) (res : (Int32 × ms_T)) (hf : f_X12_chain n σ a1 a2 = some res) : Met l yX12_chain (hp_ws yX12_chain cX12_chain 7 (some .int)) (hp_rm 42 0 0) (hp_Pc Γ α [.ref a0, .int a1, .int a2]) (hp_Qi Γ (fun r β => r = res.1 ∧ mo α β ∧ hm_M β a0 ρ res.2)) 0 0 (hp_A Γ) := by
  unfold f_X12_chain at hf
  refine hp_start (by decide) ?_
  intro p e s m below meth c C hr hlk B0 hnm
  have C : hp_C Γ p m c cX12_chain 7 s ([.ref a0, .int a1, .int a2] : List Value).toArray RX12 := C
  have hx := C.1.1
  have hb := C.1.2.1
  have hown := C.1.2.2.2.1
  have hts := C.1.2.2.2.2
  have B : hp_B Γ mo s α α s.heap [] := ⟨B0.1, B0.2.1, mo_rf⟩
  have hl := lv_entry ([.ref a0, .int a1, .int a2]) (n := 7) (Nat.le_of_ble_eq_true rfl)
  show W p l e (hp_rm 42 0 0) s m ([.ref a0, .int a1, .int a2] : List Value).toArray below meth c s.heap [] 0 0 (MQ below (hp_Qi Γ (fun r β => r = res.1 ∧ mo α β ∧ hm_M β a0 ρ res.2)) ([.ref a0, .int a1, .int a2] : List Value).toArray s 0 0 (hp_A Γ)) (entryFrame m ([.ref a0, .int a1, .int a2] : List Value).toArray 7)
  rw [lg_entry_eq]
  generalize (lg_sl ([.ref a0, .int a1, .int a2]) ++ List.replicate (7 - (lg_sl ([.ref a0, .int a1, .int a2])).length) Slot.unset).toArray = ls at hl ⊢
  have hl : lv_has ls 7 [(0, .ref a0), (1, .int a1), (2, .int a2)] := hl
  refine lv_aload_n hx hb dX12_chain_0 rfl (lv_at hl 0 rfl) (hp_n (n := 1) rfl ?_)
  refine lv_iload_n hx hb dX12_chain_1 rfl (lv_at hl 2 rfl) (hp_n (n := 2) rfl ?_)
  refine lv_iconst (v := 0) hx hb dX12_chain_2 (by decide) (hp_n (n := 3) rfl ?_)
  refine lv_iconst (v := 2) hx hb dX12_chain_3 (by decide) (hp_n (n := 4) rfl ?_)
  obtain ⟨rh1, qh1, hf⟩ := ms_bE hf
  refine m_cp (pc' := 7) B (hp_runS (As := [.int a2, .int (0 : Int32), .int (2 : Int32)]) (rest := [.ref a0]) C B (m_X12_isIn n Γ l α a2 (0 : Int32) (2 : Int32) rh1 qh1) lb_X12_isIn ls_X12_isIn lk_X12_113 rfl (by decide) rfl hl.1 rfl (Nat.le_of_ble_eq_true rfl) dX12_chain_4 ⟨Nat.le_refl _, Nat.le_refl _⟩) rfl (fun Hh1 Lh1 Bh1 => ?_)
  have J27 : ∀ (αh2 : hp_T) (Hh2 : Heap) (Lh2 : List Loc) (Bh2 : hp_B Γ mo s α αh2 Hh2 Lh2) (σh2 : ms_T) (Mh2 : hm_M αh2 a0 ρ σh2) (v1_h2 : Int32) (v2_h2 : Int32) (w0_h2 : Int32) (ls : Array Slot) (hl : lv_has ls 7 [(0, .ref a0), (1, .int v1_h2), (2, .int v2_h2)]) (hf : f_X12_chain_J27 n σh2 v1_h2 v2_h2 w0_h2 = some res), W p l e (hp_rm 42 0 0) s m ([.ref a0, .int a1, .int a2] : List Value).toArray below meth c Hh2 Lh2 0 0 (MQ below (hp_Qi Γ (fun r β => r = res.1 ∧ mo α β ∧ hm_M β a0 ρ res.2)) ([.ref a0, .int a1, .int a2] : List Value).toArray s 0 0 (hp_A Γ)) (F0 m 27 ls [.int w0_h2, .ref a0]) := by
    intro αh2 Hh2 Lh2 Bh2 σh2 Mh2 v1_h2 v2_h2 w0_h2 ls hl hf
    unfold f_X12_chain_J27 at hf
    obtain ⟨rh3, σh3, qh3, hf⟩ := ms_cE hf
    refine m_ci (pc' := 30) (a := a0) (ρ := ρ) Bh2 (hp_runV (As := [.int w0_h2]) (rest := []) C Bh2 (m_X12_is n Γ l αh2 a0 ρ σh2 Mh2 w0_h2 (rh3, σh3) qh3) lb_X12_is lv_X12_is lk_X12_309 Mh2.1 rfl (by decide) rfl hl.1 rfl (Nat.le_of_ble_eq_true rfl) dX12_chain_27 ⟨Nat.le_refl _, Nat.le_refl _⟩) rfl (fun αh3 Hh3 Lh3 Bh3 Mh3 => ?_)
    refine lv_if_ne (tgt := 35) hx hb dX12_chain_30 (by decide) (fun c4 => ?_) (fun c4 => hp_n (n := 33) rfl ?_)
    ·
      replace hf := ms_iF c4 hf
      refine lv_iconst (v := 0) hx hb dX12_chain_35 (by decide) (hp_n (n := 36) rfl ?_)
      refine lv_istore_n (lv' := [(3, .int (0 : Int32)), (0, .ref a0), (1, .int v1_h2), (2, .int v2_h2)]) hx hb dX12_chain_36 rfl hl (by decide) rfl (fun ls hl => hp_n (n := 37) rfl ?_)
      refine lv_iconst (v := 0) hx hb dX12_chain_37 (by decide) (hp_n (n := 38) rfl ?_)
      refine lv_istore (lv' := [(4, .int (0 : Int32)), (3, .int (0 : Int32)), (0, .ref a0), (1, .int v1_h2), (2, .int v2_h2)]) hx hb dX12_chain_38 hl (by decide) rfl (fun ls hl => hp_n (n := 40) rfl ?_)
      refine lv_aload_n hx hb dX12_chain_40 rfl (lv_at hl 2 rfl) (hp_n (n := 41) rfl ?_)
      refine lv_iconst (v := 0) hx hb dX12_chain_41 (by decide) (hp_n (n := 42) rfl ?_)
      refine m_puti (k := 45) (φ := 695) (pc' := 45) C Bh3 Mh3 fl_X12_417 rfl rfl rfl rfl rfl dX12_chain_42 rfl (fun αh5 Hh5 Lh5 σh5 eh5 Bh5 Mh5 => ?_)
      replace hf := ms_lE eh5 hf
      refine lv_iconst (v := (-1)) hx hb dX12_chain_45 (by decide) (hp_n (n := 46) rfl ?_)
      refine lv_istore (lv' := [(5, .int (-1 : Int32)), (4, .int (0 : Int32)), (3, .int (0 : Int32)), (0, .ref a0), (1, .int v1_h2), (2, .int v2_h2)]) hx hb dX12_chain_46 hl (by decide) rfl (fun ls hl => hp_n (n := 48) rfl ?_)
      refine lv_aload_n hx hb dX12_chain_48 rfl (lv_at hl 3 rfl) (hp_n (n := 49) rfl ?_)
      refine lv_iload_n hx hb dX12_chain_49 rfl (lv_at hl 4 rfl) (hp_n (n := 50) rfl ?_)
      refine lv_iconst (v := (-1)) hx hb dX12_chain_50 (by decide) (hp_n (n := 51) rfl ?_)
      obtain ⟨rh6, qh6, hf⟩ := ms_bE hf
      refine m_cp (pc' := 54) Bh5 (hp_runV (As := [.int v1_h2, .int (-1 : Int32)]) (rest := []) C Bh5 (m_X12_sizeAbove n Γ l αh5 a0 ρ σh5 Mh5 v1_h2 (-1 : Int32) rh6 qh6) lb_X12_sizeAbove lv_X12_sizeAbove lk_X12_426 Mh5.1 rfl (by decide) rfl hl.1 rfl (Nat.le_of_ble_eq_true rfl) dX12_chain_51 ⟨Nat.le_refl _, Nat.le_refl _⟩) rfl (fun Hh6 Lh6 Bh6 => ?_)
      have J56 : ∀ (k56 : Nat) (αh7 : hp_T) (Hh7 : Heap) (Lh7 : List Loc) (Bh7 : hp_B Γ mo s α αh7 Hh7 Lh7) (σh7 : ms_T) (Mh7 : hm_M αh7 a0 ρ σh7) (v1_h7 : Int32) (v2_h7 : Int32) (v3_h7 : Int32) (v4_h7 : Int32) (v5_h7 : Int32) (v6_h7 : Int32) (ls : Array Slot) (hl : lv_has ls 7 [(0, .ref a0), (1, .int v1_h7), (2, .int v2_h7), (3, .int v3_h7), (4, .int v4_h7), (5, .int v5_h7), (6, .int v6_h7)]) (hf : f_X12_chain_L56 n k56 σh7 v1_h7 v2_h7 v3_h7 v4_h7 v5_h7 v6_h7 = some res), W p l e (hp_rm 42 0 0) s m ([.ref a0, .int a1, .int a2] : List Value).toArray below meth c Hh7 Lh7 0 0 (MQ below (hp_Qi Γ (fun r β => r = res.1 ∧ mo α β ∧ hm_M β a0 ρ res.2)) ([.ref a0, .int a1, .int a2] : List Value).toArray s 0 0 (hp_A Γ)) (F0 m 56 ls []) := by
        intro k56
        induction k56 with
        | zero => intro αh7 Hh7 Lh7 Bh7 σh7 Mh7 v1_h7 v2_h7 v3_h7 v4_h7 v5_h7 v6_h7 ls hl hf; rw [f_X12_chain_L56.eq_1] at hf; cases hf
        | succ k56 ih56 =>
          intro αh7 Hh7 Lh7 Bh7 σh7 Mh7 v1_h7 v2_h7 v3_h7 v4_h7 v5_h7 v6_h7 ls hl hf
          rw [f_X12_chain_L56.eq_2] at hf
          refine lv_iload hx hb dX12_chain_56 (lv_at hl 6 rfl) (hp_n (n := 58) rfl ?_)
          refine lv_if_lt (tgt := 111) hx hb dX12_chain_58 (by decide) (fun c8 => ?_) (fun c8 => hp_n (n := 61) rfl ?_)
          ·
            replace hf := ms_iT c8 hf
            refine lv_iload_n hx hb dX12_chain_111 rfl (lv_at hl 2 rfl) (hp_n (n := 112) rfl ?_)
            refine lv_if_ne (tgt := 119) hx hb dX12_chain_112 (by decide) (fun c9 => ?_) (fun c9 => hp_n (n := 115) rfl ?_)
            ·
              replace hf := ms_iF c9 hf
              refine lv_iload_n hx hb dX12_chain_119 rfl (lv_at hl 2 rfl) (hp_n (n := 120) rfl ?_)
              refine lv_iconst (v := 1) hx hb dX12_chain_120 (by decide) (hp_n (n := 121) rfl ?_)
              refine lv_icmp_ne (tgt := 129) hx hb dX12_chain_121 (by decide) (fun c10 => ?_) (fun c10 => hp_n (n := 124) rfl ?_)
              ·
                replace hf := ms_iF c10 hf
                refine lv_aload_n hx hb dX12_chain_129 rfl (lv_at hl 0 rfl) (hp_n (n := 130) rfl ?_)
                refine m_geti (k := 45) (φ := 695) (pc' := 133) C Bh7 Mh7 fl_X12_417 rfl rfl dX12_chain_130 rfl ?_
                cases hf
                exact q_iret C Bh7 hr hlk ⟨rfl, Bh7.2.2, Mh7⟩ dX12_chain_133
              ·
                replace hf := ms_iT c10 hf
                refine lv_iload hx hb dX12_chain_124 (lv_at hl 4 rfl) (hp_n (n := 126) rfl ?_)
                refine lv_goto (tgt := 133) hx hb dX12_chain_126 (by decide) ?_
                cases hf
                exact q_iret C Bh7 hr hlk ⟨rfl, Bh7.2.2, Mh7⟩ dX12_chain_133
            ·
              replace hf := ms_iT c9 hf
              refine lv_iload_n hx hb dX12_chain_115 rfl (lv_at hl 3 rfl) (hp_n (n := 116) rfl ?_)
              refine lv_goto (tgt := 133) hx hb dX12_chain_116 (by decide) ?_
              cases hf
              exact q_iret C Bh7 hr hlk ⟨rfl, Bh7.2.2, Mh7⟩ dX12_chain_133
          ·
            replace hf := ms_iF c8 hf
            obtain ⟨x11, ex11⟩ : ∃ y : Int32, y = v3_h7 + 1 := ⟨_, rfl⟩
            replace hf := ms_lE ex11 hf
            refine lv_iinc (v := x11) (lv' := [(3, .int x11), (0, .ref a0), (1, .int v1_h7), (2, .int v2_h7), (4, .int v4_h7), (5, .int v5_h7), (6, .int v6_h7)]) hx hb dX12_chain_61 hl (k := 3) rfl (by rw [ex11]; rfl) (by decide) rfl (fun ls hl => hp_n (n := 64) rfl ?_)
            refine lv_aload_n hx hb dX12_chain_64 rfl (lv_at hl 1 rfl) (hp_n (n := 65) rfl ?_)
            refine lv_iconst (v := 0) hx hb dX12_chain_65 (by decide) (hp_n (n := 66) rfl ?_)
            refine m_puti (k := 7) (φ := 657) (pc' := 69) C Bh7 Mh7 fl_X12_139 rfl rfl rfl rfl rfl dX12_chain_66 rfl (fun αh12 Hh12 Lh12 σh12 eh12 Bh12 Mh12 => ?_)
            replace hf := ms_lE eh12 hf
            refine lv_iload hx hb dX12_chain_69 (lv_at hl 5 rfl) (hp_n (n := 71) rfl ?_)
            have J82 : ∀ (αh13 : hp_T) (Hh13 : Heap) (Lh13 : List Loc) (Bh13 : hp_B Γ mo s α αh13 Hh13 Lh13) (σh13 : ms_T) (Mh13 : hm_M αh13 a0 ρ σh13) (v1_h13 : Int32) (v2_h13 : Int32) (v3_h13 : Int32) (v4_h13 : Int32) (v6_h13 : Int32) (ls : Array Slot) (hl : lv_has ls 7 [(0, .ref a0), (1, .int v1_h13), (2, .int v2_h13), (3, .int v3_h13), (4, .int v4_h13), (6, .int v6_h13)]) (hf : f_X12_chain_J82 n (f_X12_chain_L56 n k56) σh13 v1_h13 v2_h13 v3_h13 v4_h13 v6_h13 = some res), W p l e (hp_rm 42 0 0) s m ([.ref a0, .int a1, .int a2] : List Value).toArray below meth c Hh13 Lh13 0 0 (MQ below (hp_Qi Γ (fun r β => r = res.1 ∧ mo α β ∧ hm_M β a0 ρ res.2)) ([.ref a0, .int a1, .int a2] : List Value).toArray s 0 0 (hp_A Γ)) (F0 m 82 ls []) := by
              intro αh13 Hh13 Lh13 Bh13 σh13 Mh13 v1_h13 v2_h13 v3_h13 v4_h13 v6_h13 ls hl hf
              unfold f_X12_chain_J82 at hf
              refine lv_iload hx hb dX12_chain_82 (lv_at hl 4 rfl) (hp_n (n := 84) rfl ?_)
              refine lv_aload_n hx hb dX12_chain_84 rfl (lv_at hl 0 rfl) (hp_n (n := 85) rfl ?_)
              refine m_geti (k := 7) (φ := 657) (pc' := 88) C Bh13 Mh13 fl_X12_139 rfl rfl dX12_chain_85 rfl ?_
              refine lv_iadd hx hb dX12_chain_88 (hp_n (n := 89) rfl ?_)
              refine lv_topi (fun x14 ex14 => ?_)
              replace hf := ms_lE ex14 hf
              refine lv_istore (lv' := [(4, .int x14), (0, .ref a0), (1, .int v1_h13), (2, .int v2_h13), (3, .int v3_h13), (6, .int v6_h13)]) hx hb dX12_chain_89 hl (by decide) rfl (fun ls hl => hp_n (n := 91) rfl ?_)
              refine lv_aload_n hx hb dX12_chain_91 rfl (lv_at hl 1 rfl) (hp_n (n := 92) rfl ?_)
              obtain ⟨σh15, qh15, hf⟩ := ms_bE hf
              refine m_cv (pc' := 95) (a := a0) (ρ := ρ) Bh13 (hp_runV (As := []) (rest := []) C Bh13 (m_X12_notes n Γ l αh13 a0 ρ σh13 Mh13  σh15 qh15) lb_X12_notes lv_X12_notes lk_X12_423 Mh13.1 rfl (by decide) rfl hl.1 rfl (Nat.le_of_ble_eq_true rfl) dX12_chain_92 ⟨Nat.le_refl _, Nat.le_refl _⟩) rfl (fun αh15 Hh15 Lh15 Bh15 Mh15 => ?_)
              refine lv_iload hx hb dX12_chain_95 (lv_at hl 5 rfl) (hp_n (n := 97) rfl ?_)
              refine lv_istore (lv' := [(5, .int v6_h13), (4, .int x14), (0, .ref a0), (1, .int v1_h13), (2, .int v2_h13), (3, .int v3_h13), (6, .int v6_h13)]) hx hb dX12_chain_97 hl (by decide) rfl (fun ls hl => hp_n (n := 99) rfl ?_)
              refine lv_aload_n hx hb dX12_chain_99 rfl (lv_at hl 2 rfl) (hp_n (n := 100) rfl ?_)
              refine lv_iload_n hx hb dX12_chain_100 rfl (lv_at hl 3 rfl) (hp_n (n := 101) rfl ?_)
              refine lv_iload hx hb dX12_chain_101 (lv_at hl 6 rfl) (hp_n (n := 103) rfl ?_)
              obtain ⟨rh16, qh16, hf⟩ := ms_bE hf
              refine m_cp (pc' := 106) Bh15 (hp_runV (As := [.int v1_h13, .int v6_h13]) (rest := []) C Bh15 (m_X12_sizeAbove n Γ l αh15 a0 ρ σh15 Mh15 v1_h13 v6_h13 rh16 qh16) lb_X12_sizeAbove lv_X12_sizeAbove lk_X12_426 Mh15.1 rfl (by decide) rfl hl.1 rfl (Nat.le_of_ble_eq_true rfl) dX12_chain_103 ⟨Nat.le_refl _, Nat.le_refl _⟩) rfl (fun Hh16 Lh16 Bh16 => ?_)
              refine lv_istore (lv' := [(6, .int rh16), (5, .int v6_h13), (4, .int x14), (0, .ref a0), (1, .int v1_h13), (2, .int v2_h13), (3, .int v3_h13)]) hx hb dX12_chain_106 hl (by decide) rfl (fun ls hl => hp_n (n := 108) rfl ?_)
              refine lv_goto (tgt := 56) hx hb dX12_chain_108 (by decide) ?_
              exact ih56 αh15 Hh16 Lh16 Bh16 σh15 Mh15 v1_h13 v2_h13 v3_h13 x14 v6_h13 rh16 ls (lv_sub hl [3, 4, 5, 6, 2, 1, 0] rfl) hf
            refine lv_if_lt (tgt := 82) hx hb dX12_chain_71 (by decide) (fun c17 => ?_) (fun c17 => hp_n (n := 74) rfl ?_)
            ·
              replace hf := ms_iT c17 hf
              exact J82 αh12 Hh12 Lh12 Bh12 σh12 Mh12 v1_h7 v2_h7 x11 v4_h7 v6_h7 ls (lv_sub hl [1, 2, 3, 0, 4, 6] rfl) hf
            ·
              replace hf := ms_iF c17 hf
              refine lv_aload_n hx hb dX12_chain_74 rfl (lv_at hl 1 rfl) (hp_n (n := 75) rfl ?_)
              refine lv_iload hx hb dX12_chain_75 (lv_at hl 5 rfl) (hp_n (n := 77) rfl ?_)
              refine lv_iload hx hb dX12_chain_77 (lv_at hl 6 rfl) (hp_n (n := 79) rfl ?_)
              obtain ⟨σh18, qh18, hf⟩ := ms_bE hf
              refine m_cv (pc' := 82) (a := a0) (ρ := ρ) Bh12 (hp_runV (As := [.int v5_h7, .int v6_h7]) (rest := []) C Bh12 (m_X12_growth n Γ l αh12 a0 ρ σh12 Mh12 v5_h7 v6_h7 σh18 qh18) lb_X12_growth lv_X12_growth lk_X12_190 Mh12.1 rfl (by decide) rfl hl.1 rfl (Nat.le_of_ble_eq_true rfl) dX12_chain_79 ⟨Nat.le_refl _, Nat.le_refl _⟩) rfl (fun αh18 Hh18 Lh18 Bh18 Mh18 => ?_)
              exact J82 αh18 Hh18 Lh18 Bh18 σh18 Mh18 v1_h7 v2_h7 x11 v4_h7 v6_h7 ls (lv_sub hl [1, 2, 3, 0, 4, 6] rfl) hf
      refine lv_istore (lv' := [(6, .int rh6), (5, .int (-1 : Int32)), (4, .int (0 : Int32)), (3, .int (0 : Int32)), (0, .ref a0), (1, .int v1_h2), (2, .int v2_h2)]) hx hb dX12_chain_54 hl (by decide) rfl (fun ls hl => hp_n (n := 56) rfl ?_)
      exact J56 n αh5 Hh6 Lh6 Bh6 σh5 Mh5 v1_h2 v2_h2 (0 : Int32) (0 : Int32) (-1 : Int32) rh6 ls (lv_sub hl [4, 5, 6, 3, 2, 1, 0] rfl) hf
    ·
      replace hf := ms_iT c4 hf
      refine lv_iconst (v := (-1)) hx hb dX12_chain_33 (by decide) (hp_n (n := 34) rfl ?_)
      cases hf
      exact q_iret C Bh3 hr hlk ⟨rfl, Bh3.2.2, Mh3⟩ dX12_chain_34
  refine lv_if_ne (tgt := 14) hx hb dX12_chain_7 (by decide) (fun c19 => ?_) (fun c19 => hp_n (n := 10) rfl ?_)
  ·
    replace hf := ms_iF c19 hf
    refine lv_aload_n hx hb dX12_chain_14 rfl (lv_at hl 0 rfl) (hp_n (n := 15) rfl ?_)
    refine lv_iload_n hx hb dX12_chain_15 rfl (lv_at hl 1 rfl) (hp_n (n := 16) rfl ?_)
    obtain ⟨rh20, qh20, hf⟩ := ms_bE hf
    refine m_cp (pc' := 19) Bh1 (hp_runV (As := [.int a1]) (rest := [.ref a0]) C Bh1 (m_X12_isRecord n Γ l α a0 ρ σ hM a1 rh20 qh20) lb_X12_isRecord lv_X12_isRecord lk_X12_344 hM.1 rfl (by decide) rfl hl.1 rfl (Nat.le_of_ble_eq_true rfl) dX12_chain_16 ⟨Nat.le_refl _, Nat.le_refl _⟩) rfl (fun Hh20 Lh20 Bh20 => ?_)
    refine lv_if_ne (tgt := 26) hx hb dX12_chain_19 (by decide) (fun c21 => ?_) (fun c21 => hp_n (n := 22) rfl ?_)
    ·
      replace hf := ms_iF c21 hf
      refine lv_iconst (v := 0) hx hb dX12_chain_26 (by decide) (hp_n (n := 27) rfl ?_)
      exact J27 α Hh20 Lh20 Bh20 σ hM a1 a2 (0 : Int32) ls (lv_sub hl [0, 1, 2] rfl) hf
    ·
      replace hf := ms_iT c21 hf
      refine lv_iconst (v := 2) hx hb dX12_chain_22 (by decide) (hp_n (n := 23) rfl ?_)
      refine lv_goto (tgt := 27) hx hb dX12_chain_23 (by decide) ?_
      exact J27 α Hh20 Lh20 Bh20 σ hM a1 a2 (2 : Int32) ls (lv_sub hl [0, 1, 2] rfl) hf
  ·
    replace hf := ms_iT c19 hf
    refine lv_iconst (v := 1) hx hb dX12_chain_10 (by decide) (hp_n (n := 11) rfl ?_)
    refine lv_goto (tgt := 27) hx hb dX12_chain_11 (by decide) ?_
    exact J27 α Hh1 Lh1 Bh1 σ hM a1 a2 (1 : Int32) ls (lv_sub hl [0, 1, 2] rfl) hf
def f_X12_split_J82 (n : Nat) (rec30 : ms_T → Int32 → Int32 → Int32 → Int32 → Option (Int32 × ms_T)) (rec42 : ms_T → Int32 → Int32 → Int32 → Int32 → Int32 → Option (Int32 × ms_T)) (σh14 : ms_T) (v1_h14 : Int32) (v2_h14 : Int32) (v3_h14 : Int32) (v4_h14 : Int32) (v5_h14 : Int32) : Option (Int32 × ms_T) :=
  ms_l (v5_h14 + 1) fun x15 =>
  rec42 σh14 v1_h14 v2_h14 v3_h14 v4_h14 x15
def f_X12_split_J81 (n : Nat) (rec30 : ms_T → Int32 → Int32 → Int32 → Int32 → Option (Int32 × ms_T)) (rec42 : ms_T → Int32 → Int32 → Int32 → Int32 → Int32 → Option (Int32 × ms_T)) (σh18 : ms_T) (v1_h18 : Int32) (v2_h18 : Int32) (v4_h18 : Int32) (v5_h18 : Int32) (w0_h18 : Int32) : Option (Int32 × ms_T) :=
  f_X12_split_J82 n rec30 rec42 σh18 v1_h18 v2_h18 w0_h18 v4_h18 v5_h18
def f_X12_split_L42 (n : Nat) (rec30 : ms_T → Int32 → Int32 → Int32 → Int32 → Option (Int32 × ms_T)) : Nat → ms_T → Int32 → Int32 → Int32 → Int32 → Int32 → Option (Int32 × ms_T)
  | 0, _, _, _, _, _, _ => none
  | k42 + 1, σh10, v1_h10, v2_h10, v3_h10, v4_h10, v5_h10 =>
    if (4 : Int32) ≤ v5_h10 then
      ms_l (v4_h10 + 1) fun x12 =>
      rec30 σh10 v1_h10 v2_h10 v3_h10 x12
    else
      ms_b (f_X12_isAgreed n σh10 v4_h10 v5_h10) fun rh13 =>
      if rh13 = 0 then
        ms_l (v2_h10 + 1) fun x17 =>
        if 0 ≤ v3_h10 then
          f_X12_split_J81 n rec30 (f_X12_split_L42 n rec30 k42) σh10 v1_h10 x17 v4_h10 v5_h10 v3_h10
        else
          f_X12_split_J81 n rec30 (f_X12_split_L42 n rec30 k42) σh10 v1_h10 x17 v4_h10 v5_h10 (((10 : Int32) * v4_h10) + v5_h10)
      else
        f_X12_split_J82 n rec30 (f_X12_split_L42 n rec30 k42) σh10 v1_h10 v2_h10 v3_h10 v4_h10 v5_h10
def f_X12_split_L30 (n : Nat) : Nat → ms_T → Int32 → Int32 → Int32 → Int32 → Option (Int32 × ms_T)
  | 0, _, _, _, _, _ => none
  | k30 + 1, σh5, v1_h5, v2_h5, v3_h5, v4_h5 =>
    if (4 : Int32) ≤ v4_h5 then
      if v1_h5 = 0 then
        some (v2_h5, σh5)
      else
        if 0 ≤ v3_h5 then
          some (v3_h5, σh5)
        else
          ms_c (f_X12_refuse n σh5 (5 : Int32)) fun rh9 σh9 =>
          some (rh9, σh9)
    else
      ms_l ((v4_h5 + (1 : Int32))) fun x20 =>
      f_X12_split_L42 n (f_X12_split_L30 n k30) n σh5 v1_h5 v2_h5 v3_h5 v4_h5 x20
def f_X12_split_J15 (n : Nat) (σh2 : ms_T) (v1_h2 : Int32) (w0_h2 : Int32) : Option (Int32 × ms_T) :=
  ms_c (f_X12_is n σh2 w0_h2) fun rh3 σh3 =>
  if rh3 = 0 then
    some ((-1 : Int32), σh3)
  else
    f_X12_split_L30 n n σh3 v1_h2 (0 : Int32) (-1 : Int32) (0 : Int32)
def f_X12_split (n : Nat) (σ : ms_T) (a1 : Int32) : Option (Int32 × ms_T) :=
  ms_b (f_X12_isIn n a1 (0 : Int32) (1 : Int32)) fun rh1 =>
  if rh1 = 0 then
    f_X12_split_J15 n σ a1 (1 : Int32)
  else
    f_X12_split_J15 n σ a1 (0 : Int32)
set_option maxRecDepth 100000 in
set_option maxHeartbeats 4000000 in
theorem m_X12_split (n : Nat) (Γ : hp_G) (l : Launch) (α : hp_T) (a0 : Nat) (ρ : Nat → Nat) (σ : ms_T) (hM : hm_M α a0 ρ σ) (a1 : Int32) (res : (Int32 × ms_T)) (hf : f_X12_split n σ a1 = some res) : Met l yX12_split (hp_ws yX12_split cX12_split 6 (some .int)) (hp_rm 45 0 0) (hp_Pc Γ α [.ref a0, .int a1]) (hp_Qi Γ (fun r β => r = res.1 ∧ mo α β ∧ hm_M β a0 ρ res.2)) 0 0 (hp_A Γ) := by
  unfold f_X12_split at hf
  refine hp_start (by decide) ?_
  intro p e s m below meth c C hr hlk B0 hnm
  have C : hp_C Γ p m c cX12_split 6 s ([.ref a0, .int a1] : List Value).toArray RX12 := C
  have hx := C.1.1
  have hb := C.1.2.1
  have hown := C.1.2.2.2.1
  have hts := C.1.2.2.2.2
  have B : hp_B Γ mo s α α s.heap [] := ⟨B0.1, B0.2.1, mo_rf⟩
  have hl := lv_entry ([.ref a0, .int a1]) (n := 6) (Nat.le_of_ble_eq_true rfl)
  show W p l e (hp_rm 45 0 0) s m ([.ref a0, .int a1] : List Value).toArray below meth c s.heap [] 0 0 (MQ below (hp_Qi Γ (fun r β => r = res.1 ∧ mo α β ∧ hm_M β a0 ρ res.2)) ([.ref a0, .int a1] : List Value).toArray s 0 0 (hp_A Γ)) (entryFrame m ([.ref a0, .int a1] : List Value).toArray 6)
  rw [lg_entry_eq]
  generalize (lg_sl ([.ref a0, .int a1]) ++ List.replicate (6 - (lg_sl ([.ref a0, .int a1])).length) Slot.unset).toArray = ls at hl ⊢
  have hl : lv_has ls 6 [(0, .ref a0), (1, .int a1)] := hl
  refine lv_aload_n hx hb dX12_split_0 rfl (lv_at hl 0 rfl) (hp_n (n := 1) rfl ?_)
  refine lv_iload_n hx hb dX12_split_1 rfl (lv_at hl 1 rfl) (hp_n (n := 2) rfl ?_)
  refine lv_iconst (v := 0) hx hb dX12_split_2 (by decide) (hp_n (n := 3) rfl ?_)
  refine lv_iconst (v := 1) hx hb dX12_split_3 (by decide) (hp_n (n := 4) rfl ?_)
  obtain ⟨rh1, qh1, hf⟩ := ms_bE hf
  refine m_cp (pc' := 7) B (hp_runS (As := [.int a1, .int (0 : Int32), .int (1 : Int32)]) (rest := [.ref a0]) C B (m_X12_isIn n Γ l α a1 (0 : Int32) (1 : Int32) rh1 qh1) lb_X12_isIn ls_X12_isIn lk_X12_113 rfl (by decide) rfl hl.1 rfl (Nat.le_of_ble_eq_true rfl) dX12_split_4 ⟨Nat.le_refl _, Nat.le_refl _⟩) rfl (fun Hh1 Lh1 Bh1 => ?_)
  have J15 : ∀ (αh2 : hp_T) (Hh2 : Heap) (Lh2 : List Loc) (Bh2 : hp_B Γ mo s α αh2 Hh2 Lh2) (σh2 : ms_T) (Mh2 : hm_M αh2 a0 ρ σh2) (v1_h2 : Int32) (w0_h2 : Int32) (ls : Array Slot) (hl : lv_has ls 6 [(0, .ref a0), (1, .int v1_h2)]) (hf : f_X12_split_J15 n σh2 v1_h2 w0_h2 = some res), W p l e (hp_rm 45 0 0) s m ([.ref a0, .int a1] : List Value).toArray below meth c Hh2 Lh2 0 0 (MQ below (hp_Qi Γ (fun r β => r = res.1 ∧ mo α β ∧ hm_M β a0 ρ res.2)) ([.ref a0, .int a1] : List Value).toArray s 0 0 (hp_A Γ)) (F0 m 15 ls [.int w0_h2, .ref a0]) := by
    intro αh2 Hh2 Lh2 Bh2 σh2 Mh2 v1_h2 w0_h2 ls hl hf
    unfold f_X12_split_J15 at hf
    obtain ⟨rh3, σh3, qh3, hf⟩ := ms_cE hf
    refine m_ci (pc' := 18) (a := a0) (ρ := ρ) Bh2 (hp_runV (As := [.int w0_h2]) (rest := []) C Bh2 (m_X12_is n Γ l αh2 a0 ρ σh2 Mh2 w0_h2 (rh3, σh3) qh3) lb_X12_is lv_X12_is lk_X12_309 Mh2.1 rfl (by decide) rfl hl.1 rfl (Nat.le_of_ble_eq_true rfl) dX12_split_15 ⟨Nat.le_refl _, Nat.le_refl _⟩) rfl (fun αh3 Hh3 Lh3 Bh3 Mh3 => ?_)
    refine lv_if_ne (tgt := 23) hx hb dX12_split_18 (by decide) (fun c4 => ?_) (fun c4 => hp_n (n := 21) rfl ?_)
    ·
      replace hf := ms_iF c4 hf
      refine lv_iconst (v := 0) hx hb dX12_split_23 (by decide) (hp_n (n := 24) rfl ?_)
      refine lv_istore_n (lv' := [(2, .int (0 : Int32)), (0, .ref a0), (1, .int v1_h2)]) hx hb dX12_split_24 rfl hl (by decide) rfl (fun ls hl => hp_n (n := 25) rfl ?_)
      refine lv_iconst (v := (-1)) hx hb dX12_split_25 (by decide) (hp_n (n := 26) rfl ?_)
      refine lv_istore_n (lv' := [(3, .int (-1 : Int32)), (2, .int (0 : Int32)), (0, .ref a0), (1, .int v1_h2)]) hx hb dX12_split_26 rfl hl (by decide) rfl (fun ls hl => hp_n (n := 27) rfl ?_)
      refine lv_iconst (v := 0) hx hb dX12_split_27 (by decide) (hp_n (n := 28) rfl ?_)
      have J30 : ∀ (k30 : Nat) (αh5 : hp_T) (Hh5 : Heap) (Lh5 : List Loc) (Bh5 : hp_B Γ mo s α αh5 Hh5 Lh5) (σh5 : ms_T) (Mh5 : hm_M αh5 a0 ρ σh5) (v1_h5 : Int32) (v2_h5 : Int32) (v3_h5 : Int32) (v4_h5 : Int32) (ls : Array Slot) (hl : lv_has ls 6 [(0, .ref a0), (1, .int v1_h5), (2, .int v2_h5), (3, .int v3_h5), (4, .int v4_h5)]) (hf : f_X12_split_L30 n k30 σh5 v1_h5 v2_h5 v3_h5 v4_h5 = some res), W p l e (hp_rm 45 0 0) s m ([.ref a0, .int a1] : List Value).toArray below meth c Hh5 Lh5 0 0 (MQ below (hp_Qi Γ (fun r β => r = res.1 ∧ mo α β ∧ hm_M β a0 ρ res.2)) ([.ref a0, .int a1] : List Value).toArray s 0 0 (hp_A Γ)) (F0 m 30 ls []) := by
        intro k30
        induction k30 with
        | zero => intro αh5 Hh5 Lh5 Bh5 σh5 Mh5 v1_h5 v2_h5 v3_h5 v4_h5 ls hl hf; rw [f_X12_split_L30.eq_1] at hf; cases hf
        | succ k30 ih30 =>
          intro αh5 Hh5 Lh5 Bh5 σh5 Mh5 v1_h5 v2_h5 v3_h5 v4_h5 ls hl hf
          rw [f_X12_split_L30.eq_2] at hf
          refine lv_iload hx hb dX12_split_30 (lv_at hl 4 rfl) (hp_n (n := 32) rfl ?_)
          refine lv_iconst (v := 4) hx hb dX12_split_32 (by decide) (hp_n (n := 33) rfl ?_)
          refine lv_icmp_ge (tgt := 94) hx hb dX12_split_33 (by decide) (fun c6 => ?_) (fun c6 => hp_n (n := 36) rfl ?_)
          ·
            replace hf := ms_iT c6 hf
            refine lv_iload_n hx hb dX12_split_94 rfl (lv_at hl 1 rfl) (hp_n (n := 95) rfl ?_)
            refine lv_if_ne (tgt := 102) hx hb dX12_split_95 (by decide) (fun c7 => ?_) (fun c7 => hp_n (n := 98) rfl ?_)
            ·
              replace hf := ms_iF c7 hf
              refine lv_iload_n hx hb dX12_split_102 rfl (lv_at hl 3 rfl) (hp_n (n := 103) rfl ?_)
              refine lv_if_ge (tgt := 114) hx hb dX12_split_103 (by decide) (fun c8 => ?_) (fun c8 => hp_n (n := 106) rfl ?_)
              ·
                replace hf := ms_iT c8 hf
                refine lv_iload_n hx hb dX12_split_114 rfl (lv_at hl 3 rfl) (hp_n (n := 115) rfl ?_)
                cases hf
                exact q_iret C Bh5 hr hlk ⟨rfl, Bh5.2.2, Mh5⟩ dX12_split_115
              ·
                replace hf := ms_iF c8 hf
                refine lv_aload_n hx hb dX12_split_106 rfl (lv_at hl 0 rfl) (hp_n (n := 107) rfl ?_)
                refine lv_iconst (v := 5) hx hb dX12_split_107 (by decide) (hp_n (n := 108) rfl ?_)
                obtain ⟨rh9, σh9, qh9, hf⟩ := ms_cE hf
                refine m_ci (pc' := 111) (a := a0) (ρ := ρ) Bh5 (hp_runV (As := [.int (5 : Int32)]) (rest := []) C Bh5 (m_X12_refuse n Γ l αh5 a0 ρ σh5 Mh5 (5 : Int32) (rh9, σh9) qh9) lb_X12_refuse lv_X12_refuse lk_X12_212 Mh5.1 rfl (by decide) rfl hl.1 rfl (Nat.le_of_ble_eq_true rfl) dX12_split_108 ⟨Nat.le_refl _, Nat.le_refl _⟩) rfl (fun αh9 Hh9 Lh9 Bh9 Mh9 => ?_)
                refine lv_goto (tgt := 115) hx hb dX12_split_111 (by decide) ?_
                cases hf
                exact q_iret C Bh9 hr hlk ⟨rfl, Bh9.2.2, Mh9⟩ dX12_split_115
            ·
              replace hf := ms_iT c7 hf
              refine lv_iload_n hx hb dX12_split_98 rfl (lv_at hl 2 rfl) (hp_n (n := 99) rfl ?_)
              refine lv_goto (tgt := 115) hx hb dX12_split_99 (by decide) ?_
              cases hf
              exact q_iret C Bh5 hr hlk ⟨rfl, Bh5.2.2, Mh5⟩ dX12_split_115
          ·
            replace hf := ms_iF c6 hf
            refine lv_iload hx hb dX12_split_36 (lv_at hl 4 rfl) (hp_n (n := 38) rfl ?_)
            refine lv_iconst (v := 1) hx hb dX12_split_38 (by decide) (hp_n (n := 39) rfl ?_)
            refine lv_iadd hx hb dX12_split_39 (hp_n (n := 40) rfl ?_)
            have J42 : ∀ (k42 : Nat) (αh10 : hp_T) (Hh10 : Heap) (Lh10 : List Loc) (Bh10 : hp_B Γ mo s α αh10 Hh10 Lh10) (σh10 : ms_T) (Mh10 : hm_M αh10 a0 ρ σh10) (v1_h10 : Int32) (v2_h10 : Int32) (v3_h10 : Int32) (v4_h10 : Int32) (v5_h10 : Int32) (ls : Array Slot) (hl : lv_has ls 6 [(0, .ref a0), (1, .int v1_h10), (2, .int v2_h10), (3, .int v3_h10), (4, .int v4_h10), (5, .int v5_h10)]) (hf : f_X12_split_L42 n (f_X12_split_L30 n k30) k42 σh10 v1_h10 v2_h10 v3_h10 v4_h10 v5_h10 = some res), W p l e (hp_rm 45 0 0) s m ([.ref a0, .int a1] : List Value).toArray below meth c Hh10 Lh10 0 0 (MQ below (hp_Qi Γ (fun r β => r = res.1 ∧ mo α β ∧ hm_M β a0 ρ res.2)) ([.ref a0, .int a1] : List Value).toArray s 0 0 (hp_A Γ)) (F0 m 42 ls []) := by
              intro k42
              induction k42 with
              | zero => intro αh10 Hh10 Lh10 Bh10 σh10 Mh10 v1_h10 v2_h10 v3_h10 v4_h10 v5_h10 ls hl hf; rw [f_X12_split_L42.eq_1] at hf; cases hf
              | succ k42 ih42 =>
                intro αh10 Hh10 Lh10 Bh10 σh10 Mh10 v1_h10 v2_h10 v3_h10 v4_h10 v5_h10 ls hl hf
                rw [f_X12_split_L42.eq_2] at hf
                refine lv_iload hx hb dX12_split_42 (lv_at hl 5 rfl) (hp_n (n := 44) rfl ?_)
                refine lv_iconst (v := 4) hx hb dX12_split_44 (by decide) (hp_n (n := 45) rfl ?_)
                refine lv_icmp_ge (tgt := 88) hx hb dX12_split_45 (by decide) (fun c11 => ?_) (fun c11 => hp_n (n := 48) rfl ?_)
                ·
                  replace hf := ms_iT c11 hf
                  obtain ⟨x12, ex12⟩ : ∃ y : Int32, y = v4_h10 + 1 := ⟨_, rfl⟩
                  replace hf := ms_lE ex12 hf
                  refine lv_iinc (v := x12) (lv' := [(4, .int x12), (0, .ref a0), (1, .int v1_h10), (2, .int v2_h10), (3, .int v3_h10), (5, .int v5_h10)]) hx hb dX12_split_88 hl (k := 4) rfl (by rw [ex12]; rfl) (by decide) rfl (fun ls hl => hp_n (n := 91) rfl ?_)
                  refine lv_goto (tgt := 30) hx hb dX12_split_91 (by decide) ?_
                  exact ih30 αh10 Hh10 Lh10 Bh10 σh10 Mh10 v1_h10 v2_h10 v3_h10 x12 ls (lv_sub hl [1, 2, 3, 4, 0] rfl) hf
                ·
                  replace hf := ms_iF c11 hf
                  refine lv_aload_n hx hb dX12_split_48 rfl (lv_at hl 0 rfl) (hp_n (n := 49) rfl ?_)
                  refine lv_iload hx hb dX12_split_49 (lv_at hl 4 rfl) (hp_n (n := 51) rfl ?_)
                  refine lv_iload hx hb dX12_split_51 (lv_at hl 5 rfl) (hp_n (n := 53) rfl ?_)
                  obtain ⟨rh13, qh13, hf⟩ := ms_bE hf
                  refine m_cp (pc' := 56) Bh10 (hp_runV (As := [.int v4_h10, .int v5_h10]) (rest := []) C Bh10 (m_X12_isAgreed n Γ l αh10 a0 ρ σh10 Mh10 v4_h10 v5_h10 rh13 qh13) lb_X12_isAgreed lv_X12_isAgreed lk_X12_390 Mh10.1 rfl (by decide) rfl hl.1 rfl (Nat.le_of_ble_eq_true rfl) dX12_split_53 ⟨Nat.le_refl _, Nat.le_refl _⟩) rfl (fun Hh13 Lh13 Bh13 => ?_)
                  have J82 : ∀ (αh14 : hp_T) (Hh14 : Heap) (Lh14 : List Loc) (Bh14 : hp_B Γ mo s α αh14 Hh14 Lh14) (σh14 : ms_T) (Mh14 : hm_M αh14 a0 ρ σh14) (v1_h14 : Int32) (v2_h14 : Int32) (v3_h14 : Int32) (v4_h14 : Int32) (v5_h14 : Int32) (ls : Array Slot) (hl : lv_has ls 6 [(0, .ref a0), (1, .int v1_h14), (2, .int v2_h14), (3, .int v3_h14), (4, .int v4_h14), (5, .int v5_h14)]) (hf : f_X12_split_J82 n (f_X12_split_L30 n k30) (f_X12_split_L42 n (f_X12_split_L30 n k30) k42) σh14 v1_h14 v2_h14 v3_h14 v4_h14 v5_h14 = some res), W p l e (hp_rm 45 0 0) s m ([.ref a0, .int a1] : List Value).toArray below meth c Hh14 Lh14 0 0 (MQ below (hp_Qi Γ (fun r β => r = res.1 ∧ mo α β ∧ hm_M β a0 ρ res.2)) ([.ref a0, .int a1] : List Value).toArray s 0 0 (hp_A Γ)) (F0 m 82 ls []) := by
                    intro αh14 Hh14 Lh14 Bh14 σh14 Mh14 v1_h14 v2_h14 v3_h14 v4_h14 v5_h14 ls hl hf
                    unfold f_X12_split_J82 at hf
                    obtain ⟨x15, ex15⟩ : ∃ y : Int32, y = v5_h14 + 1 := ⟨_, rfl⟩
                    replace hf := ms_lE ex15 hf
                    refine lv_iinc (v := x15) (lv' := [(5, .int x15), (0, .ref a0), (1, .int v1_h14), (2, .int v2_h14), (3, .int v3_h14), (4, .int v4_h14)]) hx hb dX12_split_82 hl (k := 5) rfl (by rw [ex15]; rfl) (by decide) rfl (fun ls hl => hp_n (n := 85) rfl ?_)
                    refine lv_goto (tgt := 42) hx hb dX12_split_85 (by decide) ?_
                    exact ih42 αh14 Hh14 Lh14 Bh14 σh14 Mh14 v1_h14 v2_h14 v3_h14 v4_h14 x15 ls (lv_sub hl [1, 2, 3, 4, 5, 0] rfl) hf
                  refine lv_if_eq (tgt := 62) hx hb dX12_split_56 (by decide) (fun c16 => ?_) (fun c16 => hp_n (n := 59) rfl ?_)
                  ·
                    replace hf := ms_iT c16 hf
                    obtain ⟨x17, ex17⟩ : ∃ y : Int32, y = v2_h10 + 1 := ⟨_, rfl⟩
                    replace hf := ms_lE ex17 hf
                    refine lv_iinc (v := x17) (lv' := [(2, .int x17), (0, .ref a0), (1, .int v1_h10), (3, .int v3_h10), (4, .int v4_h10), (5, .int v5_h10)]) hx hb dX12_split_62 hl (k := 2) rfl (by rw [ex17]; rfl) (by decide) rfl (fun ls hl => hp_n (n := 65) rfl ?_)
                    refine lv_iload_n hx hb dX12_split_65 rfl (lv_at hl 3 rfl) (hp_n (n := 66) rfl ?_)
                    have J81 : ∀ (αh18 : hp_T) (Hh18 : Heap) (Lh18 : List Loc) (Bh18 : hp_B Γ mo s α αh18 Hh18 Lh18) (σh18 : ms_T) (Mh18 : hm_M αh18 a0 ρ σh18) (v1_h18 : Int32) (v2_h18 : Int32) (v4_h18 : Int32) (v5_h18 : Int32) (w0_h18 : Int32) (ls : Array Slot) (hl : lv_has ls 6 [(0, .ref a0), (1, .int v1_h18), (2, .int v2_h18), (4, .int v4_h18), (5, .int v5_h18)]) (hf : f_X12_split_J81 n (f_X12_split_L30 n k30) (f_X12_split_L42 n (f_X12_split_L30 n k30) k42) σh18 v1_h18 v2_h18 v4_h18 v5_h18 w0_h18 = some res), W p l e (hp_rm 45 0 0) s m ([.ref a0, .int a1] : List Value).toArray below meth c Hh18 Lh18 0 0 (MQ below (hp_Qi Γ (fun r β => r = res.1 ∧ mo α β ∧ hm_M β a0 ρ res.2)) ([.ref a0, .int a1] : List Value).toArray s 0 0 (hp_A Γ)) (F0 m 81 ls [.int w0_h18]) := by
                      intro αh18 Hh18 Lh18 Bh18 σh18 Mh18 v1_h18 v2_h18 v4_h18 v5_h18 w0_h18 ls hl hf
                      unfold f_X12_split_J81 at hf
                      refine lv_istore_n (lv' := [(3, .int w0_h18), (0, .ref a0), (1, .int v1_h18), (2, .int v2_h18), (4, .int v4_h18), (5, .int v5_h18)]) hx hb dX12_split_81 rfl hl (by decide) rfl (fun ls hl => hp_n (n := 82) rfl ?_)
                      exact J82 αh18 Hh18 Lh18 Bh18 σh18 Mh18 v1_h18 v2_h18 w0_h18 v4_h18 v5_h18 ls (lv_sub hl [1, 2, 3, 0, 4, 5] rfl) hf
                    refine lv_if_ge (tgt := 80) hx hb dX12_split_66 (by decide) (fun c19 => ?_) (fun c19 => hp_n (n := 69) rfl ?_)
                    ·
                      replace hf := ms_iT c19 hf
                      refine lv_iload_n hx hb dX12_split_80 rfl (lv_at hl 3 rfl) (hp_n (n := 81) rfl ?_)
                      exact J81 αh10 Hh13 Lh13 Bh13 σh10 Mh10 v1_h10 x17 v4_h10 v5_h10 v3_h10 ls (lv_sub hl [1, 2, 0, 4, 5] rfl) hf
                    ·
                      replace hf := ms_iF c19 hf
                      refine lv_bipush (v := 10) hx hb dX12_split_69 (by decide) (hp_n (n := 71) rfl ?_)
                      refine lv_iload hx hb dX12_split_71 (lv_at hl 4 rfl) (hp_n (n := 73) rfl ?_)
                      refine lv_imul hx hb dX12_split_73 (hp_n (n := 74) rfl ?_)
                      refine lv_iload hx hb dX12_split_74 (lv_at hl 5 rfl) (hp_n (n := 76) rfl ?_)
                      refine lv_iadd hx hb dX12_split_76 (hp_n (n := 77) rfl ?_)
                      refine lv_goto (tgt := 81) hx hb dX12_split_77 (by decide) ?_
                      exact J81 αh10 Hh13 Lh13 Bh13 σh10 Mh10 v1_h10 x17 v4_h10 v5_h10 (((10 : Int32) * v4_h10) + v5_h10) ls (lv_sub hl [1, 2, 0, 4, 5] rfl) hf
                  ·
                    replace hf := ms_iF c16 hf
                    refine lv_goto (tgt := 82) hx hb dX12_split_59 (by decide) ?_
                    exact J82 αh10 Hh13 Lh13 Bh13 σh10 Mh10 v1_h10 v2_h10 v3_h10 v4_h10 v5_h10 ls (lv_sub hl [0, 1, 2, 3, 4, 5] rfl) hf
            refine lv_topi (fun x20 ex20 => ?_)
            replace hf := ms_lE ex20 hf
            refine lv_istore (lv' := [(5, .int x20), (0, .ref a0), (1, .int v1_h5), (2, .int v2_h5), (3, .int v3_h5), (4, .int v4_h5)]) hx hb dX12_split_40 hl (by decide) rfl (fun ls hl => hp_n (n := 42) rfl ?_)
            exact J42 n αh5 Hh5 Lh5 Bh5 σh5 Mh5 v1_h5 v2_h5 v3_h5 v4_h5 x20 ls (lv_sub hl [1, 2, 3, 4, 5, 0] rfl) hf
      refine lv_istore (lv' := [(4, .int (0 : Int32)), (3, .int (-1 : Int32)), (2, .int (0 : Int32)), (0, .ref a0), (1, .int v1_h2)]) hx hb dX12_split_28 hl (by decide) rfl (fun ls hl => hp_n (n := 30) rfl ?_)
      exact J30 n αh3 Hh3 Lh3 Bh3 σh3 Mh3 v1_h2 (0 : Int32) (-1 : Int32) (0 : Int32) ls (lv_sub hl [3, 4, 2, 1, 0] rfl) hf
    ·
      replace hf := ms_iT c4 hf
      refine lv_iconst (v := (-1)) hx hb dX12_split_21 (by decide) (hp_n (n := 22) rfl ?_)
      cases hf
      exact q_iret C Bh3 hr hlk ⟨rfl, Bh3.2.2, Mh3⟩ dX12_split_22
  refine lv_if_eq (tgt := 14) hx hb dX12_split_7 (by decide) (fun c21 => ?_) (fun c21 => hp_n (n := 10) rfl ?_)
  ·
    replace hf := ms_iT c21 hf
    refine lv_iconst (v := 1) hx hb dX12_split_14 (by decide) (hp_n (n := 15) rfl ?_)
    exact J15 α Hh1 Lh1 Bh1 σ hM a1 (1 : Int32) ls (lv_sub hl [0, 1] rfl) hf
  ·
    replace hf := ms_iF c21 hf
    refine lv_iconst (v := 0) hx hb dX12_split_10 (by decide) (hp_n (n := 11) rfl ?_)
    refine lv_goto (tgt := 15) hx hb dX12_split_11 (by decide) ?_
    exact J15 α Hh1 Lh1 Bh1 σ hM a1 (0 : Int32) ls (lv_sub hl [0, 1] rfl) hf
end JN6_2
section JN6_3
def f_X12_tells (n : Nat) (σ : ms_T) (a1 : Int32) : Option ms_T :=
  ms_g (ms_I σ 697) 900 <|
  ms_l (ms_sE σ 59 ((ms_I σ 697)).toNatClampNeg a1) fun σh2 =>
  ms_l (ms_sI σh2 697 ((ms_I σh2 697) + (1 : Int32))) fun σh3 =>
  some σh3
set_option maxRecDepth 100000 in
set_option maxHeartbeats 4000000 in
theorem m_X12_tells (n : Nat) (Γ : hp_G) (l : Launch) (α : hp_T) (a0 : Nat) (ρ : Nat → Nat) (σ : ms_T) (hM : hm_M α a0 ρ σ) (a1 : Int32) (res : ms_T) (hf : f_X12_tells n σ a1 = some res) : Met l yX12_tells (hp_ws yX12_tells cX12_tells 2 none) (hp_rm 0 0 0) (hp_Pc Γ α [.ref a0, .int a1]) (hp_Qv Γ (fun β => mo α β ∧ hm_M β a0 ρ res)) 0 0 (hp_A Γ) := by
  unfold f_X12_tells at hf
  refine hp_start (by decide) ?_
  intro p e s m below meth c C hr hlk B0 hnm
  have C : hp_C Γ p m c cX12_tells 2 s ([.ref a0, .int a1] : List Value).toArray RX12 := C
  have hx := C.1.1
  have hb := C.1.2.1
  have hown := C.1.2.2.2.1
  have hts := C.1.2.2.2.2
  have B : hp_B Γ mo s α α s.heap [] := ⟨B0.1, B0.2.1, mo_rf⟩
  have hl := lv_entry ([.ref a0, .int a1]) (n := 2) (Nat.le_of_ble_eq_true rfl)
  show W p l e (hp_rm 0 0 0) s m ([.ref a0, .int a1] : List Value).toArray below meth c s.heap [] 0 0 (MQ below (hp_Qv Γ (fun β => mo α β ∧ hm_M β a0 ρ res)) ([.ref a0, .int a1] : List Value).toArray s 0 0 (hp_A Γ)) (entryFrame m ([.ref a0, .int a1] : List Value).toArray 2)
  rw [lg_entry_eq]
  generalize (lg_sl ([.ref a0, .int a1]) ++ List.replicate (2 - (lg_sl ([.ref a0, .int a1])).length) Slot.unset).toArray = ls at hl ⊢
  have hl : lv_has ls 2 [(0, .ref a0), (1, .int a1)] := hl
  refine lv_aload_n hx hb dX12_tells_0 rfl (lv_at hl 0 rfl) (hp_n (n := 1) rfl ?_)
  refine m_getr (κ := 59) (k := 46) (pc' := 4) C B hM fl_X12_100 rfl (by decide) dX12_tells_1 rfl ?_
  refine lv_aload_n hx hb dX12_tells_4 rfl (lv_at hl 0 rfl) (hp_n (n := 5) rfl ?_)
  refine m_geti (k := 47) (φ := 697) (pc' := 8) C B hM fl_X12_432 rfl rfl dX12_tells_5 rfl ?_
  refine lv_iload_n hx hb dX12_tells_8 rfl (lv_at hl 1 rfl) (hp_n (n := 9) rfl ?_)
  obtain ⟨g1, hf⟩ := ms_gE hf
  refine m_ias (κ := 59) (φ := 696) (n := 900) (pc' := 10) C B hM (by decide) (by decide) rfl g1 dX12_tells_9 rfl (fun αh2 Hh2 Lh2 σh2 eh2 Bh2 Mh2 => ?_)
  replace hf := ms_lE eh2 hf
  refine lv_aload_n hx hb dX12_tells_10 rfl (lv_at hl 0 rfl) (hp_n (n := 11) rfl ?_)
  refine lv_dup hx hb dX12_tells_11 rfl (hp_n (n := 12) rfl ?_)
  refine m_geti (k := 47) (φ := 697) (pc' := 15) C Bh2 Mh2 fl_X12_432 rfl rfl dX12_tells_12 rfl ?_
  refine lv_iconst (v := 1) hx hb dX12_tells_15 (by decide) (hp_n (n := 16) rfl ?_)
  refine lv_iadd hx hb dX12_tells_16 (hp_n (n := 17) rfl ?_)
  refine m_puti (k := 47) (φ := 697) (pc' := 20) C Bh2 Mh2 fl_X12_432 rfl rfl rfl rfl rfl dX12_tells_17 rfl (fun αh3 Hh3 Lh3 σh3 eh3 Bh3 Mh3 => ?_)
  replace hf := ms_lE eh3 hf
  cases hf
  exact q_vret C Bh3 hr hlk ⟨Bh3.2.2, Mh3⟩ dX12_tells_20
def f_X12_tellsNumber_L18 (n : Nat) : Nat → ms_T → Int32 → Int32 → Option ms_T
  | 0, _, _, _ => none
  | k18 + 1, σh3, v1_h3, v2_h3 =>
    if v2_h3 ≤ 0 then
      some σh3
    else
      ms_n v2_h3 <|
      ms_b (f_X12_tells n σh3 ((48 : Int32) + ((v1_h3 / v2_h3) - (v1_h3 / v2_h3) / (10 : Int32) * (10 : Int32)))) fun σh6 =>
      ms_l ((v2_h3 / (10 : Int32))) fun x7 =>
      (f_X12_tellsNumber_L18 n k18) σh6 v1_h3 x7
def f_X12_tellsNumber_L2 (n : Nat) : Nat → ms_T → Int32 → Int32 → Option ms_T
  | 0, _, _, _ => none
  | k2 + 1, σh1, v1_h1, v2_h1 =>
    ms_n v2_h1 <|
    if (v1_h1 / v2_h1) ≤ (9 : Int32) then
      f_X12_tellsNumber_L18 n n σh1 v1_h1 v2_h1
    else
      ms_l ((v2_h1 * (10 : Int32))) fun x9 =>
      (f_X12_tellsNumber_L2 n k2) σh1 v1_h1 x9
def f_X12_tellsNumber (n : Nat) (σ : ms_T) (a1 : Int32) : Option ms_T :=
  f_X12_tellsNumber_L2 n n σ a1 (1 : Int32)
set_option maxRecDepth 100000 in
set_option maxHeartbeats 4000000 in
theorem m_X12_tellsNumber (n : Nat) (Γ : hp_G) (l : Launch) (α : hp_T) (a0 : Nat) (ρ : Nat → Nat) (σ : ms_T) (hM : hm_M α a0 ρ σ) (a1 : Int32) (res : ms_T) (hf : f_X12_tellsNumber n σ a1 = some res) : Met l yX12_tellsNumber (hp_ws yX12_tellsNumber cX12_tellsNumber 3 none) (hp_rm 1 0 0) (hp_Pc Γ α [.ref a0, .int a1]) (hp_Qv Γ (fun β => mo α β ∧ hm_M β a0 ρ res)) 0 0 (hp_A Γ) := by
  unfold f_X12_tellsNumber at hf
  refine hp_start (by decide) ?_
  intro p e s m below meth c C hr hlk B0 hnm
  have C : hp_C Γ p m c cX12_tellsNumber 3 s ([.ref a0, .int a1] : List Value).toArray RX12 := C
  have hx := C.1.1
  have hb := C.1.2.1
  have hown := C.1.2.2.2.1
  have hts := C.1.2.2.2.2
  have B : hp_B Γ mo s α α s.heap [] := ⟨B0.1, B0.2.1, mo_rf⟩
  have hl := lv_entry ([.ref a0, .int a1]) (n := 3) (Nat.le_of_ble_eq_true rfl)
  show W p l e (hp_rm 1 0 0) s m ([.ref a0, .int a1] : List Value).toArray below meth c s.heap [] 0 0 (MQ below (hp_Qv Γ (fun β => mo α β ∧ hm_M β a0 ρ res)) ([.ref a0, .int a1] : List Value).toArray s 0 0 (hp_A Γ)) (entryFrame m ([.ref a0, .int a1] : List Value).toArray 3)
  rw [lg_entry_eq]
  generalize (lg_sl ([.ref a0, .int a1]) ++ List.replicate (3 - (lg_sl ([.ref a0, .int a1])).length) Slot.unset).toArray = ls at hl ⊢
  have hl : lv_has ls 3 [(0, .ref a0), (1, .int a1)] := hl
  refine lv_iconst (v := 1) hx hb dX12_tellsNumber_0 (by decide) (hp_n (n := 1) rfl ?_)
  have J2 : ∀ (k2 : Nat) (αh1 : hp_T) (Hh1 : Heap) (Lh1 : List Loc) (Bh1 : hp_B Γ mo s α αh1 Hh1 Lh1) (σh1 : ms_T) (Mh1 : hm_M αh1 a0 ρ σh1) (v1_h1 : Int32) (v2_h1 : Int32) (ls : Array Slot) (hl : lv_has ls 3 [(0, .ref a0), (1, .int v1_h1), (2, .int v2_h1)]) (hf : f_X12_tellsNumber_L2 n k2 σh1 v1_h1 v2_h1 = some res), W p l e (hp_rm 1 0 0) s m ([.ref a0, .int a1] : List Value).toArray below meth c Hh1 Lh1 0 0 (MQ below (hp_Qv Γ (fun β => mo α β ∧ hm_M β a0 ρ res)) ([.ref a0, .int a1] : List Value).toArray s 0 0 (hp_A Γ)) (F0 m 2 ls []) := by
    intro k2
    induction k2 with
    | zero => intro αh1 Hh1 Lh1 Bh1 σh1 Mh1 v1_h1 v2_h1 ls hl hf; rw [f_X12_tellsNumber_L2.eq_1] at hf; cases hf
    | succ k2 ih2 =>
      intro αh1 Hh1 Lh1 Bh1 σh1 Mh1 v1_h1 v2_h1 ls hl hf
      rw [f_X12_tellsNumber_L2.eq_2] at hf
      refine lv_iload_n hx hb dX12_tellsNumber_2 rfl (lv_at hl 1 rfl) (hp_n (n := 3) rfl ?_)
      refine lv_iload_n hx hb dX12_tellsNumber_3 rfl (lv_at hl 2 rfl) (hp_n (n := 4) rfl ?_)
      obtain ⟨g2, hf⟩ := ms_nE hf
      refine lv_idiv hx hb dX12_tellsNumber_4 g2 (hp_n (n := 5) rfl ?_)
      refine lv_bipush (v := 9) hx hb dX12_tellsNumber_5 (by decide) (hp_n (n := 7) rfl ?_)
      have J18 : ∀ (k18 : Nat) (αh3 : hp_T) (Hh3 : Heap) (Lh3 : List Loc) (Bh3 : hp_B Γ mo s α αh3 Hh3 Lh3) (σh3 : ms_T) (Mh3 : hm_M αh3 a0 ρ σh3) (v1_h3 : Int32) (v2_h3 : Int32) (ls : Array Slot) (hl : lv_has ls 3 [(0, .ref a0), (1, .int v1_h3), (2, .int v2_h3)]) (hf : f_X12_tellsNumber_L18 n k18 σh3 v1_h3 v2_h3 = some res), W p l e (hp_rm 1 0 0) s m ([.ref a0, .int a1] : List Value).toArray below meth c Hh3 Lh3 0 0 (MQ below (hp_Qv Γ (fun β => mo α β ∧ hm_M β a0 ρ res)) ([.ref a0, .int a1] : List Value).toArray s 0 0 (hp_A Γ)) (F0 m 18 ls []) := by
        intro k18
        induction k18 with
        | zero => intro αh3 Hh3 Lh3 Bh3 σh3 Mh3 v1_h3 v2_h3 ls hl hf; rw [f_X12_tellsNumber_L18.eq_1] at hf; cases hf
        | succ k18 ih18 =>
          intro αh3 Hh3 Lh3 Bh3 σh3 Mh3 v1_h3 v2_h3 ls hl hf
          rw [f_X12_tellsNumber_L18.eq_2] at hf
          refine lv_iload_n hx hb dX12_tellsNumber_18 rfl (lv_at hl 2 rfl) (hp_n (n := 19) rfl ?_)
          refine lv_if_le (tgt := 43) hx hb dX12_tellsNumber_19 (by decide) (fun c4 => ?_) (fun c4 => hp_n (n := 22) rfl ?_)
          ·
            replace hf := ms_iT c4 hf
            cases hf
            exact q_vret C Bh3 hr hlk ⟨Bh3.2.2, Mh3⟩ dX12_tellsNumber_43
          ·
            replace hf := ms_iF c4 hf
            refine lv_aload_n hx hb dX12_tellsNumber_22 rfl (lv_at hl 0 rfl) (hp_n (n := 23) rfl ?_)
            refine lv_bipush (v := 48) hx hb dX12_tellsNumber_23 (by decide) (hp_n (n := 25) rfl ?_)
            refine lv_iload_n hx hb dX12_tellsNumber_25 rfl (lv_at hl 1 rfl) (hp_n (n := 26) rfl ?_)
            refine lv_iload_n hx hb dX12_tellsNumber_26 rfl (lv_at hl 2 rfl) (hp_n (n := 27) rfl ?_)
            obtain ⟨g5, hf⟩ := ms_nE hf
            refine lv_idiv hx hb dX12_tellsNumber_27 g5 (hp_n (n := 28) rfl ?_)
            refine lv_bipush (v := 10) hx hb dX12_tellsNumber_28 (by decide) (hp_n (n := 30) rfl ?_)
            refine lv_irem hx hb dX12_tellsNumber_30 (by decide) (hp_n (n := 31) rfl ?_)
            refine lv_iadd hx hb dX12_tellsNumber_31 (hp_n (n := 32) rfl ?_)
            obtain ⟨σh6, qh6, hf⟩ := ms_bE hf
            refine m_cv (pc' := 35) (a := a0) (ρ := ρ) Bh3 (hp_runV (As := [.int ((48 : Int32) + ((v1_h3 / v2_h3) - (v1_h3 / v2_h3) / (10 : Int32) * (10 : Int32)))]) (rest := []) C Bh3 (m_X12_tells n Γ l αh3 a0 ρ σh3 Mh3 ((48 : Int32) + ((v1_h3 / v2_h3) - (v1_h3 / v2_h3) / (10 : Int32) * (10 : Int32))) σh6 qh6) lb_X12_tells lv_X12_tells lk_X12_429 Mh3.1 rfl (by decide) rfl hl.1 rfl (Nat.le_of_ble_eq_true rfl) dX12_tellsNumber_32 ⟨Nat.le_refl _, Nat.le_refl _⟩) rfl (fun αh6 Hh6 Lh6 Bh6 Mh6 => ?_)
            refine lv_iload_n hx hb dX12_tellsNumber_35 rfl (lv_at hl 2 rfl) (hp_n (n := 36) rfl ?_)
            refine lv_bipush (v := 10) hx hb dX12_tellsNumber_36 (by decide) (hp_n (n := 38) rfl ?_)
            refine lv_idiv hx hb dX12_tellsNumber_38 (by decide) (hp_n (n := 39) rfl ?_)
            refine lv_topi (fun x7 ex7 => ?_)
            replace hf := ms_lE ex7 hf
            refine lv_istore_n (lv' := [(2, .int x7), (0, .ref a0), (1, .int v1_h3)]) hx hb dX12_tellsNumber_39 rfl hl (by decide) rfl (fun ls hl => hp_n (n := 40) rfl ?_)
            refine lv_goto (tgt := 18) hx hb dX12_tellsNumber_40 (by decide) ?_
            exact ih18 αh6 Hh6 Lh6 Bh6 σh6 Mh6 v1_h3 x7 ls (lv_sub hl [1, 2, 0] rfl) hf
      refine lv_icmp_le (tgt := 18) hx hb dX12_tellsNumber_7 (by decide) (fun c8 => ?_) (fun c8 => hp_n (n := 10) rfl ?_)
      ·
        replace hf := ms_iT c8 hf
        exact J18 n αh1 Hh1 Lh1 Bh1 σh1 Mh1 v1_h1 v2_h1 ls (lv_sub hl [0, 1, 2] rfl) hf
      ·
        replace hf := ms_iF c8 hf
        refine lv_iload_n hx hb dX12_tellsNumber_10 rfl (lv_at hl 2 rfl) (hp_n (n := 11) rfl ?_)
        refine lv_bipush (v := 10) hx hb dX12_tellsNumber_11 (by decide) (hp_n (n := 13) rfl ?_)
        refine lv_imul hx hb dX12_tellsNumber_13 (hp_n (n := 14) rfl ?_)
        refine lv_topi (fun x9 ex9 => ?_)
        replace hf := ms_lE ex9 hf
        refine lv_istore_n (lv' := [(2, .int x9), (0, .ref a0), (1, .int v1_h1)]) hx hb dX12_tellsNumber_14 rfl hl (by decide) rfl (fun ls hl => hp_n (n := 15) rfl ?_)
        refine lv_goto (tgt := 2) hx hb dX12_tellsNumber_15 (by decide) ?_
        exact ih2 αh1 Hh1 Lh1 Bh1 σh1 Mh1 v1_h1 x9 ls (lv_sub hl [1, 2, 0] rfl) hf
  refine lv_istore_n (lv' := [(2, .int (1 : Int32)), (0, .ref a0), (1, .int a1)]) hx hb dX12_tellsNumber_1 rfl hl (by decide) rfl (fun ls hl => hp_n (n := 2) rfl ?_)
  exact J2 n α s.heap [] B σ hM a1 (1 : Int32) ls (lv_sub hl [1, 2, 0] rfl) hf
def f_X12_says_L15 (n : Nat) (i1 : Nat) : Nat → ms_T → Int32 → Int32 → Option ms_T
  | 0, _, _, _ => none
  | k15 + 1, σh2, v2_h2, v3_h2 =>
    if (hp_len i1) ≤ v3_h2 then
      ms_b (f_X12_tells n σh2 (32 : Int32)) fun σh5 =>
      ms_b (f_X12_tellsNumber n σh5 v2_h2) fun σh6 =>
      some σh6
    else
      ms_q v3_h2 (hp_len i1) <|
      ms_b (f_X12_tells n σh2 (hp_ch i1 (v3_h2).toNatClampNeg)) fun σh9 =>
      ms_l (v3_h2 + 1) fun x10 =>
      (f_X12_says_L15 n i1 k15) σh9 v2_h2 x10
def f_X12_says_J13 (n : Nat) (i1 : Nat) (σh1 : ms_T) (v2_h1 : Int32) : Option ms_T :=
  f_X12_says_L15 n i1 n σh1 v2_h1 (0 : Int32)
def f_X12_says (n : Nat) (σ : ms_T) (i1 : Nat) (a2 : Int32) : Option ms_T :=
  if (ms_I σ 697) ≤ 0 then
    f_X12_says_J13 n i1 σ a2
  else
    ms_b (f_X12_tells n σ (32 : Int32)) fun σh12 =>
    f_X12_says_J13 n i1 σh12 a2
set_option maxRecDepth 100000 in
set_option maxHeartbeats 4000000 in
theorem m_X12_says (n : Nat) (Γ : hp_G) (l : Launch) (α : hp_T) (a0 : Nat) (ρ : Nat → Nat) (σ : ms_T) (hM : hm_M α a0 ρ σ) (i1 : Nat) (h1 : i1 < 21) (a2 : Int32) (res : ms_T) (hf : f_X12_says n σ i1 a2 = some res) : Met l yX12_says (hp_ws yX12_says cX12_says 4 none) (hp_rm 4 0 0) (hp_Pc Γ α [.ref a0, .ref (Γ.2.2.2.2.1 i1), .int a2]) (hp_Qv Γ (fun β => mo α β ∧ hm_M β a0 ρ res)) 0 0 (hp_A Γ) := by
  unfold f_X12_says at hf
  refine hp_start (by decide) ?_
  intro p e s m below meth c C hr hlk B0 hnm
  have C : hp_C Γ p m c cX12_says 4 s ([.ref a0, .ref (Γ.2.2.2.2.1 i1), .int a2] : List Value).toArray RX12 := C
  have hx := C.1.1
  have hb := C.1.2.1
  have hown := C.1.2.2.2.1
  have hts := C.1.2.2.2.2
  have B : hp_B Γ mo s α α s.heap [] := ⟨B0.1, B0.2.1, mo_rf⟩
  have hl := lv_entry ([.ref a0, .ref (Γ.2.2.2.2.1 i1), .int a2]) (n := 4) (Nat.le_of_ble_eq_true rfl)
  show W p l e (hp_rm 4 0 0) s m ([.ref a0, .ref (Γ.2.2.2.2.1 i1), .int a2] : List Value).toArray below meth c s.heap [] 0 0 (MQ below (hp_Qv Γ (fun β => mo α β ∧ hm_M β a0 ρ res)) ([.ref a0, .ref (Γ.2.2.2.2.1 i1), .int a2] : List Value).toArray s 0 0 (hp_A Γ)) (entryFrame m ([.ref a0, .ref (Γ.2.2.2.2.1 i1), .int a2] : List Value).toArray 4)
  rw [lg_entry_eq]
  generalize (lg_sl ([.ref a0, .ref (Γ.2.2.2.2.1 i1), .int a2]) ++ List.replicate (4 - (lg_sl ([.ref a0, .ref (Γ.2.2.2.2.1 i1), .int a2])).length) Slot.unset).toArray = ls at hl ⊢
  have hl : lv_has ls 4 [(0, .ref a0), (1, .ref (Γ.2.2.2.2.1 i1)), (2, .int a2)] := hl
  refine lv_aload_n hx hb dX12_says_0 rfl (lv_at hl 0 rfl) (hp_n (n := 1) rfl ?_)
  refine m_geti (k := 47) (φ := 697) (pc' := 4) C B hM fl_X12_432 rfl rfl dX12_says_1 rfl ?_
  have J13 : ∀ (αh1 : hp_T) (Hh1 : Heap) (Lh1 : List Loc) (Bh1 : hp_B Γ mo s α αh1 Hh1 Lh1) (σh1 : ms_T) (Mh1 : hm_M αh1 a0 ρ σh1) (v2_h1 : Int32) (ls : Array Slot) (hl : lv_has ls 4 [(0, .ref a0), (1, .ref (Γ.2.2.2.2.1 i1)), (2, .int v2_h1)]) (hf : f_X12_says_J13 n i1 σh1 v2_h1 = some res), W p l e (hp_rm 4 0 0) s m ([.ref a0, .ref (Γ.2.2.2.2.1 i1), .int a2] : List Value).toArray below meth c Hh1 Lh1 0 0 (MQ below (hp_Qv Γ (fun β => mo α β ∧ hm_M β a0 ρ res)) ([.ref a0, .ref (Γ.2.2.2.2.1 i1), .int a2] : List Value).toArray s 0 0 (hp_A Γ)) (F0 m 13 ls []) := by
    intro αh1 Hh1 Lh1 Bh1 σh1 Mh1 v2_h1 ls hl hf
    unfold f_X12_says_J13 at hf
    refine lv_iconst (v := 0) hx hb dX12_says_13 (by decide) (hp_n (n := 14) rfl ?_)
    have J15 : ∀ (k15 : Nat) (αh2 : hp_T) (Hh2 : Heap) (Lh2 : List Loc) (Bh2 : hp_B Γ mo s α αh2 Hh2 Lh2) (σh2 : ms_T) (Mh2 : hm_M αh2 a0 ρ σh2) (v2_h2 : Int32) (v3_h2 : Int32) (ls : Array Slot) (hl : lv_has ls 4 [(0, .ref a0), (1, .ref (Γ.2.2.2.2.1 i1)), (2, .int v2_h2), (3, .int v3_h2)]) (hf : f_X12_says_L15 n i1 k15 σh2 v2_h2 v3_h2 = some res), W p l e (hp_rm 4 0 0) s m ([.ref a0, .ref (Γ.2.2.2.2.1 i1), .int a2] : List Value).toArray below meth c Hh2 Lh2 0 0 (MQ below (hp_Qv Γ (fun β => mo α β ∧ hm_M β a0 ρ res)) ([.ref a0, .ref (Γ.2.2.2.2.1 i1), .int a2] : List Value).toArray s 0 0 (hp_A Γ)) (F0 m 15 ls []) := by
      intro k15
      induction k15 with
      | zero => intro αh2 Hh2 Lh2 Bh2 σh2 Mh2 v2_h2 v3_h2 ls hl hf; rw [f_X12_says_L15.eq_1] at hf; cases hf
      | succ k15 ih15 =>
        intro αh2 Hh2 Lh2 Bh2 σh2 Mh2 v2_h2 v3_h2 ls hl hf
        rw [f_X12_says_L15.eq_2] at hf
        refine lv_iload_n hx hb dX12_says_15 rfl (lv_at hl 3 rfl) (hp_n (n := 16) rfl ?_)
        refine lv_aload_n hx hb dX12_says_16 rfl (lv_at hl 1 rfl) (hp_n (n := 17) rfl ?_)
        refine m_cp (pc' := 20) Bh2 (hp_runT (i := i1) (As := []) (rest := [.int v3_h2]) C B0.1 Bh2 h1 (t_J0_length_8abf5 Γ l αh2 i1 h1) lb_J0_length_8abf5 li_J0_length_8abf5 sx_J0_length_8abf5 rfl lk_X12_435 rfl (by decide) rfl hl.1 rfl (Nat.le_of_ble_eq_true rfl) dX12_says_17 ⟨Nat.le_refl _, Nat.le_refl _⟩) rfl (fun Hh3 Lh3 Bh3 => ?_)
        refine lv_icmp_ge (tgt := 38) hx hb dX12_says_20 (by decide) (fun c4 => ?_) (fun c4 => hp_n (n := 23) rfl ?_)
        ·
          replace hf := ms_iT c4 hf
          refine lv_aload_n hx hb dX12_says_38 rfl (lv_at hl 0 rfl) (hp_n (n := 39) rfl ?_)
          refine lv_bipush (v := 32) hx hb dX12_says_39 (by decide) (hp_n (n := 41) rfl ?_)
          obtain ⟨σh5, qh5, hf⟩ := ms_bE hf
          refine m_cv (pc' := 44) (a := a0) (ρ := ρ) Bh3 (hp_runV (As := [.int (32 : Int32)]) (rest := []) C Bh3 (m_X12_tells n Γ l αh2 a0 ρ σh2 Mh2 (32 : Int32) σh5 qh5) lb_X12_tells lv_X12_tells lk_X12_429 Mh2.1 rfl (by decide) rfl hl.1 rfl (Nat.le_of_ble_eq_true rfl) dX12_says_41 ⟨Nat.le_refl _, Nat.le_refl _⟩) rfl (fun αh5 Hh5 Lh5 Bh5 Mh5 => ?_)
          refine lv_aload_n hx hb dX12_says_44 rfl (lv_at hl 0 rfl) (hp_n (n := 45) rfl ?_)
          refine lv_iload_n hx hb dX12_says_45 rfl (lv_at hl 2 rfl) (hp_n (n := 46) rfl ?_)
          obtain ⟨σh6, qh6, hf⟩ := ms_bE hf
          refine m_cv (pc' := 49) (a := a0) (ρ := ρ) Bh5 (hp_runV (As := [.int v2_h2]) (rest := []) C Bh5 (m_X12_tellsNumber n Γ l αh5 a0 ρ σh5 Mh5 v2_h2 σh6 qh6) lb_X12_tellsNumber lv_X12_tellsNumber lk_X12_444 Mh5.1 rfl (by decide) rfl hl.1 rfl (Nat.le_of_ble_eq_true rfl) dX12_says_46 ⟨Nat.le_refl _, Nat.le_refl _⟩) rfl (fun αh6 Hh6 Lh6 Bh6 Mh6 => ?_)
          cases hf
          exact q_vret C Bh6 hr hlk ⟨Bh6.2.2, Mh6⟩ dX12_says_49
        ·
          replace hf := ms_iF c4 hf
          refine lv_aload_n hx hb dX12_says_23 rfl (lv_at hl 0 rfl) (hp_n (n := 24) rfl ?_)
          refine lv_aload_n hx hb dX12_says_24 rfl (lv_at hl 1 rfl) (hp_n (n := 25) rfl ?_)
          refine lv_iload_n hx hb dX12_says_25 rfl (lv_at hl 3 rfl) (hp_n (n := 26) rfl ?_)
          obtain ⟨g8, hf⟩ := ms_qE hf
          refine m_cp (pc' := 29) Bh3 (hp_runT (i := i1) (As := [.int v3_h2]) (rest := [.ref a0]) C B0.1 Bh3 h1 (t_J0_charAt_5068e Γ l αh2 i1 h1 v3_h2 g8.1 g8.2) lb_J0_charAt_5068e li_J0_charAt_5068e sx_J0_charAt_5068e rfl lk_X12_440 rfl (by decide) rfl hl.1 rfl (Nat.le_of_ble_eq_true rfl) dX12_says_26 ⟨Nat.le_refl _, Nat.le_refl _⟩) rfl (fun Hh7 Lh7 Bh7 => ?_)
          obtain ⟨σh9, qh9, hf⟩ := ms_bE hf
          refine m_cv (pc' := 32) (a := a0) (ρ := ρ) Bh7 (hp_runV (As := [.int (hp_ch i1 (v3_h2).toNatClampNeg)]) (rest := []) C Bh7 (m_X12_tells n Γ l αh2 a0 ρ σh2 Mh2 (hp_ch i1 (v3_h2).toNatClampNeg) σh9 qh9) lb_X12_tells lv_X12_tells lk_X12_429 Mh2.1 rfl (by decide) rfl hl.1 rfl (Nat.le_of_ble_eq_true rfl) dX12_says_29 ⟨Nat.le_refl _, Nat.le_refl _⟩) rfl (fun αh9 Hh9 Lh9 Bh9 Mh9 => ?_)
          obtain ⟨x10, ex10⟩ : ∃ y : Int32, y = v3_h2 + 1 := ⟨_, rfl⟩
          replace hf := ms_lE ex10 hf
          refine lv_iinc (v := x10) (lv' := [(3, .int x10), (0, .ref a0), (1, .ref (Γ.2.2.2.2.1 i1)), (2, .int v2_h2)]) hx hb dX12_says_32 hl (k := 3) rfl (by rw [ex10]; rfl) (by decide) rfl (fun ls hl => hp_n (n := 35) rfl ?_)
          refine lv_goto (tgt := 15) hx hb dX12_says_35 (by decide) ?_
          exact ih15 αh9 Hh9 Lh9 Bh9 σh9 Mh9 v2_h2 x10 ls (lv_sub hl [1, 2, 3, 0] rfl) hf
    refine lv_istore_n (lv' := [(3, .int (0 : Int32)), (0, .ref a0), (1, .ref (Γ.2.2.2.2.1 i1)), (2, .int v2_h1)]) hx hb dX12_says_14 rfl hl (by decide) rfl (fun ls hl => hp_n (n := 15) rfl ?_)
    exact J15 n αh1 Hh1 Lh1 Bh1 σh1 Mh1 v2_h1 (0 : Int32) ls (lv_sub hl [1, 2, 3, 0] rfl) hf
  refine lv_if_le (tgt := 13) hx hb dX12_says_4 (by decide) (fun c11 => ?_) (fun c11 => hp_n (n := 7) rfl ?_)
  ·
    replace hf := ms_iT c11 hf
    exact J13 α s.heap [] B σ hM a2 ls (lv_sub hl [0, 1, 2] rfl) hf
  ·
    replace hf := ms_iF c11 hf
    refine lv_aload_n hx hb dX12_says_7 rfl (lv_at hl 0 rfl) (hp_n (n := 8) rfl ?_)
    refine lv_bipush (v := 32) hx hb dX12_says_8 (by decide) (hp_n (n := 10) rfl ?_)
    obtain ⟨σh12, qh12, hf⟩ := ms_bE hf
    refine m_cv (pc' := 13) (a := a0) (ρ := ρ) B (hp_runV (As := [.int (32 : Int32)]) (rest := []) C B (m_X12_tells n Γ l α a0 ρ σ hM (32 : Int32) σh12 qh12) lb_X12_tells lv_X12_tells lk_X12_429 hM.1 rfl (by decide) rfl hl.1 rfl (Nat.le_of_ble_eq_true rfl) dX12_says_10 ⟨Nat.le_refl _, Nat.le_refl _⟩) rfl (fun αh12 Hh12 Lh12 Bh12 Mh12 => ?_)
    exact J13 αh12 Hh12 Lh12 Bh12 σh12 Mh12 a2 ls (lv_sub hl [0, 1, 2] rfl) hf
def f_X12_tellsMarks_L25 (n : Nat) : Nat → ms_T → Int32 → Option (Int32 × ms_T)
  | 0, _, _ => none
  | k25 + 1, σh5, v2_h5 =>
    if (ms_I σh5 657) ≤ v2_h5 then
      ms_b (f_X12_tells n σh5 (59 : Int32)) fun σh7 =>
      some ((ms_I σh7 697), σh7)
    else
      ms_b (f_X12_tells n σh5 (32 : Int32)) fun σh8 =>
      ms_g v2_h5 128 <|
      ms_b (f_X12_tellsNumber n σh8 (ms_E σh8 44 (v2_h5).toNatClampNeg)) fun σh10 =>
      ms_l (v2_h5 + 1) fun x11 =>
      (f_X12_tellsMarks_L25 n k25) σh10 x11
def f_X12_tellsMarks (n : Nat) (σ : ms_T) (a1 : Int32) : Option (Int32 × ms_T) :=
  ms_b (f_X12_fetches n σ a1) fun σh1 =>
  ms_b (f_X12_tells n σh1 (32 : Int32)) fun σh2 =>
  ms_b (f_X12_tells n σh2 (98 : Int32)) fun σh3 =>
  ms_b (f_X12_tells n σh3 (121 : Int32)) fun σh4 =>
  f_X12_tellsMarks_L25 n n σh4 (0 : Int32)
set_option maxRecDepth 100000 in
set_option maxHeartbeats 4000000 in
theorem m_X12_tellsMarks (n : Nat) (Γ : hp_G) (l : Launch) (α : hp_T) (a0 : Nat) (ρ : Nat → Nat) (σ : ms_T) (hM : hm_M α a0 ρ σ) (a1 : Int32) (res : (Int32 × ms_T)) (hf : f_X12_tellsMarks n σ a1 = some res) : Met l yX12_tellsMarks (hp_ws yX12_tellsMarks cX12_tellsMarks 3 (some .int)) (hp_rm 43 0 0) (hp_Pc Γ α [.ref a0, .int a1]) (hp_Qi Γ (fun r β => r = res.1 ∧ mo α β ∧ hm_M β a0 ρ res.2)) 0 0 (hp_A Γ) := by
  unfold f_X12_tellsMarks at hf
  refine hp_start (by decide) ?_
  intro p e s m below meth c C hr hlk B0 hnm
  have C : hp_C Γ p m c cX12_tellsMarks 3 s ([.ref a0, .int a1] : List Value).toArray RX12 := C
  have hx := C.1.1
  have hb := C.1.2.1
  have hown := C.1.2.2.2.1
  have hts := C.1.2.2.2.2
  have B : hp_B Γ mo s α α s.heap [] := ⟨B0.1, B0.2.1, mo_rf⟩
  have hl := lv_entry ([.ref a0, .int a1]) (n := 3) (Nat.le_of_ble_eq_true rfl)
  show W p l e (hp_rm 43 0 0) s m ([.ref a0, .int a1] : List Value).toArray below meth c s.heap [] 0 0 (MQ below (hp_Qi Γ (fun r β => r = res.1 ∧ mo α β ∧ hm_M β a0 ρ res.2)) ([.ref a0, .int a1] : List Value).toArray s 0 0 (hp_A Γ)) (entryFrame m ([.ref a0, .int a1] : List Value).toArray 3)
  rw [lg_entry_eq]
  generalize (lg_sl ([.ref a0, .int a1]) ++ List.replicate (3 - (lg_sl ([.ref a0, .int a1])).length) Slot.unset).toArray = ls at hl ⊢
  have hl : lv_has ls 3 [(0, .ref a0), (1, .int a1)] := hl
  refine lv_aload_n hx hb dX12_tellsMarks_0 rfl (lv_at hl 0 rfl) (hp_n (n := 1) rfl ?_)
  refine lv_iload_n hx hb dX12_tellsMarks_1 rfl (lv_at hl 1 rfl) (hp_n (n := 2) rfl ?_)
  obtain ⟨σh1, qh1, hf⟩ := ms_bE hf
  refine m_cv (pc' := 5) (a := a0) (ρ := ρ) B (hp_runV (As := [.int a1]) (rest := []) C B (m_X12_fetches n Γ l α a0 ρ σ hM a1 σh1 qh1) lb_X12_fetches lv_X12_fetches lk_X12_161 hM.1 rfl (by decide) rfl hl.1 rfl (Nat.le_of_ble_eq_true rfl) dX12_tellsMarks_2 ⟨Nat.le_refl _, Nat.le_refl _⟩) rfl (fun αh1 Hh1 Lh1 Bh1 Mh1 => ?_)
  refine lv_aload_n hx hb dX12_tellsMarks_5 rfl (lv_at hl 0 rfl) (hp_n (n := 6) rfl ?_)
  refine lv_bipush (v := 32) hx hb dX12_tellsMarks_6 (by decide) (hp_n (n := 8) rfl ?_)
  obtain ⟨σh2, qh2, hf⟩ := ms_bE hf
  refine m_cv (pc' := 11) (a := a0) (ρ := ρ) Bh1 (hp_runV (As := [.int (32 : Int32)]) (rest := []) C Bh1 (m_X12_tells n Γ l αh1 a0 ρ σh1 Mh1 (32 : Int32) σh2 qh2) lb_X12_tells lv_X12_tells lk_X12_429 Mh1.1 rfl (by decide) rfl hl.1 rfl (Nat.le_of_ble_eq_true rfl) dX12_tellsMarks_8 ⟨Nat.le_refl _, Nat.le_refl _⟩) rfl (fun αh2 Hh2 Lh2 Bh2 Mh2 => ?_)
  refine lv_aload_n hx hb dX12_tellsMarks_11 rfl (lv_at hl 0 rfl) (hp_n (n := 12) rfl ?_)
  refine lv_bipush (v := 98) hx hb dX12_tellsMarks_12 (by decide) (hp_n (n := 14) rfl ?_)
  obtain ⟨σh3, qh3, hf⟩ := ms_bE hf
  refine m_cv (pc' := 17) (a := a0) (ρ := ρ) Bh2 (hp_runV (As := [.int (98 : Int32)]) (rest := []) C Bh2 (m_X12_tells n Γ l αh2 a0 ρ σh2 Mh2 (98 : Int32) σh3 qh3) lb_X12_tells lv_X12_tells lk_X12_429 Mh2.1 rfl (by decide) rfl hl.1 rfl (Nat.le_of_ble_eq_true rfl) dX12_tellsMarks_14 ⟨Nat.le_refl _, Nat.le_refl _⟩) rfl (fun αh3 Hh3 Lh3 Bh3 Mh3 => ?_)
  refine lv_aload_n hx hb dX12_tellsMarks_17 rfl (lv_at hl 0 rfl) (hp_n (n := 18) rfl ?_)
  refine lv_bipush (v := 121) hx hb dX12_tellsMarks_18 (by decide) (hp_n (n := 20) rfl ?_)
  obtain ⟨σh4, qh4, hf⟩ := ms_bE hf
  refine m_cv (pc' := 23) (a := a0) (ρ := ρ) Bh3 (hp_runV (As := [.int (121 : Int32)]) (rest := []) C Bh3 (m_X12_tells n Γ l αh3 a0 ρ σh3 Mh3 (121 : Int32) σh4 qh4) lb_X12_tells lv_X12_tells lk_X12_429 Mh3.1 rfl (by decide) rfl hl.1 rfl (Nat.le_of_ble_eq_true rfl) dX12_tellsMarks_20 ⟨Nat.le_refl _, Nat.le_refl _⟩) rfl (fun αh4 Hh4 Lh4 Bh4 Mh4 => ?_)
  refine lv_iconst (v := 0) hx hb dX12_tellsMarks_23 (by decide) (hp_n (n := 24) rfl ?_)
  have J25 : ∀ (k25 : Nat) (αh5 : hp_T) (Hh5 : Heap) (Lh5 : List Loc) (Bh5 : hp_B Γ mo s α αh5 Hh5 Lh5) (σh5 : ms_T) (Mh5 : hm_M αh5 a0 ρ σh5) (v2_h5 : Int32) (ls : Array Slot) (hl : lv_has ls 3 [(0, .ref a0), (2, .int v2_h5)]) (hf : f_X12_tellsMarks_L25 n k25 σh5 v2_h5 = some res), W p l e (hp_rm 43 0 0) s m ([.ref a0, .int a1] : List Value).toArray below meth c Hh5 Lh5 0 0 (MQ below (hp_Qi Γ (fun r β => r = res.1 ∧ mo α β ∧ hm_M β a0 ρ res.2)) ([.ref a0, .int a1] : List Value).toArray s 0 0 (hp_A Γ)) (F0 m 25 ls []) := by
    intro k25
    induction k25 with
    | zero => intro αh5 Hh5 Lh5 Bh5 σh5 Mh5 v2_h5 ls hl hf; rw [f_X12_tellsMarks_L25.eq_1] at hf; cases hf
    | succ k25 ih25 =>
      intro αh5 Hh5 Lh5 Bh5 σh5 Mh5 v2_h5 ls hl hf
      rw [f_X12_tellsMarks_L25.eq_2] at hf
      refine lv_iload_n hx hb dX12_tellsMarks_25 rfl (lv_at hl 1 rfl) (hp_n (n := 26) rfl ?_)
      refine lv_aload_n hx hb dX12_tellsMarks_26 rfl (lv_at hl 0 rfl) (hp_n (n := 27) rfl ?_)
      refine m_geti (k := 7) (φ := 657) (pc' := 30) C Bh5 Mh5 fl_X12_139 rfl rfl dX12_tellsMarks_27 rfl ?_
      refine lv_icmp_ge (tgt := 55) hx hb dX12_tellsMarks_30 (by decide) (fun c6 => ?_) (fun c6 => hp_n (n := 33) rfl ?_)
      ·
        replace hf := ms_iT c6 hf
        refine lv_aload_n hx hb dX12_tellsMarks_55 rfl (lv_at hl 0 rfl) (hp_n (n := 56) rfl ?_)
        refine lv_bipush (v := 59) hx hb dX12_tellsMarks_56 (by decide) (hp_n (n := 58) rfl ?_)
        obtain ⟨σh7, qh7, hf⟩ := ms_bE hf
        refine m_cv (pc' := 61) (a := a0) (ρ := ρ) Bh5 (hp_runV (As := [.int (59 : Int32)]) (rest := []) C Bh5 (m_X12_tells n Γ l αh5 a0 ρ σh5 Mh5 (59 : Int32) σh7 qh7) lb_X12_tells lv_X12_tells lk_X12_429 Mh5.1 rfl (by decide) rfl hl.1 rfl (Nat.le_of_ble_eq_true rfl) dX12_tellsMarks_58 ⟨Nat.le_refl _, Nat.le_refl _⟩) rfl (fun αh7 Hh7 Lh7 Bh7 Mh7 => ?_)
        refine lv_aload_n hx hb dX12_tellsMarks_61 rfl (lv_at hl 0 rfl) (hp_n (n := 62) rfl ?_)
        refine m_geti (k := 47) (φ := 697) (pc' := 65) C Bh7 Mh7 fl_X12_432 rfl rfl dX12_tellsMarks_62 rfl ?_
        cases hf
        exact q_iret C Bh7 hr hlk ⟨rfl, Bh7.2.2, Mh7⟩ dX12_tellsMarks_65
      ·
        replace hf := ms_iF c6 hf
        refine lv_aload_n hx hb dX12_tellsMarks_33 rfl (lv_at hl 0 rfl) (hp_n (n := 34) rfl ?_)
        refine lv_bipush (v := 32) hx hb dX12_tellsMarks_34 (by decide) (hp_n (n := 36) rfl ?_)
        obtain ⟨σh8, qh8, hf⟩ := ms_bE hf
        refine m_cv (pc' := 39) (a := a0) (ρ := ρ) Bh5 (hp_runV (As := [.int (32 : Int32)]) (rest := []) C Bh5 (m_X12_tells n Γ l αh5 a0 ρ σh5 Mh5 (32 : Int32) σh8 qh8) lb_X12_tells lv_X12_tells lk_X12_429 Mh5.1 rfl (by decide) rfl hl.1 rfl (Nat.le_of_ble_eq_true rfl) dX12_tellsMarks_36 ⟨Nat.le_refl _, Nat.le_refl _⟩) rfl (fun αh8 Hh8 Lh8 Bh8 Mh8 => ?_)
        refine lv_aload_n hx hb dX12_tellsMarks_39 rfl (lv_at hl 0 rfl) (hp_n (n := 40) rfl ?_)
        refine lv_aload_n hx hb dX12_tellsMarks_40 rfl (lv_at hl 0 rfl) (hp_n (n := 41) rfl ?_)
        refine m_getr (κ := 44) (k := 6) (pc' := 44) C Bh8 Mh8 fl_X12_22 rfl (by decide) dX12_tellsMarks_41 rfl ?_
        refine lv_iload_n hx hb dX12_tellsMarks_44 rfl (lv_at hl 1 rfl) (hp_n (n := 45) rfl ?_)
        obtain ⟨g9, hf⟩ := ms_gE hf
        refine m_ial (κ := 44) (φ := 656) (n := 128) (pc' := 46) C Bh8 Mh8 (by decide) (by decide) rfl g9 dX12_tellsMarks_45 rfl ?_
        obtain ⟨σh10, qh10, hf⟩ := ms_bE hf
        refine m_cv (pc' := 49) (a := a0) (ρ := ρ) Bh8 (hp_runV (As := [.int (ms_E σh8 44 (v2_h5).toNatClampNeg)]) (rest := []) C Bh8 (m_X12_tellsNumber n Γ l αh8 a0 ρ σh8 Mh8 (ms_E σh8 44 (v2_h5).toNatClampNeg) σh10 qh10) lb_X12_tellsNumber lv_X12_tellsNumber lk_X12_444 Mh8.1 rfl (by decide) rfl hl.1 rfl (Nat.le_of_ble_eq_true rfl) dX12_tellsMarks_46 ⟨Nat.le_refl _, Nat.le_refl _⟩) rfl (fun αh10 Hh10 Lh10 Bh10 Mh10 => ?_)
        obtain ⟨x11, ex11⟩ : ∃ y : Int32, y = v2_h5 + 1 := ⟨_, rfl⟩
        replace hf := ms_lE ex11 hf
        refine lv_iinc (v := x11) (lv' := [(2, .int x11), (0, .ref a0)]) hx hb dX12_tellsMarks_49 hl (k := 1) rfl (by rw [ex11]; rfl) (by decide) rfl (fun ls hl => hp_n (n := 52) rfl ?_)
        refine lv_goto (tgt := 25) hx hb dX12_tellsMarks_52 (by decide) ?_
        exact ih25 αh10 Hh10 Lh10 Bh10 σh10 Mh10 x11 ls (lv_sub hl [1, 0] rfl) hf
  refine lv_istore_n (lv' := [(2, .int (0 : Int32)), (0, .ref a0), (1, .int a1)]) hx hb dX12_tellsMarks_24 rfl hl (by decide) rfl (fun ls hl => hp_n (n := 25) rfl ?_)
  exact J25 n αh4 Hh4 Lh4 Bh4 σh4 Mh4 (0 : Int32) ls (lv_sub hl [1, 0] rfl) hf
def f_X12_tell (n : Nat) (σ : ms_T) (a1 : Int32) (a2 : Int32) (a3 : Int32) : Option (Int32 × ms_T) :=
  ms_b (f_X12_noEntry n σ a1 a2 a3) fun rh1 =>
  ms_c (f_X12_is n σ rh1) fun rh2 σh2 =>
  if rh2 = 0 then
    some ((-1 : Int32), σh2)
  else
    ms_l (ms_sI σh2 697 (0 : Int32)) fun σh4 =>
    ms_b (f_X12_says n σh4 14 a2) fun σh5 =>
    ms_b (f_X12_says n σh5 18 a3) fun σh6 =>
    ms_b (f_X12_entryMark n σh6 a1 a2) fun rh7 =>
    ms_b (f_X12_says n σh6 16 rh7) fun σh8 =>
    ms_b (f_X12_headOf n σh8 a1 a3) fun rh9 =>
    ms_b (f_X12_says n σh8 13 rh9) fun σh10 =>
    ms_b (f_X12_inclusion n σh10 a2 a3) fun σh11 =>
    ms_c (f_X12_tellsMarks n σh11 a1) fun rh12 σh12 =>
    some (rh12, σh12)
set_option maxRecDepth 100000 in
set_option maxHeartbeats 4000000 in
theorem m_X12_tell (n : Nat) (Γ : hp_G) (l : Launch) (α : hp_T) (a0 : Nat) (ρ : Nat → Nat) (σ : ms_T) (hM : hm_M α a0 ρ σ) (a1 : Int32) (a2 : Int32) (a3 : Int32) (res : (Int32 × ms_T)) (hf : f_X12_tell n σ a1 a2 a3 = some res) : Met l yX12_tell (hp_ws yX12_tell cX12_tell 4 (some .int)) (hp_rm 44 0 0) (hp_Pc Γ α [.ref a0, .int a1, .int a2, .int a3]) (hp_Qi Γ (fun r β => r = res.1 ∧ mo α β ∧ hm_M β a0 ρ res.2)) 0 0 (hp_A Γ) := by
  unfold f_X12_tell at hf
  refine hp_start (by decide) ?_
  intro p e s m below meth c C hr hlk B0 hnm
  have C : hp_C Γ p m c cX12_tell 4 s ([.ref a0, .int a1, .int a2, .int a3] : List Value).toArray RX12 := C
  have hx := C.1.1
  have hb := C.1.2.1
  have hown := C.1.2.2.2.1
  have hts := C.1.2.2.2.2
  have B : hp_B Γ mo s α α s.heap [] := ⟨B0.1, B0.2.1, mo_rf⟩
  have hl := lv_entry ([.ref a0, .int a1, .int a2, .int a3]) (n := 4) (Nat.le_of_ble_eq_true rfl)
  show W p l e (hp_rm 44 0 0) s m ([.ref a0, .int a1, .int a2, .int a3] : List Value).toArray below meth c s.heap [] 0 0 (MQ below (hp_Qi Γ (fun r β => r = res.1 ∧ mo α β ∧ hm_M β a0 ρ res.2)) ([.ref a0, .int a1, .int a2, .int a3] : List Value).toArray s 0 0 (hp_A Γ)) (entryFrame m ([.ref a0, .int a1, .int a2, .int a3] : List Value).toArray 4)
  rw [lg_entry_eq]
  generalize (lg_sl ([.ref a0, .int a1, .int a2, .int a3]) ++ List.replicate (4 - (lg_sl ([.ref a0, .int a1, .int a2, .int a3])).length) Slot.unset).toArray = ls at hl ⊢
  have hl : lv_has ls 4 [(0, .ref a0), (1, .int a1), (2, .int a2), (3, .int a3)] := hl
  refine lv_aload_n hx hb dX12_tell_0 rfl (lv_at hl 0 rfl) (hp_n (n := 1) rfl ?_)
  refine lv_aload_n hx hb dX12_tell_1 rfl (lv_at hl 0 rfl) (hp_n (n := 2) rfl ?_)
  refine lv_iload_n hx hb dX12_tell_2 rfl (lv_at hl 1 rfl) (hp_n (n := 3) rfl ?_)
  refine lv_iload_n hx hb dX12_tell_3 rfl (lv_at hl 2 rfl) (hp_n (n := 4) rfl ?_)
  refine lv_iload_n hx hb dX12_tell_4 rfl (lv_at hl 3 rfl) (hp_n (n := 5) rfl ?_)
  obtain ⟨rh1, qh1, hf⟩ := ms_bE hf
  refine m_cp (pc' := 8) B (hp_runV (As := [.int a1, .int a2, .int a3]) (rest := [.ref a0]) C B (m_X12_noEntry n Γ l α a0 ρ σ hM a1 a2 a3 rh1 qh1) lb_X12_noEntry lv_X12_noEntry lk_X12_362 hM.1 rfl (by decide) rfl hl.1 rfl (Nat.le_of_ble_eq_true rfl) dX12_tell_5 ⟨Nat.le_refl _, Nat.le_refl _⟩) rfl (fun Hh1 Lh1 Bh1 => ?_)
  obtain ⟨rh2, σh2, qh2, hf⟩ := ms_cE hf
  refine m_ci (pc' := 11) (a := a0) (ρ := ρ) Bh1 (hp_runV (As := [.int rh1]) (rest := []) C Bh1 (m_X12_is n Γ l α a0 ρ σ hM rh1 (rh2, σh2) qh2) lb_X12_is lv_X12_is lk_X12_309 hM.1 rfl (by decide) rfl hl.1 rfl (Nat.le_of_ble_eq_true rfl) dX12_tell_8 ⟨Nat.le_refl _, Nat.le_refl _⟩) rfl (fun αh2 Hh2 Lh2 Bh2 Mh2 => ?_)
  refine lv_if_ne (tgt := 16) hx hb dX12_tell_11 (by decide) (fun c3 => ?_) (fun c3 => hp_n (n := 14) rfl ?_)
  ·
    replace hf := ms_iF c3 hf
    refine lv_aload_n hx hb dX12_tell_16 rfl (lv_at hl 0 rfl) (hp_n (n := 17) rfl ?_)
    refine lv_iconst (v := 0) hx hb dX12_tell_17 (by decide) (hp_n (n := 18) rfl ?_)
    refine m_puti (k := 47) (φ := 697) (pc' := 21) C Bh2 Mh2 fl_X12_432 rfl rfl rfl rfl rfl dX12_tell_18 rfl (fun αh4 Hh4 Lh4 σh4 eh4 Bh4 Mh4 => ?_)
    replace hf := ms_lE eh4 hf
    refine lv_aload_n hx hb dX12_tell_21 rfl (lv_at hl 0 rfl) (hp_n (n := 22) rfl ?_)
    refine st_ldcw hx hb hown (sr_X12_447 C.2) dX12_tell_22 (hp_n (n := 25) rfl ?_)
    refine lv_iload_n hx hb dX12_tell_25 rfl (lv_at hl 2 rfl) (hp_n (n := 26) rfl ?_)
    obtain ⟨σh5, qh5, hf⟩ := ms_bE hf
    refine m_cv (pc' := 29) (a := a0) (ρ := ρ) Bh4 (hp_runV (As := [.ref (Γ.2.2.2.2.1 14), .int a2]) (rest := []) C Bh4 (m_X12_says n Γ l αh4 a0 ρ σh4 Mh4 14 (by decide) a2 σh5 qh5) lb_X12_says lv_X12_says lk_X12_449 Mh4.1 rfl (by decide) rfl hl.1 rfl (Nat.le_of_ble_eq_true rfl) dX12_tell_26 ⟨Nat.le_refl _, Nat.le_refl _⟩) rfl (fun αh5 Hh5 Lh5 Bh5 Mh5 => ?_)
    refine lv_aload_n hx hb dX12_tell_29 rfl (lv_at hl 0 rfl) (hp_n (n := 30) rfl ?_)
    refine st_ldcw hx hb hown (sr_X12_453 C.2) dX12_tell_30 (hp_n (n := 33) rfl ?_)
    refine lv_iload_n hx hb dX12_tell_33 rfl (lv_at hl 3 rfl) (hp_n (n := 34) rfl ?_)
    obtain ⟨σh6, qh6, hf⟩ := ms_bE hf
    refine m_cv (pc' := 37) (a := a0) (ρ := ρ) Bh5 (hp_runV (As := [.ref (Γ.2.2.2.2.1 18), .int a3]) (rest := []) C Bh5 (m_X12_says n Γ l αh5 a0 ρ σh5 Mh5 18 (by decide) a3 σh6 qh6) lb_X12_says lv_X12_says lk_X12_449 Mh5.1 rfl (by decide) rfl hl.1 rfl (Nat.le_of_ble_eq_true rfl) dX12_tell_34 ⟨Nat.le_refl _, Nat.le_refl _⟩) rfl (fun αh6 Hh6 Lh6 Bh6 Mh6 => ?_)
    refine lv_aload_n hx hb dX12_tell_37 rfl (lv_at hl 0 rfl) (hp_n (n := 38) rfl ?_)
    refine st_ldcw hx hb hown (sr_X12_455 C.2) dX12_tell_38 (hp_n (n := 41) rfl ?_)
    refine lv_aload_n hx hb dX12_tell_41 rfl (lv_at hl 0 rfl) (hp_n (n := 42) rfl ?_)
    refine lv_iload_n hx hb dX12_tell_42 rfl (lv_at hl 1 rfl) (hp_n (n := 43) rfl ?_)
    refine lv_iload_n hx hb dX12_tell_43 rfl (lv_at hl 2 rfl) (hp_n (n := 44) rfl ?_)
    obtain ⟨rh7, qh7, hf⟩ := ms_bE hf
    refine m_cp (pc' := 47) Bh6 (hp_runV (As := [.int a1, .int a2]) (rest := [.ref (Γ.2.2.2.2.1 16), .ref a0]) C Bh6 (m_X12_entryMark n Γ l αh6 a0 ρ σh6 Mh6 a1 a2 rh7 qh7) lb_X12_entryMark lv_X12_entryMark lk_X12_125 Mh6.1 rfl (by decide) rfl hl.1 rfl (Nat.le_of_ble_eq_true rfl) dX12_tell_44 ⟨Nat.le_refl _, Nat.le_refl _⟩) rfl (fun Hh7 Lh7 Bh7 => ?_)
    obtain ⟨σh8, qh8, hf⟩ := ms_bE hf
    refine m_cv (pc' := 50) (a := a0) (ρ := ρ) Bh7 (hp_runV (As := [.ref (Γ.2.2.2.2.1 16), .int rh7]) (rest := []) C Bh7 (m_X12_says n Γ l αh6 a0 ρ σh6 Mh6 16 (by decide) rh7 σh8 qh8) lb_X12_says lv_X12_says lk_X12_449 Mh6.1 rfl (by decide) rfl hl.1 rfl (Nat.le_of_ble_eq_true rfl) dX12_tell_47 ⟨Nat.le_refl _, Nat.le_refl _⟩) rfl (fun αh8 Hh8 Lh8 Bh8 Mh8 => ?_)
    refine lv_aload_n hx hb dX12_tell_50 rfl (lv_at hl 0 rfl) (hp_n (n := 51) rfl ?_)
    refine st_ldcw hx hb hown (sr_X12_457 C.2) dX12_tell_51 (hp_n (n := 54) rfl ?_)
    refine lv_aload_n hx hb dX12_tell_54 rfl (lv_at hl 0 rfl) (hp_n (n := 55) rfl ?_)
    refine lv_iload_n hx hb dX12_tell_55 rfl (lv_at hl 1 rfl) (hp_n (n := 56) rfl ?_)
    refine lv_iload_n hx hb dX12_tell_56 rfl (lv_at hl 3 rfl) (hp_n (n := 57) rfl ?_)
    obtain ⟨rh9, qh9, hf⟩ := ms_bE hf
    refine m_cp (pc' := 60) Bh8 (hp_runV (As := [.int a1, .int a3]) (rest := [.ref (Γ.2.2.2.2.1 13), .ref a0]) C Bh8 (m_X12_headOf n Γ l αh8 a0 ρ σh8 Mh8 a1 a3 rh9 qh9) lb_X12_headOf lv_X12_headOf lk_X12_215 Mh8.1 rfl (by decide) rfl hl.1 rfl (Nat.le_of_ble_eq_true rfl) dX12_tell_57 ⟨Nat.le_refl _, Nat.le_refl _⟩) rfl (fun Hh9 Lh9 Bh9 => ?_)
    obtain ⟨σh10, qh10, hf⟩ := ms_bE hf
    refine m_cv (pc' := 63) (a := a0) (ρ := ρ) Bh9 (hp_runV (As := [.ref (Γ.2.2.2.2.1 13), .int rh9]) (rest := []) C Bh9 (m_X12_says n Γ l αh8 a0 ρ σh8 Mh8 13 (by decide) rh9 σh10 qh10) lb_X12_says lv_X12_says lk_X12_449 Mh8.1 rfl (by decide) rfl hl.1 rfl (Nat.le_of_ble_eq_true rfl) dX12_tell_60 ⟨Nat.le_refl _, Nat.le_refl _⟩) rfl (fun αh10 Hh10 Lh10 Bh10 Mh10 => ?_)
    refine lv_aload_n hx hb dX12_tell_63 rfl (lv_at hl 0 rfl) (hp_n (n := 64) rfl ?_)
    refine lv_iload_n hx hb dX12_tell_64 rfl (lv_at hl 2 rfl) (hp_n (n := 65) rfl ?_)
    refine lv_iload_n hx hb dX12_tell_65 rfl (lv_at hl 3 rfl) (hp_n (n := 66) rfl ?_)
    obtain ⟨σh11, qh11, hf⟩ := ms_bE hf
    refine m_cv (pc' := 69) (a := a0) (ρ := ρ) Bh10 (hp_runV (As := [.int a2, .int a3]) (rest := []) C Bh10 (m_X12_inclusion n Γ l αh10 a0 ρ σh10 Mh10 a2 a3 σh11 qh11) lb_X12_inclusion lv_X12_inclusion lk_X12_171 Mh10.1 rfl (by decide) rfl hl.1 rfl (Nat.le_of_ble_eq_true rfl) dX12_tell_66 ⟨Nat.le_refl _, Nat.le_refl _⟩) rfl (fun αh11 Hh11 Lh11 Bh11 Mh11 => ?_)
    refine lv_aload_n hx hb dX12_tell_69 rfl (lv_at hl 0 rfl) (hp_n (n := 70) rfl ?_)
    refine lv_iload_n hx hb dX12_tell_70 rfl (lv_at hl 1 rfl) (hp_n (n := 71) rfl ?_)
    obtain ⟨rh12, σh12, qh12, hf⟩ := ms_cE hf
    refine m_ci (pc' := 74) (a := a0) (ρ := ρ) Bh11 (hp_runV (As := [.int a1]) (rest := []) C Bh11 (m_X12_tellsMarks n Γ l αh11 a0 ρ σh11 Mh11 a1 (rh12, σh12) qh12) lb_X12_tellsMarks lv_X12_tellsMarks lk_X12_459 Mh11.1 rfl (by decide) rfl hl.1 rfl (Nat.le_of_ble_eq_true rfl) dX12_tell_71 ⟨Nat.le_refl _, Nat.le_refl _⟩) rfl (fun αh12 Hh12 Lh12 Bh12 Mh12 => ?_)
    cases hf
    exact q_iret C Bh12 hr hlk ⟨rfl, Bh12.2.2, Mh12⟩ dX12_tell_74
  ·
    replace hf := ms_iT c3 hf
    refine lv_iconst (v := (-1)) hx hb dX12_tell_14 (by decide) (hp_n (n := 15) rfl ?_)
    cases hf
    exact q_iret C Bh2 hr hlk ⟨rfl, Bh2.2.2, Mh2⟩ dX12_tell_15
def f_X12_tellGrowth_J20 (n : Nat) (σh1 : ms_T) (v1_h1 : Int32) (v2_h1 : Int32) (v3_h1 : Int32) (w0_h1 : Int32) : Option (Int32 × ms_T) :=
  ms_c (f_X12_is n σh1 w0_h1) fun rh2 σh2 =>
  if rh2 = 0 then
    some ((-1 : Int32), σh2)
  else
    ms_l (ms_sI σh2 697 (0 : Int32)) fun σh4 =>
    ms_b (f_X12_says n σh4 11 v2_h1) fun σh5 =>
    ms_b (f_X12_headOf n σh5 v1_h1 v2_h1) fun rh6 =>
    ms_b (f_X12_says n σh5 16 rh6) fun σh7 =>
    ms_b (f_X12_says n σh7 20 v3_h1) fun σh8 =>
    ms_b (f_X12_headOf n σh8 v1_h1 v3_h1) fun rh9 =>
    ms_b (f_X12_says n σh8 13 rh9) fun σh10 =>
    ms_b (f_X12_growth n σh10 v2_h1 v3_h1) fun σh11 =>
    ms_c (f_X12_tellsMarks n σh11 v1_h1) fun rh12 σh12 =>
    some (rh12, σh12)
def f_X12_tellGrowth_J10 (n : Nat) (σh13 : ms_T) (v1_h13 : Int32) (v2_h13 : Int32) (v3_h13 : Int32) : Option (Int32 × ms_T) :=
  f_X12_tellGrowth_J20 n σh13 v1_h13 v2_h13 v3_h13 (1 : Int32)
def f_X12_tellGrowth (n : Nat) (σ : ms_T) (a1 : Int32) (a2 : Int32) (a3 : Int32) : Option (Int32 × ms_T) :=
  if a2 < 0 then
    f_X12_tellGrowth_J10 n σ a1 a2 a3
  else
    if a2 ≤ a3 then
      ms_b (f_X12_noSize n σ a1 a3) fun rh16 =>
      f_X12_tellGrowth_J20 n σ a1 a2 a3 rh16
    else
      f_X12_tellGrowth_J10 n σ a1 a2 a3
set_option maxRecDepth 100000 in
set_option maxHeartbeats 4000000 in
theorem m_X12_tellGrowth (n : Nat) (Γ : hp_G) (l : Launch) (α : hp_T) (a0 : Nat) (ρ : Nat → Nat) (σ : ms_T) (hM : hm_M α a0 ρ σ) (a1 : Int32) (a2 : Int32) (a3 : Int32) (res : (Int32 × ms_T)) (hf : f_X12_tellGrowth n σ a1 a2 a3 = some res) : Met l yX12_tellGrowth (hp_ws yX12_tellGrowth cX12_tellGrowth 4 (some .int)) (hp_rm 44 0 0) (hp_Pc Γ α [.ref a0, .int a1, .int a2, .int a3]) (hp_Qi Γ (fun r β => r = res.1 ∧ mo α β ∧ hm_M β a0 ρ res.2)) 0 0 (hp_A Γ) := by
  unfold f_X12_tellGrowth at hf
  refine hp_start (by decide) ?_
  intro p e s m below meth c C hr hlk B0 hnm
  have C : hp_C Γ p m c cX12_tellGrowth 4 s ([.ref a0, .int a1, .int a2, .int a3] : List Value).toArray RX12 := C
  have hx := C.1.1
  have hb := C.1.2.1
  have hown := C.1.2.2.2.1
  have hts := C.1.2.2.2.2
  have B : hp_B Γ mo s α α s.heap [] := ⟨B0.1, B0.2.1, mo_rf⟩
  have hl := lv_entry ([.ref a0, .int a1, .int a2, .int a3]) (n := 4) (Nat.le_of_ble_eq_true rfl)
  show W p l e (hp_rm 44 0 0) s m ([.ref a0, .int a1, .int a2, .int a3] : List Value).toArray below meth c s.heap [] 0 0 (MQ below (hp_Qi Γ (fun r β => r = res.1 ∧ mo α β ∧ hm_M β a0 ρ res.2)) ([.ref a0, .int a1, .int a2, .int a3] : List Value).toArray s 0 0 (hp_A Γ)) (entryFrame m ([.ref a0, .int a1, .int a2, .int a3] : List Value).toArray 4)
  rw [lg_entry_eq]
  generalize (lg_sl ([.ref a0, .int a1, .int a2, .int a3]) ++ List.replicate (4 - (lg_sl ([.ref a0, .int a1, .int a2, .int a3])).length) Slot.unset).toArray = ls at hl ⊢
  have hl : lv_has ls 4 [(0, .ref a0), (1, .int a1), (2, .int a2), (3, .int a3)] := hl
  refine lv_aload_n hx hb dX12_tellGrowth_0 rfl (lv_at hl 0 rfl) (hp_n (n := 1) rfl ?_)
  refine lv_iload_n hx hb dX12_tellGrowth_1 rfl (lv_at hl 2 rfl) (hp_n (n := 2) rfl ?_)
  have J20 : ∀ (αh1 : hp_T) (Hh1 : Heap) (Lh1 : List Loc) (Bh1 : hp_B Γ mo s α αh1 Hh1 Lh1) (σh1 : ms_T) (Mh1 : hm_M αh1 a0 ρ σh1) (v1_h1 : Int32) (v2_h1 : Int32) (v3_h1 : Int32) (w0_h1 : Int32) (ls : Array Slot) (hl : lv_has ls 4 [(0, .ref a0), (1, .int v1_h1), (2, .int v2_h1), (3, .int v3_h1)]) (hf : f_X12_tellGrowth_J20 n σh1 v1_h1 v2_h1 v3_h1 w0_h1 = some res), W p l e (hp_rm 44 0 0) s m ([.ref a0, .int a1, .int a2, .int a3] : List Value).toArray below meth c Hh1 Lh1 0 0 (MQ below (hp_Qi Γ (fun r β => r = res.1 ∧ mo α β ∧ hm_M β a0 ρ res.2)) ([.ref a0, .int a1, .int a2, .int a3] : List Value).toArray s 0 0 (hp_A Γ)) (F0 m 20 ls [.int w0_h1, .ref a0]) := by
    intro αh1 Hh1 Lh1 Bh1 σh1 Mh1 v1_h1 v2_h1 v3_h1 w0_h1 ls hl hf
    unfold f_X12_tellGrowth_J20 at hf
    obtain ⟨rh2, σh2, qh2, hf⟩ := ms_cE hf
    refine m_ci (pc' := 23) (a := a0) (ρ := ρ) Bh1 (hp_runV (As := [.int w0_h1]) (rest := []) C Bh1 (m_X12_is n Γ l αh1 a0 ρ σh1 Mh1 w0_h1 (rh2, σh2) qh2) lb_X12_is lv_X12_is lk_X12_309 Mh1.1 rfl (by decide) rfl hl.1 rfl (Nat.le_of_ble_eq_true rfl) dX12_tellGrowth_20 ⟨Nat.le_refl _, Nat.le_refl _⟩) rfl (fun αh2 Hh2 Lh2 Bh2 Mh2 => ?_)
    refine lv_if_ne (tgt := 28) hx hb dX12_tellGrowth_23 (by decide) (fun c3 => ?_) (fun c3 => hp_n (n := 26) rfl ?_)
    ·
      replace hf := ms_iF c3 hf
      refine lv_aload_n hx hb dX12_tellGrowth_28 rfl (lv_at hl 0 rfl) (hp_n (n := 29) rfl ?_)
      refine lv_iconst (v := 0) hx hb dX12_tellGrowth_29 (by decide) (hp_n (n := 30) rfl ?_)
      refine m_puti (k := 47) (φ := 697) (pc' := 33) C Bh2 Mh2 fl_X12_432 rfl rfl rfl rfl rfl dX12_tellGrowth_30 rfl (fun αh4 Hh4 Lh4 σh4 eh4 Bh4 Mh4 => ?_)
      replace hf := ms_lE eh4 hf
      refine lv_aload_n hx hb dX12_tellGrowth_33 rfl (lv_at hl 0 rfl) (hp_n (n := 34) rfl ?_)
      refine st_ldcw hx hb hown (sr_X12_462 C.2) dX12_tellGrowth_34 (hp_n (n := 37) rfl ?_)
      refine lv_iload_n hx hb dX12_tellGrowth_37 rfl (lv_at hl 2 rfl) (hp_n (n := 38) rfl ?_)
      obtain ⟨σh5, qh5, hf⟩ := ms_bE hf
      refine m_cv (pc' := 41) (a := a0) (ρ := ρ) Bh4 (hp_runV (As := [.ref (Γ.2.2.2.2.1 11), .int v2_h1]) (rest := []) C Bh4 (m_X12_says n Γ l αh4 a0 ρ σh4 Mh4 11 (by decide) v2_h1 σh5 qh5) lb_X12_says lv_X12_says lk_X12_449 Mh4.1 rfl (by decide) rfl hl.1 rfl (Nat.le_of_ble_eq_true rfl) dX12_tellGrowth_38 ⟨Nat.le_refl _, Nat.le_refl _⟩) rfl (fun αh5 Hh5 Lh5 Bh5 Mh5 => ?_)
      refine lv_aload_n hx hb dX12_tellGrowth_41 rfl (lv_at hl 0 rfl) (hp_n (n := 42) rfl ?_)
      refine st_ldcw hx hb hown (sr_X12_455 C.2) dX12_tellGrowth_42 (hp_n (n := 45) rfl ?_)
      refine lv_aload_n hx hb dX12_tellGrowth_45 rfl (lv_at hl 0 rfl) (hp_n (n := 46) rfl ?_)
      refine lv_iload_n hx hb dX12_tellGrowth_46 rfl (lv_at hl 1 rfl) (hp_n (n := 47) rfl ?_)
      refine lv_iload_n hx hb dX12_tellGrowth_47 rfl (lv_at hl 2 rfl) (hp_n (n := 48) rfl ?_)
      obtain ⟨rh6, qh6, hf⟩ := ms_bE hf
      refine m_cp (pc' := 51) Bh5 (hp_runV (As := [.int v1_h1, .int v2_h1]) (rest := [.ref (Γ.2.2.2.2.1 16), .ref a0]) C Bh5 (m_X12_headOf n Γ l αh5 a0 ρ σh5 Mh5 v1_h1 v2_h1 rh6 qh6) lb_X12_headOf lv_X12_headOf lk_X12_215 Mh5.1 rfl (by decide) rfl hl.1 rfl (Nat.le_of_ble_eq_true rfl) dX12_tellGrowth_48 ⟨Nat.le_refl _, Nat.le_refl _⟩) rfl (fun Hh6 Lh6 Bh6 => ?_)
      obtain ⟨σh7, qh7, hf⟩ := ms_bE hf
      refine m_cv (pc' := 54) (a := a0) (ρ := ρ) Bh6 (hp_runV (As := [.ref (Γ.2.2.2.2.1 16), .int rh6]) (rest := []) C Bh6 (m_X12_says n Γ l αh5 a0 ρ σh5 Mh5 16 (by decide) rh6 σh7 qh7) lb_X12_says lv_X12_says lk_X12_449 Mh5.1 rfl (by decide) rfl hl.1 rfl (Nat.le_of_ble_eq_true rfl) dX12_tellGrowth_51 ⟨Nat.le_refl _, Nat.le_refl _⟩) rfl (fun αh7 Hh7 Lh7 Bh7 Mh7 => ?_)
      refine lv_aload_n hx hb dX12_tellGrowth_54 rfl (lv_at hl 0 rfl) (hp_n (n := 55) rfl ?_)
      refine st_ldcw hx hb hown (sr_X12_464 C.2) dX12_tellGrowth_55 (hp_n (n := 58) rfl ?_)
      refine lv_iload_n hx hb dX12_tellGrowth_58 rfl (lv_at hl 3 rfl) (hp_n (n := 59) rfl ?_)
      obtain ⟨σh8, qh8, hf⟩ := ms_bE hf
      refine m_cv (pc' := 62) (a := a0) (ρ := ρ) Bh7 (hp_runV (As := [.ref (Γ.2.2.2.2.1 20), .int v3_h1]) (rest := []) C Bh7 (m_X12_says n Γ l αh7 a0 ρ σh7 Mh7 20 (by decide) v3_h1 σh8 qh8) lb_X12_says lv_X12_says lk_X12_449 Mh7.1 rfl (by decide) rfl hl.1 rfl (Nat.le_of_ble_eq_true rfl) dX12_tellGrowth_59 ⟨Nat.le_refl _, Nat.le_refl _⟩) rfl (fun αh8 Hh8 Lh8 Bh8 Mh8 => ?_)
      refine lv_aload_n hx hb dX12_tellGrowth_62 rfl (lv_at hl 0 rfl) (hp_n (n := 63) rfl ?_)
      refine st_ldcw hx hb hown (sr_X12_457 C.2) dX12_tellGrowth_63 (hp_n (n := 66) rfl ?_)
      refine lv_aload_n hx hb dX12_tellGrowth_66 rfl (lv_at hl 0 rfl) (hp_n (n := 67) rfl ?_)
      refine lv_iload_n hx hb dX12_tellGrowth_67 rfl (lv_at hl 1 rfl) (hp_n (n := 68) rfl ?_)
      refine lv_iload_n hx hb dX12_tellGrowth_68 rfl (lv_at hl 3 rfl) (hp_n (n := 69) rfl ?_)
      obtain ⟨rh9, qh9, hf⟩ := ms_bE hf
      refine m_cp (pc' := 72) Bh8 (hp_runV (As := [.int v1_h1, .int v3_h1]) (rest := [.ref (Γ.2.2.2.2.1 13), .ref a0]) C Bh8 (m_X12_headOf n Γ l αh8 a0 ρ σh8 Mh8 v1_h1 v3_h1 rh9 qh9) lb_X12_headOf lv_X12_headOf lk_X12_215 Mh8.1 rfl (by decide) rfl hl.1 rfl (Nat.le_of_ble_eq_true rfl) dX12_tellGrowth_69 ⟨Nat.le_refl _, Nat.le_refl _⟩) rfl (fun Hh9 Lh9 Bh9 => ?_)
      obtain ⟨σh10, qh10, hf⟩ := ms_bE hf
      refine m_cv (pc' := 75) (a := a0) (ρ := ρ) Bh9 (hp_runV (As := [.ref (Γ.2.2.2.2.1 13), .int rh9]) (rest := []) C Bh9 (m_X12_says n Γ l αh8 a0 ρ σh8 Mh8 13 (by decide) rh9 σh10 qh10) lb_X12_says lv_X12_says lk_X12_449 Mh8.1 rfl (by decide) rfl hl.1 rfl (Nat.le_of_ble_eq_true rfl) dX12_tellGrowth_72 ⟨Nat.le_refl _, Nat.le_refl _⟩) rfl (fun αh10 Hh10 Lh10 Bh10 Mh10 => ?_)
      refine lv_aload_n hx hb dX12_tellGrowth_75 rfl (lv_at hl 0 rfl) (hp_n (n := 76) rfl ?_)
      refine lv_iload_n hx hb dX12_tellGrowth_76 rfl (lv_at hl 2 rfl) (hp_n (n := 77) rfl ?_)
      refine lv_iload_n hx hb dX12_tellGrowth_77 rfl (lv_at hl 3 rfl) (hp_n (n := 78) rfl ?_)
      obtain ⟨σh11, qh11, hf⟩ := ms_bE hf
      refine m_cv (pc' := 81) (a := a0) (ρ := ρ) Bh10 (hp_runV (As := [.int v2_h1, .int v3_h1]) (rest := []) C Bh10 (m_X12_growth n Γ l αh10 a0 ρ σh10 Mh10 v2_h1 v3_h1 σh11 qh11) lb_X12_growth lv_X12_growth lk_X12_190 Mh10.1 rfl (by decide) rfl hl.1 rfl (Nat.le_of_ble_eq_true rfl) dX12_tellGrowth_78 ⟨Nat.le_refl _, Nat.le_refl _⟩) rfl (fun αh11 Hh11 Lh11 Bh11 Mh11 => ?_)
      refine lv_aload_n hx hb dX12_tellGrowth_81 rfl (lv_at hl 0 rfl) (hp_n (n := 82) rfl ?_)
      refine lv_iload_n hx hb dX12_tellGrowth_82 rfl (lv_at hl 1 rfl) (hp_n (n := 83) rfl ?_)
      obtain ⟨rh12, σh12, qh12, hf⟩ := ms_cE hf
      refine m_ci (pc' := 86) (a := a0) (ρ := ρ) Bh11 (hp_runV (As := [.int v1_h1]) (rest := []) C Bh11 (m_X12_tellsMarks n Γ l αh11 a0 ρ σh11 Mh11 v1_h1 (rh12, σh12) qh12) lb_X12_tellsMarks lv_X12_tellsMarks lk_X12_459 Mh11.1 rfl (by decide) rfl hl.1 rfl (Nat.le_of_ble_eq_true rfl) dX12_tellGrowth_83 ⟨Nat.le_refl _, Nat.le_refl _⟩) rfl (fun αh12 Hh12 Lh12 Bh12 Mh12 => ?_)
      cases hf
      exact q_iret C Bh12 hr hlk ⟨rfl, Bh12.2.2, Mh12⟩ dX12_tellGrowth_86
    ·
      replace hf := ms_iT c3 hf
      refine lv_iconst (v := (-1)) hx hb dX12_tellGrowth_26 (by decide) (hp_n (n := 27) rfl ?_)
      cases hf
      exact q_iret C Bh2 hr hlk ⟨rfl, Bh2.2.2, Mh2⟩ dX12_tellGrowth_27
  have J10 : ∀ (αh13 : hp_T) (Hh13 : Heap) (Lh13 : List Loc) (Bh13 : hp_B Γ mo s α αh13 Hh13 Lh13) (σh13 : ms_T) (Mh13 : hm_M αh13 a0 ρ σh13) (v1_h13 : Int32) (v2_h13 : Int32) (v3_h13 : Int32) (ls : Array Slot) (hl : lv_has ls 4 [(0, .ref a0), (1, .int v1_h13), (2, .int v2_h13), (3, .int v3_h13)]) (hf : f_X12_tellGrowth_J10 n σh13 v1_h13 v2_h13 v3_h13 = some res), W p l e (hp_rm 44 0 0) s m ([.ref a0, .int a1, .int a2, .int a3] : List Value).toArray below meth c Hh13 Lh13 0 0 (MQ below (hp_Qi Γ (fun r β => r = res.1 ∧ mo α β ∧ hm_M β a0 ρ res.2)) ([.ref a0, .int a1, .int a2, .int a3] : List Value).toArray s 0 0 (hp_A Γ)) (F0 m 10 ls [.ref a0]) := by
    intro αh13 Hh13 Lh13 Bh13 σh13 Mh13 v1_h13 v2_h13 v3_h13 ls hl hf
    unfold f_X12_tellGrowth_J10 at hf
    refine lv_iconst (v := 1) hx hb dX12_tellGrowth_10 (by decide) (hp_n (n := 11) rfl ?_)
    refine lv_goto (tgt := 20) hx hb dX12_tellGrowth_11 (by decide) ?_
    exact J20 αh13 Hh13 Lh13 Bh13 σh13 Mh13 v1_h13 v2_h13 v3_h13 (1 : Int32) ls (lv_sub hl [0, 1, 2, 3] rfl) hf
  refine lv_if_lt (tgt := 10) hx hb dX12_tellGrowth_2 (by decide) (fun c14 => ?_) (fun c14 => hp_n (n := 5) rfl ?_)
  ·
    replace hf := ms_iT c14 hf
    exact J10 α s.heap [] B σ hM a1 a2 a3 ls (lv_sub hl [0, 1, 2, 3] rfl) hf
  ·
    replace hf := ms_iF c14 hf
    refine lv_iload_n hx hb dX12_tellGrowth_5 rfl (lv_at hl 2 rfl) (hp_n (n := 6) rfl ?_)
    refine lv_iload_n hx hb dX12_tellGrowth_6 rfl (lv_at hl 3 rfl) (hp_n (n := 7) rfl ?_)
    refine lv_icmp_le (tgt := 14) hx hb dX12_tellGrowth_7 (by decide) (fun c15 => ?_) (fun c15 => hp_n (n := 10) rfl ?_)
    ·
      replace hf := ms_iT c15 hf
      refine lv_aload_n hx hb dX12_tellGrowth_14 rfl (lv_at hl 0 rfl) (hp_n (n := 15) rfl ?_)
      refine lv_iload_n hx hb dX12_tellGrowth_15 rfl (lv_at hl 1 rfl) (hp_n (n := 16) rfl ?_)
      refine lv_iload_n hx hb dX12_tellGrowth_16 rfl (lv_at hl 3 rfl) (hp_n (n := 17) rfl ?_)
      obtain ⟨rh16, qh16, hf⟩ := ms_bE hf
      refine m_cp (pc' := 20) B (hp_runV (As := [.int a1, .int a3]) (rest := [.ref a0]) C B (m_X12_noSize n Γ l α a0 ρ σ hM a1 a3 rh16 qh16) lb_X12_noSize lv_X12_noSize lk_X12_347 hM.1 rfl (by decide) rfl hl.1 rfl (Nat.le_of_ble_eq_true rfl) dX12_tellGrowth_17 ⟨Nat.le_refl _, Nat.le_refl _⟩) rfl (fun Hh16 Lh16 Bh16 => ?_)
      exact J20 α Hh16 Lh16 Bh16 σ hM a1 a2 a3 rh16 ls (lv_sub hl [0, 1, 2, 3] rfl) hf
    ·
      replace hf := ms_iF c15 hf
      exact J10 α s.heap [] B σ hM a1 a2 a3 ls (lv_sub hl [0, 1, 2, 3] rfl) hf
def f_X12_out_J22 (n : Nat) (σh1 : ms_T) (v1_h1 : Int32) (w0_h1 : Int32) : Option (Int32 × ms_T) :=
  ms_c (f_X12_is n σh1 w0_h1) fun rh2 σh2 =>
  if rh2 = 0 then
    some ((-1 : Int32), σh2)
  else
    ms_g v1_h1 900 <|
    some ((ms_E σh2 59 (v1_h1).toNatClampNeg), σh2)
def f_X12_out (n : Nat) (σ : ms_T) (a1 : Int32) : Option (Int32 × ms_T) :=
  if 0 ≤ a1 then
    if a1 < (ms_I σ 697) then
      f_X12_out_J22 n σ a1 (0 : Int32)
    else
      f_X12_out_J22 n σ a1 (5 : Int32)
  else
    f_X12_out_J22 n σ a1 (1 : Int32)
set_option maxRecDepth 100000 in
set_option maxHeartbeats 4000000 in
theorem m_X12_out (n : Nat) (Γ : hp_G) (l : Launch) (α : hp_T) (a0 : Nat) (ρ : Nat → Nat) (σ : ms_T) (hM : hm_M α a0 ρ σ) (a1 : Int32) (res : (Int32 × ms_T)) (hf : f_X12_out n σ a1 = some res) : Met l yX12_out (hp_ws yX12_out cX12_out 2 (some .int)) (hp_rm 1 0 0) (hp_Pc Γ α [.ref a0, .int a1]) (hp_Qi Γ (fun r β => r = res.1 ∧ mo α β ∧ hm_M β a0 ρ res.2)) 0 0 (hp_A Γ) := by
  unfold f_X12_out at hf
  refine hp_start (by decide) ?_
  intro p e s m below meth c C hr hlk B0 hnm
  have C : hp_C Γ p m c cX12_out 2 s ([.ref a0, .int a1] : List Value).toArray RX12 := C
  have hx := C.1.1
  have hb := C.1.2.1
  have hown := C.1.2.2.2.1
  have hts := C.1.2.2.2.2
  have B : hp_B Γ mo s α α s.heap [] := ⟨B0.1, B0.2.1, mo_rf⟩
  have hl := lv_entry ([.ref a0, .int a1]) (n := 2) (Nat.le_of_ble_eq_true rfl)
  show W p l e (hp_rm 1 0 0) s m ([.ref a0, .int a1] : List Value).toArray below meth c s.heap [] 0 0 (MQ below (hp_Qi Γ (fun r β => r = res.1 ∧ mo α β ∧ hm_M β a0 ρ res.2)) ([.ref a0, .int a1] : List Value).toArray s 0 0 (hp_A Γ)) (entryFrame m ([.ref a0, .int a1] : List Value).toArray 2)
  rw [lg_entry_eq]
  generalize (lg_sl ([.ref a0, .int a1]) ++ List.replicate (2 - (lg_sl ([.ref a0, .int a1])).length) Slot.unset).toArray = ls at hl ⊢
  have hl : lv_has ls 2 [(0, .ref a0), (1, .int a1)] := hl
  refine lv_aload_n hx hb dX12_out_0 rfl (lv_at hl 0 rfl) (hp_n (n := 1) rfl ?_)
  refine lv_iload_n hx hb dX12_out_1 rfl (lv_at hl 1 rfl) (hp_n (n := 2) rfl ?_)
  have J22 : ∀ (αh1 : hp_T) (Hh1 : Heap) (Lh1 : List Loc) (Bh1 : hp_B Γ mo s α αh1 Hh1 Lh1) (σh1 : ms_T) (Mh1 : hm_M αh1 a0 ρ σh1) (v1_h1 : Int32) (w0_h1 : Int32) (ls : Array Slot) (hl : lv_has ls 2 [(0, .ref a0), (1, .int v1_h1)]) (hf : f_X12_out_J22 n σh1 v1_h1 w0_h1 = some res), W p l e (hp_rm 1 0 0) s m ([.ref a0, .int a1] : List Value).toArray below meth c Hh1 Lh1 0 0 (MQ below (hp_Qi Γ (fun r β => r = res.1 ∧ mo α β ∧ hm_M β a0 ρ res.2)) ([.ref a0, .int a1] : List Value).toArray s 0 0 (hp_A Γ)) (F0 m 22 ls [.int w0_h1, .ref a0]) := by
    intro αh1 Hh1 Lh1 Bh1 σh1 Mh1 v1_h1 w0_h1 ls hl hf
    unfold f_X12_out_J22 at hf
    obtain ⟨rh2, σh2, qh2, hf⟩ := ms_cE hf
    refine m_ci (pc' := 25) (a := a0) (ρ := ρ) Bh1 (hp_runV (As := [.int w0_h1]) (rest := []) C Bh1 (m_X12_is n Γ l αh1 a0 ρ σh1 Mh1 w0_h1 (rh2, σh2) qh2) lb_X12_is lv_X12_is lk_X12_309 Mh1.1 rfl (by decide) rfl hl.1 rfl (Nat.le_of_ble_eq_true rfl) dX12_out_22 ⟨Nat.le_refl _, Nat.le_refl _⟩) rfl (fun αh2 Hh2 Lh2 Bh2 Mh2 => ?_)
    refine lv_if_eq (tgt := 37) hx hb dX12_out_25 (by decide) (fun c3 => ?_) (fun c3 => hp_n (n := 28) rfl ?_)
    ·
      replace hf := ms_iT c3 hf
      refine lv_iconst (v := (-1)) hx hb dX12_out_37 (by decide) (hp_n (n := 38) rfl ?_)
      cases hf
      exact q_iret C Bh2 hr hlk ⟨rfl, Bh2.2.2, Mh2⟩ dX12_out_38
    ·
      replace hf := ms_iF c3 hf
      refine lv_aload_n hx hb dX12_out_28 rfl (lv_at hl 0 rfl) (hp_n (n := 29) rfl ?_)
      refine m_getr (κ := 59) (k := 46) (pc' := 32) C Bh2 Mh2 fl_X12_100 rfl (by decide) dX12_out_29 rfl ?_
      refine lv_iload_n hx hb dX12_out_32 rfl (lv_at hl 1 rfl) (hp_n (n := 33) rfl ?_)
      obtain ⟨g4, hf⟩ := ms_gE hf
      refine m_ial (κ := 59) (φ := 696) (n := 900) (pc' := 34) C Bh2 Mh2 (by decide) (by decide) rfl g4 dX12_out_33 rfl ?_
      refine lv_goto (tgt := 38) hx hb dX12_out_34 (by decide) ?_
      cases hf
      exact q_iret C Bh2 hr hlk ⟨rfl, Bh2.2.2, Mh2⟩ dX12_out_38
  refine lv_if_ge (tgt := 9) hx hb dX12_out_2 (by decide) (fun c5 => ?_) (fun c5 => hp_n (n := 5) rfl ?_)
  ·
    replace hf := ms_iT c5 hf
    refine lv_iload_n hx hb dX12_out_9 rfl (lv_at hl 1 rfl) (hp_n (n := 10) rfl ?_)
    refine lv_aload_n hx hb dX12_out_10 rfl (lv_at hl 0 rfl) (hp_n (n := 11) rfl ?_)
    refine m_geti (k := 47) (φ := 697) (pc' := 14) C B hM fl_X12_432 rfl rfl dX12_out_11 rfl ?_
    refine lv_icmp_lt (tgt := 21) hx hb dX12_out_14 (by decide) (fun c6 => ?_) (fun c6 => hp_n (n := 17) rfl ?_)
    ·
      replace hf := ms_iT c6 hf
      refine lv_iconst (v := 0) hx hb dX12_out_21 (by decide) (hp_n (n := 22) rfl ?_)
      exact J22 α s.heap [] B σ hM a1 (0 : Int32) ls (lv_sub hl [0, 1] rfl) hf
    ·
      replace hf := ms_iF c6 hf
      refine lv_iconst (v := 5) hx hb dX12_out_17 (by decide) (hp_n (n := 18) rfl ?_)
      refine lv_goto (tgt := 22) hx hb dX12_out_18 (by decide) ?_
      exact J22 α s.heap [] B σ hM a1 (5 : Int32) ls (lv_sub hl [0, 1] rfl) hf
  ·
    replace hf := ms_iF c5 hf
    refine lv_iconst (v := 1) hx hb dX12_out_5 (by decide) (hp_n (n := 6) rfl ?_)
    refine lv_goto (tgt := 22) hx hb dX12_out_6 (by decide) ?_
    exact J22 α s.heap [] B σ hM a1 (1 : Int32) ls (lv_sub hl [0, 1] rfl) hf
def f_X12_trusted_J65 (n : Nat) (rec31 : ms_T → Int32 → Int32 → Int32 → Int32 → Option (Int32 × ms_T)) (σh7 : ms_T) (v1_h7 : Int32) (v2_h7 : Int32) (v4_h7 : Int32) (w0_h7 : Int32) (w1_h7 : Int32) : Option (Int32 × ms_T) :=
  ms_l ((w1_h7 + w0_h7)) fun x8 =>
  ms_l (v4_h7 + 1) fun x9 =>
  rec31 σh7 v1_h7 v2_h7 x8 x9
def f_X12_trusted_J64 (n : Nat) (rec31 : ms_T → Int32 → Int32 → Int32 → Int32 → Option (Int32 × ms_T)) (σh10 : ms_T) (v1_h10 : Int32) (v2_h10 : Int32) (v4_h10 : Int32) (w0_h10 : Int32) : Option (Int32 × ms_T) :=
  f_X12_trusted_J65 n rec31 σh10 v1_h10 v2_h10 v4_h10 (0 : Int32) w0_h10
def f_X12_trusted_L31 (n : Nat) : Nat → ms_T → Int32 → Int32 → Int32 → Int32 → Option (Int32 × ms_T)
  | 0, _, _, _, _, _ => none
  | k31 + 1, σh4, v1_h4, v2_h4, v3_h4, v4_h4 =>
    if (4 : Int32) ≤ v4_h4 then
      some (v3_h4, σh4)
    else
      ms_b (f_X12_trust n σh4 v4_h4 (0 : Int32)) fun rh6 =>
      if rh6 = v1_h4 then
        ms_b (f_X12_trust n σh4 v4_h4 (1 : Int32)) fun rh12 =>
        if rh12 = v2_h4 then
          f_X12_trusted_J65 n (f_X12_trusted_L31 n k31) σh4 v1_h4 v2_h4 v4_h4 (1 : Int32) v3_h4
        else
          f_X12_trusted_J64 n (f_X12_trusted_L31 n k31) σh4 v1_h4 v2_h4 v4_h4 v3_h4
      else
        f_X12_trusted_J64 n (f_X12_trusted_L31 n k31) σh4 v1_h4 v2_h4 v4_h4 v3_h4
def f_X12_trusted_J18 (n : Nat) (σh1 : ms_T) (v1_h1 : Int32) (v2_h1 : Int32) (w0_h1 : Int32) : Option (Int32 × ms_T) :=
  ms_c (f_X12_is n σh1 w0_h1) fun rh2 σh2 =>
  if rh2 = 0 then
    some ((-1 : Int32), σh2)
  else
    f_X12_trusted_L31 n n σh2 v1_h1 v2_h1 (0 : Int32) (0 : Int32)
def f_X12_trusted_J13 (n : Nat) (σh14 : ms_T) (v1_h14 : Int32) (v2_h14 : Int32) : Option (Int32 × ms_T) :=
  f_X12_trusted_J18 n σh14 v1_h14 v2_h14 (1 : Int32)
def f_X12_trusted (n : Nat) (σ : ms_T) (a1 : Int32) (a2 : Int32) : Option (Int32 × ms_T) :=
  if a1 < 0 then
    f_X12_trusted_J13 n σ a1 a2
  else
    ms_b (f_X12_isMark n σ a2) fun rh16 =>
    if rh16 = 0 then
      f_X12_trusted_J13 n σ a1 a2
    else
      f_X12_trusted_J18 n σ a1 a2 (0 : Int32)
set_option maxRecDepth 100000 in
set_option maxHeartbeats 4000000 in
theorem m_X12_trusted (n : Nat) (Γ : hp_G) (l : Launch) (α : hp_T) (a0 : Nat) (ρ : Nat → Nat) (σ : ms_T) (hM : hm_M α a0 ρ σ) (a1 : Int32) (a2 : Int32) (res : (Int32 × ms_T)) (hf : f_X12_trusted n σ a1 a2 = some res) : Met l yX12_trusted (hp_ws yX12_trusted cX12_trusted 5 (some .int)) (hp_rm 2 0 0) (hp_Pc Γ α [.ref a0, .int a1, .int a2]) (hp_Qi Γ (fun r β => r = res.1 ∧ mo α β ∧ hm_M β a0 ρ res.2)) 0 0 (hp_A Γ) := by
  unfold f_X12_trusted at hf
  refine hp_start (by decide) ?_
  intro p e s m below meth c C hr hlk B0 hnm
  have C : hp_C Γ p m c cX12_trusted 5 s ([.ref a0, .int a1, .int a2] : List Value).toArray RX12 := C
  have hx := C.1.1
  have hb := C.1.2.1
  have hown := C.1.2.2.2.1
  have hts := C.1.2.2.2.2
  have B : hp_B Γ mo s α α s.heap [] := ⟨B0.1, B0.2.1, mo_rf⟩
  have hl := lv_entry ([.ref a0, .int a1, .int a2]) (n := 5) (Nat.le_of_ble_eq_true rfl)
  show W p l e (hp_rm 2 0 0) s m ([.ref a0, .int a1, .int a2] : List Value).toArray below meth c s.heap [] 0 0 (MQ below (hp_Qi Γ (fun r β => r = res.1 ∧ mo α β ∧ hm_M β a0 ρ res.2)) ([.ref a0, .int a1, .int a2] : List Value).toArray s 0 0 (hp_A Γ)) (entryFrame m ([.ref a0, .int a1, .int a2] : List Value).toArray 5)
  rw [lg_entry_eq]
  generalize (lg_sl ([.ref a0, .int a1, .int a2]) ++ List.replicate (5 - (lg_sl ([.ref a0, .int a1, .int a2])).length) Slot.unset).toArray = ls at hl ⊢
  have hl : lv_has ls 5 [(0, .ref a0), (1, .int a1), (2, .int a2)] := hl
  refine lv_aload_n hx hb dX12_trusted_0 rfl (lv_at hl 0 rfl) (hp_n (n := 1) rfl ?_)
  refine lv_iload_n hx hb dX12_trusted_1 rfl (lv_at hl 1 rfl) (hp_n (n := 2) rfl ?_)
  have J18 : ∀ (αh1 : hp_T) (Hh1 : Heap) (Lh1 : List Loc) (Bh1 : hp_B Γ mo s α αh1 Hh1 Lh1) (σh1 : ms_T) (Mh1 : hm_M αh1 a0 ρ σh1) (v1_h1 : Int32) (v2_h1 : Int32) (w0_h1 : Int32) (ls : Array Slot) (hl : lv_has ls 5 [(0, .ref a0), (1, .int v1_h1), (2, .int v2_h1)]) (hf : f_X12_trusted_J18 n σh1 v1_h1 v2_h1 w0_h1 = some res), W p l e (hp_rm 2 0 0) s m ([.ref a0, .int a1, .int a2] : List Value).toArray below meth c Hh1 Lh1 0 0 (MQ below (hp_Qi Γ (fun r β => r = res.1 ∧ mo α β ∧ hm_M β a0 ρ res.2)) ([.ref a0, .int a1, .int a2] : List Value).toArray s 0 0 (hp_A Γ)) (F0 m 18 ls [.int w0_h1, .ref a0]) := by
    intro αh1 Hh1 Lh1 Bh1 σh1 Mh1 v1_h1 v2_h1 w0_h1 ls hl hf
    unfold f_X12_trusted_J18 at hf
    obtain ⟨rh2, σh2, qh2, hf⟩ := ms_cE hf
    refine m_ci (pc' := 21) (a := a0) (ρ := ρ) Bh1 (hp_runV (As := [.int w0_h1]) (rest := []) C Bh1 (m_X12_is n Γ l αh1 a0 ρ σh1 Mh1 w0_h1 (rh2, σh2) qh2) lb_X12_is lv_X12_is lk_X12_309 Mh1.1 rfl (by decide) rfl hl.1 rfl (Nat.le_of_ble_eq_true rfl) dX12_trusted_18 ⟨Nat.le_refl _, Nat.le_refl _⟩) rfl (fun αh2 Hh2 Lh2 Bh2 Mh2 => ?_)
    refine lv_if_ne (tgt := 26) hx hb dX12_trusted_21 (by decide) (fun c3 => ?_) (fun c3 => hp_n (n := 24) rfl ?_)
    ·
      replace hf := ms_iF c3 hf
      refine lv_iconst (v := 0) hx hb dX12_trusted_26 (by decide) (hp_n (n := 27) rfl ?_)
      refine lv_istore_n (lv' := [(3, .int (0 : Int32)), (0, .ref a0), (1, .int v1_h1), (2, .int v2_h1)]) hx hb dX12_trusted_27 rfl hl (by decide) rfl (fun ls hl => hp_n (n := 28) rfl ?_)
      refine lv_iconst (v := 0) hx hb dX12_trusted_28 (by decide) (hp_n (n := 29) rfl ?_)
      have J31 : ∀ (k31 : Nat) (αh4 : hp_T) (Hh4 : Heap) (Lh4 : List Loc) (Bh4 : hp_B Γ mo s α αh4 Hh4 Lh4) (σh4 : ms_T) (Mh4 : hm_M αh4 a0 ρ σh4) (v1_h4 : Int32) (v2_h4 : Int32) (v3_h4 : Int32) (v4_h4 : Int32) (ls : Array Slot) (hl : lv_has ls 5 [(0, .ref a0), (1, .int v1_h4), (2, .int v2_h4), (3, .int v3_h4), (4, .int v4_h4)]) (hf : f_X12_trusted_L31 n k31 σh4 v1_h4 v2_h4 v3_h4 v4_h4 = some res), W p l e (hp_rm 2 0 0) s m ([.ref a0, .int a1, .int a2] : List Value).toArray below meth c Hh4 Lh4 0 0 (MQ below (hp_Qi Γ (fun r β => r = res.1 ∧ mo α β ∧ hm_M β a0 ρ res.2)) ([.ref a0, .int a1, .int a2] : List Value).toArray s 0 0 (hp_A Γ)) (F0 m 31 ls []) := by
        intro k31
        induction k31 with
        | zero => intro αh4 Hh4 Lh4 Bh4 σh4 Mh4 v1_h4 v2_h4 v3_h4 v4_h4 ls hl hf; rw [f_X12_trusted_L31.eq_1] at hf; cases hf
        | succ k31 ih31 =>
          intro αh4 Hh4 Lh4 Bh4 σh4 Mh4 v1_h4 v2_h4 v3_h4 v4_h4 ls hl hf
          rw [f_X12_trusted_L31.eq_2] at hf
          refine lv_iload hx hb dX12_trusted_31 (lv_at hl 4 rfl) (hp_n (n := 33) rfl ?_)
          refine lv_iconst (v := 4) hx hb dX12_trusted_33 (by decide) (hp_n (n := 34) rfl ?_)
          refine lv_icmp_ge (tgt := 73) hx hb dX12_trusted_34 (by decide) (fun c5 => ?_) (fun c5 => hp_n (n := 37) rfl ?_)
          ·
            replace hf := ms_iT c5 hf
            refine lv_iload_n hx hb dX12_trusted_73 rfl (lv_at hl 3 rfl) (hp_n (n := 74) rfl ?_)
            cases hf
            exact q_iret C Bh4 hr hlk ⟨rfl, Bh4.2.2, Mh4⟩ dX12_trusted_74
          ·
            replace hf := ms_iF c5 hf
            refine lv_iload_n hx hb dX12_trusted_37 rfl (lv_at hl 3 rfl) (hp_n (n := 38) rfl ?_)
            refine lv_aload_n hx hb dX12_trusted_38 rfl (lv_at hl 0 rfl) (hp_n (n := 39) rfl ?_)
            refine lv_iload hx hb dX12_trusted_39 (lv_at hl 4 rfl) (hp_n (n := 41) rfl ?_)
            refine lv_iconst (v := 0) hx hb dX12_trusted_41 (by decide) (hp_n (n := 42) rfl ?_)
            obtain ⟨rh6, qh6, hf⟩ := ms_bE hf
            refine m_cp (pc' := 45) Bh4 (hp_runV (As := [.int v4_h4, .int (0 : Int32)]) (rest := [.int v3_h4]) C Bh4 (m_X12_trust n Γ l αh4 a0 ρ σh4 Mh4 v4_h4 (0 : Int32) rh6 qh6) lb_X12_trust lv_X12_trust lk_X12_221 Mh4.1 rfl (by decide) rfl hl.1 rfl (Nat.le_of_ble_eq_true rfl) dX12_trusted_42 ⟨Nat.le_refl _, Nat.le_refl _⟩) rfl (fun Hh6 Lh6 Bh6 => ?_)
            refine lv_iload_n hx hb dX12_trusted_45 rfl (lv_at hl 1 rfl) (hp_n (n := 46) rfl ?_)
            have J65 : ∀ (αh7 : hp_T) (Hh7 : Heap) (Lh7 : List Loc) (Bh7 : hp_B Γ mo s α αh7 Hh7 Lh7) (σh7 : ms_T) (Mh7 : hm_M αh7 a0 ρ σh7) (v1_h7 : Int32) (v2_h7 : Int32) (v4_h7 : Int32) (w0_h7 : Int32) (w1_h7 : Int32) (ls : Array Slot) (hl : lv_has ls 5 [(0, .ref a0), (1, .int v1_h7), (2, .int v2_h7), (4, .int v4_h7)]) (hf : f_X12_trusted_J65 n (f_X12_trusted_L31 n k31) σh7 v1_h7 v2_h7 v4_h7 w0_h7 w1_h7 = some res), W p l e (hp_rm 2 0 0) s m ([.ref a0, .int a1, .int a2] : List Value).toArray below meth c Hh7 Lh7 0 0 (MQ below (hp_Qi Γ (fun r β => r = res.1 ∧ mo α β ∧ hm_M β a0 ρ res.2)) ([.ref a0, .int a1, .int a2] : List Value).toArray s 0 0 (hp_A Γ)) (F0 m 65 ls [.int w0_h7, .int w1_h7]) := by
              intro αh7 Hh7 Lh7 Bh7 σh7 Mh7 v1_h7 v2_h7 v4_h7 w0_h7 w1_h7 ls hl hf
              unfold f_X12_trusted_J65 at hf
              refine lv_iadd hx hb dX12_trusted_65 (hp_n (n := 66) rfl ?_)
              refine lv_topi (fun x8 ex8 => ?_)
              replace hf := ms_lE ex8 hf
              refine lv_istore_n (lv' := [(3, .int x8), (0, .ref a0), (1, .int v1_h7), (2, .int v2_h7), (4, .int v4_h7)]) hx hb dX12_trusted_66 rfl hl (by decide) rfl (fun ls hl => hp_n (n := 67) rfl ?_)
              obtain ⟨x9, ex9⟩ : ∃ y : Int32, y = v4_h7 + 1 := ⟨_, rfl⟩
              replace hf := ms_lE ex9 hf
              refine lv_iinc (v := x9) (lv' := [(4, .int x9), (3, .int x8), (0, .ref a0), (1, .int v1_h7), (2, .int v2_h7)]) hx hb dX12_trusted_67 hl (k := 4) rfl (by rw [ex9]; rfl) (by decide) rfl (fun ls hl => hp_n (n := 70) rfl ?_)
              refine lv_goto (tgt := 31) hx hb dX12_trusted_70 (by decide) ?_
              exact ih31 αh7 Hh7 Lh7 Bh7 σh7 Mh7 v1_h7 v2_h7 x8 x9 ls (lv_sub hl [2, 3, 4, 1, 0] rfl) hf
            have J64 : ∀ (αh10 : hp_T) (Hh10 : Heap) (Lh10 : List Loc) (Bh10 : hp_B Γ mo s α αh10 Hh10 Lh10) (σh10 : ms_T) (Mh10 : hm_M αh10 a0 ρ σh10) (v1_h10 : Int32) (v2_h10 : Int32) (v4_h10 : Int32) (w0_h10 : Int32) (ls : Array Slot) (hl : lv_has ls 5 [(0, .ref a0), (1, .int v1_h10), (2, .int v2_h10), (4, .int v4_h10)]) (hf : f_X12_trusted_J64 n (f_X12_trusted_L31 n k31) σh10 v1_h10 v2_h10 v4_h10 w0_h10 = some res), W p l e (hp_rm 2 0 0) s m ([.ref a0, .int a1, .int a2] : List Value).toArray below meth c Hh10 Lh10 0 0 (MQ below (hp_Qi Γ (fun r β => r = res.1 ∧ mo α β ∧ hm_M β a0 ρ res.2)) ([.ref a0, .int a1, .int a2] : List Value).toArray s 0 0 (hp_A Γ)) (F0 m 64 ls [.int w0_h10]) := by
              intro αh10 Hh10 Lh10 Bh10 σh10 Mh10 v1_h10 v2_h10 v4_h10 w0_h10 ls hl hf
              unfold f_X12_trusted_J64 at hf
              refine lv_iconst (v := 0) hx hb dX12_trusted_64 (by decide) (hp_n (n := 65) rfl ?_)
              exact J65 αh10 Hh10 Lh10 Bh10 σh10 Mh10 v1_h10 v2_h10 v4_h10 (0 : Int32) w0_h10 ls (lv_sub hl [0, 1, 2, 3] rfl) hf
            refine lv_icmp_ne (tgt := 64) hx hb dX12_trusted_46 (by decide) (fun c11 => ?_) (fun c11 => hp_n (n := 49) rfl ?_)
            ·
              replace hf := ms_iF c11 hf
              exact J64 αh4 Hh6 Lh6 Bh6 σh4 Mh4 v1_h4 v2_h4 v4_h4 v3_h4 ls (lv_sub hl [0, 1, 2, 4] rfl) hf
            ·
              replace hf := ms_iT c11 hf
              refine lv_aload_n hx hb dX12_trusted_49 rfl (lv_at hl 0 rfl) (hp_n (n := 50) rfl ?_)
              refine lv_iload hx hb dX12_trusted_50 (lv_at hl 4 rfl) (hp_n (n := 52) rfl ?_)
              refine lv_iconst (v := 1) hx hb dX12_trusted_52 (by decide) (hp_n (n := 53) rfl ?_)
              obtain ⟨rh12, qh12, hf⟩ := ms_bE hf
              refine m_cp (pc' := 56) Bh6 (hp_runV (As := [.int v4_h4, .int (1 : Int32)]) (rest := [.int v3_h4]) C Bh6 (m_X12_trust n Γ l αh4 a0 ρ σh4 Mh4 v4_h4 (1 : Int32) rh12 qh12) lb_X12_trust lv_X12_trust lk_X12_221 Mh4.1 rfl (by decide) rfl hl.1 rfl (Nat.le_of_ble_eq_true rfl) dX12_trusted_53 ⟨Nat.le_refl _, Nat.le_refl _⟩) rfl (fun Hh12 Lh12 Bh12 => ?_)
              refine lv_iload_n hx hb dX12_trusted_56 rfl (lv_at hl 2 rfl) (hp_n (n := 57) rfl ?_)
              refine lv_icmp_ne (tgt := 64) hx hb dX12_trusted_57 (by decide) (fun c13 => ?_) (fun c13 => hp_n (n := 60) rfl ?_)
              ·
                replace hf := ms_iF c13 hf
                exact J64 αh4 Hh12 Lh12 Bh12 σh4 Mh4 v1_h4 v2_h4 v4_h4 v3_h4 ls (lv_sub hl [0, 1, 2, 4] rfl) hf
              ·
                replace hf := ms_iT c13 hf
                refine lv_iconst (v := 1) hx hb dX12_trusted_60 (by decide) (hp_n (n := 61) rfl ?_)
                refine lv_goto (tgt := 65) hx hb dX12_trusted_61 (by decide) ?_
                exact J65 αh4 Hh12 Lh12 Bh12 σh4 Mh4 v1_h4 v2_h4 v4_h4 (1 : Int32) v3_h4 ls (lv_sub hl [0, 1, 2, 4] rfl) hf
      refine lv_istore (lv' := [(4, .int (0 : Int32)), (3, .int (0 : Int32)), (0, .ref a0), (1, .int v1_h1), (2, .int v2_h1)]) hx hb dX12_trusted_29 hl (by decide) rfl (fun ls hl => hp_n (n := 31) rfl ?_)
      exact J31 n αh2 Hh2 Lh2 Bh2 σh2 Mh2 v1_h1 v2_h1 (0 : Int32) (0 : Int32) ls (lv_sub hl [2, 3, 4, 1, 0] rfl) hf
    ·
      replace hf := ms_iT c3 hf
      refine lv_iconst (v := (-1)) hx hb dX12_trusted_24 (by decide) (hp_n (n := 25) rfl ?_)
      cases hf
      exact q_iret C Bh2 hr hlk ⟨rfl, Bh2.2.2, Mh2⟩ dX12_trusted_25
  have J13 : ∀ (αh14 : hp_T) (Hh14 : Heap) (Lh14 : List Loc) (Bh14 : hp_B Γ mo s α αh14 Hh14 Lh14) (σh14 : ms_T) (Mh14 : hm_M αh14 a0 ρ σh14) (v1_h14 : Int32) (v2_h14 : Int32) (ls : Array Slot) (hl : lv_has ls 5 [(0, .ref a0), (1, .int v1_h14), (2, .int v2_h14)]) (hf : f_X12_trusted_J13 n σh14 v1_h14 v2_h14 = some res), W p l e (hp_rm 2 0 0) s m ([.ref a0, .int a1, .int a2] : List Value).toArray below meth c Hh14 Lh14 0 0 (MQ below (hp_Qi Γ (fun r β => r = res.1 ∧ mo α β ∧ hm_M β a0 ρ res.2)) ([.ref a0, .int a1, .int a2] : List Value).toArray s 0 0 (hp_A Γ)) (F0 m 13 ls [.ref a0]) := by
    intro αh14 Hh14 Lh14 Bh14 σh14 Mh14 v1_h14 v2_h14 ls hl hf
    unfold f_X12_trusted_J13 at hf
    refine lv_iconst (v := 1) hx hb dX12_trusted_13 (by decide) (hp_n (n := 14) rfl ?_)
    refine lv_goto (tgt := 18) hx hb dX12_trusted_14 (by decide) ?_
    exact J18 αh14 Hh14 Lh14 Bh14 σh14 Mh14 v1_h14 v2_h14 (1 : Int32) ls (lv_sub hl [0, 1, 2] rfl) hf
  refine lv_if_lt (tgt := 13) hx hb dX12_trusted_2 (by decide) (fun c15 => ?_) (fun c15 => hp_n (n := 5) rfl ?_)
  ·
    replace hf := ms_iT c15 hf
    exact J13 α s.heap [] B σ hM a1 a2 ls (lv_sub hl [0, 1, 2] rfl) hf
  ·
    replace hf := ms_iF c15 hf
    refine lv_aload_n hx hb dX12_trusted_5 rfl (lv_at hl 0 rfl) (hp_n (n := 6) rfl ?_)
    refine lv_iload_n hx hb dX12_trusted_6 rfl (lv_at hl 2 rfl) (hp_n (n := 7) rfl ?_)
    obtain ⟨rh16, qh16, hf⟩ := ms_bE hf
    refine m_cp (pc' := 10) B (hp_runV (As := [.int a2]) (rest := [.ref a0]) C B (m_X12_isMark n Γ l α a0 ρ σ hM a2 rh16 qh16) lb_X12_isMark lv_X12_isMark lk_X12_321 hM.1 rfl (by decide) rfl hl.1 rfl (Nat.le_of_ble_eq_true rfl) dX12_trusted_7 ⟨Nat.le_refl _, Nat.le_refl _⟩) rfl (fun Hh16 Lh16 Bh16 => ?_)
    refine lv_if_ne (tgt := 17) hx hb dX12_trusted_10 (by decide) (fun c17 => ?_) (fun c17 => hp_n (n := 13) rfl ?_)
    ·
      replace hf := ms_iF c17 hf
      refine lv_iconst (v := 0) hx hb dX12_trusted_17 (by decide) (hp_n (n := 18) rfl ?_)
      exact J18 α Hh16 Lh16 Bh16 σ hM a1 a2 (0 : Int32) ls (lv_sub hl [0, 1, 2] rfl) hf
    ·
      replace hf := ms_iT c17 hf
      exact J13 α Hh16 Lh16 Bh16 σ hM a1 a2 ls (lv_sub hl [0, 1, 2] rfl) hf
def f_X12_saves_J64 (n : Nat) (rec31 : ms_T → Int32 → Int32 → Int32 → Int32 → Option (Int32 × ms_T)) (σh7 : ms_T) (v1_h7 : Int32) (v2_h7 : Int32) (v3_h7 : Int32) (v4_h7 : Int32) : Option (Int32 × ms_T) :=
  ms_l (v4_h7 + 1) fun x8 =>
  rec31 σh7 v1_h7 v2_h7 v3_h7 x8
def f_X12_saves_L31 (n : Nat) : Nat → ms_T → Int32 → Int32 → Int32 → Int32 → Option (Int32 × ms_T)
  | 0, _, _, _, _, _ => none
  | k31 + 1, σh4, v1_h4, v2_h4, v3_h4, v4_h4 =>
    if (30 : Int32) ≤ v4_h4 then
      ms_b (f_X12_bundleOf n σh4 v1_h4 v2_h4) fun σh6 =>
      some ((v3_h4 - (ms_I σh6 657)), σh6)
    else
      if ((v1_h4 >>> (v4_h4 &&& 31)) &&& (1 : Int32)) = 0 then
        f_X12_saves_J64 n (f_X12_saves_L31 n k31) σh4 v1_h4 v2_h4 v3_h4 v4_h4
      else
        ms_b (f_X12_inclusion n σh4 v4_h4 v2_h4) fun σh10 =>
        ms_l ((v3_h4 + (ms_I σh10 657))) fun x11 =>
        f_X12_saves_J64 n (f_X12_saves_L31 n k31) σh10 v1_h4 v2_h4 x11 v4_h4
def f_X12_saves_J18 (n : Nat) (σh1 : ms_T) (v1_h1 : Int32) (v2_h1 : Int32) (w0_h1 : Int32) : Option (Int32 × ms_T) :=
  ms_c (f_X12_is n σh1 w0_h1) fun rh2 σh2 =>
  if rh2 = 0 then
    some ((-1 : Int32), σh2)
  else
    f_X12_saves_L31 n n σh2 v1_h1 v2_h1 (0 : Int32) (0 : Int32)
def f_X12_saves_J13 (n : Nat) (σh12 : ms_T) (v1_h12 : Int32) (v2_h12 : Int32) : Option (Int32 × ms_T) :=
  f_X12_saves_J18 n σh12 v1_h12 v2_h12 (1 : Int32)
def f_X12_saves (n : Nat) (σ : ms_T) (a1 : Int32) (a2 : Int32) : Option (Int32 × ms_T) :=
  if a1 ≤ 0 then
    f_X12_saves_J13 n σ a1 a2
  else
    ms_b (f_X12_isBeyond n a1 a2) fun rh14 =>
    if rh14 = 0 then
      f_X12_saves_J18 n σ a1 a2 (0 : Int32)
    else
      f_X12_saves_J13 n σ a1 a2
set_option maxRecDepth 100000 in
set_option maxHeartbeats 4000000 in
theorem m_X12_saves (n : Nat) (Γ : hp_G) (l : Launch) (α : hp_T) (a0 : Nat) (ρ : Nat → Nat) (σ : ms_T) (hM : hm_M α a0 ρ σ) (a1 : Int32) (a2 : Int32) (res : (Int32 × ms_T)) (hf : f_X12_saves n σ a1 a2 = some res) : Met l yX12_saves (hp_ws yX12_saves cX12_saves 5 (some .int)) (hp_rm 42 0 0) (hp_Pc Γ α [.ref a0, .int a1, .int a2]) (hp_Qi Γ (fun r β => r = res.1 ∧ mo α β ∧ hm_M β a0 ρ res.2)) 0 0 (hp_A Γ) := by
  unfold f_X12_saves at hf
  refine hp_start (by decide) ?_
  intro p e s m below meth c C hr hlk B0 hnm
  have C : hp_C Γ p m c cX12_saves 5 s ([.ref a0, .int a1, .int a2] : List Value).toArray RX12 := C
  have hx := C.1.1
  have hb := C.1.2.1
  have hown := C.1.2.2.2.1
  have hts := C.1.2.2.2.2
  have B : hp_B Γ mo s α α s.heap [] := ⟨B0.1, B0.2.1, mo_rf⟩
  have hl := lv_entry ([.ref a0, .int a1, .int a2]) (n := 5) (Nat.le_of_ble_eq_true rfl)
  show W p l e (hp_rm 42 0 0) s m ([.ref a0, .int a1, .int a2] : List Value).toArray below meth c s.heap [] 0 0 (MQ below (hp_Qi Γ (fun r β => r = res.1 ∧ mo α β ∧ hm_M β a0 ρ res.2)) ([.ref a0, .int a1, .int a2] : List Value).toArray s 0 0 (hp_A Γ)) (entryFrame m ([.ref a0, .int a1, .int a2] : List Value).toArray 5)
  rw [lg_entry_eq]
  generalize (lg_sl ([.ref a0, .int a1, .int a2]) ++ List.replicate (5 - (lg_sl ([.ref a0, .int a1, .int a2])).length) Slot.unset).toArray = ls at hl ⊢
  have hl : lv_has ls 5 [(0, .ref a0), (1, .int a1), (2, .int a2)] := hl
  refine lv_aload_n hx hb dX12_saves_0 rfl (lv_at hl 0 rfl) (hp_n (n := 1) rfl ?_)
  refine lv_iload_n hx hb dX12_saves_1 rfl (lv_at hl 1 rfl) (hp_n (n := 2) rfl ?_)
  have J18 : ∀ (αh1 : hp_T) (Hh1 : Heap) (Lh1 : List Loc) (Bh1 : hp_B Γ mo s α αh1 Hh1 Lh1) (σh1 : ms_T) (Mh1 : hm_M αh1 a0 ρ σh1) (v1_h1 : Int32) (v2_h1 : Int32) (w0_h1 : Int32) (ls : Array Slot) (hl : lv_has ls 5 [(0, .ref a0), (1, .int v1_h1), (2, .int v2_h1)]) (hf : f_X12_saves_J18 n σh1 v1_h1 v2_h1 w0_h1 = some res), W p l e (hp_rm 42 0 0) s m ([.ref a0, .int a1, .int a2] : List Value).toArray below meth c Hh1 Lh1 0 0 (MQ below (hp_Qi Γ (fun r β => r = res.1 ∧ mo α β ∧ hm_M β a0 ρ res.2)) ([.ref a0, .int a1, .int a2] : List Value).toArray s 0 0 (hp_A Γ)) (F0 m 18 ls [.int w0_h1, .ref a0]) := by
    intro αh1 Hh1 Lh1 Bh1 σh1 Mh1 v1_h1 v2_h1 w0_h1 ls hl hf
    unfold f_X12_saves_J18 at hf
    obtain ⟨rh2, σh2, qh2, hf⟩ := ms_cE hf
    refine m_ci (pc' := 21) (a := a0) (ρ := ρ) Bh1 (hp_runV (As := [.int w0_h1]) (rest := []) C Bh1 (m_X12_is n Γ l αh1 a0 ρ σh1 Mh1 w0_h1 (rh2, σh2) qh2) lb_X12_is lv_X12_is lk_X12_309 Mh1.1 rfl (by decide) rfl hl.1 rfl (Nat.le_of_ble_eq_true rfl) dX12_saves_18 ⟨Nat.le_refl _, Nat.le_refl _⟩) rfl (fun αh2 Hh2 Lh2 Bh2 Mh2 => ?_)
    refine lv_if_ne (tgt := 26) hx hb dX12_saves_21 (by decide) (fun c3 => ?_) (fun c3 => hp_n (n := 24) rfl ?_)
    ·
      replace hf := ms_iF c3 hf
      refine lv_iconst (v := 0) hx hb dX12_saves_26 (by decide) (hp_n (n := 27) rfl ?_)
      refine lv_istore_n (lv' := [(3, .int (0 : Int32)), (0, .ref a0), (1, .int v1_h1), (2, .int v2_h1)]) hx hb dX12_saves_27 rfl hl (by decide) rfl (fun ls hl => hp_n (n := 28) rfl ?_)
      refine lv_iconst (v := 0) hx hb dX12_saves_28 (by decide) (hp_n (n := 29) rfl ?_)
      have J31 : ∀ (k31 : Nat) (αh4 : hp_T) (Hh4 : Heap) (Lh4 : List Loc) (Bh4 : hp_B Γ mo s α αh4 Hh4 Lh4) (σh4 : ms_T) (Mh4 : hm_M αh4 a0 ρ σh4) (v1_h4 : Int32) (v2_h4 : Int32) (v3_h4 : Int32) (v4_h4 : Int32) (ls : Array Slot) (hl : lv_has ls 5 [(0, .ref a0), (1, .int v1_h4), (2, .int v2_h4), (3, .int v3_h4), (4, .int v4_h4)]) (hf : f_X12_saves_L31 n k31 σh4 v1_h4 v2_h4 v3_h4 v4_h4 = some res), W p l e (hp_rm 42 0 0) s m ([.ref a0, .int a1, .int a2] : List Value).toArray below meth c Hh4 Lh4 0 0 (MQ below (hp_Qi Γ (fun r β => r = res.1 ∧ mo α β ∧ hm_M β a0 ρ res.2)) ([.ref a0, .int a1, .int a2] : List Value).toArray s 0 0 (hp_A Γ)) (F0 m 31 ls []) := by
        intro k31
        induction k31 with
        | zero => intro αh4 Hh4 Lh4 Bh4 σh4 Mh4 v1_h4 v2_h4 v3_h4 v4_h4 ls hl hf; rw [f_X12_saves_L31.eq_1] at hf; cases hf
        | succ k31 ih31 =>
          intro αh4 Hh4 Lh4 Bh4 σh4 Mh4 v1_h4 v2_h4 v3_h4 v4_h4 ls hl hf
          rw [f_X12_saves_L31.eq_2] at hf
          refine lv_iload hx hb dX12_saves_31 (lv_at hl 4 rfl) (hp_n (n := 33) rfl ?_)
          refine lv_bipush (v := 30) hx hb dX12_saves_33 (by decide) (hp_n (n := 35) rfl ?_)
          refine lv_icmp_ge (tgt := 70) hx hb dX12_saves_35 (by decide) (fun c5 => ?_) (fun c5 => hp_n (n := 38) rfl ?_)
          ·
            replace hf := ms_iT c5 hf
            refine lv_aload_n hx hb dX12_saves_70 rfl (lv_at hl 0 rfl) (hp_n (n := 71) rfl ?_)
            refine lv_iload_n hx hb dX12_saves_71 rfl (lv_at hl 1 rfl) (hp_n (n := 72) rfl ?_)
            refine lv_iload_n hx hb dX12_saves_72 rfl (lv_at hl 2 rfl) (hp_n (n := 73) rfl ?_)
            obtain ⟨σh6, qh6, hf⟩ := ms_bE hf
            refine m_cv (pc' := 76) (a := a0) (ρ := ρ) Bh4 (hp_runV (As := [.int v1_h4, .int v2_h4]) (rest := []) C Bh4 (m_X12_bundleOf n Γ l αh4 a0 ρ σh4 Mh4 v1_h4 v2_h4 σh6 qh6) lb_X12_bundleOf lv_X12_bundleOf lk_X12_372 Mh4.1 rfl (by decide) rfl hl.1 rfl (Nat.le_of_ble_eq_true rfl) dX12_saves_73 ⟨Nat.le_refl _, Nat.le_refl _⟩) rfl (fun αh6 Hh6 Lh6 Bh6 Mh6 => ?_)
            refine lv_iload_n hx hb dX12_saves_76 rfl (lv_at hl 3 rfl) (hp_n (n := 77) rfl ?_)
            refine lv_aload_n hx hb dX12_saves_77 rfl (lv_at hl 0 rfl) (hp_n (n := 78) rfl ?_)
            refine m_geti (k := 7) (φ := 657) (pc' := 81) C Bh6 Mh6 fl_X12_139 rfl rfl dX12_saves_78 rfl ?_
            refine lv_isub hx hb dX12_saves_81 (hp_n (n := 82) rfl ?_)
            cases hf
            exact q_iret C Bh6 hr hlk ⟨rfl, Bh6.2.2, Mh6⟩ dX12_saves_82
          ·
            replace hf := ms_iF c5 hf
            refine lv_iload_n hx hb dX12_saves_38 rfl (lv_at hl 1 rfl) (hp_n (n := 39) rfl ?_)
            refine lv_iload hx hb dX12_saves_39 (lv_at hl 4 rfl) (hp_n (n := 41) rfl ?_)
            refine lv_ishr hx hb dX12_saves_41 (hp_n (n := 42) rfl ?_)
            refine lv_iconst (v := 1) hx hb dX12_saves_42 (by decide) (hp_n (n := 43) rfl ?_)
            refine lv_iand hx hb dX12_saves_43 (hp_n (n := 44) rfl ?_)
            have J64 : ∀ (αh7 : hp_T) (Hh7 : Heap) (Lh7 : List Loc) (Bh7 : hp_B Γ mo s α αh7 Hh7 Lh7) (σh7 : ms_T) (Mh7 : hm_M αh7 a0 ρ σh7) (v1_h7 : Int32) (v2_h7 : Int32) (v3_h7 : Int32) (v4_h7 : Int32) (ls : Array Slot) (hl : lv_has ls 5 [(0, .ref a0), (1, .int v1_h7), (2, .int v2_h7), (3, .int v3_h7), (4, .int v4_h7)]) (hf : f_X12_saves_J64 n (f_X12_saves_L31 n k31) σh7 v1_h7 v2_h7 v3_h7 v4_h7 = some res), W p l e (hp_rm 42 0 0) s m ([.ref a0, .int a1, .int a2] : List Value).toArray below meth c Hh7 Lh7 0 0 (MQ below (hp_Qi Γ (fun r β => r = res.1 ∧ mo α β ∧ hm_M β a0 ρ res.2)) ([.ref a0, .int a1, .int a2] : List Value).toArray s 0 0 (hp_A Γ)) (F0 m 64 ls []) := by
              intro αh7 Hh7 Lh7 Bh7 σh7 Mh7 v1_h7 v2_h7 v3_h7 v4_h7 ls hl hf
              unfold f_X12_saves_J64 at hf
              obtain ⟨x8, ex8⟩ : ∃ y : Int32, y = v4_h7 + 1 := ⟨_, rfl⟩
              replace hf := ms_lE ex8 hf
              refine lv_iinc (v := x8) (lv' := [(4, .int x8), (0, .ref a0), (1, .int v1_h7), (2, .int v2_h7), (3, .int v3_h7)]) hx hb dX12_saves_64 hl (k := 4) rfl (by rw [ex8]; rfl) (by decide) rfl (fun ls hl => hp_n (n := 67) rfl ?_)
              refine lv_goto (tgt := 31) hx hb dX12_saves_67 (by decide) ?_
              exact ih31 αh7 Hh7 Lh7 Bh7 σh7 Mh7 v1_h7 v2_h7 v3_h7 x8 ls (lv_sub hl [1, 2, 3, 4, 0] rfl) hf
            refine lv_if_ne (tgt := 50) hx hb dX12_saves_44 (by decide) (fun c9 => ?_) (fun c9 => hp_n (n := 47) rfl ?_)
            ·
              replace hf := ms_iF c9 hf
              refine lv_aload_n hx hb dX12_saves_50 rfl (lv_at hl 0 rfl) (hp_n (n := 51) rfl ?_)
              refine lv_iload hx hb dX12_saves_51 (lv_at hl 4 rfl) (hp_n (n := 53) rfl ?_)
              refine lv_iload_n hx hb dX12_saves_53 rfl (lv_at hl 2 rfl) (hp_n (n := 54) rfl ?_)
              obtain ⟨σh10, qh10, hf⟩ := ms_bE hf
              refine m_cv (pc' := 57) (a := a0) (ρ := ρ) Bh4 (hp_runV (As := [.int v4_h4, .int v2_h4]) (rest := []) C Bh4 (m_X12_inclusion n Γ l αh4 a0 ρ σh4 Mh4 v4_h4 v2_h4 σh10 qh10) lb_X12_inclusion lv_X12_inclusion lk_X12_171 Mh4.1 rfl (by decide) rfl hl.1 rfl (Nat.le_of_ble_eq_true rfl) dX12_saves_54 ⟨Nat.le_refl _, Nat.le_refl _⟩) rfl (fun αh10 Hh10 Lh10 Bh10 Mh10 => ?_)
              refine lv_iload_n hx hb dX12_saves_57 rfl (lv_at hl 3 rfl) (hp_n (n := 58) rfl ?_)
              refine lv_aload_n hx hb dX12_saves_58 rfl (lv_at hl 0 rfl) (hp_n (n := 59) rfl ?_)
              refine m_geti (k := 7) (φ := 657) (pc' := 62) C Bh10 Mh10 fl_X12_139 rfl rfl dX12_saves_59 rfl ?_
              refine lv_iadd hx hb dX12_saves_62 (hp_n (n := 63) rfl ?_)
              refine lv_topi (fun x11 ex11 => ?_)
              replace hf := ms_lE ex11 hf
              refine lv_istore_n (lv' := [(3, .int x11), (0, .ref a0), (1, .int v1_h4), (2, .int v2_h4), (4, .int v4_h4)]) hx hb dX12_saves_63 rfl hl (by decide) rfl (fun ls hl => hp_n (n := 64) rfl ?_)
              exact J64 αh10 Hh10 Lh10 Bh10 σh10 Mh10 v1_h4 v2_h4 x11 v4_h4 ls (lv_sub hl [1, 2, 3, 0, 4] rfl) hf
            ·
              replace hf := ms_iT c9 hf
              refine lv_goto (tgt := 64) hx hb dX12_saves_47 (by decide) ?_
              exact J64 αh4 Hh4 Lh4 Bh4 σh4 Mh4 v1_h4 v2_h4 v3_h4 v4_h4 ls (lv_sub hl [0, 1, 2, 3, 4] rfl) hf
      refine lv_istore (lv' := [(4, .int (0 : Int32)), (3, .int (0 : Int32)), (0, .ref a0), (1, .int v1_h1), (2, .int v2_h1)]) hx hb dX12_saves_29 hl (by decide) rfl (fun ls hl => hp_n (n := 31) rfl ?_)
      exact J31 n αh2 Hh2 Lh2 Bh2 σh2 Mh2 v1_h1 v2_h1 (0 : Int32) (0 : Int32) ls (lv_sub hl [2, 3, 4, 1, 0] rfl) hf
    ·
      replace hf := ms_iT c3 hf
      refine lv_iconst (v := (-1)) hx hb dX12_saves_24 (by decide) (hp_n (n := 25) rfl ?_)
      cases hf
      exact q_iret C Bh2 hr hlk ⟨rfl, Bh2.2.2, Mh2⟩ dX12_saves_25
  have J13 : ∀ (αh12 : hp_T) (Hh12 : Heap) (Lh12 : List Loc) (Bh12 : hp_B Γ mo s α αh12 Hh12 Lh12) (σh12 : ms_T) (Mh12 : hm_M αh12 a0 ρ σh12) (v1_h12 : Int32) (v2_h12 : Int32) (ls : Array Slot) (hl : lv_has ls 5 [(0, .ref a0), (1, .int v1_h12), (2, .int v2_h12)]) (hf : f_X12_saves_J13 n σh12 v1_h12 v2_h12 = some res), W p l e (hp_rm 42 0 0) s m ([.ref a0, .int a1, .int a2] : List Value).toArray below meth c Hh12 Lh12 0 0 (MQ below (hp_Qi Γ (fun r β => r = res.1 ∧ mo α β ∧ hm_M β a0 ρ res.2)) ([.ref a0, .int a1, .int a2] : List Value).toArray s 0 0 (hp_A Γ)) (F0 m 13 ls [.ref a0]) := by
    intro αh12 Hh12 Lh12 Bh12 σh12 Mh12 v1_h12 v2_h12 ls hl hf
    unfold f_X12_saves_J13 at hf
    refine lv_iconst (v := 1) hx hb dX12_saves_13 (by decide) (hp_n (n := 14) rfl ?_)
    refine lv_goto (tgt := 18) hx hb dX12_saves_14 (by decide) ?_
    exact J18 αh12 Hh12 Lh12 Bh12 σh12 Mh12 v1_h12 v2_h12 (1 : Int32) ls (lv_sub hl [0, 1, 2] rfl) hf
  refine lv_if_le (tgt := 13) hx hb dX12_saves_2 (by decide) (fun c13 => ?_) (fun c13 => hp_n (n := 5) rfl ?_)
  ·
    replace hf := ms_iT c13 hf
    exact J13 α s.heap [] B σ hM a1 a2 ls (lv_sub hl [0, 1, 2] rfl) hf
  ·
    replace hf := ms_iF c13 hf
    refine lv_iload_n hx hb dX12_saves_5 rfl (lv_at hl 1 rfl) (hp_n (n := 6) rfl ?_)
    refine lv_iload_n hx hb dX12_saves_6 rfl (lv_at hl 2 rfl) (hp_n (n := 7) rfl ?_)
    obtain ⟨rh14, qh14, hf⟩ := ms_bE hf
    refine m_cp (pc' := 10) B (hp_runS (As := [.int a1, .int a2]) (rest := [.ref a0]) C B (m_X12_isBeyond n Γ l α a1 a2 rh14 qh14) lb_X12_isBeyond ls_X12_isBeyond lk_X12_368 rfl (by decide) rfl hl.1 rfl (Nat.le_of_ble_eq_true rfl) dX12_saves_7 ⟨Nat.le_refl _, Nat.le_refl _⟩) rfl (fun Hh14 Lh14 Bh14 => ?_)
    refine lv_if_eq (tgt := 17) hx hb dX12_saves_10 (by decide) (fun c15 => ?_) (fun c15 => hp_n (n := 13) rfl ?_)
    ·
      replace hf := ms_iT c15 hf
      refine lv_iconst (v := 0) hx hb dX12_saves_17 (by decide) (hp_n (n := 18) rfl ?_)
      exact J18 α Hh14 Lh14 Bh14 σ hM a1 a2 (0 : Int32) ls (lv_sub hl [0, 1, 2] rfl) hf
    ·
      replace hf := ms_iF c15 hf
      exact J13 α Hh14 Lh14 Bh14 σ hM a1 a2 ls (lv_sub hl [0, 1, 2] rfl) hf
def f_X12_who_J62 (n : Nat) (rec31 : ms_T → Int32 → Int32 → Int32 → Int32 → Option (Int32 × ms_T)) (σh8 : ms_T) (v1_h8 : Int32) (v2_h8 : Int32) (v4_h8 : Int32) (w0_h8 : Int32) (w1_h8 : Int32) : Option (Int32 × ms_T) :=
  ms_l ((w1_h8 ||| w0_h8)) fun x9 =>
  ms_l (v4_h8 + 1) fun x10 =>
  rec31 σh8 v1_h8 v2_h8 x9 x10
def f_X12_who_L31 (n : Nat) : Nat → ms_T → Int32 → Int32 → Int32 → Int32 → Option (Int32 × ms_T)
  | 0, _, _, _, _, _ => none
  | k31 + 1, σh4, v1_h4, v2_h4, v3_h4, v4_h4 =>
    ms_g (0 : Int32) 1980 <|
    if (ms_E σh4 40 ((0 : Int32)).toNatClampNeg) ≤ v4_h4 then
      some (v3_h4, σh4)
    else
      ms_b (f_X12_isHead n σh4 v4_h4 v1_h4 v2_h4) fun rh7 =>
      if rh7 = 0 then
        f_X12_who_J62 n (f_X12_who_L31 n k31) σh4 v1_h4 v2_h4 v4_h4 (0 : Int32) v3_h4
      else
        f_X12_who_J62 n (f_X12_who_L31 n k31) σh4 v1_h4 v2_h4 v4_h4 ((1 : Int32) <<< (v4_h4 &&& 31)) v3_h4
def f_X12_who_J18 (n : Nat) (σh1 : ms_T) (v1_h1 : Int32) (v2_h1 : Int32) (w0_h1 : Int32) : Option (Int32 × ms_T) :=
  ms_c (f_X12_is n σh1 w0_h1) fun rh2 σh2 =>
  if rh2 = 0 then
    some ((-1 : Int32), σh2)
  else
    f_X12_who_L31 n n σh2 v1_h1 v2_h1 (0 : Int32) (0 : Int32)
def f_X12_who_J13 (n : Nat) (σh12 : ms_T) (v1_h12 : Int32) (v2_h12 : Int32) : Option (Int32 × ms_T) :=
  f_X12_who_J18 n σh12 v1_h12 v2_h12 (1 : Int32)
def f_X12_who (n : Nat) (σ : ms_T) (a1 : Int32) (a2 : Int32) : Option (Int32 × ms_T) :=
  if a1 < 0 then
    f_X12_who_J13 n σ a1 a2
  else
    ms_b (f_X12_isMark n σ a2) fun rh14 =>
    if rh14 = 0 then
      f_X12_who_J13 n σ a1 a2
    else
      f_X12_who_J18 n σ a1 a2 (0 : Int32)
set_option maxRecDepth 100000 in
set_option maxHeartbeats 4000000 in
theorem m_X12_who (n : Nat) (Γ : hp_G) (l : Launch) (α : hp_T) (a0 : Nat) (ρ : Nat → Nat) (σ : ms_T) (hM : hm_M α a0 ρ σ) (a1 : Int32) (a2 : Int32) (res : (Int32 × ms_T)) (hf : f_X12_who n σ a1 a2 = some res) : Met l yX12_who (hp_ws yX12_who cX12_who 5 (some .int)) (hp_rm 44 0 0) (hp_Pc Γ α [.ref a0, .int a1, .int a2]) (hp_Qi Γ (fun r β => r = res.1 ∧ mo α β ∧ hm_M β a0 ρ res.2)) 0 0 (hp_A Γ) := by
  unfold f_X12_who at hf
  refine hp_start (by decide) ?_
  intro p e s m below meth c C hr hlk B0 hnm
  have C : hp_C Γ p m c cX12_who 5 s ([.ref a0, .int a1, .int a2] : List Value).toArray RX12 := C
  have hx := C.1.1
  have hb := C.1.2.1
  have hown := C.1.2.2.2.1
  have hts := C.1.2.2.2.2
  have B : hp_B Γ mo s α α s.heap [] := ⟨B0.1, B0.2.1, mo_rf⟩
  have hl := lv_entry ([.ref a0, .int a1, .int a2]) (n := 5) (Nat.le_of_ble_eq_true rfl)
  show W p l e (hp_rm 44 0 0) s m ([.ref a0, .int a1, .int a2] : List Value).toArray below meth c s.heap [] 0 0 (MQ below (hp_Qi Γ (fun r β => r = res.1 ∧ mo α β ∧ hm_M β a0 ρ res.2)) ([.ref a0, .int a1, .int a2] : List Value).toArray s 0 0 (hp_A Γ)) (entryFrame m ([.ref a0, .int a1, .int a2] : List Value).toArray 5)
  rw [lg_entry_eq]
  generalize (lg_sl ([.ref a0, .int a1, .int a2]) ++ List.replicate (5 - (lg_sl ([.ref a0, .int a1, .int a2])).length) Slot.unset).toArray = ls at hl ⊢
  have hl : lv_has ls 5 [(0, .ref a0), (1, .int a1), (2, .int a2)] := hl
  refine lv_aload_n hx hb dX12_who_0 rfl (lv_at hl 0 rfl) (hp_n (n := 1) rfl ?_)
  refine lv_iload_n hx hb dX12_who_1 rfl (lv_at hl 1 rfl) (hp_n (n := 2) rfl ?_)
  have J18 : ∀ (αh1 : hp_T) (Hh1 : Heap) (Lh1 : List Loc) (Bh1 : hp_B Γ mo s α αh1 Hh1 Lh1) (σh1 : ms_T) (Mh1 : hm_M αh1 a0 ρ σh1) (v1_h1 : Int32) (v2_h1 : Int32) (w0_h1 : Int32) (ls : Array Slot) (hl : lv_has ls 5 [(0, .ref a0), (1, .int v1_h1), (2, .int v2_h1)]) (hf : f_X12_who_J18 n σh1 v1_h1 v2_h1 w0_h1 = some res), W p l e (hp_rm 44 0 0) s m ([.ref a0, .int a1, .int a2] : List Value).toArray below meth c Hh1 Lh1 0 0 (MQ below (hp_Qi Γ (fun r β => r = res.1 ∧ mo α β ∧ hm_M β a0 ρ res.2)) ([.ref a0, .int a1, .int a2] : List Value).toArray s 0 0 (hp_A Γ)) (F0 m 18 ls [.int w0_h1, .ref a0]) := by
    intro αh1 Hh1 Lh1 Bh1 σh1 Mh1 v1_h1 v2_h1 w0_h1 ls hl hf
    unfold f_X12_who_J18 at hf
    obtain ⟨rh2, σh2, qh2, hf⟩ := ms_cE hf
    refine m_ci (pc' := 21) (a := a0) (ρ := ρ) Bh1 (hp_runV (As := [.int w0_h1]) (rest := []) C Bh1 (m_X12_is n Γ l αh1 a0 ρ σh1 Mh1 w0_h1 (rh2, σh2) qh2) lb_X12_is lv_X12_is lk_X12_309 Mh1.1 rfl (by decide) rfl hl.1 rfl (Nat.le_of_ble_eq_true rfl) dX12_who_18 ⟨Nat.le_refl _, Nat.le_refl _⟩) rfl (fun αh2 Hh2 Lh2 Bh2 Mh2 => ?_)
    refine lv_if_ne (tgt := 26) hx hb dX12_who_21 (by decide) (fun c3 => ?_) (fun c3 => hp_n (n := 24) rfl ?_)
    ·
      replace hf := ms_iF c3 hf
      refine lv_iconst (v := 0) hx hb dX12_who_26 (by decide) (hp_n (n := 27) rfl ?_)
      refine lv_istore_n (lv' := [(3, .int (0 : Int32)), (0, .ref a0), (1, .int v1_h1), (2, .int v2_h1)]) hx hb dX12_who_27 rfl hl (by decide) rfl (fun ls hl => hp_n (n := 28) rfl ?_)
      refine lv_iconst (v := 0) hx hb dX12_who_28 (by decide) (hp_n (n := 29) rfl ?_)
      have J31 : ∀ (k31 : Nat) (αh4 : hp_T) (Hh4 : Heap) (Lh4 : List Loc) (Bh4 : hp_B Γ mo s α αh4 Hh4 Lh4) (σh4 : ms_T) (Mh4 : hm_M αh4 a0 ρ σh4) (v1_h4 : Int32) (v2_h4 : Int32) (v3_h4 : Int32) (v4_h4 : Int32) (ls : Array Slot) (hl : lv_has ls 5 [(0, .ref a0), (1, .int v1_h4), (2, .int v2_h4), (3, .int v3_h4), (4, .int v4_h4)]) (hf : f_X12_who_L31 n k31 σh4 v1_h4 v2_h4 v3_h4 v4_h4 = some res), W p l e (hp_rm 44 0 0) s m ([.ref a0, .int a1, .int a2] : List Value).toArray below meth c Hh4 Lh4 0 0 (MQ below (hp_Qi Γ (fun r β => r = res.1 ∧ mo α β ∧ hm_M β a0 ρ res.2)) ([.ref a0, .int a1, .int a2] : List Value).toArray s 0 0 (hp_A Γ)) (F0 m 31 ls []) := by
        intro k31
        induction k31 with
        | zero => intro αh4 Hh4 Lh4 Bh4 σh4 Mh4 v1_h4 v2_h4 v3_h4 v4_h4 ls hl hf; rw [f_X12_who_L31.eq_1] at hf; cases hf
        | succ k31 ih31 =>
          intro αh4 Hh4 Lh4 Bh4 σh4 Mh4 v1_h4 v2_h4 v3_h4 v4_h4 ls hl hf
          rw [f_X12_who_L31.eq_2] at hf
          refine lv_iload hx hb dX12_who_31 (lv_at hl 4 rfl) (hp_n (n := 33) rfl ?_)
          refine lv_aload_n hx hb dX12_who_33 rfl (lv_at hl 0 rfl) (hp_n (n := 34) rfl ?_)
          refine m_getr (κ := 40) (k := 0) (pc' := 37) C Bh4 Mh4 fl_X12_7 rfl (by decide) dX12_who_34 rfl ?_
          refine lv_iconst (v := 0) hx hb dX12_who_37 (by decide) (hp_n (n := 38) rfl ?_)
          obtain ⟨g5, hf⟩ := ms_gE hf
          refine m_ial (κ := 40) (φ := 650) (n := 1980) (pc' := 39) C Bh4 Mh4 (by decide) (by decide) rfl g5 dX12_who_38 rfl ?_
          refine lv_icmp_ge (tgt := 70) hx hb dX12_who_39 (by decide) (fun c6 => ?_) (fun c6 => hp_n (n := 42) rfl ?_)
          ·
            replace hf := ms_iT c6 hf
            refine lv_iload_n hx hb dX12_who_70 rfl (lv_at hl 3 rfl) (hp_n (n := 71) rfl ?_)
            cases hf
            exact q_iret C Bh4 hr hlk ⟨rfl, Bh4.2.2, Mh4⟩ dX12_who_71
          ·
            replace hf := ms_iF c6 hf
            refine lv_iload_n hx hb dX12_who_42 rfl (lv_at hl 3 rfl) (hp_n (n := 43) rfl ?_)
            refine lv_aload_n hx hb dX12_who_43 rfl (lv_at hl 0 rfl) (hp_n (n := 44) rfl ?_)
            refine lv_iload hx hb dX12_who_44 (lv_at hl 4 rfl) (hp_n (n := 46) rfl ?_)
            refine lv_iload_n hx hb dX12_who_46 rfl (lv_at hl 1 rfl) (hp_n (n := 47) rfl ?_)
            refine lv_iload_n hx hb dX12_who_47 rfl (lv_at hl 2 rfl) (hp_n (n := 48) rfl ?_)
            obtain ⟨rh7, qh7, hf⟩ := ms_bE hf
            refine m_cp (pc' := 51) Bh4 (hp_runV (As := [.int v4_h4, .int v1_h4, .int v2_h4]) (rest := [.int v3_h4]) C Bh4 (m_X12_isHead n Γ l αh4 a0 ρ σh4 Mh4 v4_h4 v1_h4 v2_h4 rh7 qh7) lb_X12_isHead lv_X12_isHead lk_X12_387 Mh4.1 rfl (by decide) rfl hl.1 rfl (Nat.le_of_ble_eq_true rfl) dX12_who_48 ⟨Nat.le_refl _, Nat.le_refl _⟩) rfl (fun Hh7 Lh7 Bh7 => ?_)
            have J62 : ∀ (αh8 : hp_T) (Hh8 : Heap) (Lh8 : List Loc) (Bh8 : hp_B Γ mo s α αh8 Hh8 Lh8) (σh8 : ms_T) (Mh8 : hm_M αh8 a0 ρ σh8) (v1_h8 : Int32) (v2_h8 : Int32) (v4_h8 : Int32) (w0_h8 : Int32) (w1_h8 : Int32) (ls : Array Slot) (hl : lv_has ls 5 [(0, .ref a0), (1, .int v1_h8), (2, .int v2_h8), (4, .int v4_h8)]) (hf : f_X12_who_J62 n (f_X12_who_L31 n k31) σh8 v1_h8 v2_h8 v4_h8 w0_h8 w1_h8 = some res), W p l e (hp_rm 44 0 0) s m ([.ref a0, .int a1, .int a2] : List Value).toArray below meth c Hh8 Lh8 0 0 (MQ below (hp_Qi Γ (fun r β => r = res.1 ∧ mo α β ∧ hm_M β a0 ρ res.2)) ([.ref a0, .int a1, .int a2] : List Value).toArray s 0 0 (hp_A Γ)) (F0 m 62 ls [.int w0_h8, .int w1_h8]) := by
              intro αh8 Hh8 Lh8 Bh8 σh8 Mh8 v1_h8 v2_h8 v4_h8 w0_h8 w1_h8 ls hl hf
              unfold f_X12_who_J62 at hf
              refine lv_ior hx hb dX12_who_62 (hp_n (n := 63) rfl ?_)
              refine lv_topi (fun x9 ex9 => ?_)
              replace hf := ms_lE ex9 hf
              refine lv_istore_n (lv' := [(3, .int x9), (0, .ref a0), (1, .int v1_h8), (2, .int v2_h8), (4, .int v4_h8)]) hx hb dX12_who_63 rfl hl (by decide) rfl (fun ls hl => hp_n (n := 64) rfl ?_)
              obtain ⟨x10, ex10⟩ : ∃ y : Int32, y = v4_h8 + 1 := ⟨_, rfl⟩
              replace hf := ms_lE ex10 hf
              refine lv_iinc (v := x10) (lv' := [(4, .int x10), (3, .int x9), (0, .ref a0), (1, .int v1_h8), (2, .int v2_h8)]) hx hb dX12_who_64 hl (k := 4) rfl (by rw [ex10]; rfl) (by decide) rfl (fun ls hl => hp_n (n := 67) rfl ?_)
              refine lv_goto (tgt := 31) hx hb dX12_who_67 (by decide) ?_
              exact ih31 αh8 Hh8 Lh8 Bh8 σh8 Mh8 v1_h8 v2_h8 x9 x10 ls (lv_sub hl [2, 3, 4, 1, 0] rfl) hf
            refine lv_if_eq (tgt := 61) hx hb dX12_who_51 (by decide) (fun c11 => ?_) (fun c11 => hp_n (n := 54) rfl ?_)
            ·
              replace hf := ms_iT c11 hf
              refine lv_iconst (v := 0) hx hb dX12_who_61 (by decide) (hp_n (n := 62) rfl ?_)
              exact J62 αh4 Hh7 Lh7 Bh7 σh4 Mh4 v1_h4 v2_h4 v4_h4 (0 : Int32) v3_h4 ls (lv_sub hl [0, 1, 2, 4] rfl) hf
            ·
              replace hf := ms_iF c11 hf
              refine lv_iconst (v := 1) hx hb dX12_who_54 (by decide) (hp_n (n := 55) rfl ?_)
              refine lv_iload hx hb dX12_who_55 (lv_at hl 4 rfl) (hp_n (n := 57) rfl ?_)
              refine lv_ishl hx hb dX12_who_57 (hp_n (n := 58) rfl ?_)
              refine lv_goto (tgt := 62) hx hb dX12_who_58 (by decide) ?_
              exact J62 αh4 Hh7 Lh7 Bh7 σh4 Mh4 v1_h4 v2_h4 v4_h4 ((1 : Int32) <<< (v4_h4 &&& 31)) v3_h4 ls (lv_sub hl [0, 1, 2, 4] rfl) hf
      refine lv_istore (lv' := [(4, .int (0 : Int32)), (3, .int (0 : Int32)), (0, .ref a0), (1, .int v1_h1), (2, .int v2_h1)]) hx hb dX12_who_29 hl (by decide) rfl (fun ls hl => hp_n (n := 31) rfl ?_)
      exact J31 n αh2 Hh2 Lh2 Bh2 σh2 Mh2 v1_h1 v2_h1 (0 : Int32) (0 : Int32) ls (lv_sub hl [2, 3, 4, 1, 0] rfl) hf
    ·
      replace hf := ms_iT c3 hf
      refine lv_iconst (v := (-1)) hx hb dX12_who_24 (by decide) (hp_n (n := 25) rfl ?_)
      cases hf
      exact q_iret C Bh2 hr hlk ⟨rfl, Bh2.2.2, Mh2⟩ dX12_who_25
  have J13 : ∀ (αh12 : hp_T) (Hh12 : Heap) (Lh12 : List Loc) (Bh12 : hp_B Γ mo s α αh12 Hh12 Lh12) (σh12 : ms_T) (Mh12 : hm_M αh12 a0 ρ σh12) (v1_h12 : Int32) (v2_h12 : Int32) (ls : Array Slot) (hl : lv_has ls 5 [(0, .ref a0), (1, .int v1_h12), (2, .int v2_h12)]) (hf : f_X12_who_J13 n σh12 v1_h12 v2_h12 = some res), W p l e (hp_rm 44 0 0) s m ([.ref a0, .int a1, .int a2] : List Value).toArray below meth c Hh12 Lh12 0 0 (MQ below (hp_Qi Γ (fun r β => r = res.1 ∧ mo α β ∧ hm_M β a0 ρ res.2)) ([.ref a0, .int a1, .int a2] : List Value).toArray s 0 0 (hp_A Γ)) (F0 m 13 ls [.ref a0]) := by
    intro αh12 Hh12 Lh12 Bh12 σh12 Mh12 v1_h12 v2_h12 ls hl hf
    unfold f_X12_who_J13 at hf
    refine lv_iconst (v := 1) hx hb dX12_who_13 (by decide) (hp_n (n := 14) rfl ?_)
    refine lv_goto (tgt := 18) hx hb dX12_who_14 (by decide) ?_
    exact J18 αh12 Hh12 Lh12 Bh12 σh12 Mh12 v1_h12 v2_h12 (1 : Int32) ls (lv_sub hl [0, 1, 2] rfl) hf
  refine lv_if_lt (tgt := 13) hx hb dX12_who_2 (by decide) (fun c13 => ?_) (fun c13 => hp_n (n := 5) rfl ?_)
  ·
    replace hf := ms_iT c13 hf
    exact J13 α s.heap [] B σ hM a1 a2 ls (lv_sub hl [0, 1, 2] rfl) hf
  ·
    replace hf := ms_iF c13 hf
    refine lv_aload_n hx hb dX12_who_5 rfl (lv_at hl 0 rfl) (hp_n (n := 6) rfl ?_)
    refine lv_iload_n hx hb dX12_who_6 rfl (lv_at hl 2 rfl) (hp_n (n := 7) rfl ?_)
    obtain ⟨rh14, qh14, hf⟩ := ms_bE hf
    refine m_cp (pc' := 10) B (hp_runV (As := [.int a2]) (rest := [.ref a0]) C B (m_X12_isMark n Γ l α a0 ρ σ hM a2 rh14 qh14) lb_X12_isMark lv_X12_isMark lk_X12_321 hM.1 rfl (by decide) rfl hl.1 rfl (Nat.le_of_ble_eq_true rfl) dX12_who_7 ⟨Nat.le_refl _, Nat.le_refl _⟩) rfl (fun Hh14 Lh14 Bh14 => ?_)
    refine lv_if_ne (tgt := 17) hx hb dX12_who_10 (by decide) (fun c15 => ?_) (fun c15 => hp_n (n := 13) rfl ?_)
    ·
      replace hf := ms_iF c15 hf
      refine lv_iconst (v := 0) hx hb dX12_who_17 (by decide) (hp_n (n := 18) rfl ?_)
      exact J18 α Hh14 Lh14 Bh14 σ hM a1 a2 (0 : Int32) ls (lv_sub hl [0, 1, 2] rfl) hf
    ·
      replace hf := ms_iT c15 hf
      exact J13 α Hh14 Lh14 Bh14 σ hM a1 a2 ls (lv_sub hl [0, 1, 2] rfl) hf
end JN6_3
