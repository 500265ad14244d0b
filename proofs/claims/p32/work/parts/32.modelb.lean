def f_X12_whyGrown_J39 (n : Nat) (σh3 : ms_T) (v2_h3 : Int32) (v3_h3 : Int32) (v4_h3 : Int32) (v5_h3 : Int32) : Option (Int32 × ms_T) :=
  if v2_h3 = v4_h3 then
    if v3_h3 = v5_h3 then
      some ((0 : Int32), σh3)
    else
      some ((3 : Int32), σh3)
  else
    if v2_h3 = 0 then
      some ((0 : Int32), σh3)
    else
      ms_l (ms_sI σh3 658 (0 : Int32)) fun σh6 =>
      ms_b (f_X12_foldsGrowth n 40 σh6 v3_h3 v2_h3 v4_h3 (1 : Int32)) fun σh7 =>
      if (ms_I σh7 659) = v3_h3 then
        if (ms_I σh7 660) = v5_h3 then
          some ((0 : Int32), σh7)
        else
          some ((4 : Int32), σh7)
      else
        some ((3 : Int32), σh7)
def f_X12_whyGrown (n : Nat) (σ : ms_T) (a1 : Int32) (a2 : Int32) (a3 : Int32) (a4 : Int32) (a5 : Int32) : Option (Int32 × ms_T) :=
  ms_b (f_X12_growth n σ a2 a4) fun σh1 =>
  if a1 = (ms_I σh1 657) then
    if a2 = 0 then
      if a3 = 0 then
        f_X12_whyGrown_J39 n σh1 a2 a3 a4 a5
      else
        some ((3 : Int32), σh1)
    else
      f_X12_whyGrown_J39 n σh1 a2 a3 a4 a5
  else
    if (ms_I σh1 657) ≤ a1 then
      some ((2 : Int32), σh1)
    else
      some ((1 : Int32), σh1)
set_option maxRecDepth 100000 in
set_option maxHeartbeats 4000000 in
theorem m_X12_whyGrown (n : Nat) (Γ : hp_G) (l : Launch) (α : hp_T) (a0 : Nat) (ρ : Nat → Nat) (σ : ms_T) (hM : hm_M α a0 ρ σ) (a1 : Int32) (a2 : Int32) (a3 : Int32) (a4 : Int32) (a5 : Int32) (res : (Int32 × ms_T)) (hf : f_X12_whyGrown n σ a1 a2 a3 a4 a5 = some res) : Met l yX12_whyGrown (hp_ws yX12_whyGrown cX12_whyGrown 6 (some .int)) (hp_rm 42 0 0) (hp_Pc Γ α [.ref a0, .int a1, .int a2, .int a3, .int a4, .int a5]) (hp_Qi Γ (fun r β => r = res.1 ∧ mo α β ∧ hm_M β a0 ρ res.2)) 0 0 (hp_A Γ) := by
  unfold f_X12_whyGrown at hf
  refine hp_start (by decide) ?_
  intro p e s m below meth c C hr hlk B0 hnm
  have C : hp_C Γ p m c cX12_whyGrown 6 s ([.ref a0, .int a1, .int a2, .int a3, .int a4, .int a5] : List Value).toArray RX12 := C
  have hx := C.1.1
  have hb := C.1.2.1
  have hown := C.1.2.2.2.1
  have hts := C.1.2.2.2.2
  have B : hp_B Γ mo s α α s.heap [] := ⟨B0.1, B0.2.1, mo_rf⟩
  have hl := lv_entry ([.ref a0, .int a1, .int a2, .int a3, .int a4, .int a5]) (n := 6) (Nat.le_of_ble_eq_true rfl)
  show W p l e (hp_rm 42 0 0) s m ([.ref a0, .int a1, .int a2, .int a3, .int a4, .int a5] : List Value).toArray below meth c s.heap [] 0 0 (MQ below (hp_Qi Γ (fun r β => r = res.1 ∧ mo α β ∧ hm_M β a0 ρ res.2)) ([.ref a0, .int a1, .int a2, .int a3, .int a4, .int a5] : List Value).toArray s 0 0 (hp_A Γ)) (entryFrame m ([.ref a0, .int a1, .int a2, .int a3, .int a4, .int a5] : List Value).toArray 6)
  rw [lg_entry_eq]
  generalize (lg_sl ([.ref a0, .int a1, .int a2, .int a3, .int a4, .int a5]) ++ List.replicate (6 - (lg_sl ([.ref a0, .int a1, .int a2, .int a3, .int a4, .int a5])).length) Slot.unset).toArray = ls at hl ⊢
  have hl : lv_has ls 6 [(0, .ref a0), (1, .int a1), (2, .int a2), (3, .int a3), (4, .int a4), (5, .int a5)] := hl
  refine lv_aload_n hx hb dX12_whyGrown_0 rfl (lv_at hl 0 rfl) (hp_n (n := 1) rfl ?_)
  refine lv_iload_n hx hb dX12_whyGrown_1 rfl (lv_at hl 2 rfl) (hp_n (n := 2) rfl ?_)
  refine lv_iload hx hb dX12_whyGrown_2 (lv_at hl 4 rfl) (hp_n (n := 4) rfl ?_)
  obtain ⟨σh1, qh1, hf⟩ := ms_bE hf
  refine m_cv (pc' := 7) (a := a0) (ρ := ρ) B (hp_runV (As := [.int a2, .int a4]) (rest := []) C B (m_X12_growth n Γ l α a0 ρ σ hM a2 a4 σh1 qh1) lb_X12_growth lv_X12_growth lk_X12_190 hM.1 rfl (by decide) rfl hl.1 rfl (Nat.le_of_ble_eq_true rfl) dX12_whyGrown_4 ⟨Nat.le_refl _, Nat.le_refl _⟩) rfl (fun αh1 Hh1 Lh1 Bh1 Mh1 => ?_)
  refine lv_iload_n hx hb dX12_whyGrown_7 rfl (lv_at hl 1 rfl) (hp_n (n := 8) rfl ?_)
  refine lv_aload_n hx hb dX12_whyGrown_8 rfl (lv_at hl 0 rfl) (hp_n (n := 9) rfl ?_)
  refine m_geti (k := 7) (φ := 657) (pc' := 12) C Bh1 Mh1 fl_X12_139 rfl rfl dX12_whyGrown_9 rfl ?_
  refine lv_icmp_eq (tgt := 29) hx hb dX12_whyGrown_12 (by decide) (fun c2 => ?_) (fun c2 => hp_n (n := 15) rfl ?_)
  ·
    replace hf := ms_iT c2 hf
    refine lv_iload_n hx hb dX12_whyGrown_29 rfl (lv_at hl 2 rfl) (hp_n (n := 30) rfl ?_)
    have J39 : ∀ (αh3 : hp_T) (Hh3 : Heap) (Lh3 : List Loc) (Bh3 : hp_B Γ mo s α αh3 Hh3 Lh3) (σh3 : ms_T) (Mh3 : hm_M αh3 a0 ρ σh3) (v2_h3 : Int32) (v3_h3 : Int32) (v4_h3 : Int32) (v5_h3 : Int32) (ls : Array Slot) (hl : lv_has ls 6 [(0, .ref a0), (2, .int v2_h3), (3, .int v3_h3), (4, .int v4_h3), (5, .int v5_h3)]) (hf : f_X12_whyGrown_J39 n σh3 v2_h3 v3_h3 v4_h3 v5_h3 = some res), W p l e (hp_rm 42 0 0) s m ([.ref a0, .int a1, .int a2, .int a3, .int a4, .int a5] : List Value).toArray below meth c Hh3 Lh3 0 0 (MQ below (hp_Qi Γ (fun r β => r = res.1 ∧ mo α β ∧ hm_M β a0 ρ res.2)) ([.ref a0, .int a1, .int a2, .int a3, .int a4, .int a5] : List Value).toArray s 0 0 (hp_A Γ)) (F0 m 39 ls []) := by
      intro αh3 Hh3 Lh3 Bh3 σh3 Mh3 v2_h3 v3_h3 v4_h3 v5_h3 ls hl hf
      unfold f_X12_whyGrown_J39 at hf
      refine lv_iload_n hx hb dX12_whyGrown_39 rfl (lv_at hl 1 rfl) (hp_n (n := 40) rfl ?_)
      refine lv_iload hx hb dX12_whyGrown_40 (lv_at hl 3 rfl) (hp_n (n := 42) rfl ?_)
      refine lv_icmp_ne (tgt := 57) hx hb dX12_whyGrown_42 (by decide) (fun c4 => ?_) (fun c4 => hp_n (n := 45) rfl ?_)
      ·
        replace hf := ms_iF c4 hf
        refine lv_iload_n hx hb dX12_whyGrown_57 rfl (lv_at hl 1 rfl) (hp_n (n := 58) rfl ?_)
        refine lv_if_ne (tgt := 63) hx hb dX12_whyGrown_58 (by decide) (fun c5 => ?_) (fun c5 => hp_n (n := 61) rfl ?_)
        ·
          replace hf := ms_iF c5 hf
          refine lv_aload_n hx hb dX12_whyGrown_63 rfl (lv_at hl 0 rfl) (hp_n (n := 64) rfl ?_)
          refine lv_iconst (v := 0) hx hb dX12_whyGrown_64 (by decide) (hp_n (n := 65) rfl ?_)
          refine m_puti (k := 8) (φ := 658) (pc' := 68) C Bh3 Mh3 fl_X12_168 rfl rfl rfl rfl rfl dX12_whyGrown_65 rfl (fun αh6 Hh6 Lh6 σh6 eh6 Bh6 Mh6 => ?_)
          replace hf := ms_lE eh6 hf
          refine lv_aload_n hx hb dX12_whyGrown_68 rfl (lv_at hl 0 rfl) (hp_n (n := 69) rfl ?_)
          refine lv_iload_n hx hb dX12_whyGrown_69 rfl (lv_at hl 2 rfl) (hp_n (n := 70) rfl ?_)
          refine lv_iload_n hx hb dX12_whyGrown_70 rfl (lv_at hl 1 rfl) (hp_n (n := 71) rfl ?_)
          refine lv_iload hx hb dX12_whyGrown_71 (lv_at hl 3 rfl) (hp_n (n := 73) rfl ?_)
          refine lv_iconst (v := 1) hx hb dX12_whyGrown_73 (by decide) (hp_n (n := 74) rfl ?_)
          obtain ⟨σh7, qh7, hf⟩ := ms_bE hf
          refine m_cv (pc' := 77) (a := a0) (ρ := ρ) Bh6 (hp_runV (As := [.int v3_h3, .int v2_h3, .int v4_h3, .int (1 : Int32)]) (rest := []) C Bh6 (m_X12_foldsGrowth n 40 Γ l αh6 a0 ρ σh6 Mh6 v3_h3 v2_h3 v4_h3 (1 : Int32) σh7 qh7) lb_X12_foldsGrowth lv_X12_foldsGrowth lk_X12_187 Mh6.1 rfl (by decide) rfl hl.1 rfl (Nat.le_of_ble_eq_true rfl) dX12_whyGrown_74 ⟨Nat.le_refl _, Nat.le_refl _⟩) rfl (fun αh7 Hh7 Lh7 Bh7 Mh7 => ?_)
          refine lv_aload_n hx hb dX12_whyGrown_77 rfl (lv_at hl 0 rfl) (hp_n (n := 78) rfl ?_)
          refine m_geti (k := 9) (φ := 659) (pc' := 81) C Bh7 Mh7 fl_X12_181 rfl rfl dX12_whyGrown_78 rfl ?_
          refine lv_iload_n hx hb dX12_whyGrown_81 rfl (lv_at hl 2 rfl) (hp_n (n := 82) rfl ?_)
          refine lv_icmp_eq (tgt := 89) hx hb dX12_whyGrown_82 (by decide) (fun c8 => ?_) (fun c8 => hp_n (n := 85) rfl ?_)
          ·
            replace hf := ms_iT c8 hf
            refine lv_aload_n hx hb dX12_whyGrown_89 rfl (lv_at hl 0 rfl) (hp_n (n := 90) rfl ?_)
            refine m_geti (k := 10) (φ := 660) (pc' := 93) C Bh7 Mh7 fl_X12_184 rfl rfl dX12_whyGrown_90 rfl ?_
            refine lv_iload hx hb dX12_whyGrown_93 (lv_at hl 4 rfl) (hp_n (n := 95) rfl ?_)
            refine lv_icmp_eq (tgt := 102) hx hb dX12_whyGrown_95 (by decide) (fun c9 => ?_) (fun c9 => hp_n (n := 98) rfl ?_)
            ·
              replace hf := ms_iT c9 hf
              refine lv_iconst (v := 0) hx hb dX12_whyGrown_102 (by decide) (hp_n (n := 103) rfl ?_)
              cases hf
              exact q_iret C Bh7 hr hlk ⟨rfl, Bh7.2.2, Mh7⟩ dX12_whyGrown_103
            ·
              replace hf := ms_iF c9 hf
              refine lv_iconst (v := 4) hx hb dX12_whyGrown_98 (by decide) (hp_n (n := 99) rfl ?_)
              refine lv_goto (tgt := 103) hx hb dX12_whyGrown_99 (by decide) ?_
              cases hf
              exact q_iret C Bh7 hr hlk ⟨rfl, Bh7.2.2, Mh7⟩ dX12_whyGrown_103
          ·
            replace hf := ms_iF c8 hf
            refine lv_iconst (v := 3) hx hb dX12_whyGrown_85 (by decide) (hp_n (n := 86) rfl ?_)
            refine lv_goto (tgt := 103) hx hb dX12_whyGrown_86 (by decide) ?_
            cases hf
            exact q_iret C Bh7 hr hlk ⟨rfl, Bh7.2.2, Mh7⟩ dX12_whyGrown_103
        ·
          replace hf := ms_iT c5 hf
          refine lv_iconst (v := 0) hx hb dX12_whyGrown_61 (by decide) (hp_n (n := 62) rfl ?_)
          cases hf
          exact q_iret C Bh3 hr hlk ⟨rfl, Bh3.2.2, Mh3⟩ dX12_whyGrown_62
      ·
        replace hf := ms_iT c4 hf
        refine lv_iload_n hx hb dX12_whyGrown_45 rfl (lv_at hl 2 rfl) (hp_n (n := 46) rfl ?_)
        refine lv_iload hx hb dX12_whyGrown_46 (lv_at hl 4 rfl) (hp_n (n := 48) rfl ?_)
        refine lv_icmp_ne (tgt := 55) hx hb dX12_whyGrown_48 (by decide) (fun c10 => ?_) (fun c10 => hp_n (n := 51) rfl ?_)
        ·
          replace hf := ms_iF c10 hf
          refine lv_iconst (v := 3) hx hb dX12_whyGrown_55 (by decide) (hp_n (n := 56) rfl ?_)
          cases hf
          exact q_iret C Bh3 hr hlk ⟨rfl, Bh3.2.2, Mh3⟩ dX12_whyGrown_56
        ·
          replace hf := ms_iT c10 hf
          refine lv_iconst (v := 0) hx hb dX12_whyGrown_51 (by decide) (hp_n (n := 52) rfl ?_)
          refine lv_goto (tgt := 56) hx hb dX12_whyGrown_52 (by decide) ?_
          cases hf
          exact q_iret C Bh3 hr hlk ⟨rfl, Bh3.2.2, Mh3⟩ dX12_whyGrown_56
    refine lv_if_ne (tgt := 39) hx hb dX12_whyGrown_30 (by decide) (fun c11 => ?_) (fun c11 => hp_n (n := 33) rfl ?_)
    ·
      replace hf := ms_iF c11 hf
      exact J39 αh1 Hh1 Lh1 Bh1 σh1 Mh1 a2 a3 a4 a5 ls (lv_sub hl [0, 2, 3, 4, 5] rfl) hf
    ·
      replace hf := ms_iT c11 hf
      refine lv_iload_n hx hb dX12_whyGrown_33 rfl (lv_at hl 3 rfl) (hp_n (n := 34) rfl ?_)
      refine lv_if_eq (tgt := 39) hx hb dX12_whyGrown_34 (by decide) (fun c12 => ?_) (fun c12 => hp_n (n := 37) rfl ?_)
      ·
        replace hf := ms_iT c12 hf
        exact J39 αh1 Hh1 Lh1 Bh1 σh1 Mh1 a2 a3 a4 a5 ls (lv_sub hl [0, 2, 3, 4, 5] rfl) hf
      ·
        replace hf := ms_iF c12 hf
        refine lv_iconst (v := 3) hx hb dX12_whyGrown_37 (by decide) (hp_n (n := 38) rfl ?_)
        cases hf
        exact q_iret C Bh1 hr hlk ⟨rfl, Bh1.2.2, Mh1⟩ dX12_whyGrown_38
  ·
    replace hf := ms_iF c2 hf
    refine lv_iload_n hx hb dX12_whyGrown_15 rfl (lv_at hl 1 rfl) (hp_n (n := 16) rfl ?_)
    refine lv_aload_n hx hb dX12_whyGrown_16 rfl (lv_at hl 0 rfl) (hp_n (n := 17) rfl ?_)
    refine m_geti (k := 7) (φ := 657) (pc' := 20) C Bh1 Mh1 fl_X12_139 rfl rfl dX12_whyGrown_17 rfl ?_
    refine lv_icmp_ge (tgt := 27) hx hb dX12_whyGrown_20 (by decide) (fun c13 => ?_) (fun c13 => hp_n (n := 23) rfl ?_)
    ·
      replace hf := ms_iT c13 hf
      refine lv_iconst (v := 2) hx hb dX12_whyGrown_27 (by decide) (hp_n (n := 28) rfl ?_)
      cases hf
      exact q_iret C Bh1 hr hlk ⟨rfl, Bh1.2.2, Mh1⟩ dX12_whyGrown_28
    ·
      replace hf := ms_iF c13 hf
      refine lv_iconst (v := 1) hx hb dX12_whyGrown_23 (by decide) (hp_n (n := 24) rfl ?_)
      refine lv_goto (tgt := 28) hx hb dX12_whyGrown_24 (by decide) ?_
      cases hf
      exact q_iret C Bh1 hr hlk ⟨rfl, Bh1.2.2, Mh1⟩ dX12_whyGrown_28
def f_X12_foldsBundle (n : Nat) : Nat → ms_T → Int32 → Int32 → Int32 → Option (Int32 × ms_T)
  | 0, _, _, _, _ => none
  | d + 1, σ, a1, a2, a3 =>
    ms_b (f_X12_hasAny n a1 a2 a3) fun rh1 =>
    if rh1 = 0 then
      ms_l (ms_sI σ 658 ((ms_I σ 658) + (1 : Int32))) fun σh10 =>
      ms_g ((ms_I σh10 658) - (1 : Int32)) 128 <|
      some ((ms_E σh10 44 (((ms_I σh10 658) - (1 : Int32))).toNatClampNeg), σh10)
    else
      if a3 = (1 : Int32) then
        ms_l (ms_sI σ 661 ((ms_I σ 661) + (1 : Int32))) fun σh8 =>
        ms_g ((ms_I σh8 661) - (1 : Int32)) 128 <|
        some ((ms_E σh8 44 (((ms_I σh8 661) - (1 : Int32))).toNatClampNeg), σh8)
      else
        ms_b (f_X12_part0 n a3) fun rh4 =>
        ms_c ((f_X12_foldsBundle n d) σ a1 a2 rh4) fun rh5 σh5 =>
        ms_c ((f_X12_foldsBundle n d) σh5 a1 (a2 + rh4) (a3 - rh4)) fun rh6 σh6 =>
        ms_b (f_X12_both n σh6 rh5 rh6) fun rh7 =>
        some (rh7, σh6)
set_option maxRecDepth 100000 in
set_option maxHeartbeats 4000000 in
theorem m_X12_foldsBundle (n : Nat) : ∀ (d : Nat) (Γ : hp_G) (l : Launch) (α : hp_T) (a0 : Nat) (ρ : Nat → Nat) (σ : ms_T) (hM : hm_M α a0 ρ σ) (a1 : Int32) (a2 : Int32) (a3 : Int32) (res : (Int32 × ms_T)) (hf : f_X12_foldsBundle n d σ a1 a2 a3 = some res), Met l yX12_foldsBundle (hp_ws yX12_foldsBundle cX12_foldsBundle 6 (some .int)) (hp_rm (d + 1) 0 0) (hp_Pc Γ α [.ref a0, .int a1, .int a2, .int a3]) (hp_Qi Γ (fun r β => r = res.1 ∧ mo α β ∧ hm_M β a0 ρ res.2)) 0 0 (hp_A Γ) := by
  intro d
  induction d with
  | zero => intro Γ l α a0 ρ σ hM a1 a2 a3 res hf; rw [f_X12_foldsBundle.eq_1] at hf; cases hf
  | succ d ihM =>
    intro Γ l α a0 ρ σ hM a1 a2 a3 res hf
    rw [f_X12_foldsBundle.eq_2] at hf
    refine hp_start (by decide) ?_
    intro p e s m below meth c C hr hlk B0 hnm
    have C : hp_C Γ p m c cX12_foldsBundle 6 s ([.ref a0, .int a1, .int a2, .int a3] : List Value).toArray RX12 := C
    have hx := C.1.1
    have hb := C.1.2.1
    have hown := C.1.2.2.2.1
    have hts := C.1.2.2.2.2
    have B : hp_B Γ mo s α α s.heap [] := ⟨B0.1, B0.2.1, mo_rf⟩
    have hl := lv_entry ([.ref a0, .int a1, .int a2, .int a3]) (n := 6) (Nat.le_of_ble_eq_true rfl)
    show W p l e (hp_rm (d + 1 + 1) 0 0) s m ([.ref a0, .int a1, .int a2, .int a3] : List Value).toArray below meth c s.heap [] 0 0 (MQ below (hp_Qi Γ (fun r β => r = res.1 ∧ mo α β ∧ hm_M β a0 ρ res.2)) ([.ref a0, .int a1, .int a2, .int a3] : List Value).toArray s 0 0 (hp_A Γ)) (entryFrame m ([.ref a0, .int a1, .int a2, .int a3] : List Value).toArray 6)
    rw [lg_entry_eq]
    generalize (lg_sl ([.ref a0, .int a1, .int a2, .int a3]) ++ List.replicate (6 - (lg_sl ([.ref a0, .int a1, .int a2, .int a3])).length) Slot.unset).toArray = ls at hl ⊢
    have hl : lv_has ls 6 [(0, .ref a0), (1, .int a1), (2, .int a2), (3, .int a3)] := hl
    refine lv_iload_n hx hb dX12_foldsBundle_0 rfl (lv_at hl 1 rfl) (hp_n (n := 1) rfl ?_)
    refine lv_iload_n hx hb dX12_foldsBundle_1 rfl (lv_at hl 2 rfl) (hp_n (n := 2) rfl ?_)
    refine lv_iload_n hx hb dX12_foldsBundle_2 rfl (lv_at hl 3 rfl) (hp_n (n := 3) rfl ?_)
    obtain ⟨rh1, qh1, hf⟩ := ms_bE hf
    refine m_cp (pc' := 6) B (hp_runS (As := [.int a1, .int a2, .int a3]) (rest := []) C B (m_X12_hasAny n Γ l α a1 a2 a3 rh1 qh1) lb_X12_hasAny ls_X12_hasAny lk_X12_154 rfl (by omega) rfl hl.1 rfl (Nat.le_of_ble_eq_true rfl) dX12_foldsBundle_3 ⟨Nat.le_refl _, Nat.le_refl _⟩) rfl (fun Hh1 Lh1 Bh1 => ?_)
    refine lv_if_ne (tgt := 31) hx hb dX12_foldsBundle_6 (by decide) (fun c2 => ?_) (fun c2 => hp_n (n := 9) rfl ?_)
    ·
      replace hf := ms_iF c2 hf
      refine lv_iload_n hx hb dX12_foldsBundle_31 rfl (lv_at hl 3 rfl) (hp_n (n := 32) rfl ?_)
      refine lv_iconst (v := 1) hx hb dX12_foldsBundle_32 (by decide) (hp_n (n := 33) rfl ?_)
      refine lv_icmp_ne (tgt := 58) hx hb dX12_foldsBundle_33 (by decide) (fun c3 => ?_) (fun c3 => hp_n (n := 36) rfl ?_)
      ·
        replace hf := ms_iF c3 hf
        refine lv_iload_n hx hb dX12_foldsBundle_58 rfl (lv_at hl 3 rfl) (hp_n (n := 59) rfl ?_)
        obtain ⟨rh4, qh4, hf⟩ := ms_bE hf
        refine m_cp (pc' := 62) Bh1 (hp_runS (As := [.int a3]) (rest := []) C Bh1 (m_X12_part0 n Γ l α a3 rh4 qh4) lb_X12_part0 ls_X12_part0 lk_X12_128 rfl (by omega) rfl hl.1 rfl (Nat.le_of_ble_eq_true rfl) dX12_foldsBundle_59 ⟨Nat.le_refl _, Nat.le_refl _⟩) rfl (fun Hh4 Lh4 Bh4 => ?_)
        refine lv_istore (lv' := [(4, .int rh4), (0, .ref a0), (1, .int a1), (2, .int a2), (3, .int a3)]) hx hb dX12_foldsBundle_62 hl (by decide) rfl (fun ls hl => hp_n (n := 64) rfl ?_)
        refine lv_aload_n hx hb dX12_foldsBundle_64 rfl (lv_at hl 1 rfl) (hp_n (n := 65) rfl ?_)
        refine lv_iload_n hx hb dX12_foldsBundle_65 rfl (lv_at hl 2 rfl) (hp_n (n := 66) rfl ?_)
        refine lv_iload_n hx hb dX12_foldsBundle_66 rfl (lv_at hl 3 rfl) (hp_n (n := 67) rfl ?_)
        refine lv_iload hx hb dX12_foldsBundle_67 (lv_at hl 0 rfl) (hp_n (n := 69) rfl ?_)
        obtain ⟨rh5, σh5, qh5, hf⟩ := ms_cE hf
        refine m_ci (pc' := 72) (a := a0) (ρ := ρ) Bh4 (hp_runV (As := [.int a1, .int a2, .int rh4]) (rest := []) C Bh4 (ihM Γ l α a0 ρ σ hM a1 a2 rh4 (rh5, σh5) qh5) lb_X12_foldsBundle lv_X12_foldsBundle lk_X12_196 hM.1 rfl (by omega) rfl hl.1 rfl (Nat.le_of_ble_eq_true rfl) dX12_foldsBundle_69 ⟨Nat.le_refl _, Nat.le_refl _⟩) rfl (fun αh5 Hh5 Lh5 Bh5 Mh5 => ?_)
        refine lv_istore (lv' := [(5, .int rh5), (4, .int rh4), (0, .ref a0), (1, .int a1), (2, .int a2), (3, .int a3)]) hx hb dX12_foldsBundle_72 hl (by decide) rfl (fun ls hl => hp_n (n := 74) rfl ?_)
        refine lv_aload_n hx hb dX12_foldsBundle_74 rfl (lv_at hl 2 rfl) (hp_n (n := 75) rfl ?_)
        refine lv_iload hx hb dX12_foldsBundle_75 (lv_at hl 0 rfl) (hp_n (n := 77) rfl ?_)
        refine lv_aload_n hx hb dX12_foldsBundle_77 rfl (lv_at hl 2 rfl) (hp_n (n := 78) rfl ?_)
        refine lv_iload_n hx hb dX12_foldsBundle_78 rfl (lv_at hl 3 rfl) (hp_n (n := 79) rfl ?_)
        refine lv_iload_n hx hb dX12_foldsBundle_79 rfl (lv_at hl 4 rfl) (hp_n (n := 80) rfl ?_)
        refine lv_iload hx hb dX12_foldsBundle_80 (lv_at hl 1 rfl) (hp_n (n := 82) rfl ?_)
        refine lv_iadd hx hb dX12_foldsBundle_82 (hp_n (n := 83) rfl ?_)
        refine lv_iload_n hx hb dX12_foldsBundle_83 rfl (lv_at hl 5 rfl) (hp_n (n := 84) rfl ?_)
        refine lv_iload hx hb dX12_foldsBundle_84 (lv_at hl 1 rfl) (hp_n (n := 86) rfl ?_)
        refine lv_isub hx hb dX12_foldsBundle_86 (hp_n (n := 87) rfl ?_)
        obtain ⟨rh6, σh6, qh6, hf⟩ := ms_cE hf
        refine m_ci (pc' := 90) (a := a0) (ρ := ρ) Bh5 (hp_runV (As := [.int a1, .int (a2 + rh4), .int (a3 - rh4)]) (rest := [.int rh5, .ref a0]) C Bh5 (ihM Γ l αh5 a0 ρ σh5 Mh5 a1 (a2 + rh4) (a3 - rh4) (rh6, σh6) qh6) lb_X12_foldsBundle lv_X12_foldsBundle lk_X12_196 Mh5.1 rfl (by omega) rfl hl.1 rfl (Nat.le_of_ble_eq_true rfl) dX12_foldsBundle_87 ⟨Nat.le_refl _, Nat.le_refl _⟩) rfl (fun αh6 Hh6 Lh6 Bh6 Mh6 => ?_)
        obtain ⟨rh7, qh7, hf⟩ := ms_bE hf
        refine m_cp (pc' := 93) Bh6 (hp_runV (As := [.int rh5, .int rh6]) (rest := []) C Bh6 (m_X12_both n Γ l αh6 a0 ρ σh6 Mh6 rh5 rh6 rh7 qh7) lb_X12_both lv_X12_both lk_X12_136 Mh6.1 rfl (by omega) rfl hl.1 rfl (Nat.le_of_ble_eq_true rfl) dX12_foldsBundle_90 ⟨Nat.le_refl _, Nat.le_refl _⟩) rfl (fun Hh7 Lh7 Bh7 => ?_)
        cases hf
        exact q_iret C Bh7 hr hlk ⟨rfl, Bh7.2.2, Mh6⟩ dX12_foldsBundle_93
      ·
        replace hf := ms_iT c3 hf
        refine lv_aload_n hx hb dX12_foldsBundle_36 rfl (lv_at hl 0 rfl) (hp_n (n := 37) rfl ?_)
        refine lv_dup hx hb dX12_foldsBundle_37 rfl (hp_n (n := 38) rfl ?_)
        refine m_geti (k := 11) (φ := 661) (pc' := 41) C Bh1 hM fl_X12_193 rfl rfl dX12_foldsBundle_38 rfl ?_
        refine lv_iconst (v := 1) hx hb dX12_foldsBundle_41 (by decide) (hp_n (n := 42) rfl ?_)
        refine lv_iadd hx hb dX12_foldsBundle_42 (hp_n (n := 43) rfl ?_)
        refine m_puti (k := 11) (φ := 661) (pc' := 46) C Bh1 hM fl_X12_193 rfl rfl rfl rfl rfl dX12_foldsBundle_43 rfl (fun αh8 Hh8 Lh8 σh8 eh8 Bh8 Mh8 => ?_)
        replace hf := ms_lE eh8 hf
        refine lv_aload_n hx hb dX12_foldsBundle_46 rfl (lv_at hl 0 rfl) (hp_n (n := 47) rfl ?_)
        refine m_getr (κ := 44) (k := 6) (pc' := 50) C Bh8 Mh8 fl_X12_22 rfl (by decide) dX12_foldsBundle_47 rfl ?_
        refine lv_aload_n hx hb dX12_foldsBundle_50 rfl (lv_at hl 0 rfl) (hp_n (n := 51) rfl ?_)
        refine m_geti (k := 11) (φ := 661) (pc' := 54) C Bh8 Mh8 fl_X12_193 rfl rfl dX12_foldsBundle_51 rfl ?_
        refine lv_iconst (v := 1) hx hb dX12_foldsBundle_54 (by decide) (hp_n (n := 55) rfl ?_)
        refine lv_isub hx hb dX12_foldsBundle_55 (hp_n (n := 56) rfl ?_)
        obtain ⟨g9, hf⟩ := ms_gE hf
        refine m_ial (κ := 44) (φ := 656) (n := 128) (pc' := 57) C Bh8 Mh8 (by decide) (by decide) rfl g9 dX12_foldsBundle_56 rfl ?_
        cases hf
        exact q_iret C Bh8 hr hlk ⟨rfl, Bh8.2.2, Mh8⟩ dX12_foldsBundle_57
    ·
      replace hf := ms_iT c2 hf
      refine lv_aload_n hx hb dX12_foldsBundle_9 rfl (lv_at hl 0 rfl) (hp_n (n := 10) rfl ?_)
      refine lv_dup hx hb dX12_foldsBundle_10 rfl (hp_n (n := 11) rfl ?_)
      refine m_geti (k := 8) (φ := 658) (pc' := 14) C Bh1 hM fl_X12_168 rfl rfl dX12_foldsBundle_11 rfl ?_
      refine lv_iconst (v := 1) hx hb dX12_foldsBundle_14 (by decide) (hp_n (n := 15) rfl ?_)
      refine lv_iadd hx hb dX12_foldsBundle_15 (hp_n (n := 16) rfl ?_)
      refine m_puti (k := 8) (φ := 658) (pc' := 19) C Bh1 hM fl_X12_168 rfl rfl rfl rfl rfl dX12_foldsBundle_16 rfl (fun αh10 Hh10 Lh10 σh10 eh10 Bh10 Mh10 => ?_)
      replace hf := ms_lE eh10 hf
      refine lv_aload_n hx hb dX12_foldsBundle_19 rfl (lv_at hl 0 rfl) (hp_n (n := 20) rfl ?_)
      refine m_getr (κ := 44) (k := 6) (pc' := 23) C Bh10 Mh10 fl_X12_22 rfl (by decide) dX12_foldsBundle_20 rfl ?_
      refine lv_aload_n hx hb dX12_foldsBundle_23 rfl (lv_at hl 0 rfl) (hp_n (n := 24) rfl ?_)
      refine m_geti (k := 8) (φ := 658) (pc' := 27) C Bh10 Mh10 fl_X12_168 rfl rfl dX12_foldsBundle_24 rfl ?_
      refine lv_iconst (v := 1) hx hb dX12_foldsBundle_27 (by decide) (hp_n (n := 28) rfl ?_)
      refine lv_isub hx hb dX12_foldsBundle_28 (hp_n (n := 29) rfl ?_)
      obtain ⟨g11, hf⟩ := ms_gE hf
      refine m_ial (κ := 44) (φ := 656) (n := 128) (pc' := 30) C Bh10 Mh10 (by decide) (by decide) rfl g11 dX12_foldsBundle_29 rfl ?_
      cases hf
      exact q_iret C Bh10 hr hlk ⟨rfl, Bh10.2.2, Mh10⟩ dX12_foldsBundle_30
def f_X12_whyByRecord (n : Nat) (σ : ms_T) (a1 : Int32) (a2 : Int32) (a3 : Int32) (a4 : Int32) (a5 : Int32) : Option (Int32 × ms_T) :=
  ms_b (f_X12_growth n σ a2 a4) fun σh1 =>
  ms_b (f_X12_fetches n σh1 a1) fun σh2 =>
  ms_c (f_X12_whyGrown n σh2 (ms_I σh2 657) a2 a3 a4 a5) fun rh3 σh3 =>
  some (rh3, σh3)
set_option maxRecDepth 100000 in
set_option maxHeartbeats 4000000 in
theorem m_X12_whyByRecord (n : Nat) (Γ : hp_G) (l : Launch) (α : hp_T) (a0 : Nat) (ρ : Nat → Nat) (σ : ms_T) (hM : hm_M α a0 ρ σ) (a1 : Int32) (a2 : Int32) (a3 : Int32) (a4 : Int32) (a5 : Int32) (res : (Int32 × ms_T)) (hf : f_X12_whyByRecord n σ a1 a2 a3 a4 a5 = some res) : Met l yX12_whyByRecord (hp_ws yX12_whyByRecord cX12_whyByRecord 6 (some .int)) (hp_rm 43 0 0) (hp_Pc Γ α [.ref a0, .int a1, .int a2, .int a3, .int a4, .int a5]) (hp_Qi Γ (fun r β => r = res.1 ∧ mo α β ∧ hm_M β a0 ρ res.2)) 0 0 (hp_A Γ) := by
  unfold f_X12_whyByRecord at hf
  refine hp_start (by decide) ?_
  intro p e s m below meth c C hr hlk B0 hnm
  have C : hp_C Γ p m c cX12_whyByRecord 6 s ([.ref a0, .int a1, .int a2, .int a3, .int a4, .int a5] : List Value).toArray RX12 := C
  have hx := C.1.1
  have hb := C.1.2.1
  have hown := C.1.2.2.2.1
  have hts := C.1.2.2.2.2
  have B : hp_B Γ mo s α α s.heap [] := ⟨B0.1, B0.2.1, mo_rf⟩
  have hl := lv_entry ([.ref a0, .int a1, .int a2, .int a3, .int a4, .int a5]) (n := 6) (Nat.le_of_ble_eq_true rfl)
  show W p l e (hp_rm 43 0 0) s m ([.ref a0, .int a1, .int a2, .int a3, .int a4, .int a5] : List Value).toArray below meth c s.heap [] 0 0 (MQ below (hp_Qi Γ (fun r β => r = res.1 ∧ mo α β ∧ hm_M β a0 ρ res.2)) ([.ref a0, .int a1, .int a2, .int a3, .int a4, .int a5] : List Value).toArray s 0 0 (hp_A Γ)) (entryFrame m ([.ref a0, .int a1, .int a2, .int a3, .int a4, .int a5] : List Value).toArray 6)
  rw [lg_entry_eq]
  generalize (lg_sl ([.ref a0, .int a1, .int a2, .int a3, .int a4, .int a5]) ++ List.replicate (6 - (lg_sl ([.ref a0, .int a1, .int a2, .int a3, .int a4, .int a5])).length) Slot.unset).toArray = ls at hl ⊢
  have hl : lv_has ls 6 [(0, .ref a0), (1, .int a1), (2, .int a2), (3, .int a3), (4, .int a4), (5, .int a5)] := hl
  refine lv_aload_n hx hb dX12_whyByRecord_0 rfl (lv_at hl 0 rfl) (hp_n (n := 1) rfl ?_)
  refine lv_iload_n hx hb dX12_whyByRecord_1 rfl (lv_at hl 2 rfl) (hp_n (n := 2) rfl ?_)
  refine lv_iload hx hb dX12_whyByRecord_2 (lv_at hl 4 rfl) (hp_n (n := 4) rfl ?_)
  obtain ⟨σh1, qh1, hf⟩ := ms_bE hf
  refine m_cv (pc' := 7) (a := a0) (ρ := ρ) B (hp_runV (As := [.int a2, .int a4]) (rest := []) C B (m_X12_growth n Γ l α a0 ρ σ hM a2 a4 σh1 qh1) lb_X12_growth lv_X12_growth lk_X12_190 hM.1 rfl (by decide) rfl hl.1 rfl (Nat.le_of_ble_eq_true rfl) dX12_whyByRecord_4 ⟨Nat.le_refl _, Nat.le_refl _⟩) rfl (fun αh1 Hh1 Lh1 Bh1 Mh1 => ?_)
  refine lv_aload_n hx hb dX12_whyByRecord_7 rfl (lv_at hl 0 rfl) (hp_n (n := 8) rfl ?_)
  refine lv_iload_n hx hb dX12_whyByRecord_8 rfl (lv_at hl 1 rfl) (hp_n (n := 9) rfl ?_)
  obtain ⟨σh2, qh2, hf⟩ := ms_bE hf
  refine m_cv (pc' := 12) (a := a0) (ρ := ρ) Bh1 (hp_runV (As := [.int a1]) (rest := []) C Bh1 (m_X12_fetches n Γ l αh1 a0 ρ σh1 Mh1 a1 σh2 qh2) lb_X12_fetches lv_X12_fetches lk_X12_161 Mh1.1 rfl (by decide) rfl hl.1 rfl (Nat.le_of_ble_eq_true rfl) dX12_whyByRecord_9 ⟨Nat.le_refl _, Nat.le_refl _⟩) rfl (fun αh2 Hh2 Lh2 Bh2 Mh2 => ?_)
  refine lv_aload_n hx hb dX12_whyByRecord_12 rfl (lv_at hl 0 rfl) (hp_n (n := 13) rfl ?_)
  refine lv_aload_n hx hb dX12_whyByRecord_13 rfl (lv_at hl 0 rfl) (hp_n (n := 14) rfl ?_)
  refine m_geti (k := 7) (φ := 657) (pc' := 17) C Bh2 Mh2 fl_X12_139 rfl rfl dX12_whyByRecord_14 rfl ?_
  refine lv_iload_n hx hb dX12_whyByRecord_17 rfl (lv_at hl 2 rfl) (hp_n (n := 18) rfl ?_)
  refine lv_iload_n hx hb dX12_whyByRecord_18 rfl (lv_at hl 3 rfl) (hp_n (n := 19) rfl ?_)
  refine lv_iload hx hb dX12_whyByRecord_19 (lv_at hl 4 rfl) (hp_n (n := 21) rfl ?_)
  refine lv_iload hx hb dX12_whyByRecord_21 (lv_at hl 5 rfl) (hp_n (n := 23) rfl ?_)
  obtain ⟨rh3, σh3, qh3, hf⟩ := ms_cE hf
  refine m_ci (pc' := 26) (a := a0) (ρ := ρ) Bh2 (hp_runV (As := [.int (ms_I σh2 657), .int a2, .int a3, .int a4, .int a5]) (rest := []) C Bh2 (m_X12_whyGrown n Γ l αh2 a0 ρ σh2 Mh2 (ms_I σh2 657) a2 a3 a4 a5 (rh3, σh3) qh3) lb_X12_whyGrown lv_X12_whyGrown lk_X12_199 Mh2.1 rfl (by decide) rfl hl.1 rfl (Nat.le_of_ble_eq_true rfl) dX12_whyByRecord_23 ⟨Nat.le_refl _, Nat.le_refl _⟩) rfl (fun αh3 Hh3 Lh3 Bh3 Mh3 => ?_)
  cases hf
  exact q_iret C Bh3 hr hlk ⟨rfl, Bh3.2.2, Mh3⟩ dX12_whyByRecord_26
def f_X12_type_L102 (n : Nat) : Nat → ms_T → Int32 → Int32 → Option (Int32 × ms_T)
  | 0, _, _, _ => none
  | k102 + 1, σh4, v3_h4, v5_h4 =>
    if v3_h4 ≤ v5_h4 then
      ms_l (ms_sI σh4 664 v3_h4) fun σh6 =>
      some (v3_h4, σh6)
    else
      ms_g v5_h4 8 <|
      ms_g v5_h4 8 <|
      ms_l (ms_sE σh4 45 (v5_h4).toNatClampNeg (ms_E σh4 46 (v5_h4).toNatClampNeg)) fun σh9 =>
      ms_l (v5_h4 + 1) fun x10 =>
      (f_X12_type_L102 n k102) σh9 v3_h4 x10
def f_X12_type_J99 (n : Nat) (σh3 : ms_T) (v3_h3 : Int32) : Option (Int32 × ms_T) :=
  f_X12_type_L102 n n σh3 v3_h3 (0 : Int32)
def f_X12_type_J91 (n : Nat) (rec13 : ms_T → Int32 → Int32 → Int32 → Int32 → Int32 → Option (Int32 × ms_T)) (σh19 : ms_T) (v1_h19 : Int32) (v2_h19 : Int32) (v4_h19 : Int32) (v5_h19 : Int32) (w0_h19 : Int32) (w1_h19 : Int32) : Option (Int32 × ms_T) :=
  ms_l ((w1_h19 + w0_h19)) fun x20 =>
  ms_l (v5_h19 + 1) fun x21 =>
  rec13 σh19 v1_h19 v2_h19 x20 v4_h19 x21
def f_X12_type_J69 (n : Nat) (rec13 : ms_T → Int32 → Int32 → Int32 → Int32 → Int32 → Option (Int32 × ms_T)) (σh16 : ms_T) (v1_h16 : Int32) (v2_h16 : Int32) (v3_h16 : Int32) (v5_h16 : Int32) (v6_h16 : Int32) (w0_h16 : Int32) : Option (Int32 × ms_T) :=
  ms_g v5_h16 8 <|
  ms_l (ms_sE σh16 46 (v5_h16).toNatClampNeg v6_h16) fun σh18 =>
  if w0_h16 = 0 then
    f_X12_type_J91 n rec13 σh18 v1_h16 v2_h16 w0_h16 v5_h16 (0 : Int32) v3_h16
  else
    f_X12_type_J91 n rec13 σh18 v1_h16 v2_h16 w0_h16 v5_h16 (1 : Int32) v3_h16
def f_X12_type_J37 (n : Nat) (rec13 : ms_T → Int32 → Int32 → Int32 → Int32 → Int32 → Option (Int32 × ms_T)) (σh13 : ms_T) (v1_h13 : Int32) (v2_h13 : Int32) (v3_h13 : Int32) (v5_h13 : Int32) (w0_h13 : Int32) : Option (Int32 × ms_T) :=
  ms_l ((((w0_h13).toUInt32 >>> ((((5 : Int32) * (v5_h13 - v5_h13 / (6 : Int32) * (6 : Int32)))).toUInt32 &&& Int32.toUInt32 31)).toInt32 &&& (31 : Int32))) fun x14 =>
  if x14 ≤ (26 : Int32) then
    if x14 ≤ 0 then
      f_X12_type_J69 n rec13 σh13 v1_h13 v2_h13 v3_h13 v5_h13 x14 (0 : Int32)
    else
      f_X12_type_J69 n rec13 σh13 v1_h13 v2_h13 v3_h13 v5_h13 x14 (1 : Int32)
  else
    some ((-1 : Int32), σh13)
def f_X12_type_L13 (n : Nat) : Nat → ms_T → Int32 → Int32 → Int32 → Int32 → Int32 → Option (Int32 × ms_T)
  | 0, _, _, _, _, _, _ => none
  | k13 + 1, σh2, v1_h2, v2_h2, v3_h2, v4_h2, v5_h2 =>
    if (8 : Int32) ≤ v5_h2 then
      f_X12_type_J99 n σh2 v3_h2
    else
      if v4_h2 = 0 then
        f_X12_type_J99 n σh2 v3_h2
      else
        if (6 : Int32) ≤ v5_h2 then
          f_X12_type_J37 n (f_X12_type_L13 n k13) σh2 v1_h2 v2_h2 v3_h2 v5_h2 v2_h2
        else
          f_X12_type_J37 n (f_X12_type_L13 n k13) σh2 v1_h2 v2_h2 v3_h2 v5_h2 v1_h2
def f_X12_type (n : Nat) (σ : ms_T) (a1 : Int32) (a2 : Int32) : Option (Int32 × ms_T) :=
  ms_l (ms_sI σ 653 (0 : Int32)) fun σh1 =>
  f_X12_type_L13 n n σh1 a1 a2 (0 : Int32) (1 : Int32) (0 : Int32)
set_option maxRecDepth 100000 in
set_option maxHeartbeats 4000000 in
theorem m_X12_type (n : Nat) (Γ : hp_G) (l : Launch) (α : hp_T) (a0 : Nat) (ρ : Nat → Nat) (σ : ms_T) (hM : hm_M α a0 ρ σ) (a1 : Int32) (a2 : Int32) (res : (Int32 × ms_T)) (hf : f_X12_type n σ a1 a2 = some res) : Met l yX12_type (hp_ws yX12_type cX12_type 7 (some .int)) (hp_rm 0 0 0) (hp_Pc Γ α [.ref a0, .int a1, .int a2]) (hp_Qi Γ (fun r β => r = res.1 ∧ mo α β ∧ hm_M β a0 ρ res.2)) 0 0 (hp_A Γ) := by
  unfold f_X12_type at hf
  refine hp_start (by decide) ?_
  intro p e s m below meth c C hr hlk B0 hnm
  have C : hp_C Γ p m c cX12_type 7 s ([.ref a0, .int a1, .int a2] : List Value).toArray RX12 := C
  have hx := C.1.1
  have hb := C.1.2.1
  have hown := C.1.2.2.2.1
  have hts := C.1.2.2.2.2
  have B : hp_B Γ mo s α α s.heap [] := ⟨B0.1, B0.2.1, mo_rf⟩
  have hl := lv_entry ([.ref a0, .int a1, .int a2]) (n := 7) (Nat.le_of_ble_eq_true rfl)
  show W p l e (hp_rm 0 0 0) s m ([.ref a0, .int a1, .int a2] : List Value).toArray below meth c s.heap [] 0 0 (MQ below (hp_Qi Γ (fun r β => r = res.1 ∧ mo α β ∧ hm_M β a0 ρ res.2)) ([.ref a0, .int a1, .int a2] : List Value).toArray s 0 0 (hp_A Γ)) (entryFrame m ([.ref a0, .int a1, .int a2] : List Value).toArray 7)
  rw [lg_entry_eq]
  generalize (lg_sl ([.ref a0, .int a1, .int a2]) ++ List.replicate (7 - (lg_sl ([.ref a0, .int a1, .int a2])).length) Slot.unset).toArray = ls at hl ⊢
  have hl : lv_has ls 7 [(0, .ref a0), (1, .int a1), (2, .int a2)] := hl
  refine lv_aload_n hx hb dX12_type_0 rfl (lv_at hl 0 rfl) (hp_n (n := 1) rfl ?_)
  refine lv_iconst (v := 0) hx hb dX12_type_1 (by decide) (hp_n (n := 2) rfl ?_)
  refine m_puti (k := 3) (φ := 653) (pc' := 5) C B hM fl_X12_106 rfl rfl rfl rfl rfl dX12_type_2 rfl (fun αh1 Hh1 Lh1 σh1 eh1 Bh1 Mh1 => ?_)
  replace hf := ms_lE eh1 hf
  refine lv_iconst (v := 0) hx hb dX12_type_5 (by decide) (hp_n (n := 6) rfl ?_)
  refine lv_istore_n (lv' := [(3, .int (0 : Int32)), (0, .ref a0), (1, .int a1), (2, .int a2)]) hx hb dX12_type_6 rfl hl (by decide) rfl (fun ls hl => hp_n (n := 7) rfl ?_)
  refine lv_iconst (v := 1) hx hb dX12_type_7 (by decide) (hp_n (n := 8) rfl ?_)
  refine lv_istore (lv' := [(4, .int (1 : Int32)), (3, .int (0 : Int32)), (0, .ref a0), (1, .int a1), (2, .int a2)]) hx hb dX12_type_8 hl (by decide) rfl (fun ls hl => hp_n (n := 10) rfl ?_)
  refine lv_iconst (v := 0) hx hb dX12_type_10 (by decide) (hp_n (n := 11) rfl ?_)
  have J13 : ∀ (k13 : Nat) (αh2 : hp_T) (Hh2 : Heap) (Lh2 : List Loc) (Bh2 : hp_B Γ mo s α αh2 Hh2 Lh2) (σh2 : ms_T) (Mh2 : hm_M αh2 a0 ρ σh2) (v1_h2 : Int32) (v2_h2 : Int32) (v3_h2 : Int32) (v4_h2 : Int32) (v5_h2 : Int32) (ls : Array Slot) (hl : lv_has ls 7 [(0, .ref a0), (1, .int v1_h2), (2, .int v2_h2), (3, .int v3_h2), (4, .int v4_h2), (5, .int v5_h2)]) (hf : f_X12_type_L13 n k13 σh2 v1_h2 v2_h2 v3_h2 v4_h2 v5_h2 = some res), W p l e (hp_rm 0 0 0) s m ([.ref a0, .int a1, .int a2] : List Value).toArray below meth c Hh2 Lh2 0 0 (MQ below (hp_Qi Γ (fun r β => r = res.1 ∧ mo α β ∧ hm_M β a0 ρ res.2)) ([.ref a0, .int a1, .int a2] : List Value).toArray s 0 0 (hp_A Γ)) (F0 m 13 ls []) := by
    intro k13
    induction k13 with
    | zero => intro αh2 Hh2 Lh2 Bh2 σh2 Mh2 v1_h2 v2_h2 v3_h2 v4_h2 v5_h2 ls hl hf; rw [f_X12_type_L13.eq_1] at hf; cases hf
    | succ k13 ih13 =>
      intro αh2 Hh2 Lh2 Bh2 σh2 Mh2 v1_h2 v2_h2 v3_h2 v4_h2 v5_h2 ls hl hf
      rw [f_X12_type_L13.eq_2] at hf
      refine lv_iload hx hb dX12_type_13 (lv_at hl 5 rfl) (hp_n (n := 15) rfl ?_)
      refine lv_bipush (v := 8) hx hb dX12_type_15 (by decide) (hp_n (n := 17) rfl ?_)
      have J99 : ∀ (αh3 : hp_T) (Hh3 : Heap) (Lh3 : List Loc) (Bh3 : hp_B Γ mo s α αh3 Hh3 Lh3) (σh3 : ms_T) (Mh3 : hm_M αh3 a0 ρ σh3) (v3_h3 : Int32) (ls : Array Slot) (hl : lv_has ls 7 [(0, .ref a0), (3, .int v3_h3)]) (hf : f_X12_type_J99 n σh3 v3_h3 = some res), W p l e (hp_rm 0 0 0) s m ([.ref a0, .int a1, .int a2] : List Value).toArray below meth c Hh3 Lh3 0 0 (MQ below (hp_Qi Γ (fun r β => r = res.1 ∧ mo α β ∧ hm_M β a0 ρ res.2)) ([.ref a0, .int a1, .int a2] : List Value).toArray s 0 0 (hp_A Γ)) (F0 m 99 ls []) := by
        intro αh3 Hh3 Lh3 Bh3 σh3 Mh3 v3_h3 ls hl hf
        unfold f_X12_type_J99 at hf
        refine lv_iconst (v := 0) hx hb dX12_type_99 (by decide) (hp_n (n := 100) rfl ?_)
        have J102 : ∀ (k102 : Nat) (αh4 : hp_T) (Hh4 : Heap) (Lh4 : List Loc) (Bh4 : hp_B Γ mo s α αh4 Hh4 Lh4) (σh4 : ms_T) (Mh4 : hm_M αh4 a0 ρ σh4) (v3_h4 : Int32) (v5_h4 : Int32) (ls : Array Slot) (hl : lv_has ls 7 [(0, .ref a0), (3, .int v3_h4), (5, .int v5_h4)]) (hf : f_X12_type_L102 n k102 σh4 v3_h4 v5_h4 = some res), W p l e (hp_rm 0 0 0) s m ([.ref a0, .int a1, .int a2] : List Value).toArray below meth c Hh4 Lh4 0 0 (MQ below (hp_Qi Γ (fun r β => r = res.1 ∧ mo α β ∧ hm_M β a0 ρ res.2)) ([.ref a0, .int a1, .int a2] : List Value).toArray s 0 0 (hp_A Γ)) (F0 m 102 ls []) := by
          intro k102
          induction k102 with
          | zero => intro αh4 Hh4 Lh4 Bh4 σh4 Mh4 v3_h4 v5_h4 ls hl hf; rw [f_X12_type_L102.eq_1] at hf; cases hf
          | succ k102 ih102 =>
            intro αh4 Hh4 Lh4 Bh4 σh4 Mh4 v3_h4 v5_h4 ls hl hf
            rw [f_X12_type_L102.eq_2] at hf
            refine lv_iload hx hb dX12_type_102 (lv_at hl 2 rfl) (hp_n (n := 104) rfl ?_)
            refine lv_iload_n hx hb dX12_type_104 rfl (lv_at hl 1 rfl) (hp_n (n := 105) rfl ?_)
            refine lv_icmp_ge (tgt := 128) hx hb dX12_type_105 (by decide) (fun c5 => ?_) (fun c5 => hp_n (n := 108) rfl ?_)
            ·
              replace hf := ms_iT c5 hf
              refine lv_aload_n hx hb dX12_type_128 rfl (lv_at hl 0 rfl) (hp_n (n := 129) rfl ?_)
              refine lv_iload_n hx hb dX12_type_129 rfl (lv_at hl 1 rfl) (hp_n (n := 130) rfl ?_)
              refine m_puti (k := 14) (φ := 664) (pc' := 133) C Bh4 Mh4 fl_X12_203 rfl rfl rfl rfl rfl dX12_type_130 rfl (fun αh6 Hh6 Lh6 σh6 eh6 Bh6 Mh6 => ?_)
              replace hf := ms_lE eh6 hf
              refine lv_iload_n hx hb dX12_type_133 rfl (lv_at hl 1 rfl) (hp_n (n := 134) rfl ?_)
              cases hf
              exact q_iret C Bh6 hr hlk ⟨rfl, Bh6.2.2, Mh6⟩ dX12_type_134
            ·
              replace hf := ms_iF c5 hf
              refine lv_aload_n hx hb dX12_type_108 rfl (lv_at hl 0 rfl) (hp_n (n := 109) rfl ?_)
              refine m_getr (κ := 45) (k := 12) (pc' := 112) C Bh4 Mh4 fl_X12_25 rfl (by decide) dX12_type_109 rfl ?_
              refine lv_iload hx hb dX12_type_112 (lv_at hl 2 rfl) (hp_n (n := 114) rfl ?_)
              refine lv_aload_n hx hb dX12_type_114 rfl (lv_at hl 0 rfl) (hp_n (n := 115) rfl ?_)
              refine m_getr (κ := 46) (k := 13) (pc' := 118) C Bh4 Mh4 fl_X12_28 rfl (by decide) dX12_type_115 rfl ?_
              refine lv_iload hx hb dX12_type_118 (lv_at hl 2 rfl) (hp_n (n := 120) rfl ?_)
              obtain ⟨g7, hf⟩ := ms_gE hf
              refine m_ial (κ := 46) (φ := 663) (n := 8) (pc' := 121) C Bh4 Mh4 (by decide) (by decide) rfl g7 dX12_type_120 rfl ?_
              obtain ⟨g8, hf⟩ := ms_gE hf
              refine m_ias (κ := 45) (φ := 662) (n := 8) (pc' := 122) C Bh4 Mh4 (by decide) (by decide) rfl g8 dX12_type_121 rfl (fun αh9 Hh9 Lh9 σh9 eh9 Bh9 Mh9 => ?_)
              replace hf := ms_lE eh9 hf
              obtain ⟨x10, ex10⟩ : ∃ y : Int32, y = v5_h4 + 1 := ⟨_, rfl⟩
              replace hf := ms_lE ex10 hf
              refine lv_iinc (v := x10) (lv' := [(5, .int x10), (0, .ref a0), (3, .int v3_h4)]) hx hb dX12_type_122 hl (k := 2) rfl (by rw [ex10]; rfl) (by decide) rfl (fun ls hl => hp_n (n := 125) rfl ?_)
              refine lv_goto (tgt := 102) hx hb dX12_type_125 (by decide) ?_
              exact ih102 αh9 Hh9 Lh9 Bh9 σh9 Mh9 v3_h4 x10 ls (lv_sub hl [1, 2, 0] rfl) hf
        refine lv_istore (lv' := [(5, .int (0 : Int32)), (0, .ref a0), (3, .int v3_h3)]) hx hb dX12_type_100 hl (by decide) rfl (fun ls hl => hp_n (n := 102) rfl ?_)
        exact J102 n αh3 Hh3 Lh3 Bh3 σh3 Mh3 v3_h3 (0 : Int32) ls (lv_sub hl [1, 2, 0] rfl) hf
      refine lv_icmp_ge (tgt := 99) hx hb dX12_type_17 (by decide) (fun c11 => ?_) (fun c11 => hp_n (n := 20) rfl ?_)
      ·
        replace hf := ms_iT c11 hf
        exact J99 αh2 Hh2 Lh2 Bh2 σh2 Mh2 v3_h2 ls (lv_sub hl [0, 3] rfl) hf
      ·
        replace hf := ms_iF c11 hf
        refine lv_iload hx hb dX12_type_20 (lv_at hl 4 rfl) (hp_n (n := 22) rfl ?_)
        refine lv_if_eq (tgt := 99) hx hb dX12_type_22 (by decide) (fun c12 => ?_) (fun c12 => hp_n (n := 25) rfl ?_)
        ·
          replace hf := ms_iT c12 hf
          exact J99 αh2 Hh2 Lh2 Bh2 σh2 Mh2 v3_h2 ls (lv_sub hl [0, 3] rfl) hf
        ·
          replace hf := ms_iF c12 hf
          refine lv_iload hx hb dX12_type_25 (lv_at hl 5 rfl) (hp_n (n := 27) rfl ?_)
          refine lv_bipush (v := 6) hx hb dX12_type_27 (by decide) (hp_n (n := 29) rfl ?_)
          have J37 : ∀ (αh13 : hp_T) (Hh13 : Heap) (Lh13 : List Loc) (Bh13 : hp_B Γ mo s α αh13 Hh13 Lh13) (σh13 : ms_T) (Mh13 : hm_M αh13 a0 ρ σh13) (v1_h13 : Int32) (v2_h13 : Int32) (v3_h13 : Int32) (v5_h13 : Int32) (w0_h13 : Int32) (ls : Array Slot) (hl : lv_has ls 7 [(0, .ref a0), (1, .int v1_h13), (2, .int v2_h13), (3, .int v3_h13), (5, .int v5_h13)]) (hf : f_X12_type_J37 n (f_X12_type_L13 n k13) σh13 v1_h13 v2_h13 v3_h13 v5_h13 w0_h13 = some res), W p l e (hp_rm 0 0 0) s m ([.ref a0, .int a1, .int a2] : List Value).toArray below meth c Hh13 Lh13 0 0 (MQ below (hp_Qi Γ (fun r β => r = res.1 ∧ mo α β ∧ hm_M β a0 ρ res.2)) ([.ref a0, .int a1, .int a2] : List Value).toArray s 0 0 (hp_A Γ)) (F0 m 37 ls [.int w0_h13]) := by
            intro αh13 Hh13 Lh13 Bh13 σh13 Mh13 v1_h13 v2_h13 v3_h13 v5_h13 w0_h13 ls hl hf
            unfold f_X12_type_J37 at hf
            refine lv_iconst (v := 5) hx hb dX12_type_37 (by decide) (hp_n (n := 38) rfl ?_)
            refine lv_iload hx hb dX12_type_38 (lv_at hl 4 rfl) (hp_n (n := 40) rfl ?_)
            refine lv_bipush (v := 6) hx hb dX12_type_40 (by decide) (hp_n (n := 42) rfl ?_)
            refine lv_irem hx hb dX12_type_42 (by decide) (hp_n (n := 43) rfl ?_)
            refine lv_imul hx hb dX12_type_43 (hp_n (n := 44) rfl ?_)
            refine lv_iushr hx hb dX12_type_44 rfl (hp_n (n := 45) rfl ?_)
            refine lv_bipush (v := 31) hx hb dX12_type_45 (by decide) (hp_n (n := 47) rfl ?_)
            refine lv_iand hx hb dX12_type_47 (hp_n (n := 48) rfl ?_)
            refine lv_topi (fun x14 ex14 => ?_)
            replace hf := ms_lE ex14 hf
            refine lv_istore (lv' := [(6, .int x14), (0, .ref a0), (1, .int v1_h13), (2, .int v2_h13), (3, .int v3_h13), (5, .int v5_h13)]) hx hb dX12_type_48 hl (by decide) rfl (fun ls hl => hp_n (n := 50) rfl ?_)
            refine lv_iload hx hb dX12_type_50 (lv_at hl 0 rfl) (hp_n (n := 52) rfl ?_)
            refine lv_bipush (v := 26) hx hb dX12_type_52 (by decide) (hp_n (n := 54) rfl ?_)
            refine lv_icmp_le (tgt := 59) hx hb dX12_type_54 (by decide) (fun c15 => ?_) (fun c15 => hp_n (n := 57) rfl ?_)
            ·
              replace hf := ms_iT c15 hf
              refine lv_iload hx hb dX12_type_59 (lv_at hl 0 rfl) (hp_n (n := 61) rfl ?_)
              have J69 : ∀ (αh16 : hp_T) (Hh16 : Heap) (Lh16 : List Loc) (Bh16 : hp_B Γ mo s α αh16 Hh16 Lh16) (σh16 : ms_T) (Mh16 : hm_M αh16 a0 ρ σh16) (v1_h16 : Int32) (v2_h16 : Int32) (v3_h16 : Int32) (v5_h16 : Int32) (v6_h16 : Int32) (w0_h16 : Int32) (ls : Array Slot) (hl : lv_has ls 7 [(0, .ref a0), (1, .int v1_h16), (2, .int v2_h16), (3, .int v3_h16), (5, .int v5_h16), (6, .int v6_h16)]) (hf : f_X12_type_J69 n (f_X12_type_L13 n k13) σh16 v1_h16 v2_h16 v3_h16 v5_h16 v6_h16 w0_h16 = some res), W p l e (hp_rm 0 0 0) s m ([.ref a0, .int a1, .int a2] : List Value).toArray below meth c Hh16 Lh16 0 0 (MQ below (hp_Qi Γ (fun r β => r = res.1 ∧ mo α β ∧ hm_M β a0 ρ res.2)) ([.ref a0, .int a1, .int a2] : List Value).toArray s 0 0 (hp_A Γ)) (F0 m 69 ls [.int w0_h16]) := by
                intro αh16 Hh16 Lh16 Bh16 σh16 Mh16 v1_h16 v2_h16 v3_h16 v5_h16 v6_h16 w0_h16 ls hl hf
                unfold f_X12_type_J69 at hf
                refine lv_istore (lv' := [(4, .int w0_h16), (0, .ref a0), (1, .int v1_h16), (2, .int v2_h16), (3, .int v3_h16), (5, .int v5_h16), (6, .int v6_h16)]) hx hb dX12_type_69 hl (by decide) rfl (fun ls hl => hp_n (n := 71) rfl ?_)
                refine lv_aload_n hx hb dX12_type_71 rfl (lv_at hl 1 rfl) (hp_n (n := 72) rfl ?_)
                refine m_getr (κ := 46) (k := 13) (pc' := 75) C Bh16 Mh16 fl_X12_28 rfl (by decide) dX12_type_72 rfl ?_
                refine lv_iload hx hb dX12_type_75 (lv_at hl 5 rfl) (hp_n (n := 77) rfl ?_)
                refine lv_iload hx hb dX12_type_77 (lv_at hl 6 rfl) (hp_n (n := 79) rfl ?_)
                obtain ⟨g17, hf⟩ := ms_gE hf
                refine m_ias (κ := 46) (φ := 663) (n := 8) (pc' := 80) C Bh16 Mh16 (by decide) (by decide) rfl g17 dX12_type_79 rfl (fun αh18 Hh18 Lh18 σh18 eh18 Bh18 Mh18 => ?_)
                replace hf := ms_lE eh18 hf
                refine lv_iload_n hx hb dX12_type_80 rfl (lv_at hl 4 rfl) (hp_n (n := 81) rfl ?_)
                refine lv_iload hx hb dX12_type_81 (lv_at hl 0 rfl) (hp_n (n := 83) rfl ?_)
                have J91 : ∀ (αh19 : hp_T) (Hh19 : Heap) (Lh19 : List Loc) (Bh19 : hp_B Γ mo s α αh19 Hh19 Lh19) (σh19 : ms_T) (Mh19 : hm_M αh19 a0 ρ σh19) (v1_h19 : Int32) (v2_h19 : Int32) (v4_h19 : Int32) (v5_h19 : Int32) (w0_h19 : Int32) (w1_h19 : Int32) (ls : Array Slot) (hl : lv_has ls 7 [(0, .ref a0), (1, .int v1_h19), (2, .int v2_h19), (4, .int v4_h19), (5, .int v5_h19)]) (hf : f_X12_type_J91 n (f_X12_type_L13 n k13) σh19 v1_h19 v2_h19 v4_h19 v5_h19 w0_h19 w1_h19 = some res), W p l e (hp_rm 0 0 0) s m ([.ref a0, .int a1, .int a2] : List Value).toArray below meth c Hh19 Lh19 0 0 (MQ below (hp_Qi Γ (fun r β => r = res.1 ∧ mo α β ∧ hm_M β a0 ρ res.2)) ([.ref a0, .int a1, .int a2] : List Value).toArray s 0 0 (hp_A Γ)) (F0 m 91 ls [.int w0_h19, .int w1_h19]) := by
                  intro αh19 Hh19 Lh19 Bh19 σh19 Mh19 v1_h19 v2_h19 v4_h19 v5_h19 w0_h19 w1_h19 ls hl hf
                  unfold f_X12_type_J91 at hf
                  refine lv_iadd hx hb dX12_type_91 (hp_n (n := 92) rfl ?_)
                  refine lv_topi (fun x20 ex20 => ?_)
                  replace hf := ms_lE ex20 hf
                  refine lv_istore_n (lv' := [(3, .int x20), (0, .ref a0), (1, .int v1_h19), (2, .int v2_h19), (4, .int v4_h19), (5, .int v5_h19)]) hx hb dX12_type_92 rfl hl (by decide) rfl (fun ls hl => hp_n (n := 93) rfl ?_)
                  obtain ⟨x21, ex21⟩ : ∃ y : Int32, y = v5_h19 + 1 := ⟨_, rfl⟩
                  replace hf := ms_lE ex21 hf
                  refine lv_iinc (v := x21) (lv' := [(5, .int x21), (3, .int x20), (0, .ref a0), (1, .int v1_h19), (2, .int v2_h19), (4, .int v4_h19)]) hx hb dX12_type_93 hl (k := 5) rfl (by rw [ex21]; rfl) (by decide) rfl (fun ls hl => hp_n (n := 96) rfl ?_)
                  refine lv_goto (tgt := 13) hx hb dX12_type_96 (by decide) ?_
                  exact ih13 αh19 Hh19 Lh19 Bh19 σh19 Mh19 v1_h19 v2_h19 x20 v4_h19 x21 ls (lv_sub hl [2, 3, 4, 1, 5, 0] rfl) hf
                refine lv_if_eq (tgt := 90) hx hb dX12_type_83 (by decide) (fun c22 => ?_) (fun c22 => hp_n (n := 86) rfl ?_)
                ·
                  replace hf := ms_iT c22 hf
                  refine lv_iconst (v := 0) hx hb dX12_type_90 (by decide) (hp_n (n := 91) rfl ?_)
                  exact J91 αh18 Hh18 Lh18 Bh18 σh18 Mh18 v1_h16 v2_h16 w0_h16 v5_h16 (0 : Int32) v3_h16 ls (lv_sub hl [1, 2, 3, 0, 5] rfl) hf
                ·
                  replace hf := ms_iF c22 hf
                  refine lv_iconst (v := 1) hx hb dX12_type_86 (by decide) (hp_n (n := 87) rfl ?_)
                  refine lv_goto (tgt := 91) hx hb dX12_type_87 (by decide) ?_
                  exact J91 αh18 Hh18 Lh18 Bh18 σh18 Mh18 v1_h16 v2_h16 w0_h16 v5_h16 (1 : Int32) v3_h16 ls (lv_sub hl [1, 2, 3, 0, 5] rfl) hf
              refine lv_if_le (tgt := 68) hx hb dX12_type_61 (by decide) (fun c23 => ?_) (fun c23 => hp_n (n := 64) rfl ?_)
              ·
                replace hf := ms_iT c23 hf
                refine lv_iconst (v := 0) hx hb dX12_type_68 (by decide) (hp_n (n := 69) rfl ?_)
                exact J69 αh13 Hh13 Lh13 Bh13 σh13 Mh13 v1_h13 v2_h13 v3_h13 v5_h13 x14 (0 : Int32) ls (lv_sub hl [1, 2, 3, 4, 5, 0] rfl) hf
              ·
                replace hf := ms_iF c23 hf
                refine lv_iconst (v := 1) hx hb dX12_type_64 (by decide) (hp_n (n := 65) rfl ?_)
                refine lv_goto (tgt := 69) hx hb dX12_type_65 (by decide) ?_
                exact J69 αh13 Hh13 Lh13 Bh13 σh13 Mh13 v1_h13 v2_h13 v3_h13 v5_h13 x14 (1 : Int32) ls (lv_sub hl [1, 2, 3, 4, 5, 0] rfl) hf
            ·
              replace hf := ms_iF c15 hf
              refine lv_iconst (v := (-1)) hx hb dX12_type_57 (by decide) (hp_n (n := 58) rfl ?_)
              cases hf
              exact q_iret C Bh13 hr hlk ⟨rfl, Bh13.2.2, Mh13⟩ dX12_type_58
          refine lv_icmp_ge (tgt := 36) hx hb dX12_type_29 (by decide) (fun c24 => ?_) (fun c24 => hp_n (n := 32) rfl ?_)
          ·
            replace hf := ms_iT c24 hf
            refine lv_iload_n hx hb dX12_type_36 rfl (lv_at hl 2 rfl) (hp_n (n := 37) rfl ?_)
            exact J37 αh2 Hh2 Lh2 Bh2 σh2 Mh2 v1_h2 v2_h2 v3_h2 v5_h2 v2_h2 ls (lv_sub hl [0, 1, 2, 3, 5] rfl) hf
          ·
            replace hf := ms_iF c24 hf
            refine lv_iload_n hx hb dX12_type_32 rfl (lv_at hl 1 rfl) (hp_n (n := 33) rfl ?_)
            refine lv_goto (tgt := 37) hx hb dX12_type_33 (by decide) ?_
            exact J37 αh2 Hh2 Lh2 Bh2 σh2 Mh2 v1_h2 v2_h2 v3_h2 v5_h2 v1_h2 ls (lv_sub hl [0, 1, 2, 3, 5] rfl) hf
  refine lv_istore (lv' := [(5, .int (0 : Int32)), (4, .int (1 : Int32)), (3, .int (0 : Int32)), (0, .ref a0), (1, .int a1), (2, .int a2)]) hx hb dX12_type_11 hl (by decide) rfl (fun ls hl => hp_n (n := 13) rfl ?_)
  exact J13 n αh1 Hh1 Lh1 Bh1 σh1 Mh1 a1 a2 (0 : Int32) (1 : Int32) (0 : Int32) ls (lv_sub hl [3, 4, 5, 2, 1, 0] rfl) hf
def f_X12_hand_L2 (n : Nat) : Nat → ms_T → Int32 → Option ms_T
  | 0, _, _ => none
  | k2 + 1, σh1, v1_h1 =>
    if (ms_I σh1 664) ≤ v1_h1 then
      ms_l (ms_sI σh1 665 (ms_I σh1 664)) fun σh3 =>
      some σh3
    else
      ms_g v1_h1 8 <|
      ms_g v1_h1 8 <|
      ms_l (ms_sE σh1 46 (v1_h1).toNatClampNeg (ms_E σh1 45 (v1_h1).toNatClampNeg)) fun σh6 =>
      ms_l (v1_h1 + 1) fun x7 =>
      (f_X12_hand_L2 n k2) σh6 x7
def f_X12_hand (n : Nat) (σ : ms_T) : Option ms_T :=
  f_X12_hand_L2 n n σ (0 : Int32)
set_option maxRecDepth 100000 in
set_option maxHeartbeats 4000000 in
theorem m_X12_hand (n : Nat) (Γ : hp_G) (l : Launch) (α : hp_T) (a0 : Nat) (ρ : Nat → Nat) (σ : ms_T) (hM : hm_M α a0 ρ σ)  (res : ms_T) (hf : f_X12_hand n σ = some res) : Met l yX12_hand (hp_ws yX12_hand cX12_hand 2 none) (hp_rm 0 0 0) (hp_Pc Γ α [.ref a0]) (hp_Qv Γ (fun β => mo α β ∧ hm_M β a0 ρ res)) 0 0 (hp_A Γ) := by
  unfold f_X12_hand at hf
  refine hp_start (by decide) ?_
  intro p e s m below meth c C hr hlk B0 hnm
  have C : hp_C Γ p m c cX12_hand 2 s ([.ref a0] : List Value).toArray RX12 := C
  have hx := C.1.1
  have hb := C.1.2.1
  have hown := C.1.2.2.2.1
  have hts := C.1.2.2.2.2
  have B : hp_B Γ mo s α α s.heap [] := ⟨B0.1, B0.2.1, mo_rf⟩
  have hl := lv_entry ([.ref a0]) (n := 2) (Nat.le_of_ble_eq_true rfl)
  show W p l e (hp_rm 0 0 0) s m ([.ref a0] : List Value).toArray below meth c s.heap [] 0 0 (MQ below (hp_Qv Γ (fun β => mo α β ∧ hm_M β a0 ρ res)) ([.ref a0] : List Value).toArray s 0 0 (hp_A Γ)) (entryFrame m ([.ref a0] : List Value).toArray 2)
  rw [lg_entry_eq]
  generalize (lg_sl ([.ref a0]) ++ List.replicate (2 - (lg_sl ([.ref a0])).length) Slot.unset).toArray = ls at hl ⊢
  have hl : lv_has ls 2 [(0, .ref a0)] := hl
  refine lv_iconst (v := 0) hx hb dX12_hand_0 (by decide) (hp_n (n := 1) rfl ?_)
  have J2 : ∀ (k2 : Nat) (αh1 : hp_T) (Hh1 : Heap) (Lh1 : List Loc) (Bh1 : hp_B Γ mo s α αh1 Hh1 Lh1) (σh1 : ms_T) (Mh1 : hm_M αh1 a0 ρ σh1) (v1_h1 : Int32) (ls : Array Slot) (hl : lv_has ls 2 [(0, .ref a0), (1, .int v1_h1)]) (hf : f_X12_hand_L2 n k2 σh1 v1_h1 = some res), W p l e (hp_rm 0 0 0) s m ([.ref a0] : List Value).toArray below meth c Hh1 Lh1 0 0 (MQ below (hp_Qv Γ (fun β => mo α β ∧ hm_M β a0 ρ res)) ([.ref a0] : List Value).toArray s 0 0 (hp_A Γ)) (F0 m 2 ls []) := by
    intro k2
    induction k2 with
    | zero => intro αh1 Hh1 Lh1 Bh1 σh1 Mh1 v1_h1 ls hl hf; rw [f_X12_hand_L2.eq_1] at hf; cases hf
    | succ k2 ih2 =>
      intro αh1 Hh1 Lh1 Bh1 σh1 Mh1 v1_h1 ls hl hf
      rw [f_X12_hand_L2.eq_2] at hf
      refine lv_iload_n hx hb dX12_hand_2 rfl (lv_at hl 1 rfl) (hp_n (n := 3) rfl ?_)
      refine lv_aload_n hx hb dX12_hand_3 rfl (lv_at hl 0 rfl) (hp_n (n := 4) rfl ?_)
      refine m_geti (k := 14) (φ := 664) (pc' := 7) C Bh1 Mh1 fl_X12_203 rfl rfl dX12_hand_4 rfl ?_
      refine lv_icmp_ge (tgt := 28) hx hb dX12_hand_7 (by decide) (fun c2 => ?_) (fun c2 => hp_n (n := 10) rfl ?_)
      ·
        replace hf := ms_iT c2 hf
        refine lv_aload_n hx hb dX12_hand_28 rfl (lv_at hl 0 rfl) (hp_n (n := 29) rfl ?_)
        refine lv_aload_n hx hb dX12_hand_29 rfl (lv_at hl 0 rfl) (hp_n (n := 30) rfl ?_)
        refine m_geti (k := 14) (φ := 664) (pc' := 33) C Bh1 Mh1 fl_X12_203 rfl rfl dX12_hand_30 rfl ?_
        refine m_puti (k := 15) (φ := 665) (pc' := 36) C Bh1 Mh1 fl_X12_206 rfl rfl rfl rfl rfl dX12_hand_33 rfl (fun αh3 Hh3 Lh3 σh3 eh3 Bh3 Mh3 => ?_)
        replace hf := ms_lE eh3 hf
        cases hf
        exact q_vret C Bh3 hr hlk ⟨Bh3.2.2, Mh3⟩ dX12_hand_36
      ·
        replace hf := ms_iF c2 hf
        refine lv_aload_n hx hb dX12_hand_10 rfl (lv_at hl 0 rfl) (hp_n (n := 11) rfl ?_)
        refine m_getr (κ := 46) (k := 13) (pc' := 14) C Bh1 Mh1 fl_X12_28 rfl (by decide) dX12_hand_11 rfl ?_
        refine lv_iload_n hx hb dX12_hand_14 rfl (lv_at hl 1 rfl) (hp_n (n := 15) rfl ?_)
        refine lv_aload_n hx hb dX12_hand_15 rfl (lv_at hl 0 rfl) (hp_n (n := 16) rfl ?_)
        refine m_getr (κ := 45) (k := 12) (pc' := 19) C Bh1 Mh1 fl_X12_25 rfl (by decide) dX12_hand_16 rfl ?_
        refine lv_iload_n hx hb dX12_hand_19 rfl (lv_at hl 1 rfl) (hp_n (n := 20) rfl ?_)
        obtain ⟨g4, hf⟩ := ms_gE hf
        refine m_ial (κ := 45) (φ := 662) (n := 8) (pc' := 21) C Bh1 Mh1 (by decide) (by decide) rfl g4 dX12_hand_20 rfl ?_
        obtain ⟨g5, hf⟩ := ms_gE hf
        refine m_ias (κ := 46) (φ := 663) (n := 8) (pc' := 22) C Bh1 Mh1 (by decide) (by decide) rfl g5 dX12_hand_21 rfl (fun αh6 Hh6 Lh6 σh6 eh6 Bh6 Mh6 => ?_)
        replace hf := ms_lE eh6 hf
        obtain ⟨x7, ex7⟩ : ∃ y : Int32, y = v1_h1 + 1 := ⟨_, rfl⟩
        replace hf := ms_lE ex7 hf
        refine lv_iinc (v := x7) (lv' := [(1, .int x7), (0, .ref a0)]) hx hb dX12_hand_22 hl (k := 1) rfl (by rw [ex7]; rfl) (by decide) rfl (fun ls hl => hp_n (n := 25) rfl ?_)
        refine lv_goto (tgt := 2) hx hb dX12_hand_25 (by decide) ?_
        exact ih2 αh6 Hh6 Lh6 Bh6 σh6 Mh6 x7 ls (lv_sub hl [1, 0] rfl) hf
  refine lv_istore_n (lv' := [(1, .int (0 : Int32)), (0, .ref a0)]) hx hb dX12_hand_1 rfl hl (by decide) rfl (fun ls hl => hp_n (n := 2) rfl ?_)
  exact J2 n α s.heap [] B σ hM (0 : Int32) ls (lv_sub hl [1, 0] rfl) hf
def f_X12_adds_L43 (n : Nat) : Nat → ms_T → Int32 → Int32 → Int32 → Option (Int32 × ms_T)
  | 0, _, _, _, _ => none
  | k43 + 1, σh7, v1_h7, v2_h7, v3_h7 =>
    if (ms_I σh7 665) ≤ v3_h7 then
      ms_l (((72 : Int32) + v1_h7)) fun x9 =>
      ms_g x9 1980 <|
      ms_g x9 1980 <|
      ms_l (ms_sE σh7 40 (x9).toNatClampNeg ((ms_E σh7 40 (x9).toNatClampNeg) + (1 : Int32))) fun σh12 =>
      ms_g (4 : Int32) 1980 <|
      ms_g (4 : Int32) 1980 <|
      ms_l (ms_sE σh12 40 ((4 : Int32)).toNatClampNeg ((ms_E σh12 40 ((4 : Int32)).toNatClampNeg) + (1 : Int32))) fun σh15 =>
      ms_b (f_X12_sizeOf n σh15 v1_h7) fun rh16 =>
      some ((rh16 - (1 : Int32)), σh15)
    else
      ms_g v3_h7 8 <|
      ms_g (((444 : Int32) + ((8 : Int32) * v2_h7)) + v3_h7) 1980 <|
      ms_l (ms_sE σh7 40 ((((444 : Int32) + ((8 : Int32) * v2_h7)) + v3_h7)).toNatClampNeg (ms_E σh7 46 (v3_h7).toNatClampNeg)) fun σh19 =>
      ms_l (v3_h7 + 1) fun x20 =>
      (f_X12_adds_L43 n k43) σh19 v1_h7 v2_h7 x20
def f_X12_adds (n : Nat) (σ : ms_T) (a1 : Int32) : Option (Int32 × ms_T) :=
  ms_b (f_X12_sizeOf n σ a1) fun rh1 =>
  if rh1 = (48 : Int32) then
    ms_c (f_X12_refuse n σ (3 : Int32)) fun rh21 σh21 =>
    some (rh21, σh21)
  else
    ms_b (f_X12_sizeOf n σ a1) fun rh3 =>
    ms_l ((((48 : Int32) * a1) + rh3)) fun x4 =>
    ms_g ((252 : Int32) + x4) 1980 <|
    ms_l (ms_sE σ 40 (((252 : Int32) + x4)).toNatClampNeg (ms_I σ 665)) fun σh6 =>
    f_X12_adds_L43 n n σh6 a1 x4 (0 : Int32)
set_option maxRecDepth 100000 in
set_option maxHeartbeats 4000000 in
theorem m_X12_adds (n : Nat) (Γ : hp_G) (l : Launch) (α : hp_T) (a0 : Nat) (ρ : Nat → Nat) (σ : ms_T) (hM : hm_M α a0 ρ σ) (a1 : Int32) (res : (Int32 × ms_T)) (hf : f_X12_adds n σ a1 = some res) : Met l yX12_adds (hp_ws yX12_adds cX12_adds 4 (some .int)) (hp_rm 1 0 0) (hp_Pc Γ α [.ref a0, .int a1]) (hp_Qi Γ (fun r β => r = res.1 ∧ mo α β ∧ hm_M β a0 ρ res.2)) 0 0 (hp_A Γ) := by
  unfold f_X12_adds at hf
  refine hp_start (by decide) ?_
  intro p e s m below meth c C hr hlk B0 hnm
  have C : hp_C Γ p m c cX12_adds 4 s ([.ref a0, .int a1] : List Value).toArray RX12 := C
  have hx := C.1.1
  have hb := C.1.2.1
  have hown := C.1.2.2.2.1
  have hts := C.1.2.2.2.2
  have B : hp_B Γ mo s α α s.heap [] := ⟨B0.1, B0.2.1, mo_rf⟩
  have hl := lv_entry ([.ref a0, .int a1]) (n := 4) (Nat.le_of_ble_eq_true rfl)
  show W p l e (hp_rm 1 0 0) s m ([.ref a0, .int a1] : List Value).toArray below meth c s.heap [] 0 0 (MQ below (hp_Qi Γ (fun r β => r = res.1 ∧ mo α β ∧ hm_M β a0 ρ res.2)) ([.ref a0, .int a1] : List Value).toArray s 0 0 (hp_A Γ)) (entryFrame m ([.ref a0, .int a1] : List Value).toArray 4)
  rw [lg_entry_eq]
  generalize (lg_sl ([.ref a0, .int a1]) ++ List.replicate (4 - (lg_sl ([.ref a0, .int a1])).length) Slot.unset).toArray = ls at hl ⊢
  have hl : lv_has ls 4 [(0, .ref a0), (1, .int a1)] := hl
  refine lv_aload_n hx hb dX12_adds_0 rfl (lv_at hl 0 rfl) (hp_n (n := 1) rfl ?_)
  refine lv_iload_n hx hb dX12_adds_1 rfl (lv_at hl 1 rfl) (hp_n (n := 2) rfl ?_)
  obtain ⟨rh1, qh1, hf⟩ := ms_bE hf
  refine m_cp (pc' := 5) B (hp_runV (As := [.int a1]) (rest := []) C B (m_X12_sizeOf n Γ l α a0 ρ σ hM a1 rh1 qh1) lb_X12_sizeOf lv_X12_sizeOf lk_X12_209 hM.1 rfl (by decide) rfl hl.1 rfl (Nat.le_of_ble_eq_true rfl) dX12_adds_2 ⟨Nat.le_refl _, Nat.le_refl _⟩) rfl (fun Hh1 Lh1 Bh1 => ?_)
  refine lv_bipush (v := 48) hx hb dX12_adds_5 (by decide) (hp_n (n := 7) rfl ?_)
  refine lv_icmp_ne (tgt := 16) hx hb dX12_adds_7 (by decide) (fun c2 => ?_) (fun c2 => hp_n (n := 10) rfl ?_)
  ·
    replace hf := ms_iF c2 hf
    refine lv_bipush (v := 48) hx hb dX12_adds_16 (by decide) (hp_n (n := 18) rfl ?_)
    refine lv_iload_n hx hb dX12_adds_18 rfl (lv_at hl 1 rfl) (hp_n (n := 19) rfl ?_)
    refine lv_imul hx hb dX12_adds_19 (hp_n (n := 20) rfl ?_)
    refine lv_aload_n hx hb dX12_adds_20 rfl (lv_at hl 0 rfl) (hp_n (n := 21) rfl ?_)
    refine lv_iload_n hx hb dX12_adds_21 rfl (lv_at hl 1 rfl) (hp_n (n := 22) rfl ?_)
    obtain ⟨rh3, qh3, hf⟩ := ms_bE hf
    refine m_cp (pc' := 25) Bh1 (hp_runV (As := [.int a1]) (rest := [.int ((48 : Int32) * a1)]) C Bh1 (m_X12_sizeOf n Γ l α a0 ρ σ hM a1 rh3 qh3) lb_X12_sizeOf lv_X12_sizeOf lk_X12_209 hM.1 rfl (by decide) rfl hl.1 rfl (Nat.le_of_ble_eq_true rfl) dX12_adds_22 ⟨Nat.le_refl _, Nat.le_refl _⟩) rfl (fun Hh3 Lh3 Bh3 => ?_)
    refine lv_iadd hx hb dX12_adds_25 (hp_n (n := 26) rfl ?_)
    refine lv_topi (fun x4 ex4 => ?_)
    replace hf := ms_lE ex4 hf
    refine lv_istore_n (lv' := [(2, .int x4), (0, .ref a0), (1, .int a1)]) hx hb dX12_adds_26 rfl hl (by decide) rfl (fun ls hl => hp_n (n := 27) rfl ?_)
    refine lv_aload_n hx hb dX12_adds_27 rfl (lv_at hl 1 rfl) (hp_n (n := 28) rfl ?_)
    refine m_getr (κ := 40) (k := 0) (pc' := 31) C Bh3 hM fl_X12_7 rfl (by decide) dX12_adds_28 rfl ?_
    refine lv_sipush (v := 252) hx hb dX12_adds_31 (by decide) (hp_n (n := 34) rfl ?_)
    refine lv_iload_n hx hb dX12_adds_34 rfl (lv_at hl 0 rfl) (hp_n (n := 35) rfl ?_)
    refine lv_iadd hx hb dX12_adds_35 (hp_n (n := 36) rfl ?_)
    refine lv_aload_n hx hb dX12_adds_36 rfl (lv_at hl 1 rfl) (hp_n (n := 37) rfl ?_)
    refine m_geti (k := 15) (φ := 665) (pc' := 40) C Bh3 hM fl_X12_206 rfl rfl dX12_adds_37 rfl ?_
    obtain ⟨g5, hf⟩ := ms_gE hf
    refine m_ias (κ := 40) (φ := 650) (n := 1980) (pc' := 41) C Bh3 hM (by decide) (by decide) rfl g5 dX12_adds_40 rfl (fun αh6 Hh6 Lh6 σh6 eh6 Bh6 Mh6 => ?_)
    replace hf := ms_lE eh6 hf
    refine lv_iconst (v := 0) hx hb dX12_adds_41 (by decide) (hp_n (n := 42) rfl ?_)
    have J43 : ∀ (k43 : Nat) (αh7 : hp_T) (Hh7 : Heap) (Lh7 : List Loc) (Bh7 : hp_B Γ mo s α αh7 Hh7 Lh7) (σh7 : ms_T) (Mh7 : hm_M αh7 a0 ρ σh7) (v1_h7 : Int32) (v2_h7 : Int32) (v3_h7 : Int32) (ls : Array Slot) (hl : lv_has ls 4 [(0, .ref a0), (1, .int v1_h7), (2, .int v2_h7), (3, .int v3_h7)]) (hf : f_X12_adds_L43 n k43 σh7 v1_h7 v2_h7 v3_h7 = some res), W p l e (hp_rm 1 0 0) s m ([.ref a0, .int a1] : List Value).toArray below meth c Hh7 Lh7 0 0 (MQ below (hp_Qi Γ (fun r β => r = res.1 ∧ mo α β ∧ hm_M β a0 ρ res.2)) ([.ref a0, .int a1] : List Value).toArray s 0 0 (hp_A Γ)) (F0 m 43 ls []) := by
      intro k43
      induction k43 with
      | zero => intro αh7 Hh7 Lh7 Bh7 σh7 Mh7 v1_h7 v2_h7 v3_h7 ls hl hf; rw [f_X12_adds_L43.eq_1] at hf; cases hf
      | succ k43 ih43 =>
        intro αh7 Hh7 Lh7 Bh7 σh7 Mh7 v1_h7 v2_h7 v3_h7 ls hl hf
        rw [f_X12_adds_L43.eq_2] at hf
        refine lv_iload_n hx hb dX12_adds_43 rfl (lv_at hl 3 rfl) (hp_n (n := 44) rfl ?_)
        refine lv_aload_n hx hb dX12_adds_44 rfl (lv_at hl 0 rfl) (hp_n (n := 45) rfl ?_)
        refine m_geti (k := 15) (φ := 665) (pc' := 48) C Bh7 Mh7 fl_X12_206 rfl rfl dX12_adds_45 rfl ?_
        refine lv_icmp_ge (tgt := 78) hx hb dX12_adds_48 (by decide) (fun c8 => ?_) (fun c8 => hp_n (n := 51) rfl ?_)
        ·
          replace hf := ms_iT c8 hf
          refine lv_aload_n hx hb dX12_adds_78 rfl (lv_at hl 0 rfl) (hp_n (n := 79) rfl ?_)
          refine m_getr (κ := 40) (k := 0) (pc' := 82) C Bh7 Mh7 fl_X12_7 rfl (by decide) dX12_adds_79 rfl ?_
          refine lv_bipush (v := 72) hx hb dX12_adds_82 (by decide) (hp_n (n := 84) rfl ?_)
          refine lv_iload_n hx hb dX12_adds_84 rfl (lv_at hl 1 rfl) (hp_n (n := 85) rfl ?_)
          refine lv_iadd hx hb dX12_adds_85 (hp_n (n := 86) rfl ?_)
          refine lv_topi (fun x9 ex9 => ?_)
          replace hf := ms_lE ex9 hf
          refine lv_dup2_11 hx hb dX12_adds_86 rfl rfl (hp_n (n := 87) rfl ?_)
          obtain ⟨g10, hf⟩ := ms_gE hf
          refine m_ial (κ := 40) (φ := 650) (n := 1980) (pc' := 88) C Bh7 Mh7 (by decide) (by decide) rfl g10 dX12_adds_87 rfl ?_
          refine lv_iconst (v := 1) hx hb dX12_adds_88 (by decide) (hp_n (n := 89) rfl ?_)
          refine lv_iadd hx hb dX12_adds_89 (hp_n (n := 90) rfl ?_)
          obtain ⟨g11, hf⟩ := ms_gE hf
          refine m_ias (κ := 40) (φ := 650) (n := 1980) (pc' := 91) C Bh7 Mh7 (by decide) (by decide) rfl g11 dX12_adds_90 rfl (fun αh12 Hh12 Lh12 σh12 eh12 Bh12 Mh12 => ?_)
          replace hf := ms_lE eh12 hf
          refine lv_aload_n hx hb dX12_adds_91 rfl (lv_at hl 0 rfl) (hp_n (n := 92) rfl ?_)
          refine m_getr (κ := 40) (k := 0) (pc' := 95) C Bh12 Mh12 fl_X12_7 rfl (by decide) dX12_adds_92 rfl ?_
          refine lv_iconst (v := 4) hx hb dX12_adds_95 (by decide) (hp_n (n := 96) rfl ?_)
          refine lv_dup2_11 hx hb dX12_adds_96 rfl rfl (hp_n (n := 97) rfl ?_)
          obtain ⟨g13, hf⟩ := ms_gE hf
          refine m_ial (κ := 40) (φ := 650) (n := 1980) (pc' := 98) C Bh12 Mh12 (by decide) (by decide) rfl g13 dX12_adds_97 rfl ?_
          refine lv_iconst (v := 1) hx hb dX12_adds_98 (by decide) (hp_n (n := 99) rfl ?_)
          refine lv_iadd hx hb dX12_adds_99 (hp_n (n := 100) rfl ?_)
          obtain ⟨g14, hf⟩ := ms_gE hf
          refine m_ias (κ := 40) (φ := 650) (n := 1980) (pc' := 101) C Bh12 Mh12 (by decide) (by decide) rfl g14 dX12_adds_100 rfl (fun αh15 Hh15 Lh15 σh15 eh15 Bh15 Mh15 => ?_)
          replace hf := ms_lE eh15 hf
          refine lv_aload_n hx hb dX12_adds_101 rfl (lv_at hl 0 rfl) (hp_n (n := 102) rfl ?_)
          refine lv_iload_n hx hb dX12_adds_102 rfl (lv_at hl 1 rfl) (hp_n (n := 103) rfl ?_)
          obtain ⟨rh16, qh16, hf⟩ := ms_bE hf
          refine m_cp (pc' := 106) Bh15 (hp_runV (As := [.int v1_h7]) (rest := []) C Bh15 (m_X12_sizeOf n Γ l αh15 a0 ρ σh15 Mh15 v1_h7 rh16 qh16) lb_X12_sizeOf lv_X12_sizeOf lk_X12_209 Mh15.1 rfl (by decide) rfl hl.1 rfl (Nat.le_of_ble_eq_true rfl) dX12_adds_103 ⟨Nat.le_refl _, Nat.le_refl _⟩) rfl (fun Hh16 Lh16 Bh16 => ?_)
          refine lv_iconst (v := 1) hx hb dX12_adds_106 (by decide) (hp_n (n := 107) rfl ?_)
          refine lv_isub hx hb dX12_adds_107 (hp_n (n := 108) rfl ?_)
          cases hf
          exact q_iret C Bh16 hr hlk ⟨rfl, Bh16.2.2, Mh15⟩ dX12_adds_108
        ·
          replace hf := ms_iF c8 hf
          refine lv_aload_n hx hb dX12_adds_51 rfl (lv_at hl 0 rfl) (hp_n (n := 52) rfl ?_)
          refine m_getr (κ := 40) (k := 0) (pc' := 55) C Bh7 Mh7 fl_X12_7 rfl (by decide) dX12_adds_52 rfl ?_
          refine lv_sipush (v := 444) hx hb dX12_adds_55 (by decide) (hp_n (n := 58) rfl ?_)
          refine lv_bipush (v := 8) hx hb dX12_adds_58 (by decide) (hp_n (n := 60) rfl ?_)
          refine lv_iload_n hx hb dX12_adds_60 rfl (lv_at hl 2 rfl) (hp_n (n := 61) rfl ?_)
          refine lv_imul hx hb dX12_adds_61 (hp_n (n := 62) rfl ?_)
          refine lv_iadd hx hb dX12_adds_62 (hp_n (n := 63) rfl ?_)
          refine lv_iload_n hx hb dX12_adds_63 rfl (lv_at hl 3 rfl) (hp_n (n := 64) rfl ?_)
          refine lv_iadd hx hb dX12_adds_64 (hp_n (n := 65) rfl ?_)
          refine lv_aload_n hx hb dX12_adds_65 rfl (lv_at hl 0 rfl) (hp_n (n := 66) rfl ?_)
          refine m_getr (κ := 46) (k := 13) (pc' := 69) C Bh7 Mh7 fl_X12_28 rfl (by decide) dX12_adds_66 rfl ?_
          refine lv_iload_n hx hb dX12_adds_69 rfl (lv_at hl 3 rfl) (hp_n (n := 70) rfl ?_)
          obtain ⟨g17, hf⟩ := ms_gE hf
          refine m_ial (κ := 46) (φ := 663) (n := 8) (pc' := 71) C Bh7 Mh7 (by decide) (by decide) rfl g17 dX12_adds_70 rfl ?_
          obtain ⟨g18, hf⟩ := ms_gE hf
          refine m_ias (κ := 40) (φ := 650) (n := 1980) (pc' := 72) C Bh7 Mh7 (by decide) (by decide) rfl g18 dX12_adds_71 rfl (fun αh19 Hh19 Lh19 σh19 eh19 Bh19 Mh19 => ?_)
          replace hf := ms_lE eh19 hf
          obtain ⟨x20, ex20⟩ : ∃ y : Int32, y = v3_h7 + 1 := ⟨_, rfl⟩
          replace hf := ms_lE ex20 hf
          refine lv_iinc (v := x20) (lv' := [(3, .int x20), (0, .ref a0), (1, .int v1_h7), (2, .int v2_h7)]) hx hb dX12_adds_72 hl (k := 3) rfl (by rw [ex20]; rfl) (by decide) rfl (fun ls hl => hp_n (n := 75) rfl ?_)
          refine lv_goto (tgt := 43) hx hb dX12_adds_75 (by decide) ?_
          exact ih43 αh19 Hh19 Lh19 Bh19 σh19 Mh19 v1_h7 v2_h7 x20 ls (lv_sub hl [1, 2, 3, 0] rfl) hf
    refine lv_istore_n (lv' := [(3, .int (0 : Int32)), (2, .int x4), (0, .ref a0), (1, .int a1)]) hx hb dX12_adds_42 rfl hl (by decide) rfl (fun ls hl => hp_n (n := 43) rfl ?_)
    exact J43 n αh6 Hh6 Lh6 Bh6 σh6 Mh6 a1 x4 (0 : Int32) ls (lv_sub hl [2, 3, 1, 0] rfl) hf
  ·
    replace hf := ms_iT c2 hf
    refine lv_aload_n hx hb dX12_adds_10 rfl (lv_at hl 0 rfl) (hp_n (n := 11) rfl ?_)
    refine lv_iconst (v := 3) hx hb dX12_adds_11 (by decide) (hp_n (n := 12) rfl ?_)
    obtain ⟨rh21, σh21, qh21, hf⟩ := ms_cE hf
    refine m_ci (pc' := 15) (a := a0) (ρ := ρ) Bh1 (hp_runV (As := [.int (3 : Int32)]) (rest := []) C Bh1 (m_X12_refuse n Γ l α a0 ρ σ hM (3 : Int32) (rh21, σh21) qh21) lb_X12_refuse lv_X12_refuse lk_X12_212 hM.1 rfl (by decide) rfl hl.1 rfl (Nat.le_of_ble_eq_true rfl) dX12_adds_12 ⟨Nat.le_refl _, Nat.le_refl _⟩) rfl (fun αh21 Hh21 Lh21 Bh21 Mh21 => ?_)
    cases hf
    exact q_iret C Bh21 hr hlk ⟨rfl, Bh21.2.2, Mh21⟩ dX12_adds_15
def f_X12_forks_L82 (n : Nat) (rec41 : ms_T → Int32 → Int32 → Int32 → Int32 → Option (Int32 × ms_T)) : Nat → ms_T → Int32 → Int32 → Int32 → Int32 → Int32 → Option (Int32 × ms_T)
  | 0, _, _, _, _, _, _ => none
  | k82 + 1, σh20, v1_h20, v2_h20, v3_h20, v4_h20, v5_h20 =>
    if (8 : Int32) ≤ v5_h20 then
      ms_l (v4_h20 + 1) fun x22 =>
      rec41 σh20 v1_h20 v2_h20 v3_h20 x22
    else
      ms_g (((444 : Int32) + ((8 : Int32) * (((48 : Int32) * v1_h20) + v4_h20))) + v5_h20) 1980 <|
      ms_g (((444 : Int32) + ((8 : Int32) * (((48 : Int32) * v3_h20) + v4_h20))) + v5_h20) 1980 <|
      ms_l (ms_sE σh20 40 ((((444 : Int32) + ((8 : Int32) * (((48 : Int32) * v3_h20) + v4_h20))) + v5_h20)).toNatClampNeg (ms_E σh20 40 ((((444 : Int32) + ((8 : Int32) * (((48 : Int32) * v1_h20) + v4_h20))) + v5_h20)).toNatClampNeg)) fun σh25 =>
      ms_l (v5_h20 + 1) fun x26 =>
      (f_X12_forks_L82 n rec41 k82) σh25 v1_h20 v2_h20 v3_h20 v4_h20 x26
def f_X12_forks_L41 (n : Nat) : Nat → ms_T → Int32 → Int32 → Int32 → Int32 → Option (Int32 × ms_T)
  | 0, _, _, _, _, _ => none
  | k41 + 1, σh7, v1_h7, v2_h7, v3_h7, v4_h7 =>
    if v2_h7 ≤ v4_h7 then
      ms_g ((72 : Int32) + v3_h7) 1980 <|
      ms_l (ms_sE σh7 40 (((72 : Int32) + v3_h7)).toNatClampNeg v2_h7) fun σh10 =>
      ms_g (0 : Int32) 1980 <|
      ms_g (0 : Int32) 1980 <|
      ms_l (ms_sE σh10 40 ((0 : Int32)).toNatClampNeg ((ms_E σh10 40 ((0 : Int32)).toNatClampNeg) + (1 : Int32))) fun σh13 =>
      ms_g (4 : Int32) 1980 <|
      ms_g (4 : Int32) 1980 <|
      ms_l (ms_sE σh13 40 ((4 : Int32)).toNatClampNeg ((ms_E σh13 40 ((4 : Int32)).toNatClampNeg) + (1 : Int32))) fun σh16 =>
      some (v3_h7, σh16)
    else
      ms_g (((252 : Int32) + ((48 : Int32) * v1_h7)) + v4_h7) 1980 <|
      ms_g (((252 : Int32) + ((48 : Int32) * v3_h7)) + v4_h7) 1980 <|
      ms_l (ms_sE σh7 40 ((((252 : Int32) + ((48 : Int32) * v3_h7)) + v4_h7)).toNatClampNeg (ms_E σh7 40 ((((252 : Int32) + ((48 : Int32) * v1_h7)) + v4_h7)).toNatClampNeg)) fun σh19 =>
      f_X12_forks_L82 n (f_X12_forks_L41 n k41) n σh19 v1_h7 v2_h7 v3_h7 v4_h7 (0 : Int32)
def f_X12_forks (n : Nat) (σ : ms_T) (a1 : Int32) (a2 : Int32) : Option (Int32 × ms_T) :=
  ms_b (f_X12_sizeOf n σ a1) fun rh1 =>
  if a2 ≤ rh1 then
    ms_g (0 : Int32) 1980 <|
    if (ms_E σ 40 ((0 : Int32)).toNatClampNeg) = (4 : Int32) then
      ms_c (f_X12_refuse n σ (3 : Int32)) fun rh27 σh27 =>
      some (rh27, σh27)
    else
      ms_g (0 : Int32) 1980 <|
      ms_l ((ms_E σ 40 ((0 : Int32)).toNatClampNeg)) fun x6 =>
      f_X12_forks_L41 n n σ a1 a2 x6 (0 : Int32)
  else
    ms_c (f_X12_refuse n σ (5 : Int32)) fun rh28 σh28 =>
    some (rh28, σh28)
set_option maxRecDepth 100000 in
set_option maxHeartbeats 4000000 in
theorem m_X12_forks (n : Nat) (Γ : hp_G) (l : Launch) (α : hp_T) (a0 : Nat) (ρ : Nat → Nat) (σ : ms_T) (hM : hm_M α a0 ρ σ) (a1 : Int32) (a2 : Int32) (res : (Int32 × ms_T)) (hf : f_X12_forks n σ a1 a2 = some res) : Met l yX12_forks (hp_ws yX12_forks cX12_forks 6 (some .int)) (hp_rm 1 0 0) (hp_Pc Γ α [.ref a0, .int a1, .int a2]) (hp_Qi Γ (fun r β => r = res.1 ∧ mo α β ∧ hm_M β a0 ρ res.2)) 0 0 (hp_A Γ) := by
  unfold f_X12_forks at hf
  refine hp_start (by decide) ?_
  intro p e s m below meth c C hr hlk B0 hnm
  have C : hp_C Γ p m c cX12_forks 6 s ([.ref a0, .int a1, .int a2] : List Value).toArray RX12 := C
  have hx := C.1.1
  have hb := C.1.2.1
  have hown := C.1.2.2.2.1
  have hts := C.1.2.2.2.2
  have B : hp_B Γ mo s α α s.heap [] := ⟨B0.1, B0.2.1, mo_rf⟩
  have hl := lv_entry ([.ref a0, .int a1, .int a2]) (n := 6) (Nat.le_of_ble_eq_true rfl)
  show W p l e (hp_rm 1 0 0) s m ([.ref a0, .int a1, .int a2] : List Value).toArray below meth c s.heap [] 0 0 (MQ below (hp_Qi Γ (fun r β => r = res.1 ∧ mo α β ∧ hm_M β a0 ρ res.2)) ([.ref a0, .int a1, .int a2] : List Value).toArray s 0 0 (hp_A Γ)) (entryFrame m ([.ref a0, .int a1, .int a2] : List Value).toArray 6)
  rw [lg_entry_eq]
  generalize (lg_sl ([.ref a0, .int a1, .int a2]) ++ List.replicate (6 - (lg_sl ([.ref a0, .int a1, .int a2])).length) Slot.unset).toArray = ls at hl ⊢
  have hl : lv_has ls 6 [(0, .ref a0), (1, .int a1), (2, .int a2)] := hl
  refine lv_iload_n hx hb dX12_forks_0 rfl (lv_at hl 2 rfl) (hp_n (n := 1) rfl ?_)
  refine lv_aload_n hx hb dX12_forks_1 rfl (lv_at hl 0 rfl) (hp_n (n := 2) rfl ?_)
  refine lv_iload_n hx hb dX12_forks_2 rfl (lv_at hl 1 rfl) (hp_n (n := 3) rfl ?_)
  obtain ⟨rh1, qh1, hf⟩ := ms_bE hf
  refine m_cp (pc' := 6) B (hp_runV (As := [.int a1]) (rest := [.int a2]) C B (m_X12_sizeOf n Γ l α a0 ρ σ hM a1 rh1 qh1) lb_X12_sizeOf lv_X12_sizeOf lk_X12_209 hM.1 rfl (by decide) rfl hl.1 rfl (Nat.le_of_ble_eq_true rfl) dX12_forks_3 ⟨Nat.le_refl _, Nat.le_refl _⟩) rfl (fun Hh1 Lh1 Bh1 => ?_)
  refine lv_icmp_le (tgt := 15) hx hb dX12_forks_6 (by decide) (fun c2 => ?_) (fun c2 => hp_n (n := 9) rfl ?_)
  ·
    replace hf := ms_iT c2 hf
    refine lv_aload_n hx hb dX12_forks_15 rfl (lv_at hl 0 rfl) (hp_n (n := 16) rfl ?_)
    refine m_getr (κ := 40) (k := 0) (pc' := 19) C Bh1 hM fl_X12_7 rfl (by decide) dX12_forks_16 rfl ?_
    refine lv_iconst (v := 0) hx hb dX12_forks_19 (by decide) (hp_n (n := 20) rfl ?_)
    obtain ⟨g3, hf⟩ := ms_gE hf
    refine m_ial (κ := 40) (φ := 650) (n := 1980) (pc' := 21) C Bh1 hM (by decide) (by decide) rfl g3 dX12_forks_20 rfl ?_
    refine lv_iconst (v := 4) hx hb dX12_forks_21 (by decide) (hp_n (n := 22) rfl ?_)
    refine lv_icmp_ne (tgt := 31) hx hb dX12_forks_22 (by decide) (fun c4 => ?_) (fun c4 => hp_n (n := 25) rfl ?_)
    ·
      replace hf := ms_iF c4 hf
      refine lv_aload_n hx hb dX12_forks_31 rfl (lv_at hl 0 rfl) (hp_n (n := 32) rfl ?_)
      refine m_getr (κ := 40) (k := 0) (pc' := 35) C Bh1 hM fl_X12_7 rfl (by decide) dX12_forks_32 rfl ?_
      refine lv_iconst (v := 0) hx hb dX12_forks_35 (by decide) (hp_n (n := 36) rfl ?_)
      obtain ⟨g5, hf⟩ := ms_gE hf
      refine m_ial (κ := 40) (φ := 650) (n := 1980) (pc' := 37) C Bh1 hM (by decide) (by decide) rfl g5 dX12_forks_36 rfl ?_
      refine lv_topi (fun x6 ex6 => ?_)
      replace hf := ms_lE ex6 hf
      refine lv_istore_n (lv' := [(3, .int x6), (0, .ref a0), (1, .int a1), (2, .int a2)]) hx hb dX12_forks_37 rfl hl (by decide) rfl (fun ls hl => hp_n (n := 38) rfl ?_)
      refine lv_iconst (v := 0) hx hb dX12_forks_38 (by decide) (hp_n (n := 39) rfl ?_)
      have J41 : ∀ (k41 : Nat) (αh7 : hp_T) (Hh7 : Heap) (Lh7 : List Loc) (Bh7 : hp_B Γ mo s α αh7 Hh7 Lh7) (σh7 : ms_T) (Mh7 : hm_M αh7 a0 ρ σh7) (v1_h7 : Int32) (v2_h7 : Int32) (v3_h7 : Int32) (v4_h7 : Int32) (ls : Array Slot) (hl : lv_has ls 6 [(0, .ref a0), (1, .int v1_h7), (2, .int v2_h7), (3, .int v3_h7), (4, .int v4_h7)]) (hf : f_X12_forks_L41 n k41 σh7 v1_h7 v2_h7 v3_h7 v4_h7 = some res), W p l e (hp_rm 1 0 0) s m ([.ref a0, .int a1, .int a2] : List Value).toArray below meth c Hh7 Lh7 0 0 (MQ below (hp_Qi Γ (fun r β => r = res.1 ∧ mo α β ∧ hm_M β a0 ρ res.2)) ([.ref a0, .int a1, .int a2] : List Value).toArray s 0 0 (hp_A Γ)) (F0 m 41 ls []) := by
        intro k41
        induction k41 with
        | zero => intro αh7 Hh7 Lh7 Bh7 σh7 Mh7 v1_h7 v2_h7 v3_h7 v4_h7 ls hl hf; rw [f_X12_forks_L41.eq_1] at hf; cases hf
        | succ k41 ih41 =>
          intro αh7 Hh7 Lh7 Bh7 σh7 Mh7 v1_h7 v2_h7 v3_h7 v4_h7 ls hl hf
          rw [f_X12_forks_L41.eq_2] at hf
          refine lv_iload hx hb dX12_forks_41 (lv_at hl 4 rfl) (hp_n (n := 43) rfl ?_)
          refine lv_iload_n hx hb dX12_forks_43 rfl (lv_at hl 2 rfl) (hp_n (n := 44) rfl ?_)
          refine lv_icmp_ge (tgt := 145) hx hb dX12_forks_44 (by decide) (fun c8 => ?_) (fun c8 => hp_n (n := 47) rfl ?_)
          ·
            replace hf := ms_iT c8 hf
            refine lv_aload_n hx hb dX12_forks_145 rfl (lv_at hl 0 rfl) (hp_n (n := 146) rfl ?_)
            refine m_getr (κ := 40) (k := 0) (pc' := 149) C Bh7 Mh7 fl_X12_7 rfl (by decide) dX12_forks_146 rfl ?_
            refine lv_bipush (v := 72) hx hb dX12_forks_149 (by decide) (hp_n (n := 151) rfl ?_)
            refine lv_iload_n hx hb dX12_forks_151 rfl (lv_at hl 3 rfl) (hp_n (n := 152) rfl ?_)
            refine lv_iadd hx hb dX12_forks_152 (hp_n (n := 153) rfl ?_)
            refine lv_iload_n hx hb dX12_forks_153 rfl (lv_at hl 2 rfl) (hp_n (n := 154) rfl ?_)
            obtain ⟨g9, hf⟩ := ms_gE hf
            refine m_ias (κ := 40) (φ := 650) (n := 1980) (pc' := 155) C Bh7 Mh7 (by decide) (by decide) rfl g9 dX12_forks_154 rfl (fun αh10 Hh10 Lh10 σh10 eh10 Bh10 Mh10 => ?_)
            replace hf := ms_lE eh10 hf
            refine lv_aload_n hx hb dX12_forks_155 rfl (lv_at hl 0 rfl) (hp_n (n := 156) rfl ?_)
            refine m_getr (κ := 40) (k := 0) (pc' := 159) C Bh10 Mh10 fl_X12_7 rfl (by decide) dX12_forks_156 rfl ?_
            refine lv_iconst (v := 0) hx hb dX12_forks_159 (by decide) (hp_n (n := 160) rfl ?_)
            refine lv_dup2_11 hx hb dX12_forks_160 rfl rfl (hp_n (n := 161) rfl ?_)
            obtain ⟨g11, hf⟩ := ms_gE hf
            refine m_ial (κ := 40) (φ := 650) (n := 1980) (pc' := 162) C Bh10 Mh10 (by decide) (by decide) rfl g11 dX12_forks_161 rfl ?_
            refine lv_iconst (v := 1) hx hb dX12_forks_162 (by decide) (hp_n (n := 163) rfl ?_)
            refine lv_iadd hx hb dX12_forks_163 (hp_n (n := 164) rfl ?_)
            obtain ⟨g12, hf⟩ := ms_gE hf
            refine m_ias (κ := 40) (φ := 650) (n := 1980) (pc' := 165) C Bh10 Mh10 (by decide) (by decide) rfl g12 dX12_forks_164 rfl (fun αh13 Hh13 Lh13 σh13 eh13 Bh13 Mh13 => ?_)
            replace hf := ms_lE eh13 hf
            refine lv_aload_n hx hb dX12_forks_165 rfl (lv_at hl 0 rfl) (hp_n (n := 166) rfl ?_)
            refine m_getr (κ := 40) (k := 0) (pc' := 169) C Bh13 Mh13 fl_X12_7 rfl (by decide) dX12_forks_166 rfl ?_
            refine lv_iconst (v := 4) hx hb dX12_forks_169 (by decide) (hp_n (n := 170) rfl ?_)
            refine lv_dup2_11 hx hb dX12_forks_170 rfl rfl (hp_n (n := 171) rfl ?_)
            obtain ⟨g14, hf⟩ := ms_gE hf
            refine m_ial (κ := 40) (φ := 650) (n := 1980) (pc' := 172) C Bh13 Mh13 (by decide) (by decide) rfl g14 dX12_forks_171 rfl ?_
            refine lv_iconst (v := 1) hx hb dX12_forks_172 (by decide) (hp_n (n := 173) rfl ?_)
            refine lv_iadd hx hb dX12_forks_173 (hp_n (n := 174) rfl ?_)
            obtain ⟨g15, hf⟩ := ms_gE hf
            refine m_ias (κ := 40) (φ := 650) (n := 1980) (pc' := 175) C Bh13 Mh13 (by decide) (by decide) rfl g15 dX12_forks_174 rfl (fun αh16 Hh16 Lh16 σh16 eh16 Bh16 Mh16 => ?_)
            replace hf := ms_lE eh16 hf
            refine lv_iload_n hx hb dX12_forks_175 rfl (lv_at hl 3 rfl) (hp_n (n := 176) rfl ?_)
            cases hf
            exact q_iret C Bh16 hr hlk ⟨rfl, Bh16.2.2, Mh16⟩ dX12_forks_176
          ·
            replace hf := ms_iF c8 hf
            refine lv_aload_n hx hb dX12_forks_47 rfl (lv_at hl 0 rfl) (hp_n (n := 48) rfl ?_)
            refine m_getr (κ := 40) (k := 0) (pc' := 51) C Bh7 Mh7 fl_X12_7 rfl (by decide) dX12_forks_48 rfl ?_
            refine lv_sipush (v := 252) hx hb dX12_forks_51 (by decide) (hp_n (n := 54) rfl ?_)
            refine lv_bipush (v := 48) hx hb dX12_forks_54 (by decide) (hp_n (n := 56) rfl ?_)
            refine lv_iload_n hx hb dX12_forks_56 rfl (lv_at hl 3 rfl) (hp_n (n := 57) rfl ?_)
            refine lv_imul hx hb dX12_forks_57 (hp_n (n := 58) rfl ?_)
            refine lv_iadd hx hb dX12_forks_58 (hp_n (n := 59) rfl ?_)
            refine lv_iload hx hb dX12_forks_59 (lv_at hl 4 rfl) (hp_n (n := 61) rfl ?_)
            refine lv_iadd hx hb dX12_forks_61 (hp_n (n := 62) rfl ?_)
            refine lv_aload_n hx hb dX12_forks_62 rfl (lv_at hl 0 rfl) (hp_n (n := 63) rfl ?_)
            refine m_getr (κ := 40) (k := 0) (pc' := 66) C Bh7 Mh7 fl_X12_7 rfl (by decide) dX12_forks_63 rfl ?_
            refine lv_sipush (v := 252) hx hb dX12_forks_66 (by decide) (hp_n (n := 69) rfl ?_)
            refine lv_bipush (v := 48) hx hb dX12_forks_69 (by decide) (hp_n (n := 71) rfl ?_)
            refine lv_iload_n hx hb dX12_forks_71 rfl (lv_at hl 1 rfl) (hp_n (n := 72) rfl ?_)
            refine lv_imul hx hb dX12_forks_72 (hp_n (n := 73) rfl ?_)
            refine lv_iadd hx hb dX12_forks_73 (hp_n (n := 74) rfl ?_)
            refine lv_iload hx hb dX12_forks_74 (lv_at hl 4 rfl) (hp_n (n := 76) rfl ?_)
            refine lv_iadd hx hb dX12_forks_76 (hp_n (n := 77) rfl ?_)
            obtain ⟨g17, hf⟩ := ms_gE hf
            refine m_ial (κ := 40) (φ := 650) (n := 1980) (pc' := 78) C Bh7 Mh7 (by decide) (by decide) rfl g17 dX12_forks_77 rfl ?_
            obtain ⟨g18, hf⟩ := ms_gE hf
            refine m_ias (κ := 40) (φ := 650) (n := 1980) (pc' := 79) C Bh7 Mh7 (by decide) (by decide) rfl g18 dX12_forks_78 rfl (fun αh19 Hh19 Lh19 σh19 eh19 Bh19 Mh19 => ?_)
            replace hf := ms_lE eh19 hf
            refine lv_iconst (v := 0) hx hb dX12_forks_79 (by decide) (hp_n (n := 80) rfl ?_)
            have J82 : ∀ (k82 : Nat) (αh20 : hp_T) (Hh20 : Heap) (Lh20 : List Loc) (Bh20 : hp_B Γ mo s α αh20 Hh20 Lh20) (σh20 : ms_T) (Mh20 : hm_M αh20 a0 ρ σh20) (v1_h20 : Int32) (v2_h20 : Int32) (v3_h20 : Int32) (v4_h20 : Int32) (v5_h20 : Int32) (ls : Array Slot) (hl : lv_has ls 6 [(0, .ref a0), (1, .int v1_h20), (2, .int v2_h20), (3, .int v3_h20), (4, .int v4_h20), (5, .int v5_h20)]) (hf : f_X12_forks_L82 n (f_X12_forks_L41 n k41) k82 σh20 v1_h20 v2_h20 v3_h20 v4_h20 v5_h20 = some res), W p l e (hp_rm 1 0 0) s m ([.ref a0, .int a1, .int a2] : List Value).toArray below meth c Hh20 Lh20 0 0 (MQ below (hp_Qi Γ (fun r β => r = res.1 ∧ mo α β ∧ hm_M β a0 ρ res.2)) ([.ref a0, .int a1, .int a2] : List Value).toArray s 0 0 (hp_A Γ)) (F0 m 82 ls []) := by
              intro k82
              induction k82 with
              | zero => intro αh20 Hh20 Lh20 Bh20 σh20 Mh20 v1_h20 v2_h20 v3_h20 v4_h20 v5_h20 ls hl hf; rw [f_X12_forks_L82.eq_1] at hf; cases hf
              | succ k82 ih82 =>
                intro αh20 Hh20 Lh20 Bh20 σh20 Mh20 v1_h20 v2_h20 v3_h20 v4_h20 v5_h20 ls hl hf
                rw [f_X12_forks_L82.eq_2] at hf
                refine lv_iload hx hb dX12_forks_82 (lv_at hl 5 rfl) (hp_n (n := 84) rfl ?_)
                refine lv_bipush (v := 8) hx hb dX12_forks_84 (by decide) (hp_n (n := 86) rfl ?_)
                refine lv_icmp_ge (tgt := 139) hx hb dX12_forks_86 (by decide) (fun c21 => ?_) (fun c21 => hp_n (n := 89) rfl ?_)
                ·
                  replace hf := ms_iT c21 hf
                  obtain ⟨x22, ex22⟩ : ∃ y : Int32, y = v4_h20 + 1 := ⟨_, rfl⟩
                  replace hf := ms_lE ex22 hf
                  refine lv_iinc (v := x22) (lv' := [(4, .int x22), (0, .ref a0), (1, .int v1_h20), (2, .int v2_h20), (3, .int v3_h20), (5, .int v5_h20)]) hx hb dX12_forks_139 hl (k := 4) rfl (by rw [ex22]; rfl) (by decide) rfl (fun ls hl => hp_n (n := 142) rfl ?_)
                  refine lv_goto (tgt := 41) hx hb dX12_forks_142 (by decide) ?_
                  exact ih41 αh20 Hh20 Lh20 Bh20 σh20 Mh20 v1_h20 v2_h20 v3_h20 x22 ls (lv_sub hl [1, 2, 3, 4, 0] rfl) hf
                ·
                  replace hf := ms_iF c21 hf
                  refine lv_aload_n hx hb dX12_forks_89 rfl (lv_at hl 0 rfl) (hp_n (n := 90) rfl ?_)
                  refine m_getr (κ := 40) (k := 0) (pc' := 93) C Bh20 Mh20 fl_X12_7 rfl (by decide) dX12_forks_90 rfl ?_
                  refine lv_sipush (v := 444) hx hb dX12_forks_93 (by decide) (hp_n (n := 96) rfl ?_)
                  refine lv_bipush (v := 8) hx hb dX12_forks_96 (by decide) (hp_n (n := 98) rfl ?_)
                  refine lv_bipush (v := 48) hx hb dX12_forks_98 (by decide) (hp_n (n := 100) rfl ?_)
                  refine lv_iload_n hx hb dX12_forks_100 rfl (lv_at hl 3 rfl) (hp_n (n := 101) rfl ?_)
                  refine lv_imul hx hb dX12_forks_101 (hp_n (n := 102) rfl ?_)
                  refine lv_iload hx hb dX12_forks_102 (lv_at hl 4 rfl) (hp_n (n := 104) rfl ?_)
                  refine lv_iadd hx hb dX12_forks_104 (hp_n (n := 105) rfl ?_)
                  refine lv_imul hx hb dX12_forks_105 (hp_n (n := 106) rfl ?_)
                  refine lv_iadd hx hb dX12_forks_106 (hp_n (n := 107) rfl ?_)
                  refine lv_iload hx hb dX12_forks_107 (lv_at hl 5 rfl) (hp_n (n := 109) rfl ?_)
                  refine lv_iadd hx hb dX12_forks_109 (hp_n (n := 110) rfl ?_)
                  refine lv_aload_n hx hb dX12_forks_110 rfl (lv_at hl 0 rfl) (hp_n (n := 111) rfl ?_)
                  refine m_getr (κ := 40) (k := 0) (pc' := 114) C Bh20 Mh20 fl_X12_7 rfl (by decide) dX12_forks_111 rfl ?_
                  refine lv_sipush (v := 444) hx hb dX12_forks_114 (by decide) (hp_n (n := 117) rfl ?_)
                  refine lv_bipush (v := 8) hx hb dX12_forks_117 (by decide) (hp_n (n := 119) rfl ?_)
                  refine lv_bipush (v := 48) hx hb dX12_forks_119 (by decide) (hp_n (n := 121) rfl ?_)
                  refine lv_iload_n hx hb dX12_forks_121 rfl (lv_at hl 1 rfl) (hp_n (n := 122) rfl ?_)
                  refine lv_imul hx hb dX12_forks_122 (hp_n (n := 123) rfl ?_)
                  refine lv_iload hx hb dX12_forks_123 (lv_at hl 4 rfl) (hp_n (n := 125) rfl ?_)
                  refine lv_iadd hx hb dX12_forks_125 (hp_n (n := 126) rfl ?_)
                  refine lv_imul hx hb dX12_forks_126 (hp_n (n := 127) rfl ?_)
                  refine lv_iadd hx hb dX12_forks_127 (hp_n (n := 128) rfl ?_)
                  refine lv_iload hx hb dX12_forks_128 (lv_at hl 5 rfl) (hp_n (n := 130) rfl ?_)
                  refine lv_iadd hx hb dX12_forks_130 (hp_n (n := 131) rfl ?_)
                  obtain ⟨g23, hf⟩ := ms_gE hf
                  refine m_ial (κ := 40) (φ := 650) (n := 1980) (pc' := 132) C Bh20 Mh20 (by decide) (by decide) rfl g23 dX12_forks_131 rfl ?_
                  obtain ⟨g24, hf⟩ := ms_gE hf
                  refine m_ias (κ := 40) (φ := 650) (n := 1980) (pc' := 133) C Bh20 Mh20 (by decide) (by decide) rfl g24 dX12_forks_132 rfl (fun αh25 Hh25 Lh25 σh25 eh25 Bh25 Mh25 => ?_)
                  replace hf := ms_lE eh25 hf
                  obtain ⟨x26, ex26⟩ : ∃ y : Int32, y = v5_h20 + 1 := ⟨_, rfl⟩
                  replace hf := ms_lE ex26 hf
                  refine lv_iinc (v := x26) (lv' := [(5, .int x26), (0, .ref a0), (1, .int v1_h20), (2, .int v2_h20), (3, .int v3_h20), (4, .int v4_h20)]) hx hb dX12_forks_133 hl (k := 5) rfl (by rw [ex26]; rfl) (by decide) rfl (fun ls hl => hp_n (n := 136) rfl ?_)
                  refine lv_goto (tgt := 82) hx hb dX12_forks_136 (by decide) ?_
                  exact ih82 αh25 Hh25 Lh25 Bh25 σh25 Mh25 v1_h20 v2_h20 v3_h20 v4_h20 x26 ls (lv_sub hl [1, 2, 3, 4, 5, 0] rfl) hf
            refine lv_istore (lv' := [(5, .int (0 : Int32)), (0, .ref a0), (1, .int v1_h7), (2, .int v2_h7), (3, .int v3_h7), (4, .int v4_h7)]) hx hb dX12_forks_80 hl (by decide) rfl (fun ls hl => hp_n (n := 82) rfl ?_)
            exact J82 n αh19 Hh19 Lh19 Bh19 σh19 Mh19 v1_h7 v2_h7 v3_h7 v4_h7 (0 : Int32) ls (lv_sub hl [1, 2, 3, 4, 5, 0] rfl) hf
      refine lv_istore (lv' := [(4, .int (0 : Int32)), (3, .int x6), (0, .ref a0), (1, .int a1), (2, .int a2)]) hx hb dX12_forks_39 hl (by decide) rfl (fun ls hl => hp_n (n := 41) rfl ?_)
      exact J41 n α Hh1 Lh1 Bh1 σ hM a1 a2 x6 (0 : Int32) ls (lv_sub hl [2, 3, 4, 1, 0] rfl) hf
    ·
      replace hf := ms_iT c4 hf
      refine lv_aload_n hx hb dX12_forks_25 rfl (lv_at hl 0 rfl) (hp_n (n := 26) rfl ?_)
      refine lv_iconst (v := 3) hx hb dX12_forks_26 (by decide) (hp_n (n := 27) rfl ?_)
      obtain ⟨rh27, σh27, qh27, hf⟩ := ms_cE hf
      refine m_ci (pc' := 30) (a := a0) (ρ := ρ) Bh1 (hp_runV (As := [.int (3 : Int32)]) (rest := []) C Bh1 (m_X12_refuse n Γ l α a0 ρ σ hM (3 : Int32) (rh27, σh27) qh27) lb_X12_refuse lv_X12_refuse lk_X12_212 hM.1 rfl (by decide) rfl hl.1 rfl (Nat.le_of_ble_eq_true rfl) dX12_forks_27 ⟨Nat.le_refl _, Nat.le_refl _⟩) rfl (fun αh27 Hh27 Lh27 Bh27 Mh27 => ?_)
      cases hf
      exact q_iret C Bh27 hr hlk ⟨rfl, Bh27.2.2, Mh27⟩ dX12_forks_30
  ·
    replace hf := ms_iF c2 hf
    refine lv_aload_n hx hb dX12_forks_9 rfl (lv_at hl 0 rfl) (hp_n (n := 10) rfl ?_)
    refine lv_iconst (v := 5) hx hb dX12_forks_10 (by decide) (hp_n (n := 11) rfl ?_)
    obtain ⟨rh28, σh28, qh28, hf⟩ := ms_cE hf
    refine m_ci (pc' := 14) (a := a0) (ρ := ρ) Bh1 (hp_runV (As := [.int (5 : Int32)]) (rest := []) C Bh1 (m_X12_refuse n Γ l α a0 ρ σ hM (5 : Int32) (rh28, σh28) qh28) lb_X12_refuse lv_X12_refuse lk_X12_212 hM.1 rfl (by decide) rfl hl.1 rfl (Nat.le_of_ble_eq_true rfl) dX12_forks_11 ⟨Nat.le_refl _, Nat.le_refl _⟩) rfl (fun αh28 Hh28 Lh28 Bh28 Mh28 => ?_)
    cases hf
    exact q_iret C Bh28 hr hlk ⟨rfl, Bh28.2.2, Mh28⟩ dX12_forks_14
def f_X12_freezes_L98 (n : Nat) : Nat → ms_T → Int32 → Int32 → Option (Int32 × ms_T)
  | 0, _, _, _ => none
  | k98 + 1, σh20, v2_h20, v3_h20 =>
    if (ms_I σh20 657) ≤ v3_h20 then
      ms_g (3 : Int32) 1980 <|
      ms_g (3 : Int32) 1980 <|
      ms_l (ms_sE σh20 40 ((3 : Int32)).toNatClampNeg ((ms_E σh20 40 ((3 : Int32)).toNatClampNeg) + (1 : Int32))) fun σh24 =>
      ms_g (4 : Int32) 1980 <|
      ms_g (4 : Int32) 1980 <|
      ms_l (ms_sE σh24 40 ((4 : Int32)).toNatClampNeg ((ms_E σh24 40 ((4 : Int32)).toNatClampNeg) + (1 : Int32))) fun σh27 =>
      ms_g (3 : Int32) 1980 <|
      some (((ms_E σh27 40 ((3 : Int32)).toNatClampNeg) - (1 : Int32)), σh27)
    else
      ms_g v3_h20 128 <|
      ms_g ((v2_h20 + (4 : Int32)) + v3_h20) 1980 <|
      ms_l (ms_sE σh20 40 (((v2_h20 + (4 : Int32)) + v3_h20)).toNatClampNeg (ms_E σh20 44 (v3_h20).toNatClampNeg)) fun σh31 =>
      ms_l (v3_h20 + 1) fun x32 =>
      (f_X12_freezes_L98 n k98) σh31 v2_h20 x32
def f_X12_freezes (n : Nat) (σ : ms_T) (a1 : Int32) : Option (Int32 × ms_T) :=
  ms_g (3 : Int32) 1980 <|
  if (ms_E σ 40 ((3 : Int32)).toNatClampNeg) = (16 : Int32) then
    ms_c (f_X12_refuse n σ (3 : Int32)) fun rh33 σh33 =>
    some (rh33, σh33)
  else
    ms_g (3 : Int32) 1980 <|
    ms_l (((92 : Int32) + ((10 : Int32) * (ms_E σ 40 ((3 : Int32)).toNatClampNeg)))) fun x4 =>
    ms_g x4 1980 <|
    ms_l (ms_sE σ 40 (x4).toNatClampNeg a1) fun σh6 =>
    ms_b (f_X12_sizeOf n σh6 a1) fun rh7 =>
    ms_g (x4 + (1 : Int32)) 1980 <|
    ms_l (ms_sE σh6 40 ((x4 + (1 : Int32))).toNatClampNeg rh7) fun σh9 =>
    ms_b (f_X12_sizeOf n σh9 a1) fun rh10 =>
    ms_b (f_X12_headOf n σh9 a1 rh10) fun rh11 =>
    ms_g (x4 + (2 : Int32)) 1980 <|
    ms_l (ms_sE σh9 40 ((x4 + (2 : Int32))).toNatClampNeg rh11) fun σh13 =>
    ms_g (4 : Int32) 1980 <|
    ms_g (x4 + (3 : Int32)) 1980 <|
    ms_l (ms_sE σh13 40 ((x4 + (3 : Int32))).toNatClampNeg (ms_E σh13 40 ((4 : Int32)).toNatClampNeg)) fun σh16 =>
    ms_b (f_X12_sizeOf n σh16 a1) fun rh17 =>
    ms_b (f_X12_peaksOf n σh16 rh17) fun σh18 =>
    ms_b (f_X12_fetches n σh18 a1) fun σh19 =>
    f_X12_freezes_L98 n n σh19 x4 (0 : Int32)
set_option maxRecDepth 100000 in
set_option maxHeartbeats 4000000 in
theorem m_X12_freezes (n : Nat) (Γ : hp_G) (l : Launch) (α : hp_T) (a0 : Nat) (ρ : Nat → Nat) (σ : ms_T) (hM : hm_M α a0 ρ σ) (a1 : Int32) (res : (Int32 × ms_T)) (hf : f_X12_freezes n σ a1 = some res) : Met l yX12_freezes (hp_ws yX12_freezes cX12_freezes 4 (some .int)) (hp_rm 43 0 0) (hp_Pc Γ α [.ref a0, .int a1]) (hp_Qi Γ (fun r β => r = res.1 ∧ mo α β ∧ hm_M β a0 ρ res.2)) 0 0 (hp_A Γ) := by
  unfold f_X12_freezes at hf
  refine hp_start (by decide) ?_
  intro p e s m below meth c C hr hlk B0 hnm
  have C : hp_C Γ p m c cX12_freezes 4 s ([.ref a0, .int a1] : List Value).toArray RX12 := C
  have hx := C.1.1
  have hb := C.1.2.1
  have hown := C.1.2.2.2.1
  have hts := C.1.2.2.2.2
  have B : hp_B Γ mo s α α s.heap [] := ⟨B0.1, B0.2.1, mo_rf⟩
  have hl := lv_entry ([.ref a0, .int a1]) (n := 4) (Nat.le_of_ble_eq_true rfl)
  show W p l e (hp_rm 43 0 0) s m ([.ref a0, .int a1] : List Value).toArray below meth c s.heap [] 0 0 (MQ below (hp_Qi Γ (fun r β => r = res.1 ∧ mo α β ∧ hm_M β a0 ρ res.2)) ([.ref a0, .int a1] : List Value).toArray s 0 0 (hp_A Γ)) (entryFrame m ([.ref a0, .int a1] : List Value).toArray 4)
  rw [lg_entry_eq]
  generalize (lg_sl ([.ref a0, .int a1]) ++ List.replicate (4 - (lg_sl ([.ref a0, .int a1])).length) Slot.unset).toArray = ls at hl ⊢
  have hl : lv_has ls 4 [(0, .ref a0), (1, .int a1)] := hl
  refine lv_aload_n hx hb dX12_freezes_0 rfl (lv_at hl 0 rfl) (hp_n (n := 1) rfl ?_)
  refine m_getr (κ := 40) (k := 0) (pc' := 4) C B hM fl_X12_7 rfl (by decide) dX12_freezes_1 rfl ?_
  refine lv_iconst (v := 3) hx hb dX12_freezes_4 (by decide) (hp_n (n := 5) rfl ?_)
  obtain ⟨g1, hf⟩ := ms_gE hf
  refine m_ial (κ := 40) (φ := 650) (n := 1980) (pc' := 6) C B hM (by decide) (by decide) rfl g1 dX12_freezes_5 rfl ?_
  refine lv_bipush (v := 16) hx hb dX12_freezes_6 (by decide) (hp_n (n := 8) rfl ?_)
  refine lv_icmp_ne (tgt := 17) hx hb dX12_freezes_8 (by decide) (fun c2 => ?_) (fun c2 => hp_n (n := 11) rfl ?_)
  ·
    replace hf := ms_iF c2 hf
    refine lv_bipush (v := 92) hx hb dX12_freezes_17 (by decide) (hp_n (n := 19) rfl ?_)
    refine lv_bipush (v := 10) hx hb dX12_freezes_19 (by decide) (hp_n (n := 21) rfl ?_)
    refine lv_aload_n hx hb dX12_freezes_21 rfl (lv_at hl 0 rfl) (hp_n (n := 22) rfl ?_)
    refine m_getr (κ := 40) (k := 0) (pc' := 25) C B hM fl_X12_7 rfl (by decide) dX12_freezes_22 rfl ?_
    refine lv_iconst (v := 3) hx hb dX12_freezes_25 (by decide) (hp_n (n := 26) rfl ?_)
    obtain ⟨g3, hf⟩ := ms_gE hf
    refine m_ial (κ := 40) (φ := 650) (n := 1980) (pc' := 27) C B hM (by decide) (by decide) rfl g3 dX12_freezes_26 rfl ?_
    refine lv_imul hx hb dX12_freezes_27 (hp_n (n := 28) rfl ?_)
    refine lv_iadd hx hb dX12_freezes_28 (hp_n (n := 29) rfl ?_)
    refine lv_topi (fun x4 ex4 => ?_)
    replace hf := ms_lE ex4 hf
    refine lv_istore_n (lv' := [(2, .int x4), (0, .ref a0), (1, .int a1)]) hx hb dX12_freezes_29 rfl hl (by decide) rfl (fun ls hl => hp_n (n := 30) rfl ?_)
    refine lv_aload_n hx hb dX12_freezes_30 rfl (lv_at hl 1 rfl) (hp_n (n := 31) rfl ?_)
    refine m_getr (κ := 40) (k := 0) (pc' := 34) C B hM fl_X12_7 rfl (by decide) dX12_freezes_31 rfl ?_
    refine lv_iload_n hx hb dX12_freezes_34 rfl (lv_at hl 0 rfl) (hp_n (n := 35) rfl ?_)
    refine lv_iload_n hx hb dX12_freezes_35 rfl (lv_at hl 2 rfl) (hp_n (n := 36) rfl ?_)
    obtain ⟨g5, hf⟩ := ms_gE hf
    refine m_ias (κ := 40) (φ := 650) (n := 1980) (pc' := 37) C B hM (by decide) (by decide) rfl g5 dX12_freezes_36 rfl (fun αh6 Hh6 Lh6 σh6 eh6 Bh6 Mh6 => ?_)
    replace hf := ms_lE eh6 hf
    refine lv_aload_n hx hb dX12_freezes_37 rfl (lv_at hl 1 rfl) (hp_n (n := 38) rfl ?_)
    refine m_getr (κ := 40) (k := 0) (pc' := 41) C Bh6 Mh6 fl_X12_7 rfl (by decide) dX12_freezes_38 rfl ?_
    refine lv_iload_n hx hb dX12_freezes_41 rfl (lv_at hl 0 rfl) (hp_n (n := 42) rfl ?_)
    refine lv_iconst (v := 1) hx hb dX12_freezes_42 (by decide) (hp_n (n := 43) rfl ?_)
    refine lv_iadd hx hb dX12_freezes_43 (hp_n (n := 44) rfl ?_)
    refine lv_aload_n hx hb dX12_freezes_44 rfl (lv_at hl 1 rfl) (hp_n (n := 45) rfl ?_)
    refine lv_iload_n hx hb dX12_freezes_45 rfl (lv_at hl 2 rfl) (hp_n (n := 46) rfl ?_)
    obtain ⟨rh7, qh7, hf⟩ := ms_bE hf
    refine m_cp (pc' := 49) Bh6 (hp_runV (As := [.int a1]) (rest := [.int (x4 + (1 : Int32)), .ref (ρ 40)]) C Bh6 (m_X12_sizeOf n Γ l αh6 a0 ρ σh6 Mh6 a1 rh7 qh7) lb_X12_sizeOf lv_X12_sizeOf lk_X12_209 Mh6.1 rfl (by decide) rfl hl.1 rfl (Nat.le_of_ble_eq_true rfl) dX12_freezes_46 ⟨Nat.le_refl _, Nat.le_refl _⟩) rfl (fun Hh7 Lh7 Bh7 => ?_)
    obtain ⟨g8, hf⟩ := ms_gE hf
    refine m_ias (κ := 40) (φ := 650) (n := 1980) (pc' := 50) C Bh7 Mh6 (by decide) (by decide) rfl g8 dX12_freezes_49 rfl (fun αh9 Hh9 Lh9 σh9 eh9 Bh9 Mh9 => ?_)
    replace hf := ms_lE eh9 hf
    refine lv_aload_n hx hb dX12_freezes_50 rfl (lv_at hl 1 rfl) (hp_n (n := 51) rfl ?_)
    refine m_getr (κ := 40) (k := 0) (pc' := 54) C Bh9 Mh9 fl_X12_7 rfl (by decide) dX12_freezes_51 rfl ?_
    refine lv_iload_n hx hb dX12_freezes_54 rfl (lv_at hl 0 rfl) (hp_n (n := 55) rfl ?_)
    refine lv_iconst (v := 2) hx hb dX12_freezes_55 (by decide) (hp_n (n := 56) rfl ?_)
    refine lv_iadd hx hb dX12_freezes_56 (hp_n (n := 57) rfl ?_)
    refine lv_aload_n hx hb dX12_freezes_57 rfl (lv_at hl 1 rfl) (hp_n (n := 58) rfl ?_)
    refine lv_iload_n hx hb dX12_freezes_58 rfl (lv_at hl 2 rfl) (hp_n (n := 59) rfl ?_)
    refine lv_aload_n hx hb dX12_freezes_59 rfl (lv_at hl 1 rfl) (hp_n (n := 60) rfl ?_)
    refine lv_iload_n hx hb dX12_freezes_60 rfl (lv_at hl 2 rfl) (hp_n (n := 61) rfl ?_)
    obtain ⟨rh10, qh10, hf⟩ := ms_bE hf
    refine m_cp (pc' := 64) Bh9 (hp_runV (As := [.int a1]) (rest := [.int a1, .ref a0, .int (x4 + (2 : Int32)), .ref (ρ 40)]) C Bh9 (m_X12_sizeOf n Γ l αh9 a0 ρ σh9 Mh9 a1 rh10 qh10) lb_X12_sizeOf lv_X12_sizeOf lk_X12_209 Mh9.1 rfl (by decide) rfl hl.1 rfl (Nat.le_of_ble_eq_true rfl) dX12_freezes_61 ⟨Nat.le_refl _, Nat.le_refl _⟩) rfl (fun Hh10 Lh10 Bh10 => ?_)
    obtain ⟨rh11, qh11, hf⟩ := ms_bE hf
    refine m_cp (pc' := 67) Bh10 (hp_runV (As := [.int a1, .int rh10]) (rest := [.int (x4 + (2 : Int32)), .ref (ρ 40)]) C Bh10 (m_X12_headOf n Γ l αh9 a0 ρ σh9 Mh9 a1 rh10 rh11 qh11) lb_X12_headOf lv_X12_headOf lk_X12_215 Mh9.1 rfl (by decide) rfl hl.1 rfl (Nat.le_of_ble_eq_true rfl) dX12_freezes_64 ⟨Nat.le_refl _, Nat.le_refl _⟩) rfl (fun Hh11 Lh11 Bh11 => ?_)
    obtain ⟨g12, hf⟩ := ms_gE hf
    refine m_ias (κ := 40) (φ := 650) (n := 1980) (pc' := 68) C Bh11 Mh9 (by decide) (by decide) rfl g12 dX12_freezes_67 rfl (fun αh13 Hh13 Lh13 σh13 eh13 Bh13 Mh13 => ?_)
    replace hf := ms_lE eh13 hf
    refine lv_aload_n hx hb dX12_freezes_68 rfl (lv_at hl 1 rfl) (hp_n (n := 69) rfl ?_)
    refine m_getr (κ := 40) (k := 0) (pc' := 72) C Bh13 Mh13 fl_X12_7 rfl (by decide) dX12_freezes_69 rfl ?_
    refine lv_iload_n hx hb dX12_freezes_72 rfl (lv_at hl 0 rfl) (hp_n (n := 73) rfl ?_)
    refine lv_iconst (v := 3) hx hb dX12_freezes_73 (by decide) (hp_n (n := 74) rfl ?_)
    refine lv_iadd hx hb dX12_freezes_74 (hp_n (n := 75) rfl ?_)
    refine lv_aload_n hx hb dX12_freezes_75 rfl (lv_at hl 1 rfl) (hp_n (n := 76) rfl ?_)
    refine m_getr (κ := 40) (k := 0) (pc' := 79) C Bh13 Mh13 fl_X12_7 rfl (by decide) dX12_freezes_76 rfl ?_
    refine lv_iconst (v := 4) hx hb dX12_freezes_79 (by decide) (hp_n (n := 80) rfl ?_)
    obtain ⟨g14, hf⟩ := ms_gE hf
    refine m_ial (κ := 40) (φ := 650) (n := 1980) (pc' := 81) C Bh13 Mh13 (by decide) (by decide) rfl g14 dX12_freezes_80 rfl ?_
    obtain ⟨g15, hf⟩ := ms_gE hf
    refine m_ias (κ := 40) (φ := 650) (n := 1980) (pc' := 82) C Bh13 Mh13 (by decide) (by decide) rfl g15 dX12_freezes_81 rfl (fun αh16 Hh16 Lh16 σh16 eh16 Bh16 Mh16 => ?_)
    replace hf := ms_lE eh16 hf
    refine lv_aload_n hx hb dX12_freezes_82 rfl (lv_at hl 1 rfl) (hp_n (n := 83) rfl ?_)
    refine lv_aload_n hx hb dX12_freezes_83 rfl (lv_at hl 1 rfl) (hp_n (n := 84) rfl ?_)
    refine lv_iload_n hx hb dX12_freezes_84 rfl (lv_at hl 2 rfl) (hp_n (n := 85) rfl ?_)
    obtain ⟨rh17, qh17, hf⟩ := ms_bE hf
    refine m_cp (pc' := 88) Bh16 (hp_runV (As := [.int a1]) (rest := [.ref a0]) C Bh16 (m_X12_sizeOf n Γ l αh16 a0 ρ σh16 Mh16 a1 rh17 qh17) lb_X12_sizeOf lv_X12_sizeOf lk_X12_209 Mh16.1 rfl (by decide) rfl hl.1 rfl (Nat.le_of_ble_eq_true rfl) dX12_freezes_85 ⟨Nat.le_refl _, Nat.le_refl _⟩) rfl (fun Hh17 Lh17 Bh17 => ?_)
    obtain ⟨σh18, qh18, hf⟩ := ms_bE hf
    refine m_cv (pc' := 91) (a := a0) (ρ := ρ) Bh17 (hp_runV (As := [.int rh17]) (rest := []) C Bh17 (m_X12_peaksOf n Γ l αh16 a0 ρ σh16 Mh16 rh17 σh18 qh18) lb_X12_peaksOf lv_X12_peaksOf lk_X12_218 Mh16.1 rfl (by decide) rfl hl.1 rfl (Nat.le_of_ble_eq_true rfl) dX12_freezes_88 ⟨Nat.le_refl _, Nat.le_refl _⟩) rfl (fun αh18 Hh18 Lh18 Bh18 Mh18 => ?_)
    refine lv_aload_n hx hb dX12_freezes_91 rfl (lv_at hl 1 rfl) (hp_n (n := 92) rfl ?_)
    refine lv_iload_n hx hb dX12_freezes_92 rfl (lv_at hl 2 rfl) (hp_n (n := 93) rfl ?_)
    obtain ⟨σh19, qh19, hf⟩ := ms_bE hf
    refine m_cv (pc' := 96) (a := a0) (ρ := ρ) Bh18 (hp_runV (As := [.int a1]) (rest := []) C Bh18 (m_X12_fetches n Γ l αh18 a0 ρ σh18 Mh18 a1 σh19 qh19) lb_X12_fetches lv_X12_fetches lk_X12_161 Mh18.1 rfl (by decide) rfl hl.1 rfl (Nat.le_of_ble_eq_true rfl) dX12_freezes_93 ⟨Nat.le_refl _, Nat.le_refl _⟩) rfl (fun αh19 Hh19 Lh19 Bh19 Mh19 => ?_)
    refine lv_iconst (v := 0) hx hb dX12_freezes_96 (by decide) (hp_n (n := 97) rfl ?_)
    have J98 : ∀ (k98 : Nat) (αh20 : hp_T) (Hh20 : Heap) (Lh20 : List Loc) (Bh20 : hp_B Γ mo s α αh20 Hh20 Lh20) (σh20 : ms_T) (Mh20 : hm_M αh20 a0 ρ σh20) (v2_h20 : Int32) (v3_h20 : Int32) (ls : Array Slot) (hl : lv_has ls 4 [(0, .ref a0), (2, .int v2_h20), (3, .int v3_h20)]) (hf : f_X12_freezes_L98 n k98 σh20 v2_h20 v3_h20 = some res), W p l e (hp_rm 43 0 0) s m ([.ref a0, .int a1] : List Value).toArray below meth c Hh20 Lh20 0 0 (MQ below (hp_Qi Γ (fun r β => r = res.1 ∧ mo α β ∧ hm_M β a0 ρ res.2)) ([.ref a0, .int a1] : List Value).toArray s 0 0 (hp_A Γ)) (F0 m 98 ls []) := by
      intro k98
      induction k98 with
      | zero => intro αh20 Hh20 Lh20 Bh20 σh20 Mh20 v2_h20 v3_h20 ls hl hf; rw [f_X12_freezes_L98.eq_1] at hf; cases hf
      | succ k98 ih98 =>
        intro αh20 Hh20 Lh20 Bh20 σh20 Mh20 v2_h20 v3_h20 ls hl hf
        rw [f_X12_freezes_L98.eq_2] at hf
        refine lv_iload_n hx hb dX12_freezes_98 rfl (lv_at hl 2 rfl) (hp_n (n := 99) rfl ?_)
        refine lv_aload_n hx hb dX12_freezes_99 rfl (lv_at hl 0 rfl) (hp_n (n := 100) rfl ?_)
        refine m_geti (k := 7) (φ := 657) (pc' := 103) C Bh20 Mh20 fl_X12_139 rfl rfl dX12_freezes_100 rfl ?_
        refine lv_icmp_ge (tgt := 128) hx hb dX12_freezes_103 (by decide) (fun c21 => ?_) (fun c21 => hp_n (n := 106) rfl ?_)
        ·
          replace hf := ms_iT c21 hf
          refine lv_aload_n hx hb dX12_freezes_128 rfl (lv_at hl 0 rfl) (hp_n (n := 129) rfl ?_)
          refine m_getr (κ := 40) (k := 0) (pc' := 132) C Bh20 Mh20 fl_X12_7 rfl (by decide) dX12_freezes_129 rfl ?_
          refine lv_iconst (v := 3) hx hb dX12_freezes_132 (by decide) (hp_n (n := 133) rfl ?_)
          refine lv_dup2_11 hx hb dX12_freezes_133 rfl rfl (hp_n (n := 134) rfl ?_)
          obtain ⟨g22, hf⟩ := ms_gE hf
          refine m_ial (κ := 40) (φ := 650) (n := 1980) (pc' := 135) C Bh20 Mh20 (by decide) (by decide) rfl g22 dX12_freezes_134 rfl ?_
          refine lv_iconst (v := 1) hx hb dX12_freezes_135 (by decide) (hp_n (n := 136) rfl ?_)
          refine lv_iadd hx hb dX12_freezes_136 (hp_n (n := 137) rfl ?_)
          obtain ⟨g23, hf⟩ := ms_gE hf
          refine m_ias (κ := 40) (φ := 650) (n := 1980) (pc' := 138) C Bh20 Mh20 (by decide) (by decide) rfl g23 dX12_freezes_137 rfl (fun αh24 Hh24 Lh24 σh24 eh24 Bh24 Mh24 => ?_)
          replace hf := ms_lE eh24 hf
          refine lv_aload_n hx hb dX12_freezes_138 rfl (lv_at hl 0 rfl) (hp_n (n := 139) rfl ?_)
          refine m_getr (κ := 40) (k := 0) (pc' := 142) C Bh24 Mh24 fl_X12_7 rfl (by decide) dX12_freezes_139 rfl ?_
          refine lv_iconst (v := 4) hx hb dX12_freezes_142 (by decide) (hp_n (n := 143) rfl ?_)
          refine lv_dup2_11 hx hb dX12_freezes_143 rfl rfl (hp_n (n := 144) rfl ?_)
          obtain ⟨g25, hf⟩ := ms_gE hf
          refine m_ial (κ := 40) (φ := 650) (n := 1980) (pc' := 145) C Bh24 Mh24 (by decide) (by decide) rfl g25 dX12_freezes_144 rfl ?_
          refine lv_iconst (v := 1) hx hb dX12_freezes_145 (by decide) (hp_n (n := 146) rfl ?_)
          refine lv_iadd hx hb dX12_freezes_146 (hp_n (n := 147) rfl ?_)
          obtain ⟨g26, hf⟩ := ms_gE hf
          refine m_ias (κ := 40) (φ := 650) (n := 1980) (pc' := 148) C Bh24 Mh24 (by decide) (by decide) rfl g26 dX12_freezes_147 rfl (fun αh27 Hh27 Lh27 σh27 eh27 Bh27 Mh27 => ?_)
          replace hf := ms_lE eh27 hf
          refine lv_aload_n hx hb dX12_freezes_148 rfl (lv_at hl 0 rfl) (hp_n (n := 149) rfl ?_)
          refine m_getr (κ := 40) (k := 0) (pc' := 152) C Bh27 Mh27 fl_X12_7 rfl (by decide) dX12_freezes_149 rfl ?_
          refine lv_iconst (v := 3) hx hb dX12_freezes_152 (by decide) (hp_n (n := 153) rfl ?_)
          obtain ⟨g28, hf⟩ := ms_gE hf
          refine m_ial (κ := 40) (φ := 650) (n := 1980) (pc' := 154) C Bh27 Mh27 (by decide) (by decide) rfl g28 dX12_freezes_153 rfl ?_
          refine lv_iconst (v := 1) hx hb dX12_freezes_154 (by decide) (hp_n (n := 155) rfl ?_)
          refine lv_isub hx hb dX12_freezes_155 (hp_n (n := 156) rfl ?_)
          cases hf
          exact q_iret C Bh27 hr hlk ⟨rfl, Bh27.2.2, Mh27⟩ dX12_freezes_156
        ·
          replace hf := ms_iF c21 hf
          refine lv_aload_n hx hb dX12_freezes_106 rfl (lv_at hl 0 rfl) (hp_n (n := 107) rfl ?_)
          refine m_getr (κ := 40) (k := 0) (pc' := 110) C Bh20 Mh20 fl_X12_7 rfl (by decide) dX12_freezes_107 rfl ?_
          refine lv_iload_n hx hb dX12_freezes_110 rfl (lv_at hl 1 rfl) (hp_n (n := 111) rfl ?_)
          refine lv_iconst (v := 4) hx hb dX12_freezes_111 (by decide) (hp_n (n := 112) rfl ?_)
          refine lv_iadd hx hb dX12_freezes_112 (hp_n (n := 113) rfl ?_)
          refine lv_iload_n hx hb dX12_freezes_113 rfl (lv_at hl 2 rfl) (hp_n (n := 114) rfl ?_)
          refine lv_iadd hx hb dX12_freezes_114 (hp_n (n := 115) rfl ?_)
          refine lv_aload_n hx hb dX12_freezes_115 rfl (lv_at hl 0 rfl) (hp_n (n := 116) rfl ?_)
          refine m_getr (κ := 44) (k := 6) (pc' := 119) C Bh20 Mh20 fl_X12_22 rfl (by decide) dX12_freezes_116 rfl ?_
          refine lv_iload_n hx hb dX12_freezes_119 rfl (lv_at hl 2 rfl) (hp_n (n := 120) rfl ?_)
          obtain ⟨g29, hf⟩ := ms_gE hf
          refine m_ial (κ := 44) (φ := 656) (n := 128) (pc' := 121) C Bh20 Mh20 (by decide) (by decide) rfl g29 dX12_freezes_120 rfl ?_
          obtain ⟨g30, hf⟩ := ms_gE hf
          refine m_ias (κ := 40) (φ := 650) (n := 1980) (pc' := 122) C Bh20 Mh20 (by decide) (by decide) rfl g30 dX12_freezes_121 rfl (fun αh31 Hh31 Lh31 σh31 eh31 Bh31 Mh31 => ?_)
          replace hf := ms_lE eh31 hf
          obtain ⟨x32, ex32⟩ : ∃ y : Int32, y = v3_h20 + 1 := ⟨_, rfl⟩
          replace hf := ms_lE ex32 hf
          refine lv_iinc (v := x32) (lv' := [(3, .int x32), (0, .ref a0), (2, .int v2_h20)]) hx hb dX12_freezes_122 hl (k := 2) rfl (by rw [ex32]; rfl) (by decide) rfl (fun ls hl => hp_n (n := 125) rfl ?_)
          refine lv_goto (tgt := 98) hx hb dX12_freezes_125 (by decide) ?_
          exact ih98 αh31 Hh31 Lh31 Bh31 σh31 Mh31 v2_h20 x32 ls (lv_sub hl [1, 2, 0] rfl) hf
    refine lv_istore_n (lv' := [(3, .int (0 : Int32)), (2, .int x4), (0, .ref a0), (1, .int a1)]) hx hb dX12_freezes_97 rfl hl (by decide) rfl (fun ls hl => hp_n (n := 98) rfl ?_)
    exact J98 n αh19 Hh19 Lh19 Bh19 σh19 Mh19 x4 (0 : Int32) ls (lv_sub hl [2, 1, 0] rfl) hf
  ·
    replace hf := ms_iT c2 hf
    refine lv_aload_n hx hb dX12_freezes_11 rfl (lv_at hl 0 rfl) (hp_n (n := 12) rfl ?_)
    refine lv_iconst (v := 3) hx hb dX12_freezes_12 (by decide) (hp_n (n := 13) rfl ?_)
    obtain ⟨rh33, σh33, qh33, hf⟩ := ms_cE hf
    refine m_ci (pc' := 16) (a := a0) (ρ := ρ) B (hp_runV (As := [.int (3 : Int32)]) (rest := []) C B (m_X12_refuse n Γ l α a0 ρ σ hM (3 : Int32) (rh33, σh33) qh33) lb_X12_refuse lv_X12_refuse lk_X12_212 hM.1 rfl (by decide) rfl hl.1 rfl (Nat.le_of_ble_eq_true rfl) dX12_freezes_13 ⟨Nat.le_refl _, Nat.le_refl _⟩) rfl (fun αh33 Hh33 Lh33 Bh33 Mh33 => ?_)
    cases hf
    exact q_iret C Bh33 hr hlk ⟨rfl, Bh33.2.2, Mh33⟩ dX12_freezes_16
def f_X12_trust (n : Nat) (σ : ms_T) (a1 : Int32) (a2 : Int32) : Option Int32 :=
  ms_g (((76 : Int32) + ((4 : Int32) * a1)) + a2) 1980 <|
  some (ms_E σ 40 ((((76 : Int32) + ((4 : Int32) * a1)) + a2)).toNatClampNeg)
set_option maxRecDepth 100000 in
set_option maxHeartbeats 4000000 in
theorem m_X12_trust (n : Nat) (Γ : hp_G) (l : Launch) (α : hp_T) (a0 : Nat) (ρ : Nat → Nat) (σ : ms_T) (hM : hm_M α a0 ρ σ) (a1 : Int32) (a2 : Int32) (res : Int32) (hf : f_X12_trust n σ a1 a2 = some res) : Met l yX12_trust (hp_ws yX12_trust cX12_trust 3 (some .int)) (hp_rm 0 0 0) (hp_Pc Γ α [.ref a0, .int a1, .int a2]) (hp_Qi Γ (fun r β => β = α ∧ r = res)) 0 0 (hp_A Γ) := by
  unfold f_X12_trust at hf
  refine hp_start (by decide) ?_
  intro p e s m below meth c C hr hlk B0 hnm
  have C : hp_C Γ p m c cX12_trust 3 s ([.ref a0, .int a1, .int a2] : List Value).toArray RX12 := C
  have hx := C.1.1
  have hb := C.1.2.1
  have hown := C.1.2.2.2.1
  have hts := C.1.2.2.2.2
  have B : hp_B Γ (fun _ _ => True) s α α s.heap [] := ⟨B0.1, B0.2.1, trivial⟩
  have hl := lv_entry ([.ref a0, .int a1, .int a2]) (n := 3) (Nat.le_of_ble_eq_true rfl)
  show W p l e (hp_rm 0 0 0) s m ([.ref a0, .int a1, .int a2] : List Value).toArray below meth c s.heap [] 0 0 (MQ below (hp_Qi Γ (fun r β => β = α ∧ r = res)) ([.ref a0, .int a1, .int a2] : List Value).toArray s 0 0 (hp_A Γ)) (entryFrame m ([.ref a0, .int a1, .int a2] : List Value).toArray 3)
  rw [lg_entry_eq]
  generalize (lg_sl ([.ref a0, .int a1, .int a2]) ++ List.replicate (3 - (lg_sl ([.ref a0, .int a1, .int a2])).length) Slot.unset).toArray = ls at hl ⊢
  have hl : lv_has ls 3 [(0, .ref a0), (1, .int a1), (2, .int a2)] := hl
  refine lv_aload_n hx hb dX12_trust_0 rfl (lv_at hl 0 rfl) (hp_n (n := 1) rfl ?_)
  refine m_getr (κ := 40) (k := 0) (pc' := 4) C B hM fl_X12_7 rfl (by decide) dX12_trust_1 rfl ?_
  refine lv_bipush (v := 76) hx hb dX12_trust_4 (by decide) (hp_n (n := 6) rfl ?_)
  refine lv_iconst (v := 4) hx hb dX12_trust_6 (by decide) (hp_n (n := 7) rfl ?_)
  refine lv_iload_n hx hb dX12_trust_7 rfl (lv_at hl 1 rfl) (hp_n (n := 8) rfl ?_)
  refine lv_imul hx hb dX12_trust_8 (hp_n (n := 9) rfl ?_)
  refine lv_iadd hx hb dX12_trust_9 (hp_n (n := 10) rfl ?_)
  refine lv_iload_n hx hb dX12_trust_10 rfl (lv_at hl 2 rfl) (hp_n (n := 11) rfl ?_)
  refine lv_iadd hx hb dX12_trust_11 (hp_n (n := 12) rfl ?_)
  obtain ⟨g1, hf⟩ := ms_gE hf
  refine m_ial (κ := 40) (φ := 650) (n := 1980) (pc' := 13) C B hM (by decide) (by decide) rfl g1 dX12_trust_12 rfl ?_
  cases hf
  exact q_iret C B hr hlk ⟨rfl, rfl⟩ dX12_trust_13
def f_X12_trusts (n : Nat) (σ : ms_T) (a1 : Int32) (a2 : Int32) (a3 : Int32) : Option ms_T :=
  ms_g ((76 : Int32) + ((4 : Int32) * a1)) 1980 <|
  ms_l (ms_sE σ 40 (((76 : Int32) + ((4 : Int32) * a1))).toNatClampNeg a2) fun σh2 =>
  ms_g (((76 : Int32) + ((4 : Int32) * a1)) + (1 : Int32)) 1980 <|
  ms_l (ms_sE σh2 40 ((((76 : Int32) + ((4 : Int32) * a1)) + (1 : Int32))).toNatClampNeg a3) fun σh4 =>
  some σh4
set_option maxRecDepth 100000 in
set_option maxHeartbeats 4000000 in
theorem m_X12_trusts (n : Nat) (Γ : hp_G) (l : Launch) (α : hp_T) (a0 : Nat) (ρ : Nat → Nat) (σ : ms_T) (hM : hm_M α a0 ρ σ) (a1 : Int32) (a2 : Int32) (a3 : Int32) (res : ms_T) (hf : f_X12_trusts n σ a1 a2 a3 = some res) : Met l yX12_trusts (hp_ws yX12_trusts cX12_trusts 4 none) (hp_rm 0 0 0) (hp_Pc Γ α [.ref a0, .int a1, .int a2, .int a3]) (hp_Qv Γ (fun β => mo α β ∧ hm_M β a0 ρ res)) 0 0 (hp_A Γ) := by
  unfold f_X12_trusts at hf
  refine hp_start (by decide) ?_
  intro p e s m below meth c C hr hlk B0 hnm
  have C : hp_C Γ p m c cX12_trusts 4 s ([.ref a0, .int a1, .int a2, .int a3] : List Value).toArray RX12 := C
  have hx := C.1.1
  have hb := C.1.2.1
  have hown := C.1.2.2.2.1
  have hts := C.1.2.2.2.2
  have B : hp_B Γ mo s α α s.heap [] := ⟨B0.1, B0.2.1, mo_rf⟩
  have hl := lv_entry ([.ref a0, .int a1, .int a2, .int a3]) (n := 4) (Nat.le_of_ble_eq_true rfl)
  show W p l e (hp_rm 0 0 0) s m ([.ref a0, .int a1, .int a2, .int a3] : List Value).toArray below meth c s.heap [] 0 0 (MQ below (hp_Qv Γ (fun β => mo α β ∧ hm_M β a0 ρ res)) ([.ref a0, .int a1, .int a2, .int a3] : List Value).toArray s 0 0 (hp_A Γ)) (entryFrame m ([.ref a0, .int a1, .int a2, .int a3] : List Value).toArray 4)
  rw [lg_entry_eq]
  generalize (lg_sl ([.ref a0, .int a1, .int a2, .int a3]) ++ List.replicate (4 - (lg_sl ([.ref a0, .int a1, .int a2, .int a3])).length) Slot.unset).toArray = ls at hl ⊢
  have hl : lv_has ls 4 [(0, .ref a0), (1, .int a1), (2, .int a2), (3, .int a3)] := hl
  refine lv_aload_n hx hb dX12_trusts_0 rfl (lv_at hl 0 rfl) (hp_n (n := 1) rfl ?_)
  refine m_getr (κ := 40) (k := 0) (pc' := 4) C B hM fl_X12_7 rfl (by decide) dX12_trusts_1 rfl ?_
  refine lv_bipush (v := 76) hx hb dX12_trusts_4 (by decide) (hp_n (n := 6) rfl ?_)
  refine lv_iconst (v := 4) hx hb dX12_trusts_6 (by decide) (hp_n (n := 7) rfl ?_)
  refine lv_iload_n hx hb dX12_trusts_7 rfl (lv_at hl 1 rfl) (hp_n (n := 8) rfl ?_)
  refine lv_imul hx hb dX12_trusts_8 (hp_n (n := 9) rfl ?_)
  refine lv_iadd hx hb dX12_trusts_9 (hp_n (n := 10) rfl ?_)
  refine lv_iload_n hx hb dX12_trusts_10 rfl (lv_at hl 2 rfl) (hp_n (n := 11) rfl ?_)
  obtain ⟨g1, hf⟩ := ms_gE hf
  refine m_ias (κ := 40) (φ := 650) (n := 1980) (pc' := 12) C B hM (by decide) (by decide) rfl g1 dX12_trusts_11 rfl (fun αh2 Hh2 Lh2 σh2 eh2 Bh2 Mh2 => ?_)
  replace hf := ms_lE eh2 hf
  refine lv_aload_n hx hb dX12_trusts_12 rfl (lv_at hl 0 rfl) (hp_n (n := 13) rfl ?_)
  refine m_getr (κ := 40) (k := 0) (pc' := 16) C Bh2 Mh2 fl_X12_7 rfl (by decide) dX12_trusts_13 rfl ?_
  refine lv_bipush (v := 76) hx hb dX12_trusts_16 (by decide) (hp_n (n := 18) rfl ?_)
  refine lv_iconst (v := 4) hx hb dX12_trusts_18 (by decide) (hp_n (n := 19) rfl ?_)
  refine lv_iload_n hx hb dX12_trusts_19 rfl (lv_at hl 1 rfl) (hp_n (n := 20) rfl ?_)
  refine lv_imul hx hb dX12_trusts_20 (hp_n (n := 21) rfl ?_)
  refine lv_iadd hx hb dX12_trusts_21 (hp_n (n := 22) rfl ?_)
  refine lv_iconst (v := 1) hx hb dX12_trusts_22 (by decide) (hp_n (n := 23) rfl ?_)
  refine lv_iadd hx hb dX12_trusts_23 (hp_n (n := 24) rfl ?_)
  refine lv_iload_n hx hb dX12_trusts_24 rfl (lv_at hl 3 rfl) (hp_n (n := 25) rfl ?_)
  obtain ⟨g3, hf⟩ := ms_gE hf
  refine m_ias (κ := 40) (φ := 650) (n := 1980) (pc' := 26) C Bh2 Mh2 (by decide) (by decide) rfl g3 dX12_trusts_25 rfl (fun αh4 Hh4 Lh4 σh4 eh4 Bh4 Mh4 => ?_)
  replace hf := ms_lE eh4 hf
  cases hf
  exact q_vret C Bh4 hr hlk ⟨Bh4.2.2, Mh4⟩ dX12_trusts_26
def f_X12_shows_J117 (n : Nat) (σh5 : ms_T) (v1_h5 : Int32) (v6_h5 : Int32) : Option (Int32 × ms_T) :=
  ms_l ((((76 : Int32) + ((4 : Int32) * v1_h5)) + (3 : Int32))) fun x6 =>
  ms_g x6 1980 <|
  ms_g x6 1980 <|
  ms_l (ms_sE σh5 40 (x6).toNatClampNeg ((ms_E σh5 40 (x6).toNatClampNeg) + (1 : Int32))) fun σh9 =>
  ms_g (4 : Int32) 1980 <|
  ms_g (4 : Int32) 1980 <|
  ms_l (ms_sE σh9 40 ((4 : Int32)).toNatClampNeg ((ms_E σh9 40 ((4 : Int32)).toNatClampNeg) + (1 : Int32))) fun σh12 =>
  some (v6_h5, σh12)
def f_X12_shows_J92 (n : Nat) (σh4 : ms_T) (v1_h4 : Int32) (v6_h4 : Int32) : Option (Int32 × ms_T) :=
  if v6_h4 ≤ 0 then
    f_X12_shows_J117 n σh4 v1_h4 v6_h4
  else
    if (5 : Int32) ≤ v6_h4 then
      f_X12_shows_J117 n σh4 v1_h4 v6_h4
    else
      ms_g (((76 : Int32) + ((4 : Int32) * v1_h4)) + (2 : Int32)) 1980 <|
      ms_l (ms_sE σh4 40 ((((76 : Int32) + ((4 : Int32) * v1_h4)) + (2 : Int32))).toNatClampNeg (1 : Int32)) fun σh16 =>
      f_X12_shows_J117 n σh16 v1_h4 v6_h4
def f_X12_shows_J71 (n : Nat) (σh3 : ms_T) (v1_h3 : Int32) (v3_h3 : Int32) (v4_h3 : Int32) (v5_h3 : Int32) (w0_h3 : Int32) : Option (Int32 × ms_T) :=
  if w0_h3 = 0 then
    if v3_h3 ≤ v4_h3 then
      f_X12_shows_J92 n σh3 v1_h3 w0_h3
    else
      ms_b (f_X12_trusts n σh3 v1_h3 v3_h3 v5_h3) fun σh19 =>
      f_X12_shows_J92 n σh19 v1_h3 w0_h3
  else
    f_X12_shows_J92 n σh3 v1_h3 w0_h3
def f_X12_shows (n : Nat) (σ : ms_T) (a1 : Int32) (a2 : Int32) (a3 : Int32) : Option (Int32 × ms_T) :=
  ms_b (f_X12_trust n σ a1 (0 : Int32)) fun rh1 =>
  ms_b (f_X12_headOf n σ a2 a3) fun rh2 =>
  if rh1 ≤ a3 then
    ms_b (f_X12_trust n σ a1 (1 : Int32)) fun rh21 =>
    ms_c (f_X12_whyByRecord n σ a2 rh1 rh21 a3 rh2) fun rh22 σh22 =>
    f_X12_shows_J71 n σh22 a1 a3 rh1 rh2 rh22
  else
    ms_b (f_X12_sizeOf n σ a2) fun rh23 =>
    if rh1 ≤ rh23 then
      ms_b (f_X12_trust n σ a1 (1 : Int32)) fun rh25 =>
      ms_c (f_X12_whyByRecord n σ a2 a3 rh2 rh1 rh25) fun rh26 σh26 =>
      f_X12_shows_J71 n σh26 a1 a3 rh1 rh2 rh26
    else
      f_X12_shows_J71 n σ a1 a3 rh1 rh2 (5 : Int32)
set_option maxRecDepth 100000 in
set_option maxHeartbeats 4000000 in
theorem m_X12_shows (n : Nat) (Γ : hp_G) (l : Launch) (α : hp_T) (a0 : Nat) (ρ : Nat → Nat) (σ : ms_T) (hM : hm_M α a0 ρ σ) (a1 : Int32) (a2 : Int32) (a3 : Int32) (res : (Int32 × ms_T)) (hf : f_X12_shows n σ a1 a2 a3 = some res) : Met l yX12_shows (hp_ws yX12_shows cX12_shows 7 (some .int)) (hp_rm 44 0 0) (hp_Pc Γ α [.ref a0, .int a1, .int a2, .int a3]) (hp_Qi Γ (fun r β => r = res.1 ∧ mo α β ∧ hm_M β a0 ρ res.2)) 0 0 (hp_A Γ) := by
  unfold f_X12_shows at hf
  refine hp_start (by decide) ?_
  intro p e s m below meth c C hr hlk B0 hnm
  have C : hp_C Γ p m c cX12_shows 7 s ([.ref a0, .int a1, .int a2, .int a3] : List Value).toArray RX12 := C
  have hx := C.1.1
  have hb := C.1.2.1
  have hown := C.1.2.2.2.1
  have hts := C.1.2.2.2.2
  have B : hp_B Γ mo s α α s.heap [] := ⟨B0.1, B0.2.1, mo_rf⟩
  have hl := lv_entry ([.ref a0, .int a1, .int a2, .int a3]) (n := 7) (Nat.le_of_ble_eq_true rfl)
  show W p l e (hp_rm 44 0 0) s m ([.ref a0, .int a1, .int a2, .int a3] : List Value).toArray below meth c s.heap [] 0 0 (MQ below (hp_Qi Γ (fun r β => r = res.1 ∧ mo α β ∧ hm_M β a0 ρ res.2)) ([.ref a0, .int a1, .int a2, .int a3] : List Value).toArray s 0 0 (hp_A Γ)) (entryFrame m ([.ref a0, .int a1, .int a2, .int a3] : List Value).toArray 7)
  rw [lg_entry_eq]
  generalize (lg_sl ([.ref a0, .int a1, .int a2, .int a3]) ++ List.replicate (7 - (lg_sl ([.ref a0, .int a1, .int a2, .int a3])).length) Slot.unset).toArray = ls at hl ⊢
  have hl : lv_has ls 7 [(0, .ref a0), (1, .int a1), (2, .int a2), (3, .int a3)] := hl
  refine lv_aload_n hx hb dX12_shows_0 rfl (lv_at hl 0 rfl) (hp_n (n := 1) rfl ?_)
  refine lv_iload_n hx hb dX12_shows_1 rfl (lv_at hl 1 rfl) (hp_n (n := 2) rfl ?_)
  refine lv_iconst (v := 0) hx hb dX12_shows_2 (by decide) (hp_n (n := 3) rfl ?_)
  obtain ⟨rh1, qh1, hf⟩ := ms_bE hf
  refine m_cp (pc' := 6) B (hp_runV (As := [.int a1, .int (0 : Int32)]) (rest := []) C B (m_X12_trust n Γ l α a0 ρ σ hM a1 (0 : Int32) rh1 qh1) lb_X12_trust lv_X12_trust lk_X12_221 hM.1 rfl (by decide) rfl hl.1 rfl (Nat.le_of_ble_eq_true rfl) dX12_shows_3 ⟨Nat.le_refl _, Nat.le_refl _⟩) rfl (fun Hh1 Lh1 Bh1 => ?_)
  refine lv_istore (lv' := [(4, .int rh1), (0, .ref a0), (1, .int a1), (2, .int a2), (3, .int a3)]) hx hb dX12_shows_6 hl (by decide) rfl (fun ls hl => hp_n (n := 8) rfl ?_)
  refine lv_aload_n hx hb dX12_shows_8 rfl (lv_at hl 1 rfl) (hp_n (n := 9) rfl ?_)
  refine lv_iload_n hx hb dX12_shows_9 rfl (lv_at hl 3 rfl) (hp_n (n := 10) rfl ?_)
  refine lv_iload_n hx hb dX12_shows_10 rfl (lv_at hl 4 rfl) (hp_n (n := 11) rfl ?_)
  obtain ⟨rh2, qh2, hf⟩ := ms_bE hf
  refine m_cp (pc' := 14) Bh1 (hp_runV (As := [.int a2, .int a3]) (rest := []) C Bh1 (m_X12_headOf n Γ l α a0 ρ σ hM a2 a3 rh2 qh2) lb_X12_headOf lv_X12_headOf lk_X12_215 hM.1 rfl (by decide) rfl hl.1 rfl (Nat.le_of_ble_eq_true rfl) dX12_shows_11 ⟨Nat.le_refl _, Nat.le_refl _⟩) rfl (fun Hh2 Lh2 Bh2 => ?_)
  refine lv_istore (lv' := [(5, .int rh2), (4, .int rh1), (0, .ref a0), (1, .int a1), (2, .int a2), (3, .int a3)]) hx hb dX12_shows_14 hl (by decide) rfl (fun ls hl => hp_n (n := 16) rfl ?_)
  refine lv_iload hx hb dX12_shows_16 (lv_at hl 1 rfl) (hp_n (n := 18) rfl ?_)
  refine lv_iload_n hx hb dX12_shows_18 rfl (lv_at hl 5 rfl) (hp_n (n := 19) rfl ?_)
  have J71 : ∀ (αh3 : hp_T) (Hh3 : Heap) (Lh3 : List Loc) (Bh3 : hp_B Γ mo s α αh3 Hh3 Lh3) (σh3 : ms_T) (Mh3 : hm_M αh3 a0 ρ σh3) (v1_h3 : Int32) (v3_h3 : Int32) (v4_h3 : Int32) (v5_h3 : Int32) (w0_h3 : Int32) (ls : Array Slot) (hl : lv_has ls 7 [(0, .ref a0), (1, .int v1_h3), (3, .int v3_h3), (4, .int v4_h3), (5, .int v5_h3)]) (hf : f_X12_shows_J71 n σh3 v1_h3 v3_h3 v4_h3 v5_h3 w0_h3 = some res), W p l e (hp_rm 44 0 0) s m ([.ref a0, .int a1, .int a2, .int a3] : List Value).toArray below meth c Hh3 Lh3 0 0 (MQ below (hp_Qi Γ (fun r β => r = res.1 ∧ mo α β ∧ hm_M β a0 ρ res.2)) ([.ref a0, .int a1, .int a2, .int a3] : List Value).toArray s 0 0 (hp_A Γ)) (F0 m 71 ls [.int w0_h3]) := by
    intro αh3 Hh3 Lh3 Bh3 σh3 Mh3 v1_h3 v3_h3 v4_h3 v5_h3 w0_h3 ls hl hf
    unfold f_X12_shows_J71 at hf
    refine lv_istore (lv' := [(6, .int w0_h3), (0, .ref a0), (1, .int v1_h3), (3, .int v3_h3), (4, .int v4_h3), (5, .int v5_h3)]) hx hb dX12_shows_71 hl (by decide) rfl (fun ls hl => hp_n (n := 73) rfl ?_)
    refine lv_iload hx hb dX12_shows_73 (lv_at hl 0 rfl) (hp_n (n := 75) rfl ?_)
    have J92 : ∀ (αh4 : hp_T) (Hh4 : Heap) (Lh4 : List Loc) (Bh4 : hp_B Γ mo s α αh4 Hh4 Lh4) (σh4 : ms_T) (Mh4 : hm_M αh4 a0 ρ σh4) (v1_h4 : Int32) (v6_h4 : Int32) (ls : Array Slot) (hl : lv_has ls 7 [(0, .ref a0), (1, .int v1_h4), (6, .int v6_h4)]) (hf : f_X12_shows_J92 n σh4 v1_h4 v6_h4 = some res), W p l e (hp_rm 44 0 0) s m ([.ref a0, .int a1, .int a2, .int a3] : List Value).toArray below meth c Hh4 Lh4 0 0 (MQ below (hp_Qi Γ (fun r β => r = res.1 ∧ mo α β ∧ hm_M β a0 ρ res.2)) ([.ref a0, .int a1, .int a2, .int a3] : List Value).toArray s 0 0 (hp_A Γ)) (F0 m 92 ls []) := by
      intro αh4 Hh4 Lh4 Bh4 σh4 Mh4 v1_h4 v6_h4 ls hl hf
      unfold f_X12_shows_J92 at hf
      refine lv_iload hx hb dX12_shows_92 (lv_at hl 2 rfl) (hp_n (n := 94) rfl ?_)
      have J117 : ∀ (αh5 : hp_T) (Hh5 : Heap) (Lh5 : List Loc) (Bh5 : hp_B Γ mo s α αh5 Hh5 Lh5) (σh5 : ms_T) (Mh5 : hm_M αh5 a0 ρ σh5) (v1_h5 : Int32) (v6_h5 : Int32) (ls : Array Slot) (hl : lv_has ls 7 [(0, .ref a0), (1, .int v1_h5), (6, .int v6_h5)]) (hf : f_X12_shows_J117 n σh5 v1_h5 v6_h5 = some res), W p l e (hp_rm 44 0 0) s m ([.ref a0, .int a1, .int a2, .int a3] : List Value).toArray below meth c Hh5 Lh5 0 0 (MQ below (hp_Qi Γ (fun r β => r = res.1 ∧ mo α β ∧ hm_M β a0 ρ res.2)) ([.ref a0, .int a1, .int a2, .int a3] : List Value).toArray s 0 0 (hp_A Γ)) (F0 m 117 ls []) := by
        intro αh5 Hh5 Lh5 Bh5 σh5 Mh5 v1_h5 v6_h5 ls hl hf
        unfold f_X12_shows_J117 at hf
        refine lv_aload_n hx hb dX12_shows_117 rfl (lv_at hl 0 rfl) (hp_n (n := 118) rfl ?_)
        refine m_getr (κ := 40) (k := 0) (pc' := 121) C Bh5 Mh5 fl_X12_7 rfl (by decide) dX12_shows_118 rfl ?_
        refine lv_bipush (v := 76) hx hb dX12_shows_121 (by decide) (hp_n (n := 123) rfl ?_)
        refine lv_iconst (v := 4) hx hb dX12_shows_123 (by decide) (hp_n (n := 124) rfl ?_)
        refine lv_iload_n hx hb dX12_shows_124 rfl (lv_at hl 1 rfl) (hp_n (n := 125) rfl ?_)
        refine lv_imul hx hb dX12_shows_125 (hp_n (n := 126) rfl ?_)
        refine lv_iadd hx hb dX12_shows_126 (hp_n (n := 127) rfl ?_)
        refine lv_iconst (v := 3) hx hb dX12_shows_127 (by decide) (hp_n (n := 128) rfl ?_)
        refine lv_iadd hx hb dX12_shows_128 (hp_n (n := 129) rfl ?_)
        refine lv_topi (fun x6 ex6 => ?_)
        replace hf := ms_lE ex6 hf
        refine lv_dup2_11 hx hb dX12_shows_129 rfl rfl (hp_n (n := 130) rfl ?_)
        obtain ⟨g7, hf⟩ := ms_gE hf
        refine m_ial (κ := 40) (φ := 650) (n := 1980) (pc' := 131) C Bh5 Mh5 (by decide) (by decide) rfl g7 dX12_shows_130 rfl ?_
        refine lv_iconst (v := 1) hx hb dX12_shows_131 (by decide) (hp_n (n := 132) rfl ?_)
        refine lv_iadd hx hb dX12_shows_132 (hp_n (n := 133) rfl ?_)
        obtain ⟨g8, hf⟩ := ms_gE hf
        refine m_ias (κ := 40) (φ := 650) (n := 1980) (pc' := 134) C Bh5 Mh5 (by decide) (by decide) rfl g8 dX12_shows_133 rfl (fun αh9 Hh9 Lh9 σh9 eh9 Bh9 Mh9 => ?_)
        replace hf := ms_lE eh9 hf
        refine lv_aload_n hx hb dX12_shows_134 rfl (lv_at hl 0 rfl) (hp_n (n := 135) rfl ?_)
        refine m_getr (κ := 40) (k := 0) (pc' := 138) C Bh9 Mh9 fl_X12_7 rfl (by decide) dX12_shows_135 rfl ?_
        refine lv_iconst (v := 4) hx hb dX12_shows_138 (by decide) (hp_n (n := 139) rfl ?_)
        refine lv_dup2_11 hx hb dX12_shows_139 rfl rfl (hp_n (n := 140) rfl ?_)
        obtain ⟨g10, hf⟩ := ms_gE hf
        refine m_ial (κ := 40) (φ := 650) (n := 1980) (pc' := 141) C Bh9 Mh9 (by decide) (by decide) rfl g10 dX12_shows_140 rfl ?_
        refine lv_iconst (v := 1) hx hb dX12_shows_141 (by decide) (hp_n (n := 142) rfl ?_)
        refine lv_iadd hx hb dX12_shows_142 (hp_n (n := 143) rfl ?_)
        obtain ⟨g11, hf⟩ := ms_gE hf
        refine m_ias (κ := 40) (φ := 650) (n := 1980) (pc' := 144) C Bh9 Mh9 (by decide) (by decide) rfl g11 dX12_shows_143 rfl (fun αh12 Hh12 Lh12 σh12 eh12 Bh12 Mh12 => ?_)
        replace hf := ms_lE eh12 hf
        refine lv_iload hx hb dX12_shows_144 (lv_at hl 2 rfl) (hp_n (n := 146) rfl ?_)
        cases hf
        exact q_iret C Bh12 hr hlk ⟨rfl, Bh12.2.2, Mh12⟩ dX12_shows_146
      refine lv_if_le (tgt := 117) hx hb dX12_shows_94 (by decide) (fun c13 => ?_) (fun c13 => hp_n (n := 97) rfl ?_)
      ·
        replace hf := ms_iT c13 hf
        exact J117 αh4 Hh4 Lh4 Bh4 σh4 Mh4 v1_h4 v6_h4 ls (lv_sub hl [0, 1, 2] rfl) hf
      ·
        replace hf := ms_iF c13 hf
        refine lv_iload hx hb dX12_shows_97 (lv_at hl 2 rfl) (hp_n (n := 99) rfl ?_)
        refine lv_iconst (v := 5) hx hb dX12_shows_99 (by decide) (hp_n (n := 100) rfl ?_)
        refine lv_icmp_ge (tgt := 117) hx hb dX12_shows_100 (by decide) (fun c14 => ?_) (fun c14 => hp_n (n := 103) rfl ?_)
        ·
          replace hf := ms_iT c14 hf
          exact J117 αh4 Hh4 Lh4 Bh4 σh4 Mh4 v1_h4 v6_h4 ls (lv_sub hl [0, 1, 2] rfl) hf
        ·
          replace hf := ms_iF c14 hf
          refine lv_aload_n hx hb dX12_shows_103 rfl (lv_at hl 0 rfl) (hp_n (n := 104) rfl ?_)
          refine m_getr (κ := 40) (k := 0) (pc' := 107) C Bh4 Mh4 fl_X12_7 rfl (by decide) dX12_shows_104 rfl ?_
          refine lv_bipush (v := 76) hx hb dX12_shows_107 (by decide) (hp_n (n := 109) rfl ?_)
          refine lv_iconst (v := 4) hx hb dX12_shows_109 (by decide) (hp_n (n := 110) rfl ?_)
          refine lv_iload_n hx hb dX12_shows_110 rfl (lv_at hl 1 rfl) (hp_n (n := 111) rfl ?_)
          refine lv_imul hx hb dX12_shows_111 (hp_n (n := 112) rfl ?_)
          refine lv_iadd hx hb dX12_shows_112 (hp_n (n := 113) rfl ?_)
          refine lv_iconst (v := 2) hx hb dX12_shows_113 (by decide) (hp_n (n := 114) rfl ?_)
          refine lv_iadd hx hb dX12_shows_114 (hp_n (n := 115) rfl ?_)
          refine lv_iconst (v := 1) hx hb dX12_shows_115 (by decide) (hp_n (n := 116) rfl ?_)
          obtain ⟨g15, hf⟩ := ms_gE hf
          refine m_ias (κ := 40) (φ := 650) (n := 1980) (pc' := 117) C Bh4 Mh4 (by decide) (by decide) rfl g15 dX12_shows_116 rfl (fun αh16 Hh16 Lh16 σh16 eh16 Bh16 Mh16 => ?_)
          replace hf := ms_lE eh16 hf
          exact J117 αh16 Hh16 Lh16 Bh16 σh16 Mh16 v1_h4 v6_h4 ls (lv_sub hl [0, 1, 2] rfl) hf
    refine lv_if_ne (tgt := 92) hx hb dX12_shows_75 (by decide) (fun c17 => ?_) (fun c17 => hp_n (n := 78) rfl ?_)
    ·
      replace hf := ms_iF c17 hf
      exact J92 αh3 Hh3 Lh3 Bh3 σh3 Mh3 v1_h3 w0_h3 ls (lv_sub hl [1, 2, 0] rfl) hf
    ·
      replace hf := ms_iT c17 hf
      refine lv_iload_n hx hb dX12_shows_78 rfl (lv_at hl 3 rfl) (hp_n (n := 79) rfl ?_)
      refine lv_iload hx hb dX12_shows_79 (lv_at hl 4 rfl) (hp_n (n := 81) rfl ?_)
      refine lv_icmp_le (tgt := 92) hx hb dX12_shows_81 (by decide) (fun c18 => ?_) (fun c18 => hp_n (n := 84) rfl ?_)
      ·
        replace hf := ms_iT c18 hf
        exact J92 αh3 Hh3 Lh3 Bh3 σh3 Mh3 v1_h3 w0_h3 ls (lv_sub hl [1, 2, 0] rfl) hf
      ·
        replace hf := ms_iF c18 hf
        refine lv_aload_n hx hb dX12_shows_84 rfl (lv_at hl 1 rfl) (hp_n (n := 85) rfl ?_)
        refine lv_iload_n hx hb dX12_shows_85 rfl (lv_at hl 2 rfl) (hp_n (n := 86) rfl ?_)
        refine lv_iload_n hx hb dX12_shows_86 rfl (lv_at hl 3 rfl) (hp_n (n := 87) rfl ?_)
        refine lv_iload hx hb dX12_shows_87 (lv_at hl 5 rfl) (hp_n (n := 89) rfl ?_)
        obtain ⟨σh19, qh19, hf⟩ := ms_bE hf
        refine m_cv (pc' := 92) (a := a0) (ρ := ρ) Bh3 (hp_runV (As := [.int v1_h3, .int v3_h3, .int v5_h3]) (rest := []) C Bh3 (m_X12_trusts n Γ l αh3 a0 ρ σh3 Mh3 v1_h3 v3_h3 v5_h3 σh19 qh19) lb_X12_trusts lv_X12_trusts lk_X12_227 Mh3.1 rfl (by decide) rfl hl.1 rfl (Nat.le_of_ble_eq_true rfl) dX12_shows_89 ⟨Nat.le_refl _, Nat.le_refl _⟩) rfl (fun αh19 Hh19 Lh19 Bh19 Mh19 => ?_)
        exact J92 αh19 Hh19 Lh19 Bh19 σh19 Mh19 v1_h3 w0_h3 ls (lv_sub hl [1, 2, 0] rfl) hf
  refine lv_icmp_le (tgt := 55) hx hb dX12_shows_19 (by decide) (fun c20 => ?_) (fun c20 => hp_n (n := 22) rfl ?_)
  ·
    replace hf := ms_iT c20 hf
    refine lv_aload_n hx hb dX12_shows_55 rfl (lv_at hl 2 rfl) (hp_n (n := 56) rfl ?_)
    refine lv_iload_n hx hb dX12_shows_56 rfl (lv_at hl 4 rfl) (hp_n (n := 57) rfl ?_)
    refine lv_iload hx hb dX12_shows_57 (lv_at hl 1 rfl) (hp_n (n := 59) rfl ?_)
    refine lv_aload_n hx hb dX12_shows_59 rfl (lv_at hl 2 rfl) (hp_n (n := 60) rfl ?_)
    refine lv_iload_n hx hb dX12_shows_60 rfl (lv_at hl 3 rfl) (hp_n (n := 61) rfl ?_)
    refine lv_iconst (v := 1) hx hb dX12_shows_61 (by decide) (hp_n (n := 62) rfl ?_)
    obtain ⟨rh21, qh21, hf⟩ := ms_bE hf
    refine m_cp (pc' := 65) Bh2 (hp_runV (As := [.int a1, .int (1 : Int32)]) (rest := [.int rh1, .int a2, .ref a0]) C Bh2 (m_X12_trust n Γ l α a0 ρ σ hM a1 (1 : Int32) rh21 qh21) lb_X12_trust lv_X12_trust lk_X12_221 hM.1 rfl (by decide) rfl hl.1 rfl (Nat.le_of_ble_eq_true rfl) dX12_shows_62 ⟨Nat.le_refl _, Nat.le_refl _⟩) rfl (fun Hh21 Lh21 Bh21 => ?_)
    refine lv_iload_n hx hb dX12_shows_65 rfl (lv_at hl 5 rfl) (hp_n (n := 66) rfl ?_)
    refine lv_iload hx hb dX12_shows_66 (lv_at hl 0 rfl) (hp_n (n := 68) rfl ?_)
    obtain ⟨rh22, σh22, qh22, hf⟩ := ms_cE hf
    refine m_ci (pc' := 71) (a := a0) (ρ := ρ) Bh21 (hp_runV (As := [.int a2, .int rh1, .int rh21, .int a3, .int rh2]) (rest := []) C Bh21 (m_X12_whyByRecord n Γ l α a0 ρ σ hM a2 rh1 rh21 a3 rh2 (rh22, σh22) qh22) lb_X12_whyByRecord lv_X12_whyByRecord lk_X12_224 hM.1 rfl (by decide) rfl hl.1 rfl (Nat.le_of_ble_eq_true rfl) dX12_shows_68 ⟨Nat.le_refl _, Nat.le_refl _⟩) rfl (fun αh22 Hh22 Lh22 Bh22 Mh22 => ?_)
    exact J71 αh22 Hh22 Lh22 Bh22 σh22 Mh22 a1 a3 rh1 rh2 rh22 ls (lv_sub hl [2, 3, 5, 1, 0] rfl) hf
  ·
    replace hf := ms_iF c20 hf
    refine lv_aload_n hx hb dX12_shows_22 rfl (lv_at hl 2 rfl) (hp_n (n := 23) rfl ?_)
    refine lv_iload_n hx hb dX12_shows_23 rfl (lv_at hl 4 rfl) (hp_n (n := 24) rfl ?_)
    obtain ⟨rh23, qh23, hf⟩ := ms_bE hf
    refine m_cp (pc' := 27) Bh2 (hp_runV (As := [.int a2]) (rest := []) C Bh2 (m_X12_sizeOf n Γ l α a0 ρ σ hM a2 rh23 qh23) lb_X12_sizeOf lv_X12_sizeOf lk_X12_209 hM.1 rfl (by decide) rfl hl.1 rfl (Nat.le_of_ble_eq_true rfl) dX12_shows_24 ⟨Nat.le_refl _, Nat.le_refl _⟩) rfl (fun Hh23 Lh23 Bh23 => ?_)
    refine lv_iload hx hb dX12_shows_27 (lv_at hl 1 rfl) (hp_n (n := 29) rfl ?_)
    refine lv_icmp_ge (tgt := 36) hx hb dX12_shows_29 (by decide) (fun c24 => ?_) (fun c24 => hp_n (n := 32) rfl ?_)
    ·
      replace hf := ms_iT c24 hf
      refine lv_aload_n hx hb dX12_shows_36 rfl (lv_at hl 2 rfl) (hp_n (n := 37) rfl ?_)
      refine lv_iload_n hx hb dX12_shows_37 rfl (lv_at hl 4 rfl) (hp_n (n := 38) rfl ?_)
      refine lv_iload_n hx hb dX12_shows_38 rfl (lv_at hl 5 rfl) (hp_n (n := 39) rfl ?_)
      refine lv_iload hx hb dX12_shows_39 (lv_at hl 0 rfl) (hp_n (n := 41) rfl ?_)
      refine lv_iload hx hb dX12_shows_41 (lv_at hl 1 rfl) (hp_n (n := 43) rfl ?_)
      refine lv_aload_n hx hb dX12_shows_43 rfl (lv_at hl 2 rfl) (hp_n (n := 44) rfl ?_)
      refine lv_iload_n hx hb dX12_shows_44 rfl (lv_at hl 3 rfl) (hp_n (n := 45) rfl ?_)
      refine lv_iconst (v := 1) hx hb dX12_shows_45 (by decide) (hp_n (n := 46) rfl ?_)
      obtain ⟨rh25, qh25, hf⟩ := ms_bE hf
      refine m_cp (pc' := 49) Bh23 (hp_runV (As := [.int a1, .int (1 : Int32)]) (rest := [.int rh1, .int rh2, .int a3, .int a2, .ref a0]) C Bh23 (m_X12_trust n Γ l α a0 ρ σ hM a1 (1 : Int32) rh25 qh25) lb_X12_trust lv_X12_trust lk_X12_221 hM.1 rfl (by decide) rfl hl.1 rfl (Nat.le_of_ble_eq_true rfl) dX12_shows_46 ⟨Nat.le_refl _, Nat.le_refl _⟩) rfl (fun Hh25 Lh25 Bh25 => ?_)
      obtain ⟨rh26, σh26, qh26, hf⟩ := ms_cE hf
      refine m_ci (pc' := 52) (a := a0) (ρ := ρ) Bh25 (hp_runV (As := [.int a2, .int a3, .int rh2, .int rh1, .int rh25]) (rest := []) C Bh25 (m_X12_whyByRecord n Γ l α a0 ρ σ hM a2 a3 rh2 rh1 rh25 (rh26, σh26) qh26) lb_X12_whyByRecord lv_X12_whyByRecord lk_X12_224 hM.1 rfl (by decide) rfl hl.1 rfl (Nat.le_of_ble_eq_true rfl) dX12_shows_49 ⟨Nat.le_refl _, Nat.le_refl _⟩) rfl (fun αh26 Hh26 Lh26 Bh26 Mh26 => ?_)
      refine lv_goto (tgt := 71) hx hb dX12_shows_52 (by decide) ?_
      exact J71 αh26 Hh26 Lh26 Bh26 σh26 Mh26 a1 a3 rh1 rh2 rh26 ls (lv_sub hl [2, 3, 5, 1, 0] rfl) hf
    ·
      replace hf := ms_iF c24 hf
      refine lv_iconst (v := 5) hx hb dX12_shows_32 (by decide) (hp_n (n := 33) rfl ?_)
      refine lv_goto (tgt := 71) hx hb dX12_shows_33 (by decide) ?_
      exact J71 α Hh23 Lh23 Bh23 σ hM a1 a3 rh1 rh2 (5 : Int32) ls (lv_sub hl [2, 3, 5, 1, 0] rfl) hf
def f_X12_puts_L3 (n : Nat) : Nat → ms_T → Int32 → Int32 → Option ms_T
  | 0, _, _, _ => none
  | k3 + 1, σh1, v1_h1, v2_h1 =>
    if v2_h1 < 0 then
      some σh1
    else
      ms_g (ms_I σh1 667) 900 <|
      ms_l (ms_sE σh1 47 ((ms_I σh1 667)).toNatClampNeg (((v1_h1 >>> (v2_h1 &&& 31))).toInt8.toInt32).toInt8.toInt32) fun σh4 =>
      ms_l (ms_sI σh4 667 ((ms_I σh4 667) + (1 : Int32))) fun σh5 =>
      ms_l (v2_h1 + (-8)) fun x6 =>
      (f_X12_puts_L3 n k3) σh5 v1_h1 x6
def f_X12_puts (n : Nat) (σ : ms_T) (a1 : Int32) : Option ms_T :=
  f_X12_puts_L3 n n σ a1 (24 : Int32)
set_option maxRecDepth 100000 in
set_option maxHeartbeats 4000000 in
theorem m_X12_puts (n : Nat) (Γ : hp_G) (l : Launch) (α : hp_T) (a0 : Nat) (ρ : Nat → Nat) (σ : ms_T) (hM : hm_M α a0 ρ σ) (a1 : Int32) (res : ms_T) (hf : f_X12_puts n σ a1 = some res) : Met l yX12_puts (hp_ws yX12_puts cX12_puts 3 none) (hp_rm 0 0 0) (hp_Pc Γ α [.ref a0, .int a1]) (hp_Qv Γ (fun β => mo α β ∧ hm_M β a0 ρ res)) 0 0 (hp_A Γ) := by
  unfold f_X12_puts at hf
  refine hp_start (by decide) ?_
  intro p e s m below meth c C hr hlk B0 hnm
  have C : hp_C Γ p m c cX12_puts 3 s ([.ref a0, .int a1] : List Value).toArray RX12 := C
  have hx := C.1.1
  have hb := C.1.2.1
  have hown := C.1.2.2.2.1
  have hts := C.1.2.2.2.2
  have B : hp_B Γ mo s α α s.heap [] := ⟨B0.1, B0.2.1, mo_rf⟩
  have hl := lv_entry ([.ref a0, .int a1]) (n := 3) (Nat.le_of_ble_eq_true rfl)
  show W p l e (hp_rm 0 0 0) s m ([.ref a0, .int a1] : List Value).toArray below meth c s.heap [] 0 0 (MQ below (hp_Qv Γ (fun β => mo α β ∧ hm_M β a0 ρ res)) ([.ref a0, .int a1] : List Value).toArray s 0 0 (hp_A Γ)) (entryFrame m ([.ref a0, .int a1] : List Value).toArray 3)
  rw [lg_entry_eq]
  generalize (lg_sl ([.ref a0, .int a1]) ++ List.replicate (3 - (lg_sl ([.ref a0, .int a1])).length) Slot.unset).toArray = ls at hl ⊢
  have hl : lv_has ls 3 [(0, .ref a0), (1, .int a1)] := hl
  refine lv_bipush (v := 24) hx hb dX12_puts_0 (by decide) (hp_n (n := 2) rfl ?_)
  have J3 : ∀ (k3 : Nat) (αh1 : hp_T) (Hh1 : Heap) (Lh1 : List Loc) (Bh1 : hp_B Γ mo s α αh1 Hh1 Lh1) (σh1 : ms_T) (Mh1 : hm_M αh1 a0 ρ σh1) (v1_h1 : Int32) (v2_h1 : Int32) (ls : Array Slot) (hl : lv_has ls 3 [(0, .ref a0), (1, .int v1_h1), (2, .int v2_h1)]) (hf : f_X12_puts_L3 n k3 σh1 v1_h1 v2_h1 = some res), W p l e (hp_rm 0 0 0) s m ([.ref a0, .int a1] : List Value).toArray below meth c Hh1 Lh1 0 0 (MQ below (hp_Qv Γ (fun β => mo α β ∧ hm_M β a0 ρ res)) ([.ref a0, .int a1] : List Value).toArray s 0 0 (hp_A Γ)) (F0 m 3 ls []) := by
    intro k3
    induction k3 with
    | zero => intro αh1 Hh1 Lh1 Bh1 σh1 Mh1 v1_h1 v2_h1 ls hl hf; rw [f_X12_puts_L3.eq_1] at hf; cases hf
    | succ k3 ih3 =>
      intro αh1 Hh1 Lh1 Bh1 σh1 Mh1 v1_h1 v2_h1 ls hl hf
      rw [f_X12_puts_L3.eq_2] at hf
      refine lv_iload_n hx hb dX12_puts_3 rfl (lv_at hl 2 rfl) (hp_n (n := 4) rfl ?_)
      refine lv_if_lt (tgt := 36) hx hb dX12_puts_4 (by decide) (fun c2 => ?_) (fun c2 => hp_n (n := 7) rfl ?_)
      ·
        replace hf := ms_iT c2 hf
        cases hf
        exact q_vret C Bh1 hr hlk ⟨Bh1.2.2, Mh1⟩ dX12_puts_36
      ·
        replace hf := ms_iF c2 hf
        refine lv_aload_n hx hb dX12_puts_7 rfl (lv_at hl 0 rfl) (hp_n (n := 8) rfl ?_)
        refine m_getr (κ := 47) (k := 16) (pc' := 11) C Bh1 Mh1 fl_X12_31 rfl (by decide) dX12_puts_8 rfl ?_
        refine lv_aload_n hx hb dX12_puts_11 rfl (lv_at hl 0 rfl) (hp_n (n := 12) rfl ?_)
        refine m_geti (k := 17) (φ := 667) (pc' := 15) C Bh1 Mh1 fl_X12_230 rfl rfl dX12_puts_12 rfl ?_
        refine lv_iload_n hx hb dX12_puts_15 rfl (lv_at hl 1 rfl) (hp_n (n := 16) rfl ?_)
        refine lv_iload_n hx hb dX12_puts_16 rfl (lv_at hl 2 rfl) (hp_n (n := 17) rfl ?_)
        refine lv_ishr hx hb dX12_puts_17 (hp_n (n := 18) rfl ?_)
        refine lv_i2b hx hb dX12_puts_18 rfl (hp_n (n := 19) rfl ?_)
        obtain ⟨g3, hf⟩ := ms_gE hf
        refine m_bas (κ := 47) (φ := 666) (n := 900) (pc' := 20) C Bh1 Mh1 (by decide) (by decide) rfl g3 dX12_puts_19 rfl (fun αh4 Hh4 Lh4 σh4 eh4 Bh4 Mh4 => ?_)
        replace hf := ms_lE eh4 hf
        refine lv_aload_n hx hb dX12_puts_20 rfl (lv_at hl 0 rfl) (hp_n (n := 21) rfl ?_)
        refine lv_dup hx hb dX12_puts_21 rfl (hp_n (n := 22) rfl ?_)
        refine m_geti (k := 17) (φ := 667) (pc' := 25) C Bh4 Mh4 fl_X12_230 rfl rfl dX12_puts_22 rfl ?_
        refine lv_iconst (v := 1) hx hb dX12_puts_25 (by decide) (hp_n (n := 26) rfl ?_)
        refine lv_iadd hx hb dX12_puts_26 (hp_n (n := 27) rfl ?_)
        refine m_puti (k := 17) (φ := 667) (pc' := 30) C Bh4 Mh4 fl_X12_230 rfl rfl rfl rfl rfl dX12_puts_27 rfl (fun αh5 Hh5 Lh5 σh5 eh5 Bh5 Mh5 => ?_)
        replace hf := ms_lE eh5 hf
        obtain ⟨x6, ex6⟩ : ∃ y : Int32, y = v2_h1 + (-8) := ⟨_, rfl⟩
        replace hf := ms_lE ex6 hf
        refine lv_iinc (v := x6) (lv' := [(2, .int x6), (0, .ref a0), (1, .int v1_h1)]) hx hb dX12_puts_30 hl (k := 2) rfl (by rw [ex6]; rfl) (by decide) rfl (fun ls hl => hp_n (n := 33) rfl ?_)
        refine lv_goto (tgt := 3) hx hb dX12_puts_33 (by decide) ?_
        exact ih3 αh5 Hh5 Lh5 Bh5 σh5 Mh5 v1_h1 x6 ls (lv_sub hl [1, 2, 0] rfl) hf
  refine lv_istore_n (lv' := [(2, .int (24 : Int32)), (0, .ref a0), (1, .int a1)]) hx hb dX12_puts_2 rfl hl (by decide) rfl (fun ls hl => hp_n (n := 3) rfl ?_)
  exact J3 n α s.heap [] B σ hM a1 (24 : Int32) ls (lv_sub hl [1, 2, 0] rfl) hf
def f_X12_feed (n : Nat) (σ : ms_T) (a1 : Int32) (a2 : Int32) (a3 : Int32) (a4 : Int32) (a5 : Int32) : Option (Int32 × ms_T) :=
  ms_l (ms_sI σ 653 (0 : Int32)) fun σh1 =>
  if ((ms_I σh1 667) + (20 : Int32)) ≤ (900 : Int32) then
    ms_b (f_X12_puts n σh1 a1) fun σh3 =>
    ms_b (f_X12_puts n σh3 a2) fun σh4 =>
    ms_b (f_X12_puts n σh4 a3) fun σh5 =>
    ms_b (f_X12_puts n σh5 a4) fun σh6 =>
    ms_b (f_X12_puts n σh6 a5) fun σh7 =>
    some ((ms_I σh7 667), σh7)
  else
    some ((-1 : Int32), σh1)
set_option maxRecDepth 100000 in
set_option maxHeartbeats 4000000 in
theorem m_X12_feed (n : Nat) (Γ : hp_G) (l : Launch) (α : hp_T) (a0 : Nat) (ρ : Nat → Nat) (σ : ms_T) (hM : hm_M α a0 ρ σ) (a1 : Int32) (a2 : Int32) (a3 : Int32) (a4 : Int32) (a5 : Int32) (res : (Int32 × ms_T)) (hf : f_X12_feed n σ a1 a2 a3 a4 a5 = some res) : Met l yX12_feed (hp_ws yX12_feed cX12_feed 6 (some .int)) (hp_rm 1 0 0) (hp_Pc Γ α [.ref a0, .int a1, .int a2, .int a3, .int a4, .int a5]) (hp_Qi Γ (fun r β => r = res.1 ∧ mo α β ∧ hm_M β a0 ρ res.2)) 0 0 (hp_A Γ) := by
  unfold f_X12_feed at hf
  refine hp_start (by decide) ?_
  intro p e s m below meth c C hr hlk B0 hnm
  have C : hp_C Γ p m c cX12_feed 6 s ([.ref a0, .int a1, .int a2, .int a3, .int a4, .int a5] : List Value).toArray RX12 := C
  have hx := C.1.1
  have hb := C.1.2.1
  have hown := C.1.2.2.2.1
  have hts := C.1.2.2.2.2
  have B : hp_B Γ mo s α α s.heap [] := ⟨B0.1, B0.2.1, mo_rf⟩
  have hl := lv_entry ([.ref a0, .int a1, .int a2, .int a3, .int a4, .int a5]) (n := 6) (Nat.le_of_ble_eq_true rfl)
  show W p l e (hp_rm 1 0 0) s m ([.ref a0, .int a1, .int a2, .int a3, .int a4, .int a5] : List Value).toArray below meth c s.heap [] 0 0 (MQ below (hp_Qi Γ (fun r β => r = res.1 ∧ mo α β ∧ hm_M β a0 ρ res.2)) ([.ref a0, .int a1, .int a2, .int a3, .int a4, .int a5] : List Value).toArray s 0 0 (hp_A Γ)) (entryFrame m ([.ref a0, .int a1, .int a2, .int a3, .int a4, .int a5] : List Value).toArray 6)
  rw [lg_entry_eq]
  generalize (lg_sl ([.ref a0, .int a1, .int a2, .int a3, .int a4, .int a5]) ++ List.replicate (6 - (lg_sl ([.ref a0, .int a1, .int a2, .int a3, .int a4, .int a5])).length) Slot.unset).toArray = ls at hl ⊢
  have hl : lv_has ls 6 [(0, .ref a0), (1, .int a1), (2, .int a2), (3, .int a3), (4, .int a4), (5, .int a5)] := hl
  refine lv_aload_n hx hb dX12_feed_0 rfl (lv_at hl 0 rfl) (hp_n (n := 1) rfl ?_)
  refine lv_iconst (v := 0) hx hb dX12_feed_1 (by decide) (hp_n (n := 2) rfl ?_)
  refine m_puti (k := 3) (φ := 653) (pc' := 5) C B hM fl_X12_106 rfl rfl rfl rfl rfl dX12_feed_2 rfl (fun αh1 Hh1 Lh1 σh1 eh1 Bh1 Mh1 => ?_)
  replace hf := ms_lE eh1 hf
  refine lv_aload_n hx hb dX12_feed_5 rfl (lv_at hl 0 rfl) (hp_n (n := 6) rfl ?_)
  refine m_geti (k := 17) (φ := 667) (pc' := 9) C Bh1 Mh1 fl_X12_230 rfl rfl dX12_feed_6 rfl ?_
  refine lv_bipush (v := 20) hx hb dX12_feed_9 (by decide) (hp_n (n := 11) rfl ?_)
  refine lv_iadd hx hb dX12_feed_11 (hp_n (n := 12) rfl ?_)
  refine lv_sipush (v := 900) hx hb dX12_feed_12 (by decide) (hp_n (n := 15) rfl ?_)
  refine lv_icmp_le (tgt := 20) hx hb dX12_feed_15 (by decide) (fun c2 => ?_) (fun c2 => hp_n (n := 18) rfl ?_)
  ·
    replace hf := ms_iT c2 hf
    refine lv_aload_n hx hb dX12_feed_20 rfl (lv_at hl 0 rfl) (hp_n (n := 21) rfl ?_)
    refine lv_iload_n hx hb dX12_feed_21 rfl (lv_at hl 1 rfl) (hp_n (n := 22) rfl ?_)
    obtain ⟨σh3, qh3, hf⟩ := ms_bE hf
    refine m_cv (pc' := 25) (a := a0) (ρ := ρ) Bh1 (hp_runV (As := [.int a1]) (rest := []) C Bh1 (m_X12_puts n Γ l αh1 a0 ρ σh1 Mh1 a1 σh3 qh3) lb_X12_puts lv_X12_puts lk_X12_233 Mh1.1 rfl (by decide) rfl hl.1 rfl (Nat.le_of_ble_eq_true rfl) dX12_feed_22 ⟨Nat.le_refl _, Nat.le_refl _⟩) rfl (fun αh3 Hh3 Lh3 Bh3 Mh3 => ?_)
    refine lv_aload_n hx hb dX12_feed_25 rfl (lv_at hl 0 rfl) (hp_n (n := 26) rfl ?_)
    refine lv_iload_n hx hb dX12_feed_26 rfl (lv_at hl 2 rfl) (hp_n (n := 27) rfl ?_)
    obtain ⟨σh4, qh4, hf⟩ := ms_bE hf
    refine m_cv (pc' := 30) (a := a0) (ρ := ρ) Bh3 (hp_runV (As := [.int a2]) (rest := []) C Bh3 (m_X12_puts n Γ l αh3 a0 ρ σh3 Mh3 a2 σh4 qh4) lb_X12_puts lv_X12_puts lk_X12_233 Mh3.1 rfl (by decide) rfl hl.1 rfl (Nat.le_of_ble_eq_true rfl) dX12_feed_27 ⟨Nat.le_refl _, Nat.le_refl _⟩) rfl (fun αh4 Hh4 Lh4 Bh4 Mh4 => ?_)
    refine lv_aload_n hx hb dX12_feed_30 rfl (lv_at hl 0 rfl) (hp_n (n := 31) rfl ?_)
    refine lv_iload_n hx hb dX12_feed_31 rfl (lv_at hl 3 rfl) (hp_n (n := 32) rfl ?_)
    obtain ⟨σh5, qh5, hf⟩ := ms_bE hf
    refine m_cv (pc' := 35) (a := a0) (ρ := ρ) Bh4 (hp_runV (As := [.int a3]) (rest := []) C Bh4 (m_X12_puts n Γ l αh4 a0 ρ σh4 Mh4 a3 σh5 qh5) lb_X12_puts lv_X12_puts lk_X12_233 Mh4.1 rfl (by decide) rfl hl.1 rfl (Nat.le_of_ble_eq_true rfl) dX12_feed_32 ⟨Nat.le_refl _, Nat.le_refl _⟩) rfl (fun αh5 Hh5 Lh5 Bh5 Mh5 => ?_)
    refine lv_aload_n hx hb dX12_feed_35 rfl (lv_at hl 0 rfl) (hp_n (n := 36) rfl ?_)
    refine lv_iload hx hb dX12_feed_36 (lv_at hl 4 rfl) (hp_n (n := 38) rfl ?_)
    obtain ⟨σh6, qh6, hf⟩ := ms_bE hf
    refine m_cv (pc' := 41) (a := a0) (ρ := ρ) Bh5 (hp_runV (As := [.int a4]) (rest := []) C Bh5 (m_X12_puts n Γ l αh5 a0 ρ σh5 Mh5 a4 σh6 qh6) lb_X12_puts lv_X12_puts lk_X12_233 Mh5.1 rfl (by decide) rfl hl.1 rfl (Nat.le_of_ble_eq_true rfl) dX12_feed_38 ⟨Nat.le_refl _, Nat.le_refl _⟩) rfl (fun αh6 Hh6 Lh6 Bh6 Mh6 => ?_)
    refine lv_aload_n hx hb dX12_feed_41 rfl (lv_at hl 0 rfl) (hp_n (n := 42) rfl ?_)
    refine lv_iload hx hb dX12_feed_42 (lv_at hl 5 rfl) (hp_n (n := 44) rfl ?_)
    obtain ⟨σh7, qh7, hf⟩ := ms_bE hf
    refine m_cv (pc' := 47) (a := a0) (ρ := ρ) Bh6 (hp_runV (As := [.int a5]) (rest := []) C Bh6 (m_X12_puts n Γ l αh6 a0 ρ σh6 Mh6 a5 σh7 qh7) lb_X12_puts lv_X12_puts lk_X12_233 Mh6.1 rfl (by decide) rfl hl.1 rfl (Nat.le_of_ble_eq_true rfl) dX12_feed_44 ⟨Nat.le_refl _, Nat.le_refl _⟩) rfl (fun αh7 Hh7 Lh7 Bh7 Mh7 => ?_)
    refine lv_aload_n hx hb dX12_feed_47 rfl (lv_at hl 0 rfl) (hp_n (n := 48) rfl ?_)
    refine m_geti (k := 17) (φ := 667) (pc' := 51) C Bh7 Mh7 fl_X12_230 rfl rfl dX12_feed_48 rfl ?_
    cases hf
    exact q_iret C Bh7 hr hlk ⟨rfl, Bh7.2.2, Mh7⟩ dX12_feed_51
  ·
    replace hf := ms_iF c2 hf
    refine lv_iconst (v := (-1)) hx hb dX12_feed_18 (by decide) (hp_n (n := 19) rfl ?_)
    cases hf
    exact q_iret C Bh1 hr hlk ⟨rfl, Bh1.2.2, Mh1⟩ dX12_feed_19
def f_X12_isOf (n : Nat) (σ : ms_T) (a1 : Int32) (a2 : Int32) (a3 : Int32) : Option Int32 :=
  if (ms_I σ 676) ≤ a1 then
    some (0 : Int32)
  else
    ms_g a1 900 <|
    ms_b (f_X12_isIn n (ms_E σ 47 (a1).toNatClampNeg) a2 a3) fun rh3 =>
    if rh3 = 0 then
      some (0 : Int32)
    else
      some (1 : Int32)
set_option maxRecDepth 100000 in
set_option maxHeartbeats 4000000 in
theorem m_X12_isOf (n : Nat) (Γ : hp_G) (l : Launch) (α : hp_T) (a0 : Nat) (ρ : Nat → Nat) (σ : ms_T) (hM : hm_M α a0 ρ σ) (a1 : Int32) (a2 : Int32) (a3 : Int32) (res : Int32) (hf : f_X12_isOf n σ a1 a2 a3 = some res) : Met l yX12_isOf (hp_ws yX12_isOf cX12_isOf 4 (some .boolean)) (hp_rm 1 0 0) (hp_Pc Γ α [.ref a0, .int a1, .int a2, .int a3]) (hp_Qi Γ (fun r β => β = α ∧ r = res)) 0 0 (hp_A Γ) := by
  unfold f_X12_isOf at hf
  refine hp_start (by decide) ?_
  intro p e s m below meth c C hr hlk B0 hnm
  have C : hp_C Γ p m c cX12_isOf 4 s ([.ref a0, .int a1, .int a2, .int a3] : List Value).toArray RX12 := C
  have hx := C.1.1
  have hb := C.1.2.1
  have hown := C.1.2.2.2.1
  have hts := C.1.2.2.2.2
  have B : hp_B Γ (fun _ _ => True) s α α s.heap [] := ⟨B0.1, B0.2.1, trivial⟩
  have hl := lv_entry ([.ref a0, .int a1, .int a2, .int a3]) (n := 4) (Nat.le_of_ble_eq_true rfl)
  show W p l e (hp_rm 1 0 0) s m ([.ref a0, .int a1, .int a2, .int a3] : List Value).toArray below meth c s.heap [] 0 0 (MQ below (hp_Qi Γ (fun r β => β = α ∧ r = res)) ([.ref a0, .int a1, .int a2, .int a3] : List Value).toArray s 0 0 (hp_A Γ)) (entryFrame m ([.ref a0, .int a1, .int a2, .int a3] : List Value).toArray 4)
  rw [lg_entry_eq]
  generalize (lg_sl ([.ref a0, .int a1, .int a2, .int a3]) ++ List.replicate (4 - (lg_sl ([.ref a0, .int a1, .int a2, .int a3])).length) Slot.unset).toArray = ls at hl ⊢
  have hl : lv_has ls 4 [(0, .ref a0), (1, .int a1), (2, .int a2), (3, .int a3)] := hl
  refine lv_iload_n hx hb dX12_isOf_0 rfl (lv_at hl 1 rfl) (hp_n (n := 1) rfl ?_)
  refine lv_aload_n hx hb dX12_isOf_1 rfl (lv_at hl 0 rfl) (hp_n (n := 2) rfl ?_)
  refine m_geti (k := 26) (φ := 676) (pc' := 5) C B hM fl_X12_236 rfl rfl dX12_isOf_2 rfl ?_
  refine lv_icmp_ge (tgt := 26) hx hb dX12_isOf_5 (by decide) (fun c1 => ?_) (fun c1 => hp_n (n := 8) rfl ?_)
  ·
    replace hf := ms_iT c1 hf
    refine lv_iconst (v := 0) hx hb dX12_isOf_26 (by decide) (hp_n (n := 27) rfl ?_)
    cases hf
    exact q_zret C B hr hlk (by decide) ⟨rfl, rfl⟩ dX12_isOf_27
  ·
    replace hf := ms_iF c1 hf
    refine lv_aload_n hx hb dX12_isOf_8 rfl (lv_at hl 0 rfl) (hp_n (n := 9) rfl ?_)
    refine m_getr (κ := 47) (k := 16) (pc' := 12) C B hM fl_X12_31 rfl (by decide) dX12_isOf_9 rfl ?_
    refine lv_iload_n hx hb dX12_isOf_12 rfl (lv_at hl 1 rfl) (hp_n (n := 13) rfl ?_)
    obtain ⟨g2, hf⟩ := ms_gE hf
    refine m_bal (κ := 47) (φ := 666) (n := 900) (pc' := 14) C B hM (by decide) (by decide) rfl g2 dX12_isOf_13 rfl ?_
    refine lv_iload_n hx hb dX12_isOf_14 rfl (lv_at hl 2 rfl) (hp_n (n := 15) rfl ?_)
    refine lv_iload_n hx hb dX12_isOf_15 rfl (lv_at hl 3 rfl) (hp_n (n := 16) rfl ?_)
    obtain ⟨rh3, qh3, hf⟩ := ms_bE hf
    refine m_cp (pc' := 19) B (hp_runS (As := [.int (ms_E σ 47 (a1).toNatClampNeg), .int a2, .int a3]) (rest := []) C B (m_X12_isIn n Γ l α (ms_E σ 47 (a1).toNatClampNeg) a2 a3 rh3 qh3) lb_X12_isIn ls_X12_isIn lk_X12_113 rfl (by decide) rfl hl.1 rfl (Nat.le_of_ble_eq_true rfl) dX12_isOf_16 ⟨Nat.le_refl _, Nat.le_refl _⟩) rfl (fun Hh3 Lh3 Bh3 => ?_)
    refine lv_if_eq (tgt := 26) hx hb dX12_isOf_19 (by decide) (fun c4 => ?_) (fun c4 => hp_n (n := 22) rfl ?_)
    ·
      replace hf := ms_iT c4 hf
      refine lv_iconst (v := 0) hx hb dX12_isOf_26 (by decide) (hp_n (n := 27) rfl ?_)
      cases hf
      exact q_zret C Bh3 hr hlk (by decide) ⟨rfl, rfl⟩ dX12_isOf_27
    ·
      replace hf := ms_iF c4 hf
      refine lv_iconst (v := 1) hx hb dX12_isOf_22 (by decide) (hp_n (n := 23) rfl ?_)
      refine lv_goto (tgt := 27) hx hb dX12_isOf_23 (by decide) ?_
      cases hf
      exact q_zret C Bh3 hr hlk (by decide) ⟨rfl, rfl⟩ dX12_isOf_27
