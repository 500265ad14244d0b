def f_X12_clash_J301 (n : Nat) (rec172 : ms_T → Int32 → Int32 → Option (Int32 × ms_T)) (σh23 : ms_T) (v5_h23 : Int32) (v6_h23 : Int32) : Option (Int32 × ms_T) :=
  ms_l (v6_h23 + 1) fun x24 =>
  rec172 σh23 v5_h23 x24
def f_X12_clash_J235 (n : Nat) (σh28 : ms_T) (v5_h28 : Int32) (v6_h28 : Int32) : Option (Int32 × ms_T) :=
  if v5_h28 = 0 then
    some (v6_h28, σh28)
  else
    if v5_h28 = (1 : Int32) then
      ms_g v6_h28 64 <|
      some ((ms_E σh28 51 (v6_h28).toNatClampNeg), σh28)
    else
      if v5_h28 = (2 : Int32) then
        ms_g v6_h28 64 <|
        some ((ms_E σh28 52 (v6_h28).toNatClampNeg), σh28)
      else
        if v5_h28 = (3 : Int32) then
          ms_g v6_h28 64 <|
          some ((ms_E σh28 54 (v6_h28).toNatClampNeg), σh28)
        else
          ms_g v6_h28 64 <|
          some ((ms_E σh28 55 (v6_h28).toNatClampNeg), σh28)
def f_X12_clash_L172 (n : Nat) : Nat → ms_T → Int32 → Int32 → Option (Int32 × ms_T)
  | 0, _, _, _ => none
  | k172 + 1, σh18, v5_h18, v6_h18 =>
    if (ms_I σh18 689) ≤ v6_h18 then
      ms_c (f_X12_refuse n σh18 (5 : Int32)) fun rh20 σh20 =>
      some (rh20, σh20)
    else
      ms_g v6_h18 64 <|
      ms_g v6_h18 64 <|
      if (ms_E σh18 53 (v6_h18).toNatClampNeg) = (ms_E σh18 56 (v6_h18).toNatClampNeg) then
        ms_g v6_h18 64 <|
        ms_g v6_h18 64 <|
        if (ms_E σh18 51 (v6_h18).toNatClampNeg) = (ms_E σh18 54 (v6_h18).toNatClampNeg) then
          ms_g v6_h18 64 <|
          ms_g v6_h18 64 <|
          if (ms_E σh18 52 (v6_h18).toNatClampNeg) = (ms_E σh18 55 (v6_h18).toNatClampNeg) then
            f_X12_clash_J301 n (f_X12_clash_L172 n k172) σh18 v5_h18 v6_h18
          else
            f_X12_clash_J235 n σh18 v5_h18 v6_h18
        else
          f_X12_clash_J235 n σh18 v5_h18 v6_h18
      else
        f_X12_clash_J301 n (f_X12_clash_L172 n k172) σh18 v5_h18 v6_h18
def f_X12_clash_L83 (n : Nat) : Nat → ms_T → Int32 → Int32 → Int32 → Int32 → Int32 → Option (Int32 × ms_T)
  | 0, _, _, _, _, _, _ => none
  | k83 + 1, σh11, v1_h11, v2_h11, v3_h11, v5_h11, v6_h11 =>
    if (ms_I σh11 689) ≤ v6_h11 then
      ms_b (f_X12_inclusion n σh11 v2_h11 v3_h11) fun σh13 =>
      ms_b (f_X12_fetches n σh13 v1_h11) fun σh14 =>
      ms_l (ms_sI σh14 689 (0 : Int32)) fun σh15 =>
      ms_b (f_X12_entryMark n σh15 v1_h11 v2_h11) fun rh16 =>
      ms_c (f_X12_stepsIn n 40 σh15 rh16 v2_h11 v3_h11) fun rh17 σh17 =>
      f_X12_clash_L172 n n σh17 v5_h11 (0 : Int32)
    else
      ms_g v6_h11 64 <|
      ms_g v6_h11 64 <|
      ms_l (ms_sE σh11 54 (v6_h11).toNatClampNeg (ms_E σh11 51 (v6_h11).toNatClampNeg)) fun σh43 =>
      ms_g v6_h11 64 <|
      ms_g v6_h11 64 <|
      ms_l (ms_sE σh43 55 (v6_h11).toNatClampNeg (ms_E σh43 52 (v6_h11).toNatClampNeg)) fun σh46 =>
      ms_g v6_h11 64 <|
      ms_g v6_h11 64 <|
      ms_l (ms_sE σh46 56 (v6_h11).toNatClampNeg (ms_E σh46 53 (v6_h11).toNatClampNeg)) fun σh49 =>
      ms_l (v6_h11 + 1) fun x50 =>
      (f_X12_clash_L83 n k83) σh49 v1_h11 v2_h11 v3_h11 v5_h11 x50
def f_X12_clash_J31 (n : Nat) (σh2 : ms_T) (v1_h2 : Int32) (v2_h2 : Int32) (v3_h2 : Int32) (v4_h2 : Int32) (v5_h2 : Int32) (w0_h2 : Int32) : Option (Int32 × ms_T) :=
  ms_c (f_X12_is n σh2 w0_h2) fun rh3 σh3 =>
  if rh3 = 0 then
    some ((-1 : Int32), σh3)
  else
    ms_c (f_X12_fromPad n σh3) fun rh5 σh5 =>
    ms_b (f_X12_headOf n σh5 v1_h2 v3_h2) fun rh6 =>
    ms_c (f_X12_whyIn n σh5 rh5 v4_h2 v2_h2 v3_h2 rh6) fun rh7 σh7 =>
    if rh7 ≤ 0 then
      ms_l (ms_sI σh7 689 (0 : Int32)) fun σh9 =>
      ms_c (f_X12_stepsIn n 40 σh9 v4_h2 v2_h2 v3_h2) fun rh10 σh10 =>
      f_X12_clash_L83 n n σh10 v1_h2 v2_h2 v3_h2 v5_h2 (0 : Int32)
    else
      ms_c (f_X12_refuse n σh7 (5 : Int32)) fun rh51 σh51 =>
      some (rh51, σh51)
def f_X12_clash_J20 (n : Nat) (σh52 : ms_T) (v1_h52 : Int32) (v2_h52 : Int32) (v3_h52 : Int32) (v4_h52 : Int32) (v5_h52 : Int32) : Option (Int32 × ms_T) :=
  f_X12_clash_J31 n σh52 v1_h52 v2_h52 v3_h52 v4_h52 v5_h52 (1 : Int32)
def f_X12_clash (n : Nat) (σ : ms_T) (a1 : Int32) (a2 : Int32) (a3 : Int32) (a4 : Int32) (a5 : Int32) : Option (Int32 × ms_T) :=
  ms_b (f_X12_isIn n a5 (0 : Int32) (4 : Int32)) fun rh1 =>
  if rh1 = 0 then
    f_X12_clash_J20 n σ a1 a2 a3 a4 a5
  else
    ms_b (f_X12_isMark n σ a4) fun rh54 =>
    if rh54 = 0 then
      f_X12_clash_J20 n σ a1 a2 a3 a4 a5
    else
      ms_b (f_X12_noEntry n σ a1 a2 a3) fun rh56 =>
      f_X12_clash_J31 n σ a1 a2 a3 a4 a5 rh56
set_option maxRecDepth 100000 in
set_option maxHeartbeats 4000000 in
theorem m_X12_clash (n : Nat) (Γ : hp_G) (l : Launch) (α : hp_T) (a0 : Nat) (ρ : Nat → Nat) (σ : ms_T) (hM : hm_M α a0 ρ σ) (a1 : Int32) (a2 : Int32) (a3 : Int32) (a4 : Int32) (a5 : Int32) (res : (Int32 × ms_T)) (hf : f_X12_clash n σ a1 a2 a3 a4 a5 = some res) : Met l yX12_clash (hp_ws yX12_clash cX12_clash 7 (some .int)) (hp_rm 44 0 0) (hp_Pc Γ α [.ref a0, .int a1, .int a2, .int a3, .int a4, .int a5]) (hp_Qi Γ (fun r β => r = res.1 ∧ mo α β ∧ hm_M β a0 ρ res.2)) 0 0 (hp_A Γ) := by
  unfold f_X12_clash at hf
  refine hp_start (by decide) ?_
  intro p e s m below meth c C hr hlk B0 hnm
  have C : hp_C Γ p m c cX12_clash 7 s ([.ref a0, .int a1, .int a2, .int a3, .int a4, .int a5] : List Value).toArray RX12 := C
  have hx := C.1.1
  have hb := C.1.2.1
  have hown := C.1.2.2.2.1
  have hts := C.1.2.2.2.2
  have B : hp_B Γ mo s α α s.heap [] := ⟨B0.1, B0.2.1, mo_rf⟩
  have hl := lv_entry ([.ref a0, .int a1, .int a2, .int a3, .int a4, .int a5]) (n := 7) (Nat.le_of_ble_eq_true rfl)
  show W p l e (hp_rm 44 0 0) s m ([.ref a0, .int a1, .int a2, .int a3, .int a4, .int a5] : List Value).toArray below meth c s.heap [] 0 0 (MQ below (hp_Qi Γ (fun r β => r = res.1 ∧ mo α β ∧ hm_M β a0 ρ res.2)) ([.ref a0, .int a1, .int a2, .int a3, .int a4, .int a5] : List Value).toArray s 0 0 (hp_A Γ)) (entryFrame m ([.ref a0, .int a1, .int a2, .int a3, .int a4, .int a5] : List Value).toArray 7)
  rw [lg_entry_eq]
  generalize (lg_sl ([.ref a0, .int a1, .int a2, .int a3, .int a4, .int a5]) ++ List.replicate (7 - (lg_sl ([.ref a0, .int a1, .int a2, .int a3, .int a4, .int a5])).length) Slot.unset).toArray = ls at hl ⊢
  have hl : lv_has ls 7 [(0, .ref a0), (1, .int a1), (2, .int a2), (3, .int a3), (4, .int a4), (5, .int a5)] := hl
  refine lv_aload_n hx hb dX12_clash_0 rfl (lv_at hl 0 rfl) (hp_n (n := 1) rfl ?_)
  refine lv_iload hx hb dX12_clash_1 (lv_at hl 5 rfl) (hp_n (n := 3) rfl ?_)
  refine lv_iconst (v := 0) hx hb dX12_clash_3 (by decide) (hp_n (n := 4) rfl ?_)
  refine lv_iconst (v := 4) hx hb dX12_clash_4 (by decide) (hp_n (n := 5) rfl ?_)
  obtain ⟨rh1, qh1, hf⟩ := ms_bE hf
  refine m_cp (pc' := 8) B (hp_runS (As := [.int a5, .int (0 : Int32), .int (4 : Int32)]) (rest := [.ref a0]) C B (m_X12_isIn n Γ l α a5 (0 : Int32) (4 : Int32) rh1 qh1) lb_X12_isIn ls_X12_isIn lk_X12_113 rfl (by decide) rfl hl.1 rfl (Nat.le_of_ble_eq_true rfl) dX12_clash_5 ⟨Nat.le_refl _, Nat.le_refl _⟩) rfl (fun Hh1 Lh1 Bh1 => ?_)
  have J31 : ∀ (αh2 : hp_T) (Hh2 : Heap) (Lh2 : List Loc) (Bh2 : hp_B Γ mo s α αh2 Hh2 Lh2) (σh2 : ms_T) (Mh2 : hm_M αh2 a0 ρ σh2) (v1_h2 : Int32) (v2_h2 : Int32) (v3_h2 : Int32) (v4_h2 : Int32) (v5_h2 : Int32) (w0_h2 : Int32) (ls : Array Slot) (hl : lv_has ls 7 [(0, .ref a0), (1, .int v1_h2), (2, .int v2_h2), (3, .int v3_h2), (4, .int v4_h2), (5, .int v5_h2)]) (hf : f_X12_clash_J31 n σh2 v1_h2 v2_h2 v3_h2 v4_h2 v5_h2 w0_h2 = some res), W p l e (hp_rm 44 0 0) s m ([.ref a0, .int a1, .int a2, .int a3, .int a4, .int a5] : List Value).toArray below meth c Hh2 Lh2 0 0 (MQ below (hp_Qi Γ (fun r β => r = res.1 ∧ mo α β ∧ hm_M β a0 ρ res.2)) ([.ref a0, .int a1, .int a2, .int a3, .int a4, .int a5] : List Value).toArray s 0 0 (hp_A Γ)) (F0 m 31 ls [.int w0_h2, .ref a0]) := by
    intro αh2 Hh2 Lh2 Bh2 σh2 Mh2 v1_h2 v2_h2 v3_h2 v4_h2 v5_h2 w0_h2 ls hl hf
    unfold f_X12_clash_J31 at hf
    obtain ⟨rh3, σh3, qh3, hf⟩ := ms_cE hf
    refine m_ci (pc' := 34) (a := a0) (ρ := ρ) Bh2 (hp_runV (As := [.int w0_h2]) (rest := []) C Bh2 (m_X12_is n Γ l αh2 a0 ρ σh2 Mh2 w0_h2 (rh3, σh3) qh3) lb_X12_is lv_X12_is lk_X12_309 Mh2.1 rfl (by decide) rfl hl.1 rfl (Nat.le_of_ble_eq_true rfl) dX12_clash_31 ⟨Nat.le_refl _, Nat.le_refl _⟩) rfl (fun αh3 Hh3 Lh3 Bh3 Mh3 => ?_)
    refine lv_if_ne (tgt := 39) hx hb dX12_clash_34 (by decide) (fun c4 => ?_) (fun c4 => hp_n (n := 37) rfl ?_)
    ·
      replace hf := ms_iF c4 hf
      refine lv_aload_n hx hb dX12_clash_39 rfl (lv_at hl 0 rfl) (hp_n (n := 40) rfl ?_)
      refine lv_aload_n hx hb dX12_clash_40 rfl (lv_at hl 0 rfl) (hp_n (n := 41) rfl ?_)
      obtain ⟨rh5, σh5, qh5, hf⟩ := ms_cE hf
      refine m_ci (pc' := 44) (a := a0) (ρ := ρ) Bh3 (hp_runV (As := []) (rest := [.ref a0]) C Bh3 (m_X12_fromPad n Γ l αh3 a0 ρ σh3 Mh3  (rh5, σh5) qh5) lb_X12_fromPad lv_X12_fromPad lk_X12_384 Mh3.1 rfl (by decide) rfl hl.1 rfl (Nat.le_of_ble_eq_true rfl) dX12_clash_41 ⟨Nat.le_refl _, Nat.le_refl _⟩) rfl (fun αh5 Hh5 Lh5 Bh5 Mh5 => ?_)
      refine lv_iload hx hb dX12_clash_44 (lv_at hl 4 rfl) (hp_n (n := 46) rfl ?_)
      refine lv_iload_n hx hb dX12_clash_46 rfl (lv_at hl 2 rfl) (hp_n (n := 47) rfl ?_)
      refine lv_iload_n hx hb dX12_clash_47 rfl (lv_at hl 3 rfl) (hp_n (n := 48) rfl ?_)
      refine lv_aload_n hx hb dX12_clash_48 rfl (lv_at hl 0 rfl) (hp_n (n := 49) rfl ?_)
      refine lv_iload_n hx hb dX12_clash_49 rfl (lv_at hl 1 rfl) (hp_n (n := 50) rfl ?_)
      refine lv_iload_n hx hb dX12_clash_50 rfl (lv_at hl 3 rfl) (hp_n (n := 51) rfl ?_)
      obtain ⟨rh6, qh6, hf⟩ := ms_bE hf
      refine m_cp (pc' := 54) Bh5 (hp_runV (As := [.int v1_h2, .int v3_h2]) (rest := [.int v3_h2, .int v2_h2, .int v4_h2, .int rh5, .ref a0]) C Bh5 (m_X12_headOf n Γ l αh5 a0 ρ σh5 Mh5 v1_h2 v3_h2 rh6 qh6) lb_X12_headOf lv_X12_headOf lk_X12_215 Mh5.1 rfl (by decide) rfl hl.1 rfl (Nat.le_of_ble_eq_true rfl) dX12_clash_51 ⟨Nat.le_refl _, Nat.le_refl _⟩) rfl (fun Hh6 Lh6 Bh6 => ?_)
      obtain ⟨rh7, σh7, qh7, hf⟩ := ms_cE hf
      refine m_ci (pc' := 57) (a := a0) (ρ := ρ) Bh6 (hp_runV (As := [.int rh5, .int v4_h2, .int v2_h2, .int v3_h2, .int rh6]) (rest := []) C Bh6 (m_X12_whyIn n Γ l αh5 a0 ρ σh5 Mh5 rh5 v4_h2 v2_h2 v3_h2 rh6 (rh7, σh7) qh7) lb_X12_whyIn lv_X12_whyIn lk_X12_332 Mh5.1 rfl (by decide) rfl hl.1 rfl (Nat.le_of_ble_eq_true rfl) dX12_clash_54 ⟨Nat.le_refl _, Nat.le_refl _⟩) rfl (fun αh7 Hh7 Lh7 Bh7 Mh7 => ?_)
      refine lv_if_le (tgt := 66) hx hb dX12_clash_57 (by decide) (fun c8 => ?_) (fun c8 => hp_n (n := 60) rfl ?_)
      ·
        replace hf := ms_iT c8 hf
        refine lv_aload_n hx hb dX12_clash_66 rfl (lv_at hl 0 rfl) (hp_n (n := 67) rfl ?_)
        refine lv_iconst (v := 0) hx hb dX12_clash_67 (by decide) (hp_n (n := 68) rfl ?_)
        refine m_puti (k := 39) (φ := 689) (pc' := 71) C Bh7 Mh7 fl_X12_411 rfl rfl rfl rfl rfl dX12_clash_68 rfl (fun αh9 Hh9 Lh9 σh9 eh9 Bh9 Mh9 => ?_)
        replace hf := ms_lE eh9 hf
        refine lv_aload_n hx hb dX12_clash_71 rfl (lv_at hl 0 rfl) (hp_n (n := 72) rfl ?_)
        refine lv_iload hx hb dX12_clash_72 (lv_at hl 4 rfl) (hp_n (n := 74) rfl ?_)
        refine lv_iload_n hx hb dX12_clash_74 rfl (lv_at hl 2 rfl) (hp_n (n := 75) rfl ?_)
        refine lv_iload_n hx hb dX12_clash_75 rfl (lv_at hl 3 rfl) (hp_n (n := 76) rfl ?_)
        obtain ⟨rh10, σh10, qh10, hf⟩ := ms_cE hf
        refine m_ci (pc' := 79) (a := a0) (ρ := ρ) Bh9 (hp_runV (As := [.int v4_h2, .int v2_h2, .int v3_h2]) (rest := []) C Bh9 (m_X12_stepsIn n 40 Γ l αh9 a0 ρ σh9 Mh9 v4_h2 v2_h2 v3_h2 (rh10, σh10) qh10) lb_X12_stepsIn lv_X12_stepsIn lk_X12_408 Mh9.1 rfl (by decide) rfl hl.1 rfl (Nat.le_of_ble_eq_true rfl) dX12_clash_76 ⟨Nat.le_refl _, Nat.le_refl _⟩) rfl (fun αh10 Hh10 Lh10 Bh10 Mh10 => ?_)
        refine lv_pop hx hb dX12_clash_79 rfl (hp_n (n := 80) rfl ?_)
        refine lv_iconst (v := 0) hx hb dX12_clash_80 (by decide) (hp_n (n := 81) rfl ?_)
        have J83 : ∀ (k83 : Nat) (αh11 : hp_T) (Hh11 : Heap) (Lh11 : List Loc) (Bh11 : hp_B Γ mo s α αh11 Hh11 Lh11) (σh11 : ms_T) (Mh11 : hm_M αh11 a0 ρ σh11) (v1_h11 : Int32) (v2_h11 : Int32) (v3_h11 : Int32) (v5_h11 : Int32) (v6_h11 : Int32) (ls : Array Slot) (hl : lv_has ls 7 [(0, .ref a0), (1, .int v1_h11), (2, .int v2_h11), (3, .int v3_h11), (5, .int v5_h11), (6, .int v6_h11)]) (hf : f_X12_clash_L83 n k83 σh11 v1_h11 v2_h11 v3_h11 v5_h11 v6_h11 = some res), W p l e (hp_rm 44 0 0) s m ([.ref a0, .int a1, .int a2, .int a3, .int a4, .int a5] : List Value).toArray below meth c Hh11 Lh11 0 0 (MQ below (hp_Qi Γ (fun r β => r = res.1 ∧ mo α β ∧ hm_M β a0 ρ res.2)) ([.ref a0, .int a1, .int a2, .int a3, .int a4, .int a5] : List Value).toArray s 0 0 (hp_A Γ)) (F0 m 83 ls []) := by
          intro k83
          induction k83 with
          | zero => intro αh11 Hh11 Lh11 Bh11 σh11 Mh11 v1_h11 v2_h11 v3_h11 v5_h11 v6_h11 ls hl hf; rw [f_X12_clash_L83.eq_1] at hf; cases hf
          | succ k83 ih83 =>
            intro αh11 Hh11 Lh11 Bh11 σh11 Mh11 v1_h11 v2_h11 v3_h11 v5_h11 v6_h11 ls hl hf
            rw [f_X12_clash_L83.eq_2] at hf
            refine lv_iload hx hb dX12_clash_83 (lv_at hl 5 rfl) (hp_n (n := 85) rfl ?_)
            refine lv_aload_n hx hb dX12_clash_85 rfl (lv_at hl 0 rfl) (hp_n (n := 86) rfl ?_)
            refine m_geti (k := 39) (φ := 689) (pc' := 89) C Bh11 Mh11 fl_X12_411 rfl rfl dX12_clash_86 rfl ?_
            refine lv_icmp_ge (tgt := 140) hx hb dX12_clash_89 (by decide) (fun c12 => ?_) (fun c12 => hp_n (n := 92) rfl ?_)
            ·
              replace hf := ms_iT c12 hf
              refine lv_aload_n hx hb dX12_clash_140 rfl (lv_at hl 0 rfl) (hp_n (n := 141) rfl ?_)
              refine lv_iload_n hx hb dX12_clash_141 rfl (lv_at hl 2 rfl) (hp_n (n := 142) rfl ?_)
              refine lv_iload_n hx hb dX12_clash_142 rfl (lv_at hl 3 rfl) (hp_n (n := 143) rfl ?_)
              obtain ⟨σh13, qh13, hf⟩ := ms_bE hf
              refine m_cv (pc' := 146) (a := a0) (ρ := ρ) Bh11 (hp_runV (As := [.int v2_h11, .int v3_h11]) (rest := []) C Bh11 (m_X12_inclusion n Γ l αh11 a0 ρ σh11 Mh11 v2_h11 v3_h11 σh13 qh13) lb_X12_inclusion lv_X12_inclusion lk_X12_171 Mh11.1 rfl (by decide) rfl hl.1 rfl (Nat.le_of_ble_eq_true rfl) dX12_clash_143 ⟨Nat.le_refl _, Nat.le_refl _⟩) rfl (fun αh13 Hh13 Lh13 Bh13 Mh13 => ?_)
              refine lv_aload_n hx hb dX12_clash_146 rfl (lv_at hl 0 rfl) (hp_n (n := 147) rfl ?_)
              refine lv_iload_n hx hb dX12_clash_147 rfl (lv_at hl 1 rfl) (hp_n (n := 148) rfl ?_)
              obtain ⟨σh14, qh14, hf⟩ := ms_bE hf
              refine m_cv (pc' := 151) (a := a0) (ρ := ρ) Bh13 (hp_runV (As := [.int v1_h11]) (rest := []) C Bh13 (m_X12_fetches n Γ l αh13 a0 ρ σh13 Mh13 v1_h11 σh14 qh14) lb_X12_fetches lv_X12_fetches lk_X12_161 Mh13.1 rfl (by decide) rfl hl.1 rfl (Nat.le_of_ble_eq_true rfl) dX12_clash_148 ⟨Nat.le_refl _, Nat.le_refl _⟩) rfl (fun αh14 Hh14 Lh14 Bh14 Mh14 => ?_)
              refine lv_aload_n hx hb dX12_clash_151 rfl (lv_at hl 0 rfl) (hp_n (n := 152) rfl ?_)
              refine lv_iconst (v := 0) hx hb dX12_clash_152 (by decide) (hp_n (n := 153) rfl ?_)
              refine m_puti (k := 39) (φ := 689) (pc' := 156) C Bh14 Mh14 fl_X12_411 rfl rfl rfl rfl rfl dX12_clash_153 rfl (fun αh15 Hh15 Lh15 σh15 eh15 Bh15 Mh15 => ?_)
              replace hf := ms_lE eh15 hf
              refine lv_aload_n hx hb dX12_clash_156 rfl (lv_at hl 0 rfl) (hp_n (n := 157) rfl ?_)
              refine lv_aload_n hx hb dX12_clash_157 rfl (lv_at hl 0 rfl) (hp_n (n := 158) rfl ?_)
              refine lv_iload_n hx hb dX12_clash_158 rfl (lv_at hl 1 rfl) (hp_n (n := 159) rfl ?_)
              refine lv_iload_n hx hb dX12_clash_159 rfl (lv_at hl 2 rfl) (hp_n (n := 160) rfl ?_)
              obtain ⟨rh16, qh16, hf⟩ := ms_bE hf
              refine m_cp (pc' := 163) Bh15 (hp_runV (As := [.int v1_h11, .int v2_h11]) (rest := [.ref a0]) C Bh15 (m_X12_entryMark n Γ l αh15 a0 ρ σh15 Mh15 v1_h11 v2_h11 rh16 qh16) lb_X12_entryMark lv_X12_entryMark lk_X12_125 Mh15.1 rfl (by decide) rfl hl.1 rfl (Nat.le_of_ble_eq_true rfl) dX12_clash_160 ⟨Nat.le_refl _, Nat.le_refl _⟩) rfl (fun Hh16 Lh16 Bh16 => ?_)
              refine lv_iload_n hx hb dX12_clash_163 rfl (lv_at hl 2 rfl) (hp_n (n := 164) rfl ?_)
              refine lv_iload_n hx hb dX12_clash_164 rfl (lv_at hl 3 rfl) (hp_n (n := 165) rfl ?_)
              obtain ⟨rh17, σh17, qh17, hf⟩ := ms_cE hf
              refine m_ci (pc' := 168) (a := a0) (ρ := ρ) Bh16 (hp_runV (As := [.int rh16, .int v2_h11, .int v3_h11]) (rest := []) C Bh16 (m_X12_stepsIn n 40 Γ l αh15 a0 ρ σh15 Mh15 rh16 v2_h11 v3_h11 (rh17, σh17) qh17) lb_X12_stepsIn lv_X12_stepsIn lk_X12_408 Mh15.1 rfl (by decide) rfl hl.1 rfl (Nat.le_of_ble_eq_true rfl) dX12_clash_165 ⟨Nat.le_refl _, Nat.le_refl _⟩) rfl (fun αh17 Hh17 Lh17 Bh17 Mh17 => ?_)
              refine lv_pop hx hb dX12_clash_168 rfl (hp_n (n := 169) rfl ?_)
              refine lv_iconst (v := 0) hx hb dX12_clash_169 (by decide) (hp_n (n := 170) rfl ?_)
              have J172 : ∀ (k172 : Nat) (αh18 : hp_T) (Hh18 : Heap) (Lh18 : List Loc) (Bh18 : hp_B Γ mo s α αh18 Hh18 Lh18) (σh18 : ms_T) (Mh18 : hm_M αh18 a0 ρ σh18) (v5_h18 : Int32) (v6_h18 : Int32) (ls : Array Slot) (hl : lv_has ls 7 [(0, .ref a0), (5, .int v5_h18), (6, .int v6_h18)]) (hf : f_X12_clash_L172 n k172 σh18 v5_h18 v6_h18 = some res), W p l e (hp_rm 44 0 0) s m ([.ref a0, .int a1, .int a2, .int a3, .int a4, .int a5] : List Value).toArray below meth c Hh18 Lh18 0 0 (MQ below (hp_Qi Γ (fun r β => r = res.1 ∧ mo α β ∧ hm_M β a0 ρ res.2)) ([.ref a0, .int a1, .int a2, .int a3, .int a4, .int a5] : List Value).toArray s 0 0 (hp_A Γ)) (F0 m 172 ls []) := by
                intro k172
                induction k172 with
                | zero => intro αh18 Hh18 Lh18 Bh18 σh18 Mh18 v5_h18 v6_h18 ls hl hf; rw [f_X12_clash_L172.eq_1] at hf; cases hf
                | succ k172 ih172 =>
                  intro αh18 Hh18 Lh18 Bh18 σh18 Mh18 v5_h18 v6_h18 ls hl hf
                  rw [f_X12_clash_L172.eq_2] at hf
                  refine lv_iload hx hb dX12_clash_172 (lv_at hl 2 rfl) (hp_n (n := 174) rfl ?_)
                  refine lv_aload_n hx hb dX12_clash_174 rfl (lv_at hl 0 rfl) (hp_n (n := 175) rfl ?_)
                  refine m_geti (k := 39) (φ := 689) (pc' := 178) C Bh18 Mh18 fl_X12_411 rfl rfl dX12_clash_175 rfl ?_
                  refine lv_icmp_ge (tgt := 307) hx hb dX12_clash_178 (by decide) (fun c19 => ?_) (fun c19 => hp_n (n := 181) rfl ?_)
                  ·
                    replace hf := ms_iT c19 hf
                    refine lv_aload_n hx hb dX12_clash_307 rfl (lv_at hl 0 rfl) (hp_n (n := 308) rfl ?_)
                    refine lv_iconst (v := 5) hx hb dX12_clash_308 (by decide) (hp_n (n := 309) rfl ?_)
                    obtain ⟨rh20, σh20, qh20, hf⟩ := ms_cE hf
                    refine m_ci (pc' := 312) (a := a0) (ρ := ρ) Bh18 (hp_runV (As := [.int (5 : Int32)]) (rest := []) C Bh18 (m_X12_refuse n Γ l αh18 a0 ρ σh18 Mh18 (5 : Int32) (rh20, σh20) qh20) lb_X12_refuse lv_X12_refuse lk_X12_212 Mh18.1 rfl (by decide) rfl hl.1 rfl (Nat.le_of_ble_eq_true rfl) dX12_clash_309 ⟨Nat.le_refl _, Nat.le_refl _⟩) rfl (fun αh20 Hh20 Lh20 Bh20 Mh20 => ?_)
                    cases hf
                    exact q_iret C Bh20 hr hlk ⟨rfl, Bh20.2.2, Mh20⟩ dX12_clash_312
                  ·
                    replace hf := ms_iF c19 hf
                    refine lv_aload_n hx hb dX12_clash_181 rfl (lv_at hl 0 rfl) (hp_n (n := 182) rfl ?_)
                    refine m_getr (κ := 53) (k := 38) (pc' := 185) C Bh18 Mh18 fl_X12_82 rfl (by decide) dX12_clash_182 rfl ?_
                    refine lv_iload hx hb dX12_clash_185 (lv_at hl 2 rfl) (hp_n (n := 187) rfl ?_)
                    obtain ⟨g21, hf⟩ := ms_gE hf
                    refine m_ial (κ := 53) (φ := 688) (n := 64) (pc' := 188) C Bh18 Mh18 (by decide) (by decide) rfl g21 dX12_clash_187 rfl ?_
                    refine lv_aload_n hx hb dX12_clash_188 rfl (lv_at hl 0 rfl) (hp_n (n := 189) rfl ?_)
                    refine m_getr (κ := 56) (k := 42) (pc' := 192) C Bh18 Mh18 fl_X12_91 rfl (by decide) dX12_clash_189 rfl ?_
                    refine lv_iload hx hb dX12_clash_192 (lv_at hl 2 rfl) (hp_n (n := 194) rfl ?_)
                    obtain ⟨g22, hf⟩ := ms_gE hf
                    refine m_ial (κ := 56) (φ := 692) (n := 64) (pc' := 195) C Bh18 Mh18 (by decide) (by decide) rfl g22 dX12_clash_194 rfl ?_
                    have J301 : ∀ (αh23 : hp_T) (Hh23 : Heap) (Lh23 : List Loc) (Bh23 : hp_B Γ mo s α αh23 Hh23 Lh23) (σh23 : ms_T) (Mh23 : hm_M αh23 a0 ρ σh23) (v5_h23 : Int32) (v6_h23 : Int32) (ls : Array Slot) (hl : lv_has ls 7 [(0, .ref a0), (5, .int v5_h23), (6, .int v6_h23)]) (hf : f_X12_clash_J301 n (f_X12_clash_L172 n k172) σh23 v5_h23 v6_h23 = some res), W p l e (hp_rm 44 0 0) s m ([.ref a0, .int a1, .int a2, .int a3, .int a4, .int a5] : List Value).toArray below meth c Hh23 Lh23 0 0 (MQ below (hp_Qi Γ (fun r β => r = res.1 ∧ mo α β ∧ hm_M β a0 ρ res.2)) ([.ref a0, .int a1, .int a2, .int a3, .int a4, .int a5] : List Value).toArray s 0 0 (hp_A Γ)) (F0 m 301 ls []) := by
                      intro αh23 Hh23 Lh23 Bh23 σh23 Mh23 v5_h23 v6_h23 ls hl hf
                      unfold f_X12_clash_J301 at hf
                      obtain ⟨x24, ex24⟩ : ∃ y : Int32, y = v6_h23 + 1 := ⟨_, rfl⟩
                      replace hf := ms_lE ex24 hf
                      refine lv_iinc (v := x24) (lv' := [(6, .int x24), (0, .ref a0), (5, .int v5_h23)]) hx hb dX12_clash_301 hl (k := 2) rfl (by rw [ex24]; rfl) (by decide) rfl (fun ls hl => hp_n (n := 304) rfl ?_)
                      refine lv_goto (tgt := 172) hx hb dX12_clash_304 (by decide) ?_
                      exact ih172 αh23 Hh23 Lh23 Bh23 σh23 Mh23 v5_h23 x24 ls (lv_sub hl [1, 2, 0] rfl) hf
                    refine lv_icmp_ne (tgt := 301) hx hb dX12_clash_195 (by decide) (fun c25 => ?_) (fun c25 => hp_n (n := 198) rfl ?_)
                    ·
                      replace hf := ms_iF c25 hf
                      exact J301 αh18 Hh18 Lh18 Bh18 σh18 Mh18 v5_h18 v6_h18 ls (lv_sub hl [0, 1, 2] rfl) hf
                    ·
                      replace hf := ms_iT c25 hf
                      refine lv_aload_n hx hb dX12_clash_198 rfl (lv_at hl 0 rfl) (hp_n (n := 199) rfl ?_)
                      refine m_getr (κ := 51) (k := 36) (pc' := 202) C Bh18 Mh18 fl_X12_76 rfl (by decide) dX12_clash_199 rfl ?_
                      refine lv_iload hx hb dX12_clash_202 (lv_at hl 2 rfl) (hp_n (n := 204) rfl ?_)
                      obtain ⟨g26, hf⟩ := ms_gE hf
                      refine m_ial (κ := 51) (φ := 686) (n := 64) (pc' := 205) C Bh18 Mh18 (by decide) (by decide) rfl g26 dX12_clash_204 rfl ?_
                      refine lv_aload_n hx hb dX12_clash_205 rfl (lv_at hl 0 rfl) (hp_n (n := 206) rfl ?_)
                      refine m_getr (κ := 54) (k := 40) (pc' := 209) C Bh18 Mh18 fl_X12_85 rfl (by decide) dX12_clash_206 rfl ?_
                      refine lv_iload hx hb dX12_clash_209 (lv_at hl 2 rfl) (hp_n (n := 211) rfl ?_)
                      obtain ⟨g27, hf⟩ := ms_gE hf
                      refine m_ial (κ := 54) (φ := 690) (n := 64) (pc' := 212) C Bh18 Mh18 (by decide) (by decide) rfl g27 dX12_clash_211 rfl ?_
                      have J235 : ∀ (αh28 : hp_T) (Hh28 : Heap) (Lh28 : List Loc) (Bh28 : hp_B Γ mo s α αh28 Hh28 Lh28) (σh28 : ms_T) (Mh28 : hm_M αh28 a0 ρ σh28) (v5_h28 : Int32) (v6_h28 : Int32) (ls : Array Slot) (hl : lv_has ls 7 [(0, .ref a0), (5, .int v5_h28), (6, .int v6_h28)]) (hf : f_X12_clash_J235 n σh28 v5_h28 v6_h28 = some res), W p l e (hp_rm 44 0 0) s m ([.ref a0, .int a1, .int a2, .int a3, .int a4, .int a5] : List Value).toArray below meth c Hh28 Lh28 0 0 (MQ below (hp_Qi Γ (fun r β => r = res.1 ∧ mo α β ∧ hm_M β a0 ρ res.2)) ([.ref a0, .int a1, .int a2, .int a3, .int a4, .int a5] : List Value).toArray s 0 0 (hp_A Γ)) (F0 m 235 ls []) := by
                        intro αh28 Hh28 Lh28 Bh28 σh28 Mh28 v5_h28 v6_h28 ls hl hf
                        unfold f_X12_clash_J235 at hf
                        refine lv_iload hx hb dX12_clash_235 (lv_at hl 1 rfl) (hp_n (n := 237) rfl ?_)
                        refine lv_if_ne (tgt := 245) hx hb dX12_clash_237 (by decide) (fun c29 => ?_) (fun c29 => hp_n (n := 240) rfl ?_)
                        ·
                          replace hf := ms_iF c29 hf
                          refine lv_iload hx hb dX12_clash_245 (lv_at hl 1 rfl) (hp_n (n := 247) rfl ?_)
                          refine lv_iconst (v := 1) hx hb dX12_clash_247 (by decide) (hp_n (n := 248) rfl ?_)
                          refine lv_icmp_ne (tgt := 261) hx hb dX12_clash_248 (by decide) (fun c30 => ?_) (fun c30 => hp_n (n := 251) rfl ?_)
                          ·
                            replace hf := ms_iF c30 hf
                            refine lv_iload hx hb dX12_clash_261 (lv_at hl 1 rfl) (hp_n (n := 263) rfl ?_)
                            refine lv_iconst (v := 2) hx hb dX12_clash_263 (by decide) (hp_n (n := 264) rfl ?_)
                            refine lv_icmp_ne (tgt := 277) hx hb dX12_clash_264 (by decide) (fun c31 => ?_) (fun c31 => hp_n (n := 267) rfl ?_)
                            ·
                              replace hf := ms_iF c31 hf
                              refine lv_iload hx hb dX12_clash_277 (lv_at hl 1 rfl) (hp_n (n := 279) rfl ?_)
                              refine lv_iconst (v := 3) hx hb dX12_clash_279 (by decide) (hp_n (n := 280) rfl ?_)
                              refine lv_icmp_ne (tgt := 293) hx hb dX12_clash_280 (by decide) (fun c32 => ?_) (fun c32 => hp_n (n := 283) rfl ?_)
                              ·
                                replace hf := ms_iF c32 hf
                                refine lv_aload_n hx hb dX12_clash_293 rfl (lv_at hl 0 rfl) (hp_n (n := 294) rfl ?_)
                                refine m_getr (κ := 55) (k := 41) (pc' := 297) C Bh28 Mh28 fl_X12_88 rfl (by decide) dX12_clash_294 rfl ?_
                                refine lv_iload hx hb dX12_clash_297 (lv_at hl 2 rfl) (hp_n (n := 299) rfl ?_)
                                obtain ⟨g33, hf⟩ := ms_gE hf
                                refine m_ial (κ := 55) (φ := 691) (n := 64) (pc' := 300) C Bh28 Mh28 (by decide) (by decide) rfl g33 dX12_clash_299 rfl ?_
                                cases hf
                                exact q_iret C Bh28 hr hlk ⟨rfl, Bh28.2.2, Mh28⟩ dX12_clash_300
                              ·
                                replace hf := ms_iT c32 hf
                                refine lv_aload_n hx hb dX12_clash_283 rfl (lv_at hl 0 rfl) (hp_n (n := 284) rfl ?_)
                                refine m_getr (κ := 54) (k := 40) (pc' := 287) C Bh28 Mh28 fl_X12_85 rfl (by decide) dX12_clash_284 rfl ?_
                                refine lv_iload hx hb dX12_clash_287 (lv_at hl 2 rfl) (hp_n (n := 289) rfl ?_)
                                obtain ⟨g34, hf⟩ := ms_gE hf
                                refine m_ial (κ := 54) (φ := 690) (n := 64) (pc' := 290) C Bh28 Mh28 (by decide) (by decide) rfl g34 dX12_clash_289 rfl ?_
                                refine lv_goto (tgt := 300) hx hb dX12_clash_290 (by decide) ?_
                                cases hf
                                exact q_iret C Bh28 hr hlk ⟨rfl, Bh28.2.2, Mh28⟩ dX12_clash_300
                            ·
                              replace hf := ms_iT c31 hf
                              refine lv_aload_n hx hb dX12_clash_267 rfl (lv_at hl 0 rfl) (hp_n (n := 268) rfl ?_)
                              refine m_getr (κ := 52) (k := 37) (pc' := 271) C Bh28 Mh28 fl_X12_79 rfl (by decide) dX12_clash_268 rfl ?_
                              refine lv_iload hx hb dX12_clash_271 (lv_at hl 2 rfl) (hp_n (n := 273) rfl ?_)
                              obtain ⟨g35, hf⟩ := ms_gE hf
                              refine m_ial (κ := 52) (φ := 687) (n := 64) (pc' := 274) C Bh28 Mh28 (by decide) (by decide) rfl g35 dX12_clash_273 rfl ?_
                              refine lv_goto (tgt := 300) hx hb dX12_clash_274 (by decide) ?_
                              cases hf
                              exact q_iret C Bh28 hr hlk ⟨rfl, Bh28.2.2, Mh28⟩ dX12_clash_300
                          ·
                            replace hf := ms_iT c30 hf
                            refine lv_aload_n hx hb dX12_clash_251 rfl (lv_at hl 0 rfl) (hp_n (n := 252) rfl ?_)
                            refine m_getr (κ := 51) (k := 36) (pc' := 255) C Bh28 Mh28 fl_X12_76 rfl (by decide) dX12_clash_252 rfl ?_
                            refine lv_iload hx hb dX12_clash_255 (lv_at hl 2 rfl) (hp_n (n := 257) rfl ?_)
                            obtain ⟨g36, hf⟩ := ms_gE hf
                            refine m_ial (κ := 51) (φ := 686) (n := 64) (pc' := 258) C Bh28 Mh28 (by decide) (by decide) rfl g36 dX12_clash_257 rfl ?_
                            refine lv_goto (tgt := 300) hx hb dX12_clash_258 (by decide) ?_
                            cases hf
                            exact q_iret C Bh28 hr hlk ⟨rfl, Bh28.2.2, Mh28⟩ dX12_clash_300
                        ·
                          replace hf := ms_iT c29 hf
                          refine lv_iload hx hb dX12_clash_240 (lv_at hl 2 rfl) (hp_n (n := 242) rfl ?_)
                          refine lv_goto (tgt := 300) hx hb dX12_clash_242 (by decide) ?_
                          cases hf
                          exact q_iret C Bh28 hr hlk ⟨rfl, Bh28.2.2, Mh28⟩ dX12_clash_300
                      refine lv_icmp_ne (tgt := 235) hx hb dX12_clash_212 (by decide) (fun c37 => ?_) (fun c37 => hp_n (n := 215) rfl ?_)
                      ·
                        replace hf := ms_iF c37 hf
                        exact J235 αh18 Hh18 Lh18 Bh18 σh18 Mh18 v5_h18 v6_h18 ls (lv_sub hl [0, 1, 2] rfl) hf
                      ·
                        replace hf := ms_iT c37 hf
                        refine lv_aload_n hx hb dX12_clash_215 rfl (lv_at hl 0 rfl) (hp_n (n := 216) rfl ?_)
                        refine m_getr (κ := 52) (k := 37) (pc' := 219) C Bh18 Mh18 fl_X12_79 rfl (by decide) dX12_clash_216 rfl ?_
                        refine lv_iload hx hb dX12_clash_219 (lv_at hl 2 rfl) (hp_n (n := 221) rfl ?_)
                        obtain ⟨g38, hf⟩ := ms_gE hf
                        refine m_ial (κ := 52) (φ := 687) (n := 64) (pc' := 222) C Bh18 Mh18 (by decide) (by decide) rfl g38 dX12_clash_221 rfl ?_
                        refine lv_aload_n hx hb dX12_clash_222 rfl (lv_at hl 0 rfl) (hp_n (n := 223) rfl ?_)
                        refine m_getr (κ := 55) (k := 41) (pc' := 226) C Bh18 Mh18 fl_X12_88 rfl (by decide) dX12_clash_223 rfl ?_
                        refine lv_iload hx hb dX12_clash_226 (lv_at hl 2 rfl) (hp_n (n := 228) rfl ?_)
                        obtain ⟨g39, hf⟩ := ms_gE hf
                        refine m_ial (κ := 55) (φ := 691) (n := 64) (pc' := 229) C Bh18 Mh18 (by decide) (by decide) rfl g39 dX12_clash_228 rfl ?_
                        refine lv_icmp_ne (tgt := 235) hx hb dX12_clash_229 (by decide) (fun c40 => ?_) (fun c40 => hp_n (n := 232) rfl ?_)
                        ·
                          replace hf := ms_iF c40 hf
                          exact J235 αh18 Hh18 Lh18 Bh18 σh18 Mh18 v5_h18 v6_h18 ls (lv_sub hl [0, 1, 2] rfl) hf
                        ·
                          replace hf := ms_iT c40 hf
                          refine lv_goto (tgt := 301) hx hb dX12_clash_232 (by decide) ?_
                          exact J301 αh18 Hh18 Lh18 Bh18 σh18 Mh18 v5_h18 v6_h18 ls (lv_sub hl [0, 1, 2] rfl) hf
              refine lv_istore (lv' := [(6, .int (0 : Int32)), (0, .ref a0), (1, .int v1_h11), (2, .int v2_h11), (3, .int v3_h11), (5, .int v5_h11)]) hx hb dX12_clash_170 hl (by decide) rfl (fun ls hl => hp_n (n := 172) rfl ?_)
              exact J172 n αh17 Hh17 Lh17 Bh17 σh17 Mh17 v5_h11 (0 : Int32) ls (lv_sub hl [1, 5, 0] rfl) hf
            ·
              replace hf := ms_iF c12 hf
              refine lv_aload_n hx hb dX12_clash_92 rfl (lv_at hl 0 rfl) (hp_n (n := 93) rfl ?_)
              refine m_getr (κ := 54) (k := 40) (pc' := 96) C Bh11 Mh11 fl_X12_85 rfl (by decide) dX12_clash_93 rfl ?_
              refine lv_iload hx hb dX12_clash_96 (lv_at hl 5 rfl) (hp_n (n := 98) rfl ?_)
              refine lv_aload_n hx hb dX12_clash_98 rfl (lv_at hl 0 rfl) (hp_n (n := 99) rfl ?_)
              refine m_getr (κ := 51) (k := 36) (pc' := 102) C Bh11 Mh11 fl_X12_76 rfl (by decide) dX12_clash_99 rfl ?_
              refine lv_iload hx hb dX12_clash_102 (lv_at hl 5 rfl) (hp_n (n := 104) rfl ?_)
              obtain ⟨g41, hf⟩ := ms_gE hf
              refine m_ial (κ := 51) (φ := 686) (n := 64) (pc' := 105) C Bh11 Mh11 (by decide) (by decide) rfl g41 dX12_clash_104 rfl ?_
              obtain ⟨g42, hf⟩ := ms_gE hf
              refine m_ias (κ := 54) (φ := 690) (n := 64) (pc' := 106) C Bh11 Mh11 (by decide) (by decide) rfl g42 dX12_clash_105 rfl (fun αh43 Hh43 Lh43 σh43 eh43 Bh43 Mh43 => ?_)
              replace hf := ms_lE eh43 hf
              refine lv_aload_n hx hb dX12_clash_106 rfl (lv_at hl 0 rfl) (hp_n (n := 107) rfl ?_)
              refine m_getr (κ := 55) (k := 41) (pc' := 110) C Bh43 Mh43 fl_X12_88 rfl (by decide) dX12_clash_107 rfl ?_
              refine lv_iload hx hb dX12_clash_110 (lv_at hl 5 rfl) (hp_n (n := 112) rfl ?_)
              refine lv_aload_n hx hb dX12_clash_112 rfl (lv_at hl 0 rfl) (hp_n (n := 113) rfl ?_)
              refine m_getr (κ := 52) (k := 37) (pc' := 116) C Bh43 Mh43 fl_X12_79 rfl (by decide) dX12_clash_113 rfl ?_
              refine lv_iload hx hb dX12_clash_116 (lv_at hl 5 rfl) (hp_n (n := 118) rfl ?_)
              obtain ⟨g44, hf⟩ := ms_gE hf
              refine m_ial (κ := 52) (φ := 687) (n := 64) (pc' := 119) C Bh43 Mh43 (by decide) (by decide) rfl g44 dX12_clash_118 rfl ?_
              obtain ⟨g45, hf⟩ := ms_gE hf
              refine m_ias (κ := 55) (φ := 691) (n := 64) (pc' := 120) C Bh43 Mh43 (by decide) (by decide) rfl g45 dX12_clash_119 rfl (fun αh46 Hh46 Lh46 σh46 eh46 Bh46 Mh46 => ?_)
              replace hf := ms_lE eh46 hf
              refine lv_aload_n hx hb dX12_clash_120 rfl (lv_at hl 0 rfl) (hp_n (n := 121) rfl ?_)
              refine m_getr (κ := 56) (k := 42) (pc' := 124) C Bh46 Mh46 fl_X12_91 rfl (by decide) dX12_clash_121 rfl ?_
              refine lv_iload hx hb dX12_clash_124 (lv_at hl 5 rfl) (hp_n (n := 126) rfl ?_)
              refine lv_aload_n hx hb dX12_clash_126 rfl (lv_at hl 0 rfl) (hp_n (n := 127) rfl ?_)
              refine m_getr (κ := 53) (k := 38) (pc' := 130) C Bh46 Mh46 fl_X12_82 rfl (by decide) dX12_clash_127 rfl ?_
              refine lv_iload hx hb dX12_clash_130 (lv_at hl 5 rfl) (hp_n (n := 132) rfl ?_)
              obtain ⟨g47, hf⟩ := ms_gE hf
              refine m_ial (κ := 53) (φ := 688) (n := 64) (pc' := 133) C Bh46 Mh46 (by decide) (by decide) rfl g47 dX12_clash_132 rfl ?_
              obtain ⟨g48, hf⟩ := ms_gE hf
              refine m_ias (κ := 56) (φ := 692) (n := 64) (pc' := 134) C Bh46 Mh46 (by decide) (by decide) rfl g48 dX12_clash_133 rfl (fun αh49 Hh49 Lh49 σh49 eh49 Bh49 Mh49 => ?_)
              replace hf := ms_lE eh49 hf
              obtain ⟨x50, ex50⟩ : ∃ y : Int32, y = v6_h11 + 1 := ⟨_, rfl⟩
              replace hf := ms_lE ex50 hf
              refine lv_iinc (v := x50) (lv' := [(6, .int x50), (0, .ref a0), (1, .int v1_h11), (2, .int v2_h11), (3, .int v3_h11), (5, .int v5_h11)]) hx hb dX12_clash_134 hl (k := 5) rfl (by rw [ex50]; rfl) (by decide) rfl (fun ls hl => hp_n (n := 137) rfl ?_)
              refine lv_goto (tgt := 83) hx hb dX12_clash_137 (by decide) ?_
              exact ih83 αh49 Hh49 Lh49 Bh49 σh49 Mh49 v1_h11 v2_h11 v3_h11 v5_h11 x50 ls (lv_sub hl [1, 2, 3, 4, 5, 0] rfl) hf
        refine lv_istore (lv' := [(6, .int (0 : Int32)), (0, .ref a0), (1, .int v1_h2), (2, .int v2_h2), (3, .int v3_h2), (4, .int v4_h2), (5, .int v5_h2)]) hx hb dX12_clash_81 hl (by decide) rfl (fun ls hl => hp_n (n := 83) rfl ?_)
        exact J83 n αh10 Hh10 Lh10 Bh10 σh10 Mh10 v1_h2 v2_h2 v3_h2 v5_h2 (0 : Int32) ls (lv_sub hl [1, 2, 3, 4, 6, 0] rfl) hf
      ·
        replace hf := ms_iF c8 hf
        refine lv_aload_n hx hb dX12_clash_60 rfl (lv_at hl 0 rfl) (hp_n (n := 61) rfl ?_)
        refine lv_iconst (v := 5) hx hb dX12_clash_61 (by decide) (hp_n (n := 62) rfl ?_)
        obtain ⟨rh51, σh51, qh51, hf⟩ := ms_cE hf
        refine m_ci (pc' := 65) (a := a0) (ρ := ρ) Bh7 (hp_runV (As := [.int (5 : Int32)]) (rest := []) C Bh7 (m_X12_refuse n Γ l αh7 a0 ρ σh7 Mh7 (5 : Int32) (rh51, σh51) qh51) lb_X12_refuse lv_X12_refuse lk_X12_212 Mh7.1 rfl (by decide) rfl hl.1 rfl (Nat.le_of_ble_eq_true rfl) dX12_clash_62 ⟨Nat.le_refl _, Nat.le_refl _⟩) rfl (fun αh51 Hh51 Lh51 Bh51 Mh51 => ?_)
        cases hf
        exact q_iret C Bh51 hr hlk ⟨rfl, Bh51.2.2, Mh51⟩ dX12_clash_65
    ·
      replace hf := ms_iT c4 hf
      refine lv_iconst (v := (-1)) hx hb dX12_clash_37 (by decide) (hp_n (n := 38) rfl ?_)
      cases hf
      exact q_iret C Bh3 hr hlk ⟨rfl, Bh3.2.2, Mh3⟩ dX12_clash_38
  have J20 : ∀ (αh52 : hp_T) (Hh52 : Heap) (Lh52 : List Loc) (Bh52 : hp_B Γ mo s α αh52 Hh52 Lh52) (σh52 : ms_T) (Mh52 : hm_M αh52 a0 ρ σh52) (v1_h52 : Int32) (v2_h52 : Int32) (v3_h52 : Int32) (v4_h52 : Int32) (v5_h52 : Int32) (ls : Array Slot) (hl : lv_has ls 7 [(0, .ref a0), (1, .int v1_h52), (2, .int v2_h52), (3, .int v3_h52), (4, .int v4_h52), (5, .int v5_h52)]) (hf : f_X12_clash_J20 n σh52 v1_h52 v2_h52 v3_h52 v4_h52 v5_h52 = some res), W p l e (hp_rm 44 0 0) s m ([.ref a0, .int a1, .int a2, .int a3, .int a4, .int a5] : List Value).toArray below meth c Hh52 Lh52 0 0 (MQ below (hp_Qi Γ (fun r β => r = res.1 ∧ mo α β ∧ hm_M β a0 ρ res.2)) ([.ref a0, .int a1, .int a2, .int a3, .int a4, .int a5] : List Value).toArray s 0 0 (hp_A Γ)) (F0 m 20 ls [.ref a0]) := by
    intro αh52 Hh52 Lh52 Bh52 σh52 Mh52 v1_h52 v2_h52 v3_h52 v4_h52 v5_h52 ls hl hf
    unfold f_X12_clash_J20 at hf
    refine lv_iconst (v := 1) hx hb dX12_clash_20 (by decide) (hp_n (n := 21) rfl ?_)
    refine lv_goto (tgt := 31) hx hb dX12_clash_21 (by decide) ?_
    exact J31 αh52 Hh52 Lh52 Bh52 σh52 Mh52 v1_h52 v2_h52 v3_h52 v4_h52 v5_h52 (1 : Int32) ls (lv_sub hl [0, 1, 2, 3, 4, 5] rfl) hf
  refine lv_if_eq (tgt := 20) hx hb dX12_clash_8 (by decide) (fun c53 => ?_) (fun c53 => hp_n (n := 11) rfl ?_)
  ·
    replace hf := ms_iT c53 hf
    exact J20 α Hh1 Lh1 Bh1 σ hM a1 a2 a3 a4 a5 ls (lv_sub hl [0, 1, 2, 3, 4, 5] rfl) hf
  ·
    replace hf := ms_iF c53 hf
    refine lv_aload_n hx hb dX12_clash_11 rfl (lv_at hl 0 rfl) (hp_n (n := 12) rfl ?_)
    refine lv_iload hx hb dX12_clash_12 (lv_at hl 4 rfl) (hp_n (n := 14) rfl ?_)
    obtain ⟨rh54, qh54, hf⟩ := ms_bE hf
    refine m_cp (pc' := 17) Bh1 (hp_runV (As := [.int a4]) (rest := [.ref a0]) C Bh1 (m_X12_isMark n Γ l α a0 ρ σ hM a4 rh54 qh54) lb_X12_isMark lv_X12_isMark lk_X12_321 hM.1 rfl (by decide) rfl hl.1 rfl (Nat.le_of_ble_eq_true rfl) dX12_clash_14 ⟨Nat.le_refl _, Nat.le_refl _⟩) rfl (fun Hh54 Lh54 Bh54 => ?_)
    refine lv_if_ne (tgt := 24) hx hb dX12_clash_17 (by decide) (fun c55 => ?_) (fun c55 => hp_n (n := 20) rfl ?_)
    ·
      replace hf := ms_iF c55 hf
      refine lv_aload_n hx hb dX12_clash_24 rfl (lv_at hl 0 rfl) (hp_n (n := 25) rfl ?_)
      refine lv_iload_n hx hb dX12_clash_25 rfl (lv_at hl 1 rfl) (hp_n (n := 26) rfl ?_)
      refine lv_iload_n hx hb dX12_clash_26 rfl (lv_at hl 2 rfl) (hp_n (n := 27) rfl ?_)
      refine lv_iload_n hx hb dX12_clash_27 rfl (lv_at hl 3 rfl) (hp_n (n := 28) rfl ?_)
      obtain ⟨rh56, qh56, hf⟩ := ms_bE hf
      refine m_cp (pc' := 31) Bh54 (hp_runV (As := [.int a1, .int a2, .int a3]) (rest := [.ref a0]) C Bh54 (m_X12_noEntry n Γ l α a0 ρ σ hM a1 a2 a3 rh56 qh56) lb_X12_noEntry lv_X12_noEntry lk_X12_362 hM.1 rfl (by decide) rfl hl.1 rfl (Nat.le_of_ble_eq_true rfl) dX12_clash_28 ⟨Nat.le_refl _, Nat.le_refl _⟩) rfl (fun Hh56 Lh56 Bh56 => ?_)
      exact J31 α Hh56 Lh56 Bh56 σ hM a1 a2 a3 a4 a5 rh56 ls (lv_sub hl [0, 1, 2, 3, 4, 5] rfl) hf
    ·
      replace hf := ms_iT c55 hf
      exact J20 α Hh54 Lh54 Bh54 σ hM a1 a2 a3 a4 a5 ls (lv_sub hl [0, 1, 2, 3, 4, 5] rfl) hf
def f_X12_forge_J71 (n : Nat) (σh7 : ms_T) : Option (Int32 × ms_T) :=
  ms_c (f_X12_refuse n σh7 (5 : Int32)) fun rh8 σh8 =>
  some (rh8, σh8)
def f_X12_forge_L80 (n : Nat) : Nat → ms_T → Int32 → Int32 → Int32 → Int32 → Int32 → Int32 → Option (Int32 × ms_T)
  | 0, _, _, _, _, _, _, _ => none
  | k80 + 1, σh11, v1_h11, v2_h11, v3_h11, v4_h11, v5_h11, v6_h11 =>
    ms_g (1 : Int32) 1980 <|
    if (ms_E σh11 40 ((1 : Int32)).toNatClampNeg) ≤ v6_h11 then
      ms_c (f_X12_refuse n σh11 (5 : Int32)) fun rh14 σh14 =>
      some (rh14, σh14)
    else
      ms_g v5_h11 128 <|
      ms_l (ms_sE σh11 44 (v5_h11).toNatClampNeg v6_h11) fun σh16 =>
      ms_c (f_X12_folded n σh16 v1_h11 v2_h11 v3_h11) fun rh17 σh17 =>
      if rh17 = v4_h11 then
        some (v6_h11, σh17)
      else
        ms_l (v6_h11 + 1) fun x19 =>
        (f_X12_forge_L80 n k80) σh17 v1_h11 v2_h11 v3_h11 v4_h11 v5_h11 x19
def f_X12_forge_J37 (n : Nat) (σh2 : ms_T) (v1_h2 : Int32) (v2_h2 : Int32) (v3_h2 : Int32) (v4_h2 : Int32) (v5_h2 : Int32) (w0_h2 : Int32) : Option (Int32 × ms_T) :=
  ms_c (f_X12_is n σh2 w0_h2) fun rh3 σh3 =>
  if rh3 = 0 then
    some ((-1 : Int32), σh3)
  else
    ms_b (f_X12_inclusion n σh3 v2_h2 v3_h2) fun σh5 =>
    ms_c (f_X12_fromPad n σh5) fun rh6 σh6 =>
    if rh6 = (ms_I σh6 657) then
      if v5_h2 < (ms_I σh6 657) then
        f_X12_forge_L80 n n σh6 v1_h2 v2_h2 v3_h2 v4_h2 v5_h2 (0 : Int32)
      else
        f_X12_forge_J71 n σh6
    else
      f_X12_forge_J71 n σh6
def f_X12_forge_J36 (n : Nat) (σh20 : ms_T) (v1_h20 : Int32) (v2_h20 : Int32) (v3_h20 : Int32) (v4_h20 : Int32) (v5_h20 : Int32) : Option (Int32 × ms_T) :=
  f_X12_forge_J37 n σh20 v1_h20 v2_h20 v3_h20 v4_h20 v5_h20 (1 : Int32)
def f_X12_forge (n : Nat) (σ : ms_T) (a1 : Int32) (a2 : Int32) (a3 : Int32) (a4 : Int32) (a5 : Int32) : Option (Int32 × ms_T) :=
  ms_b (f_X12_isThing n σ a2 a3) fun rh1 =>
  if rh1 = 0 then
    f_X12_forge_J36 n σ a1 a2 a3 a4 a5
  else
    if a5 < 0 then
      f_X12_forge_J36 n σ a1 a2 a3 a4 a5
    else
      ms_b (f_X12_isMark n σ a1) fun rh23 =>
      if rh23 = 0 then
        f_X12_forge_J36 n σ a1 a2 a3 a4 a5
      else
        ms_b (f_X12_isMark n σ a4) fun rh25 =>
        if rh25 = 0 then
          f_X12_forge_J36 n σ a1 a2 a3 a4 a5
        else
          f_X12_forge_J37 n σ a1 a2 a3 a4 a5 (0 : Int32)
set_option maxRecDepth 100000 in
set_option maxHeartbeats 4000000 in
theorem m_X12_forge (n : Nat) (Γ : hp_G) (l : Launch) (α : hp_T) (a0 : Nat) (ρ : Nat → Nat) (σ : ms_T) (hM : hm_M α a0 ρ σ) (a1 : Int32) (a2 : Int32) (a3 : Int32) (a4 : Int32) (a5 : Int32) (res : (Int32 × ms_T)) (hf : f_X12_forge n σ a1 a2 a3 a4 a5 = some res) : Met l yX12_forge (hp_ws yX12_forge cX12_forge 7 (some .int)) (hp_rm 43 0 0) (hp_Pc Γ α [.ref a0, .int a1, .int a2, .int a3, .int a4, .int a5]) (hp_Qi Γ (fun r β => r = res.1 ∧ mo α β ∧ hm_M β a0 ρ res.2)) 0 0 (hp_A Γ) := by
  unfold f_X12_forge at hf
  refine hp_start (by decide) ?_
  intro p e s m below meth c C hr hlk B0 hnm
  have C : hp_C Γ p m c cX12_forge 7 s ([.ref a0, .int a1, .int a2, .int a3, .int a4, .int a5] : List Value).toArray RX12 := C
  have hx := C.1.1
  have hb := C.1.2.1
  have hown := C.1.2.2.2.1
  have hts := C.1.2.2.2.2
  have B : hp_B Γ mo s α α s.heap [] := ⟨B0.1, B0.2.1, mo_rf⟩
  have hl := lv_entry ([.ref a0, .int a1, .int a2, .int a3, .int a4, .int a5]) (n := 7) (Nat.le_of_ble_eq_true rfl)
  show W p l e (hp_rm 43 0 0) s m ([.ref a0, .int a1, .int a2, .int a3, .int a4, .int a5] : List Value).toArray below meth c s.heap [] 0 0 (MQ below (hp_Qi Γ (fun r β => r = res.1 ∧ mo α β ∧ hm_M β a0 ρ res.2)) ([.ref a0, .int a1, .int a2, .int a3, .int a4, .int a5] : List Value).toArray s 0 0 (hp_A Γ)) (entryFrame m ([.ref a0, .int a1, .int a2, .int a3, .int a4, .int a5] : List Value).toArray 7)
  rw [lg_entry_eq]
  generalize (lg_sl ([.ref a0, .int a1, .int a2, .int a3, .int a4, .int a5]) ++ List.replicate (7 - (lg_sl ([.ref a0, .int a1, .int a2, .int a3, .int a4, .int a5])).length) Slot.unset).toArray = ls at hl ⊢
  have hl : lv_has ls 7 [(0, .ref a0), (1, .int a1), (2, .int a2), (3, .int a3), (4, .int a4), (5, .int a5)] := hl
  refine lv_aload_n hx hb dX12_forge_0 rfl (lv_at hl 0 rfl) (hp_n (n := 1) rfl ?_)
  refine lv_aload_n hx hb dX12_forge_1 rfl (lv_at hl 0 rfl) (hp_n (n := 2) rfl ?_)
  refine lv_iload_n hx hb dX12_forge_2 rfl (lv_at hl 2 rfl) (hp_n (n := 3) rfl ?_)
  refine lv_iload_n hx hb dX12_forge_3 rfl (lv_at hl 3 rfl) (hp_n (n := 4) rfl ?_)
  obtain ⟨rh1, qh1, hf⟩ := ms_bE hf
  refine m_cp (pc' := 7) B (hp_runV (As := [.int a2, .int a3]) (rest := [.ref a0]) C B (m_X12_isThing n Γ l α a0 ρ σ hM a2 a3 rh1 qh1) lb_X12_isThing lv_X12_isThing lk_X12_381 hM.1 rfl (by decide) rfl hl.1 rfl (Nat.le_of_ble_eq_true rfl) dX12_forge_4 ⟨Nat.le_refl _, Nat.le_refl _⟩) rfl (fun Hh1 Lh1 Bh1 => ?_)
  have J37 : ∀ (αh2 : hp_T) (Hh2 : Heap) (Lh2 : List Loc) (Bh2 : hp_B Γ mo s α αh2 Hh2 Lh2) (σh2 : ms_T) (Mh2 : hm_M αh2 a0 ρ σh2) (v1_h2 : Int32) (v2_h2 : Int32) (v3_h2 : Int32) (v4_h2 : Int32) (v5_h2 : Int32) (w0_h2 : Int32) (ls : Array Slot) (hl : lv_has ls 7 [(0, .ref a0), (1, .int v1_h2), (2, .int v2_h2), (3, .int v3_h2), (4, .int v4_h2), (5, .int v5_h2)]) (hf : f_X12_forge_J37 n σh2 v1_h2 v2_h2 v3_h2 v4_h2 v5_h2 w0_h2 = some res), W p l e (hp_rm 43 0 0) s m ([.ref a0, .int a1, .int a2, .int a3, .int a4, .int a5] : List Value).toArray below meth c Hh2 Lh2 0 0 (MQ below (hp_Qi Γ (fun r β => r = res.1 ∧ mo α β ∧ hm_M β a0 ρ res.2)) ([.ref a0, .int a1, .int a2, .int a3, .int a4, .int a5] : List Value).toArray s 0 0 (hp_A Γ)) (F0 m 37 ls [.int w0_h2, .ref a0]) := by
    intro αh2 Hh2 Lh2 Bh2 σh2 Mh2 v1_h2 v2_h2 v3_h2 v4_h2 v5_h2 w0_h2 ls hl hf
    unfold f_X12_forge_J37 at hf
    obtain ⟨rh3, σh3, qh3, hf⟩ := ms_cE hf
    refine m_ci (pc' := 40) (a := a0) (ρ := ρ) Bh2 (hp_runV (As := [.int w0_h2]) (rest := []) C Bh2 (m_X12_is n Γ l αh2 a0 ρ σh2 Mh2 w0_h2 (rh3, σh3) qh3) lb_X12_is lv_X12_is lk_X12_309 Mh2.1 rfl (by decide) rfl hl.1 rfl (Nat.le_of_ble_eq_true rfl) dX12_forge_37 ⟨Nat.le_refl _, Nat.le_refl _⟩) rfl (fun αh3 Hh3 Lh3 Bh3 Mh3 => ?_)
    refine lv_if_ne (tgt := 45) hx hb dX12_forge_40 (by decide) (fun c4 => ?_) (fun c4 => hp_n (n := 43) rfl ?_)
    ·
      replace hf := ms_iF c4 hf
      refine lv_aload_n hx hb dX12_forge_45 rfl (lv_at hl 0 rfl) (hp_n (n := 46) rfl ?_)
      refine lv_iload_n hx hb dX12_forge_46 rfl (lv_at hl 2 rfl) (hp_n (n := 47) rfl ?_)
      refine lv_iload_n hx hb dX12_forge_47 rfl (lv_at hl 3 rfl) (hp_n (n := 48) rfl ?_)
      obtain ⟨σh5, qh5, hf⟩ := ms_bE hf
      refine m_cv (pc' := 51) (a := a0) (ρ := ρ) Bh3 (hp_runV (As := [.int v2_h2, .int v3_h2]) (rest := []) C Bh3 (m_X12_inclusion n Γ l αh3 a0 ρ σh3 Mh3 v2_h2 v3_h2 σh5 qh5) lb_X12_inclusion lv_X12_inclusion lk_X12_171 Mh3.1 rfl (by decide) rfl hl.1 rfl (Nat.le_of_ble_eq_true rfl) dX12_forge_48 ⟨Nat.le_refl _, Nat.le_refl _⟩) rfl (fun αh5 Hh5 Lh5 Bh5 Mh5 => ?_)
      refine lv_aload_n hx hb dX12_forge_51 rfl (lv_at hl 0 rfl) (hp_n (n := 52) rfl ?_)
      obtain ⟨rh6, σh6, qh6, hf⟩ := ms_cE hf
      refine m_ci (pc' := 55) (a := a0) (ρ := ρ) Bh5 (hp_runV (As := []) (rest := []) C Bh5 (m_X12_fromPad n Γ l αh5 a0 ρ σh5 Mh5  (rh6, σh6) qh6) lb_X12_fromPad lv_X12_fromPad lk_X12_384 Mh5.1 rfl (by decide) rfl hl.1 rfl (Nat.le_of_ble_eq_true rfl) dX12_forge_52 ⟨Nat.le_refl _, Nat.le_refl _⟩) rfl (fun αh6 Hh6 Lh6 Bh6 Mh6 => ?_)
      refine lv_aload_n hx hb dX12_forge_55 rfl (lv_at hl 0 rfl) (hp_n (n := 56) rfl ?_)
      refine m_geti (k := 7) (φ := 657) (pc' := 59) C Bh6 Mh6 fl_X12_139 rfl rfl dX12_forge_56 rfl ?_
      have J71 : ∀ (αh7 : hp_T) (Hh7 : Heap) (Lh7 : List Loc) (Bh7 : hp_B Γ mo s α αh7 Hh7 Lh7) (σh7 : ms_T) (Mh7 : hm_M αh7 a0 ρ σh7) (ls : Array Slot) (hl : lv_has ls 7 [(0, .ref a0)]) (hf : f_X12_forge_J71 n σh7 = some res), W p l e (hp_rm 43 0 0) s m ([.ref a0, .int a1, .int a2, .int a3, .int a4, .int a5] : List Value).toArray below meth c Hh7 Lh7 0 0 (MQ below (hp_Qi Γ (fun r β => r = res.1 ∧ mo α β ∧ hm_M β a0 ρ res.2)) ([.ref a0, .int a1, .int a2, .int a3, .int a4, .int a5] : List Value).toArray s 0 0 (hp_A Γ)) (F0 m 71 ls []) := by
        intro αh7 Hh7 Lh7 Bh7 σh7 Mh7 ls hl hf
        unfold f_X12_forge_J71 at hf
        refine lv_aload_n hx hb dX12_forge_71 rfl (lv_at hl 0 rfl) (hp_n (n := 72) rfl ?_)
        refine lv_iconst (v := 5) hx hb dX12_forge_72 (by decide) (hp_n (n := 73) rfl ?_)
        obtain ⟨rh8, σh8, qh8, hf⟩ := ms_cE hf
        refine m_ci (pc' := 76) (a := a0) (ρ := ρ) Bh7 (hp_runV (As := [.int (5 : Int32)]) (rest := []) C Bh7 (m_X12_refuse n Γ l αh7 a0 ρ σh7 Mh7 (5 : Int32) (rh8, σh8) qh8) lb_X12_refuse lv_X12_refuse lk_X12_212 Mh7.1 rfl (by decide) rfl hl.1 rfl (Nat.le_of_ble_eq_true rfl) dX12_forge_73 ⟨Nat.le_refl _, Nat.le_refl _⟩) rfl (fun αh8 Hh8 Lh8 Bh8 Mh8 => ?_)
        cases hf
        exact q_iret C Bh8 hr hlk ⟨rfl, Bh8.2.2, Mh8⟩ dX12_forge_76
      refine lv_icmp_ne (tgt := 71) hx hb dX12_forge_59 (by decide) (fun c9 => ?_) (fun c9 => hp_n (n := 62) rfl ?_)
      ·
        replace hf := ms_iF c9 hf
        exact J71 αh6 Hh6 Lh6 Bh6 σh6 Mh6 ls (lv_sub hl [0] rfl) hf
      ·
        replace hf := ms_iT c9 hf
        refine lv_iload hx hb dX12_forge_62 (lv_at hl 5 rfl) (hp_n (n := 64) rfl ?_)
        refine lv_aload_n hx hb dX12_forge_64 rfl (lv_at hl 0 rfl) (hp_n (n := 65) rfl ?_)
        refine m_geti (k := 7) (φ := 657) (pc' := 68) C Bh6 Mh6 fl_X12_139 rfl rfl dX12_forge_65 rfl ?_
        refine lv_icmp_lt (tgt := 77) hx hb dX12_forge_68 (by decide) (fun c10 => ?_) (fun c10 => hp_n (n := 71) rfl ?_)
        ·
          replace hf := ms_iT c10 hf
          refine lv_iconst (v := 0) hx hb dX12_forge_77 (by decide) (hp_n (n := 78) rfl ?_)
          have J80 : ∀ (k80 : Nat) (αh11 : hp_T) (Hh11 : Heap) (Lh11 : List Loc) (Bh11 : hp_B Γ mo s α αh11 Hh11 Lh11) (σh11 : ms_T) (Mh11 : hm_M αh11 a0 ρ σh11) (v1_h11 : Int32) (v2_h11 : Int32) (v3_h11 : Int32) (v4_h11 : Int32) (v5_h11 : Int32) (v6_h11 : Int32) (ls : Array Slot) (hl : lv_has ls 7 [(0, .ref a0), (1, .int v1_h11), (2, .int v2_h11), (3, .int v3_h11), (4, .int v4_h11), (5, .int v5_h11), (6, .int v6_h11)]) (hf : f_X12_forge_L80 n k80 σh11 v1_h11 v2_h11 v3_h11 v4_h11 v5_h11 v6_h11 = some res), W p l e (hp_rm 43 0 0) s m ([.ref a0, .int a1, .int a2, .int a3, .int a4, .int a5] : List Value).toArray below meth c Hh11 Lh11 0 0 (MQ below (hp_Qi Γ (fun r β => r = res.1 ∧ mo α β ∧ hm_M β a0 ρ res.2)) ([.ref a0, .int a1, .int a2, .int a3, .int a4, .int a5] : List Value).toArray s 0 0 (hp_A Γ)) (F0 m 80 ls []) := by
            intro k80
            induction k80 with
            | zero => intro αh11 Hh11 Lh11 Bh11 σh11 Mh11 v1_h11 v2_h11 v3_h11 v4_h11 v5_h11 v6_h11 ls hl hf; rw [f_X12_forge_L80.eq_1] at hf; cases hf
            | succ k80 ih80 =>
              intro αh11 Hh11 Lh11 Bh11 σh11 Mh11 v1_h11 v2_h11 v3_h11 v4_h11 v5_h11 v6_h11 ls hl hf
              rw [f_X12_forge_L80.eq_2] at hf
              refine lv_iload hx hb dX12_forge_80 (lv_at hl 6 rfl) (hp_n (n := 82) rfl ?_)
              refine lv_aload_n hx hb dX12_forge_82 rfl (lv_at hl 0 rfl) (hp_n (n := 83) rfl ?_)
              refine m_getr (κ := 40) (k := 0) (pc' := 86) C Bh11 Mh11 fl_X12_7 rfl (by decide) dX12_forge_83 rfl ?_
              refine lv_iconst (v := 1) hx hb dX12_forge_86 (by decide) (hp_n (n := 87) rfl ?_)
              obtain ⟨g12, hf⟩ := ms_gE hf
              refine m_ial (κ := 40) (φ := 650) (n := 1980) (pc' := 88) C Bh11 Mh11 (by decide) (by decide) rfl g12 dX12_forge_87 rfl ?_
              refine lv_icmp_ge (tgt := 121) hx hb dX12_forge_88 (by decide) (fun c13 => ?_) (fun c13 => hp_n (n := 91) rfl ?_)
              ·
                replace hf := ms_iT c13 hf
                refine lv_aload_n hx hb dX12_forge_121 rfl (lv_at hl 0 rfl) (hp_n (n := 122) rfl ?_)
                refine lv_iconst (v := 5) hx hb dX12_forge_122 (by decide) (hp_n (n := 123) rfl ?_)
                obtain ⟨rh14, σh14, qh14, hf⟩ := ms_cE hf
                refine m_ci (pc' := 126) (a := a0) (ρ := ρ) Bh11 (hp_runV (As := [.int (5 : Int32)]) (rest := []) C Bh11 (m_X12_refuse n Γ l αh11 a0 ρ σh11 Mh11 (5 : Int32) (rh14, σh14) qh14) lb_X12_refuse lv_X12_refuse lk_X12_212 Mh11.1 rfl (by decide) rfl hl.1 rfl (Nat.le_of_ble_eq_true rfl) dX12_forge_123 ⟨Nat.le_refl _, Nat.le_refl _⟩) rfl (fun αh14 Hh14 Lh14 Bh14 Mh14 => ?_)
                cases hf
                exact q_iret C Bh14 hr hlk ⟨rfl, Bh14.2.2, Mh14⟩ dX12_forge_126
              ·
                replace hf := ms_iF c13 hf
                refine lv_aload_n hx hb dX12_forge_91 rfl (lv_at hl 0 rfl) (hp_n (n := 92) rfl ?_)
                refine m_getr (κ := 44) (k := 6) (pc' := 95) C Bh11 Mh11 fl_X12_22 rfl (by decide) dX12_forge_92 rfl ?_
                refine lv_iload hx hb dX12_forge_95 (lv_at hl 5 rfl) (hp_n (n := 97) rfl ?_)
                refine lv_iload hx hb dX12_forge_97 (lv_at hl 6 rfl) (hp_n (n := 99) rfl ?_)
                obtain ⟨g15, hf⟩ := ms_gE hf
                refine m_ias (κ := 44) (φ := 656) (n := 128) (pc' := 100) C Bh11 Mh11 (by decide) (by decide) rfl g15 dX12_forge_99 rfl (fun αh16 Hh16 Lh16 σh16 eh16 Bh16 Mh16 => ?_)
                replace hf := ms_lE eh16 hf
                refine lv_aload_n hx hb dX12_forge_100 rfl (lv_at hl 0 rfl) (hp_n (n := 101) rfl ?_)
                refine lv_iload_n hx hb dX12_forge_101 rfl (lv_at hl 1 rfl) (hp_n (n := 102) rfl ?_)
                refine lv_iload_n hx hb dX12_forge_102 rfl (lv_at hl 2 rfl) (hp_n (n := 103) rfl ?_)
                refine lv_iload_n hx hb dX12_forge_103 rfl (lv_at hl 3 rfl) (hp_n (n := 104) rfl ?_)
                obtain ⟨rh17, σh17, qh17, hf⟩ := ms_cE hf
                refine m_ci (pc' := 107) (a := a0) (ρ := ρ) Bh16 (hp_runV (As := [.int v1_h11, .int v2_h11, .int v3_h11]) (rest := []) C Bh16 (m_X12_folded n Γ l αh16 a0 ρ σh16 Mh16 v1_h11 v2_h11 v3_h11 (rh17, σh17) qh17) lb_X12_folded lv_X12_folded lk_X12_174 Mh16.1 rfl (by decide) rfl hl.1 rfl (Nat.le_of_ble_eq_true rfl) dX12_forge_104 ⟨Nat.le_refl _, Nat.le_refl _⟩) rfl (fun αh17 Hh17 Lh17 Bh17 Mh17 => ?_)
                refine lv_iload hx hb dX12_forge_107 (lv_at hl 4 rfl) (hp_n (n := 109) rfl ?_)
                refine lv_icmp_ne (tgt := 115) hx hb dX12_forge_109 (by decide) (fun c18 => ?_) (fun c18 => hp_n (n := 112) rfl ?_)
                ·
                  replace hf := ms_iF c18 hf
                  obtain ⟨x19, ex19⟩ : ∃ y : Int32, y = v6_h11 + 1 := ⟨_, rfl⟩
                  replace hf := ms_lE ex19 hf
                  refine lv_iinc (v := x19) (lv' := [(6, .int x19), (0, .ref a0), (1, .int v1_h11), (2, .int v2_h11), (3, .int v3_h11), (4, .int v4_h11), (5, .int v5_h11)]) hx hb dX12_forge_115 hl (k := 6) rfl (by rw [ex19]; rfl) (by decide) rfl (fun ls hl => hp_n (n := 118) rfl ?_)
                  refine lv_goto (tgt := 80) hx hb dX12_forge_118 (by decide) ?_
                  exact ih80 αh17 Hh17 Lh17 Bh17 σh17 Mh17 v1_h11 v2_h11 v3_h11 v4_h11 v5_h11 x19 ls (lv_sub hl [1, 2, 3, 4, 5, 6, 0] rfl) hf
                ·
                  replace hf := ms_iT c18 hf
                  refine lv_iload hx hb dX12_forge_112 (lv_at hl 6 rfl) (hp_n (n := 114) rfl ?_)
                  cases hf
                  exact q_iret C Bh17 hr hlk ⟨rfl, Bh17.2.2, Mh17⟩ dX12_forge_114
          refine lv_istore (lv' := [(6, .int (0 : Int32)), (0, .ref a0), (1, .int v1_h2), (2, .int v2_h2), (3, .int v3_h2), (4, .int v4_h2), (5, .int v5_h2)]) hx hb dX12_forge_78 hl (by decide) rfl (fun ls hl => hp_n (n := 80) rfl ?_)
          exact J80 n αh6 Hh6 Lh6 Bh6 σh6 Mh6 v1_h2 v2_h2 v3_h2 v4_h2 v5_h2 (0 : Int32) ls (lv_sub hl [1, 2, 3, 4, 5, 6, 0] rfl) hf
        ·
          replace hf := ms_iF c10 hf
          exact J71 αh6 Hh6 Lh6 Bh6 σh6 Mh6 ls (lv_sub hl [0] rfl) hf
    ·
      replace hf := ms_iT c4 hf
      refine lv_iconst (v := (-1)) hx hb dX12_forge_43 (by decide) (hp_n (n := 44) rfl ?_)
      cases hf
      exact q_iret C Bh3 hr hlk ⟨rfl, Bh3.2.2, Mh3⟩ dX12_forge_44
  have J36 : ∀ (αh20 : hp_T) (Hh20 : Heap) (Lh20 : List Loc) (Bh20 : hp_B Γ mo s α αh20 Hh20 Lh20) (σh20 : ms_T) (Mh20 : hm_M αh20 a0 ρ σh20) (v1_h20 : Int32) (v2_h20 : Int32) (v3_h20 : Int32) (v4_h20 : Int32) (v5_h20 : Int32) (ls : Array Slot) (hl : lv_has ls 7 [(0, .ref a0), (1, .int v1_h20), (2, .int v2_h20), (3, .int v3_h20), (4, .int v4_h20), (5, .int v5_h20)]) (hf : f_X12_forge_J36 n σh20 v1_h20 v2_h20 v3_h20 v4_h20 v5_h20 = some res), W p l e (hp_rm 43 0 0) s m ([.ref a0, .int a1, .int a2, .int a3, .int a4, .int a5] : List Value).toArray below meth c Hh20 Lh20 0 0 (MQ below (hp_Qi Γ (fun r β => r = res.1 ∧ mo α β ∧ hm_M β a0 ρ res.2)) ([.ref a0, .int a1, .int a2, .int a3, .int a4, .int a5] : List Value).toArray s 0 0 (hp_A Γ)) (F0 m 36 ls [.ref a0]) := by
    intro αh20 Hh20 Lh20 Bh20 σh20 Mh20 v1_h20 v2_h20 v3_h20 v4_h20 v5_h20 ls hl hf
    unfold f_X12_forge_J36 at hf
    refine lv_iconst (v := 1) hx hb dX12_forge_36 (by decide) (hp_n (n := 37) rfl ?_)
    exact J37 αh20 Hh20 Lh20 Bh20 σh20 Mh20 v1_h20 v2_h20 v3_h20 v4_h20 v5_h20 (1 : Int32) ls (lv_sub hl [0, 1, 2, 3, 4, 5] rfl) hf
  refine lv_if_eq (tgt := 36) hx hb dX12_forge_7 (by decide) (fun c21 => ?_) (fun c21 => hp_n (n := 10) rfl ?_)
  ·
    replace hf := ms_iT c21 hf
    exact J36 α Hh1 Lh1 Bh1 σ hM a1 a2 a3 a4 a5 ls (lv_sub hl [0, 1, 2, 3, 4, 5] rfl) hf
  ·
    replace hf := ms_iF c21 hf
    refine lv_iload hx hb dX12_forge_10 (lv_at hl 5 rfl) (hp_n (n := 12) rfl ?_)
    refine lv_if_lt (tgt := 36) hx hb dX12_forge_12 (by decide) (fun c22 => ?_) (fun c22 => hp_n (n := 15) rfl ?_)
    ·
      replace hf := ms_iT c22 hf
      exact J36 α Hh1 Lh1 Bh1 σ hM a1 a2 a3 a4 a5 ls (lv_sub hl [0, 1, 2, 3, 4, 5] rfl) hf
    ·
      replace hf := ms_iF c22 hf
      refine lv_aload_n hx hb dX12_forge_15 rfl (lv_at hl 0 rfl) (hp_n (n := 16) rfl ?_)
      refine lv_iload_n hx hb dX12_forge_16 rfl (lv_at hl 1 rfl) (hp_n (n := 17) rfl ?_)
      obtain ⟨rh23, qh23, hf⟩ := ms_bE hf
      refine m_cp (pc' := 20) Bh1 (hp_runV (As := [.int a1]) (rest := [.ref a0]) C Bh1 (m_X12_isMark n Γ l α a0 ρ σ hM a1 rh23 qh23) lb_X12_isMark lv_X12_isMark lk_X12_321 hM.1 rfl (by decide) rfl hl.1 rfl (Nat.le_of_ble_eq_true rfl) dX12_forge_17 ⟨Nat.le_refl _, Nat.le_refl _⟩) rfl (fun Hh23 Lh23 Bh23 => ?_)
      refine lv_if_eq (tgt := 36) hx hb dX12_forge_20 (by decide) (fun c24 => ?_) (fun c24 => hp_n (n := 23) rfl ?_)
      ·
        replace hf := ms_iT c24 hf
        exact J36 α Hh23 Lh23 Bh23 σ hM a1 a2 a3 a4 a5 ls (lv_sub hl [0, 1, 2, 3, 4, 5] rfl) hf
      ·
        replace hf := ms_iF c24 hf
        refine lv_aload_n hx hb dX12_forge_23 rfl (lv_at hl 0 rfl) (hp_n (n := 24) rfl ?_)
        refine lv_iload hx hb dX12_forge_24 (lv_at hl 4 rfl) (hp_n (n := 26) rfl ?_)
        obtain ⟨rh25, qh25, hf⟩ := ms_bE hf
        refine m_cp (pc' := 29) Bh23 (hp_runV (As := [.int a4]) (rest := [.ref a0]) C Bh23 (m_X12_isMark n Γ l α a0 ρ σ hM a4 rh25 qh25) lb_X12_isMark lv_X12_isMark lk_X12_321 hM.1 rfl (by decide) rfl hl.1 rfl (Nat.le_of_ble_eq_true rfl) dX12_forge_26 ⟨Nat.le_refl _, Nat.le_refl _⟩) rfl (fun Hh25 Lh25 Bh25 => ?_)
        refine lv_if_eq (tgt := 36) hx hb dX12_forge_29 (by decide) (fun c26 => ?_) (fun c26 => hp_n (n := 32) rfl ?_)
        ·
          replace hf := ms_iT c26 hf
          exact J36 α Hh25 Lh25 Bh25 σ hM a1 a2 a3 a4 a5 ls (lv_sub hl [0, 1, 2, 3, 4, 5] rfl) hf
        ·
          replace hf := ms_iF c26 hf
          refine lv_iconst (v := 0) hx hb dX12_forge_32 (by decide) (hp_n (n := 33) rfl ?_)
          refine lv_goto (tgt := 37) hx hb dX12_forge_33 (by decide) ?_
          exact J37 α Hh25 Lh25 Bh25 σ hM a1 a2 a3 a4 a5 (0 : Int32) ls (lv_sub hl [0, 1, 2, 3, 4, 5] rfl) hf
def f_X12_trace_J60 (n : Nat) (σh6 : ms_T) : Option (Int32 × ms_T) :=
  ms_c (f_X12_refuse n σh6 (5 : Int32)) fun rh7 σh7 =>
  some (rh7, σh7)
def f_X12_trace_L72 (n : Nat) : Nat → ms_T → Int32 → Int32 → Int32 → Int32 → Int32 → Option (Int32 × ms_T)
  | 0, _, _, _, _, _, _ => none
  | k72 + 1, σh12, v1_h12, v2_h12, v3_h12, v4_h12, v5_h12 =>
    if (ms_I σh12 657) ≤ v5_h12 then
      ms_l (ms_sI σh12 689 (0 : Int32)) fun σh14 =>
      ms_c (f_X12_stepsIn n 40 σh14 v1_h12 v2_h12 v3_h12) fun rh15 σh15 =>
      if v4_h12 = 0 then
        some (v1_h12, σh15)
      else
        ms_g (v4_h12 - (1 : Int32)) 64 <|
        some ((ms_E σh15 53 ((v4_h12 - (1 : Int32))).toNatClampNeg), σh15)
    else
      ms_g v5_h12 128 <|
      ms_l (ms_sE σh12 44 (v5_h12).toNatClampNeg (0 : Int32)) fun σh19 =>
      ms_l (v5_h12 + 1) fun x20 =>
      (f_X12_trace_L72 n k72) σh19 v1_h12 v2_h12 v3_h12 v4_h12 x20
def f_X12_trace_J28 (n : Nat) (σh2 : ms_T) (v1_h2 : Int32) (v2_h2 : Int32) (v3_h2 : Int32) (v4_h2 : Int32) (w0_h2 : Int32) : Option (Int32 × ms_T) :=
  ms_c (f_X12_is n σh2 w0_h2) fun rh3 σh3 =>
  if rh3 = 0 then
    some ((-1 : Int32), σh3)
  else
    ms_b (f_X12_inclusion n σh3 v2_h2 v3_h2) fun σh5 =>
    if (ms_I σh5 657) < v4_h2 then
      f_X12_trace_J60 n σh5
    else
      ms_c (f_X12_fromPad n σh5) fun rh9 σh9 =>
      if v4_h2 ≤ rh9 then
        ms_c (f_X12_fromPad n σh9) fun rh11 σh11 =>
        f_X12_trace_L72 n n σh11 v1_h2 v2_h2 v3_h2 v4_h2 rh11
      else
        f_X12_trace_J60 n σh9
def f_X12_trace_J27 (n : Nat) (σh21 : ms_T) (v1_h21 : Int32) (v2_h21 : Int32) (v3_h21 : Int32) (v4_h21 : Int32) : Option (Int32 × ms_T) :=
  f_X12_trace_J28 n σh21 v1_h21 v2_h21 v3_h21 v4_h21 (1 : Int32)
def f_X12_trace (n : Nat) (σ : ms_T) (a1 : Int32) (a2 : Int32) (a3 : Int32) (a4 : Int32) : Option (Int32 × ms_T) :=
  ms_b (f_X12_isThing n σ a2 a3) fun rh1 =>
  if rh1 = 0 then
    f_X12_trace_J27 n σ a1 a2 a3 a4
  else
    if a4 < 0 then
      f_X12_trace_J27 n σ a1 a2 a3 a4
    else
      ms_b (f_X12_isMark n σ a1) fun rh24 =>
      if rh24 = 0 then
        f_X12_trace_J27 n σ a1 a2 a3 a4
      else
        f_X12_trace_J28 n σ a1 a2 a3 a4 (0 : Int32)
set_option maxRecDepth 100000 in
set_option maxHeartbeats 4000000 in
theorem m_X12_trace (n : Nat) (Γ : hp_G) (l : Launch) (α : hp_T) (a0 : Nat) (ρ : Nat → Nat) (σ : ms_T) (hM : hm_M α a0 ρ σ) (a1 : Int32) (a2 : Int32) (a3 : Int32) (a4 : Int32) (res : (Int32 × ms_T)) (hf : f_X12_trace n σ a1 a2 a3 a4 = some res) : Met l yX12_trace (hp_ws yX12_trace cX12_trace 6 (some .int)) (hp_rm 42 0 0) (hp_Pc Γ α [.ref a0, .int a1, .int a2, .int a3, .int a4]) (hp_Qi Γ (fun r β => r = res.1 ∧ mo α β ∧ hm_M β a0 ρ res.2)) 0 0 (hp_A Γ) := by
  unfold f_X12_trace at hf
  refine hp_start (by decide) ?_
  intro p e s m below meth c C hr hlk B0 hnm
  have C : hp_C Γ p m c cX12_trace 6 s ([.ref a0, .int a1, .int a2, .int a3, .int a4] : List Value).toArray RX12 := C
  have hx := C.1.1
  have hb := C.1.2.1
  have hown := C.1.2.2.2.1
  have hts := C.1.2.2.2.2
  have B : hp_B Γ mo s α α s.heap [] := ⟨B0.1, B0.2.1, mo_rf⟩
  have hl := lv_entry ([.ref a0, .int a1, .int a2, .int a3, .int a4]) (n := 6) (Nat.le_of_ble_eq_true rfl)
  show W p l e (hp_rm 42 0 0) s m ([.ref a0, .int a1, .int a2, .int a3, .int a4] : List Value).toArray below meth c s.heap [] 0 0 (MQ below (hp_Qi Γ (fun r β => r = res.1 ∧ mo α β ∧ hm_M β a0 ρ res.2)) ([.ref a0, .int a1, .int a2, .int a3, .int a4] : List Value).toArray s 0 0 (hp_A Γ)) (entryFrame m ([.ref a0, .int a1, .int a2, .int a3, .int a4] : List Value).toArray 6)
  rw [lg_entry_eq]
  generalize (lg_sl ([.ref a0, .int a1, .int a2, .int a3, .int a4]) ++ List.replicate (6 - (lg_sl ([.ref a0, .int a1, .int a2, .int a3, .int a4])).length) Slot.unset).toArray = ls at hl ⊢
  have hl : lv_has ls 6 [(0, .ref a0), (1, .int a1), (2, .int a2), (3, .int a3), (4, .int a4)] := hl
  refine lv_aload_n hx hb dX12_trace_0 rfl (lv_at hl 0 rfl) (hp_n (n := 1) rfl ?_)
  refine lv_aload_n hx hb dX12_trace_1 rfl (lv_at hl 0 rfl) (hp_n (n := 2) rfl ?_)
  refine lv_iload_n hx hb dX12_trace_2 rfl (lv_at hl 2 rfl) (hp_n (n := 3) rfl ?_)
  refine lv_iload_n hx hb dX12_trace_3 rfl (lv_at hl 3 rfl) (hp_n (n := 4) rfl ?_)
  obtain ⟨rh1, qh1, hf⟩ := ms_bE hf
  refine m_cp (pc' := 7) B (hp_runV (As := [.int a2, .int a3]) (rest := [.ref a0]) C B (m_X12_isThing n Γ l α a0 ρ σ hM a2 a3 rh1 qh1) lb_X12_isThing lv_X12_isThing lk_X12_381 hM.1 rfl (by decide) rfl hl.1 rfl (Nat.le_of_ble_eq_true rfl) dX12_trace_4 ⟨Nat.le_refl _, Nat.le_refl _⟩) rfl (fun Hh1 Lh1 Bh1 => ?_)
  have J28 : ∀ (αh2 : hp_T) (Hh2 : Heap) (Lh2 : List Loc) (Bh2 : hp_B Γ mo s α αh2 Hh2 Lh2) (σh2 : ms_T) (Mh2 : hm_M αh2 a0 ρ σh2) (v1_h2 : Int32) (v2_h2 : Int32) (v3_h2 : Int32) (v4_h2 : Int32) (w0_h2 : Int32) (ls : Array Slot) (hl : lv_has ls 6 [(0, .ref a0), (1, .int v1_h2), (2, .int v2_h2), (3, .int v3_h2), (4, .int v4_h2)]) (hf : f_X12_trace_J28 n σh2 v1_h2 v2_h2 v3_h2 v4_h2 w0_h2 = some res), W p l e (hp_rm 42 0 0) s m ([.ref a0, .int a1, .int a2, .int a3, .int a4] : List Value).toArray below meth c Hh2 Lh2 0 0 (MQ below (hp_Qi Γ (fun r β => r = res.1 ∧ mo α β ∧ hm_M β a0 ρ res.2)) ([.ref a0, .int a1, .int a2, .int a3, .int a4] : List Value).toArray s 0 0 (hp_A Γ)) (F0 m 28 ls [.int w0_h2, .ref a0]) := by
    intro αh2 Hh2 Lh2 Bh2 σh2 Mh2 v1_h2 v2_h2 v3_h2 v4_h2 w0_h2 ls hl hf
    unfold f_X12_trace_J28 at hf
    obtain ⟨rh3, σh3, qh3, hf⟩ := ms_cE hf
    refine m_ci (pc' := 31) (a := a0) (ρ := ρ) Bh2 (hp_runV (As := [.int w0_h2]) (rest := []) C Bh2 (m_X12_is n Γ l αh2 a0 ρ σh2 Mh2 w0_h2 (rh3, σh3) qh3) lb_X12_is lv_X12_is lk_X12_309 Mh2.1 rfl (by decide) rfl hl.1 rfl (Nat.le_of_ble_eq_true rfl) dX12_trace_28 ⟨Nat.le_refl _, Nat.le_refl _⟩) rfl (fun αh3 Hh3 Lh3 Bh3 Mh3 => ?_)
    refine lv_if_ne (tgt := 36) hx hb dX12_trace_31 (by decide) (fun c4 => ?_) (fun c4 => hp_n (n := 34) rfl ?_)
    ·
      replace hf := ms_iF c4 hf
      refine lv_aload_n hx hb dX12_trace_36 rfl (lv_at hl 0 rfl) (hp_n (n := 37) rfl ?_)
      refine lv_iload_n hx hb dX12_trace_37 rfl (lv_at hl 2 rfl) (hp_n (n := 38) rfl ?_)
      refine lv_iload_n hx hb dX12_trace_38 rfl (lv_at hl 3 rfl) (hp_n (n := 39) rfl ?_)
      obtain ⟨σh5, qh5, hf⟩ := ms_bE hf
      refine m_cv (pc' := 42) (a := a0) (ρ := ρ) Bh3 (hp_runV (As := [.int v2_h2, .int v3_h2]) (rest := []) C Bh3 (m_X12_inclusion n Γ l αh3 a0 ρ σh3 Mh3 v2_h2 v3_h2 σh5 qh5) lb_X12_inclusion lv_X12_inclusion lk_X12_171 Mh3.1 rfl (by decide) rfl hl.1 rfl (Nat.le_of_ble_eq_true rfl) dX12_trace_39 ⟨Nat.le_refl _, Nat.le_refl _⟩) rfl (fun αh5 Hh5 Lh5 Bh5 Mh5 => ?_)
      refine lv_iload hx hb dX12_trace_42 (lv_at hl 4 rfl) (hp_n (n := 44) rfl ?_)
      refine lv_aload_n hx hb dX12_trace_44 rfl (lv_at hl 0 rfl) (hp_n (n := 45) rfl ?_)
      refine m_geti (k := 7) (φ := 657) (pc' := 48) C Bh5 Mh5 fl_X12_139 rfl rfl dX12_trace_45 rfl ?_
      have J60 : ∀ (αh6 : hp_T) (Hh6 : Heap) (Lh6 : List Loc) (Bh6 : hp_B Γ mo s α αh6 Hh6 Lh6) (σh6 : ms_T) (Mh6 : hm_M αh6 a0 ρ σh6) (ls : Array Slot) (hl : lv_has ls 6 [(0, .ref a0)]) (hf : f_X12_trace_J60 n σh6 = some res), W p l e (hp_rm 42 0 0) s m ([.ref a0, .int a1, .int a2, .int a3, .int a4] : List Value).toArray below meth c Hh6 Lh6 0 0 (MQ below (hp_Qi Γ (fun r β => r = res.1 ∧ mo α β ∧ hm_M β a0 ρ res.2)) ([.ref a0, .int a1, .int a2, .int a3, .int a4] : List Value).toArray s 0 0 (hp_A Γ)) (F0 m 60 ls []) := by
        intro αh6 Hh6 Lh6 Bh6 σh6 Mh6 ls hl hf
        unfold f_X12_trace_J60 at hf
        refine lv_aload_n hx hb dX12_trace_60 rfl (lv_at hl 0 rfl) (hp_n (n := 61) rfl ?_)
        refine lv_iconst (v := 5) hx hb dX12_trace_61 (by decide) (hp_n (n := 62) rfl ?_)
        obtain ⟨rh7, σh7, qh7, hf⟩ := ms_cE hf
        refine m_ci (pc' := 65) (a := a0) (ρ := ρ) Bh6 (hp_runV (As := [.int (5 : Int32)]) (rest := []) C Bh6 (m_X12_refuse n Γ l αh6 a0 ρ σh6 Mh6 (5 : Int32) (rh7, σh7) qh7) lb_X12_refuse lv_X12_refuse lk_X12_212 Mh6.1 rfl (by decide) rfl hl.1 rfl (Nat.le_of_ble_eq_true rfl) dX12_trace_62 ⟨Nat.le_refl _, Nat.le_refl _⟩) rfl (fun αh7 Hh7 Lh7 Bh7 Mh7 => ?_)
        cases hf
        exact q_iret C Bh7 hr hlk ⟨rfl, Bh7.2.2, Mh7⟩ dX12_trace_65
      refine lv_icmp_gt (tgt := 60) hx hb dX12_trace_48 (by decide) (fun c8 => ?_) (fun c8 => hp_n (n := 51) rfl ?_)
      ·
        replace hf := ms_iT c8 hf
        exact J60 αh5 Hh5 Lh5 Bh5 σh5 Mh5 ls (lv_sub hl [0] rfl) hf
      ·
        replace hf := ms_iF c8 hf
        refine lv_iload hx hb dX12_trace_51 (lv_at hl 4 rfl) (hp_n (n := 53) rfl ?_)
        refine lv_aload_n hx hb dX12_trace_53 rfl (lv_at hl 0 rfl) (hp_n (n := 54) rfl ?_)
        obtain ⟨rh9, σh9, qh9, hf⟩ := ms_cE hf
        refine m_ci (pc' := 57) (a := a0) (ρ := ρ) Bh5 (hp_runV (As := []) (rest := [.int v4_h2]) C Bh5 (m_X12_fromPad n Γ l αh5 a0 ρ σh5 Mh5  (rh9, σh9) qh9) lb_X12_fromPad lv_X12_fromPad lk_X12_384 Mh5.1 rfl (by decide) rfl hl.1 rfl (Nat.le_of_ble_eq_true rfl) dX12_trace_54 ⟨Nat.le_refl _, Nat.le_refl _⟩) rfl (fun αh9 Hh9 Lh9 Bh9 Mh9 => ?_)
        refine lv_icmp_le (tgt := 66) hx hb dX12_trace_57 (by decide) (fun c10 => ?_) (fun c10 => hp_n (n := 60) rfl ?_)
        ·
          replace hf := ms_iT c10 hf
          refine lv_aload_n hx hb dX12_trace_66 rfl (lv_at hl 0 rfl) (hp_n (n := 67) rfl ?_)
          obtain ⟨rh11, σh11, qh11, hf⟩ := ms_cE hf
          refine m_ci (pc' := 70) (a := a0) (ρ := ρ) Bh9 (hp_runV (As := []) (rest := []) C Bh9 (m_X12_fromPad n Γ l αh9 a0 ρ σh9 Mh9  (rh11, σh11) qh11) lb_X12_fromPad lv_X12_fromPad lk_X12_384 Mh9.1 rfl (by decide) rfl hl.1 rfl (Nat.le_of_ble_eq_true rfl) dX12_trace_67 ⟨Nat.le_refl _, Nat.le_refl _⟩) rfl (fun αh11 Hh11 Lh11 Bh11 Mh11 => ?_)
          have J72 : ∀ (k72 : Nat) (αh12 : hp_T) (Hh12 : Heap) (Lh12 : List Loc) (Bh12 : hp_B Γ mo s α αh12 Hh12 Lh12) (σh12 : ms_T) (Mh12 : hm_M αh12 a0 ρ σh12) (v1_h12 : Int32) (v2_h12 : Int32) (v3_h12 : Int32) (v4_h12 : Int32) (v5_h12 : Int32) (ls : Array Slot) (hl : lv_has ls 6 [(0, .ref a0), (1, .int v1_h12), (2, .int v2_h12), (3, .int v3_h12), (4, .int v4_h12), (5, .int v5_h12)]) (hf : f_X12_trace_L72 n k72 σh12 v1_h12 v2_h12 v3_h12 v4_h12 v5_h12 = some res), W p l e (hp_rm 42 0 0) s m ([.ref a0, .int a1, .int a2, .int a3, .int a4] : List Value).toArray below meth c Hh12 Lh12 0 0 (MQ below (hp_Qi Γ (fun r β => r = res.1 ∧ mo α β ∧ hm_M β a0 ρ res.2)) ([.ref a0, .int a1, .int a2, .int a3, .int a4] : List Value).toArray s 0 0 (hp_A Γ)) (F0 m 72 ls []) := by
            intro k72
            induction k72 with
            | zero => intro αh12 Hh12 Lh12 Bh12 σh12 Mh12 v1_h12 v2_h12 v3_h12 v4_h12 v5_h12 ls hl hf; rw [f_X12_trace_L72.eq_1] at hf; cases hf
            | succ k72 ih72 =>
              intro αh12 Hh12 Lh12 Bh12 σh12 Mh12 v1_h12 v2_h12 v3_h12 v4_h12 v5_h12 ls hl hf
              rw [f_X12_trace_L72.eq_2] at hf
              refine lv_iload hx hb dX12_trace_72 (lv_at hl 5 rfl) (hp_n (n := 74) rfl ?_)
              refine lv_aload_n hx hb dX12_trace_74 rfl (lv_at hl 0 rfl) (hp_n (n := 75) rfl ?_)
              refine m_geti (k := 7) (φ := 657) (pc' := 78) C Bh12 Mh12 fl_X12_139 rfl rfl dX12_trace_75 rfl ?_
              refine lv_icmp_ge (tgt := 95) hx hb dX12_trace_78 (by decide) (fun c13 => ?_) (fun c13 => hp_n (n := 81) rfl ?_)
              ·
                replace hf := ms_iT c13 hf
                refine lv_aload_n hx hb dX12_trace_95 rfl (lv_at hl 0 rfl) (hp_n (n := 96) rfl ?_)
                refine lv_iconst (v := 0) hx hb dX12_trace_96 (by decide) (hp_n (n := 97) rfl ?_)
                refine m_puti (k := 39) (φ := 689) (pc' := 100) C Bh12 Mh12 fl_X12_411 rfl rfl rfl rfl rfl dX12_trace_97 rfl (fun αh14 Hh14 Lh14 σh14 eh14 Bh14 Mh14 => ?_)
                replace hf := ms_lE eh14 hf
                refine lv_aload_n hx hb dX12_trace_100 rfl (lv_at hl 0 rfl) (hp_n (n := 101) rfl ?_)
                refine lv_iload_n hx hb dX12_trace_101 rfl (lv_at hl 1 rfl) (hp_n (n := 102) rfl ?_)
                refine lv_iload_n hx hb dX12_trace_102 rfl (lv_at hl 2 rfl) (hp_n (n := 103) rfl ?_)
                refine lv_iload_n hx hb dX12_trace_103 rfl (lv_at hl 3 rfl) (hp_n (n := 104) rfl ?_)
                obtain ⟨rh15, σh15, qh15, hf⟩ := ms_cE hf
                refine m_ci (pc' := 107) (a := a0) (ρ := ρ) Bh14 (hp_runV (As := [.int v1_h12, .int v2_h12, .int v3_h12]) (rest := []) C Bh14 (m_X12_stepsIn n 40 Γ l αh14 a0 ρ σh14 Mh14 v1_h12 v2_h12 v3_h12 (rh15, σh15) qh15) lb_X12_stepsIn lv_X12_stepsIn lk_X12_408 Mh14.1 rfl (by decide) rfl hl.1 rfl (Nat.le_of_ble_eq_true rfl) dX12_trace_104 ⟨Nat.le_refl _, Nat.le_refl _⟩) rfl (fun αh15 Hh15 Lh15 Bh15 Mh15 => ?_)
                refine lv_pop hx hb dX12_trace_107 rfl (hp_n (n := 108) rfl ?_)
                refine lv_iload hx hb dX12_trace_108 (lv_at hl 4 rfl) (hp_n (n := 110) rfl ?_)
                refine lv_if_ne (tgt := 117) hx hb dX12_trace_110 (by decide) (fun c16 => ?_) (fun c16 => hp_n (n := 113) rfl ?_)
                ·
                  replace hf := ms_iF c16 hf
                  refine lv_aload_n hx hb dX12_trace_117 rfl (lv_at hl 0 rfl) (hp_n (n := 118) rfl ?_)
                  refine m_getr (κ := 53) (k := 38) (pc' := 121) C Bh15 Mh15 fl_X12_82 rfl (by decide) dX12_trace_118 rfl ?_
                  refine lv_iload hx hb dX12_trace_121 (lv_at hl 4 rfl) (hp_n (n := 123) rfl ?_)
                  refine lv_iconst (v := 1) hx hb dX12_trace_123 (by decide) (hp_n (n := 124) rfl ?_)
                  refine lv_isub hx hb dX12_trace_124 (hp_n (n := 125) rfl ?_)
                  obtain ⟨g17, hf⟩ := ms_gE hf
                  refine m_ial (κ := 53) (φ := 688) (n := 64) (pc' := 126) C Bh15 Mh15 (by decide) (by decide) rfl g17 dX12_trace_125 rfl ?_
                  cases hf
                  exact q_iret C Bh15 hr hlk ⟨rfl, Bh15.2.2, Mh15⟩ dX12_trace_126
                ·
                  replace hf := ms_iT c16 hf
                  refine lv_iload_n hx hb dX12_trace_113 rfl (lv_at hl 1 rfl) (hp_n (n := 114) rfl ?_)
                  refine lv_goto (tgt := 126) hx hb dX12_trace_114 (by decide) ?_
                  cases hf
                  exact q_iret C Bh15 hr hlk ⟨rfl, Bh15.2.2, Mh15⟩ dX12_trace_126
              ·
                replace hf := ms_iF c13 hf
                refine lv_aload_n hx hb dX12_trace_81 rfl (lv_at hl 0 rfl) (hp_n (n := 82) rfl ?_)
                refine m_getr (κ := 44) (k := 6) (pc' := 85) C Bh12 Mh12 fl_X12_22 rfl (by decide) dX12_trace_82 rfl ?_
                refine lv_iload hx hb dX12_trace_85 (lv_at hl 5 rfl) (hp_n (n := 87) rfl ?_)
                refine lv_iconst (v := 0) hx hb dX12_trace_87 (by decide) (hp_n (n := 88) rfl ?_)
                obtain ⟨g18, hf⟩ := ms_gE hf
                refine m_ias (κ := 44) (φ := 656) (n := 128) (pc' := 89) C Bh12 Mh12 (by decide) (by decide) rfl g18 dX12_trace_88 rfl (fun αh19 Hh19 Lh19 σh19 eh19 Bh19 Mh19 => ?_)
                replace hf := ms_lE eh19 hf
                obtain ⟨x20, ex20⟩ : ∃ y : Int32, y = v5_h12 + 1 := ⟨_, rfl⟩
                replace hf := ms_lE ex20 hf
                refine lv_iinc (v := x20) (lv' := [(5, .int x20), (0, .ref a0), (1, .int v1_h12), (2, .int v2_h12), (3, .int v3_h12), (4, .int v4_h12)]) hx hb dX12_trace_89 hl (k := 5) rfl (by rw [ex20]; rfl) (by decide) rfl (fun ls hl => hp_n (n := 92) rfl ?_)
                refine lv_goto (tgt := 72) hx hb dX12_trace_92 (by decide) ?_
                exact ih72 αh19 Hh19 Lh19 Bh19 σh19 Mh19 v1_h12 v2_h12 v3_h12 v4_h12 x20 ls (lv_sub hl [1, 2, 3, 4, 5, 0] rfl) hf
          refine lv_istore (lv' := [(5, .int rh11), (0, .ref a0), (1, .int v1_h2), (2, .int v2_h2), (3, .int v3_h2), (4, .int v4_h2)]) hx hb dX12_trace_70 hl (by decide) rfl (fun ls hl => hp_n (n := 72) rfl ?_)
          exact J72 n αh11 Hh11 Lh11 Bh11 σh11 Mh11 v1_h2 v2_h2 v3_h2 v4_h2 rh11 ls (lv_sub hl [1, 2, 3, 4, 5, 0] rfl) hf
        ·
          replace hf := ms_iF c10 hf
          exact J60 αh9 Hh9 Lh9 Bh9 σh9 Mh9 ls (lv_sub hl [0] rfl) hf
    ·
      replace hf := ms_iT c4 hf
      refine lv_iconst (v := (-1)) hx hb dX12_trace_34 (by decide) (hp_n (n := 35) rfl ?_)
      cases hf
      exact q_iret C Bh3 hr hlk ⟨rfl, Bh3.2.2, Mh3⟩ dX12_trace_35
  have J27 : ∀ (αh21 : hp_T) (Hh21 : Heap) (Lh21 : List Loc) (Bh21 : hp_B Γ mo s α αh21 Hh21 Lh21) (σh21 : ms_T) (Mh21 : hm_M αh21 a0 ρ σh21) (v1_h21 : Int32) (v2_h21 : Int32) (v3_h21 : Int32) (v4_h21 : Int32) (ls : Array Slot) (hl : lv_has ls 6 [(0, .ref a0), (1, .int v1_h21), (2, .int v2_h21), (3, .int v3_h21), (4, .int v4_h21)]) (hf : f_X12_trace_J27 n σh21 v1_h21 v2_h21 v3_h21 v4_h21 = some res), W p l e (hp_rm 42 0 0) s m ([.ref a0, .int a1, .int a2, .int a3, .int a4] : List Value).toArray below meth c Hh21 Lh21 0 0 (MQ below (hp_Qi Γ (fun r β => r = res.1 ∧ mo α β ∧ hm_M β a0 ρ res.2)) ([.ref a0, .int a1, .int a2, .int a3, .int a4] : List Value).toArray s 0 0 (hp_A Γ)) (F0 m 27 ls [.ref a0]) := by
    intro αh21 Hh21 Lh21 Bh21 σh21 Mh21 v1_h21 v2_h21 v3_h21 v4_h21 ls hl hf
    unfold f_X12_trace_J27 at hf
    refine lv_iconst (v := 1) hx hb dX12_trace_27 (by decide) (hp_n (n := 28) rfl ?_)
    exact J28 αh21 Hh21 Lh21 Bh21 σh21 Mh21 v1_h21 v2_h21 v3_h21 v4_h21 (1 : Int32) ls (lv_sub hl [0, 1, 2, 3, 4] rfl) hf
  refine lv_if_eq (tgt := 27) hx hb dX12_trace_7 (by decide) (fun c22 => ?_) (fun c22 => hp_n (n := 10) rfl ?_)
  ·
    replace hf := ms_iT c22 hf
    exact J27 α Hh1 Lh1 Bh1 σ hM a1 a2 a3 a4 ls (lv_sub hl [0, 1, 2, 3, 4] rfl) hf
  ·
    replace hf := ms_iF c22 hf
    refine lv_iload hx hb dX12_trace_10 (lv_at hl 4 rfl) (hp_n (n := 12) rfl ?_)
    refine lv_if_lt (tgt := 27) hx hb dX12_trace_12 (by decide) (fun c23 => ?_) (fun c23 => hp_n (n := 15) rfl ?_)
    ·
      replace hf := ms_iT c23 hf
      exact J27 α Hh1 Lh1 Bh1 σ hM a1 a2 a3 a4 ls (lv_sub hl [0, 1, 2, 3, 4] rfl) hf
    ·
      replace hf := ms_iF c23 hf
      refine lv_aload_n hx hb dX12_trace_15 rfl (lv_at hl 0 rfl) (hp_n (n := 16) rfl ?_)
      refine lv_iload_n hx hb dX12_trace_16 rfl (lv_at hl 1 rfl) (hp_n (n := 17) rfl ?_)
      obtain ⟨rh24, qh24, hf⟩ := ms_bE hf
      refine m_cp (pc' := 20) Bh1 (hp_runV (As := [.int a1]) (rest := [.ref a0]) C Bh1 (m_X12_isMark n Γ l α a0 ρ σ hM a1 rh24 qh24) lb_X12_isMark lv_X12_isMark lk_X12_321 hM.1 rfl (by decide) rfl hl.1 rfl (Nat.le_of_ble_eq_true rfl) dX12_trace_17 ⟨Nat.le_refl _, Nat.le_refl _⟩) rfl (fun Hh24 Lh24 Bh24 => ?_)
      refine lv_if_eq (tgt := 27) hx hb dX12_trace_20 (by decide) (fun c25 => ?_) (fun c25 => hp_n (n := 23) rfl ?_)
      ·
        replace hf := ms_iT c25 hf
        exact J27 α Hh24 Lh24 Bh24 σ hM a1 a2 a3 a4 ls (lv_sub hl [0, 1, 2, 3, 4] rfl) hf
      ·
        replace hf := ms_iF c25 hf
        refine lv_iconst (v := 0) hx hb dX12_trace_23 (by decide) (hp_n (n := 24) rfl ?_)
        refine lv_goto (tgt := 28) hx hb dX12_trace_24 (by decide) ?_
        exact J28 α Hh24 Lh24 Bh24 σ hM a1 a2 a3 a4 (0 : Int32) ls (lv_sub hl [0, 1, 2, 3, 4] rfl) hf
def f_X12_wayAt (n : Nat) (σ : ms_T) (a1 : Int32) (a2 : Int32) : Option (Int32 × ms_T) :=
  if a1 < (ms_I σ 657) then
    if a2 = 0 then
      ms_g a1 128 <|
      some ((ms_E σ 42 (a1).toNatClampNeg), σ)
    else
      ms_g a1 128 <|
      some ((ms_E σ 43 (a1).toNatClampNeg), σ)
  else
    ms_c (f_X12_refuse n σ (5 : Int32)) fun rh5 σh5 =>
    some (rh5, σh5)
set_option maxRecDepth 100000 in
set_option maxHeartbeats 4000000 in
theorem m_X12_wayAt (n : Nat) (Γ : hp_G) (l : Launch) (α : hp_T) (a0 : Nat) (ρ : Nat → Nat) (σ : ms_T) (hM : hm_M α a0 ρ σ) (a1 : Int32) (a2 : Int32) (res : (Int32 × ms_T)) (hf : f_X12_wayAt n σ a1 a2 = some res) : Met l yX12_wayAt (hp_ws yX12_wayAt cX12_wayAt 3 (some .int)) (hp_rm 1 0 0) (hp_Pc Γ α [.ref a0, .int a1, .int a2]) (hp_Qi Γ (fun r β => r = res.1 ∧ mo α β ∧ hm_M β a0 ρ res.2)) 0 0 (hp_A Γ) := by
  unfold f_X12_wayAt at hf
  refine hp_start (by decide) ?_
  intro p e s m below meth c C hr hlk B0 hnm
  have C : hp_C Γ p m c cX12_wayAt 3 s ([.ref a0, .int a1, .int a2] : List Value).toArray RX12 := C
  have hx := C.1.1
  have hb := C.1.2.1
  have hown := C.1.2.2.2.1
  have hts := C.1.2.2.2.2
  have B : hp_B Γ mo s α α s.heap [] := ⟨B0.1, B0.2.1, mo_rf⟩
  have hl := lv_entry ([.ref a0, .int a1, .int a2]) (n := 3) (Nat.le_of_ble_eq_true rfl)
  show W p l e (hp_rm 1 0 0) s m ([.ref a0, .int a1, .int a2] : List Value).toArray below meth c s.heap [] 0 0 (MQ below (hp_Qi Γ (fun r β => r = res.1 ∧ mo α β ∧ hm_M β a0 ρ res.2)) ([.ref a0, .int a1, .int a2] : List Value).toArray s 0 0 (hp_A Γ)) (entryFrame m ([.ref a0, .int a1, .int a2] : List Value).toArray 3)
  rw [lg_entry_eq]
  generalize (lg_sl ([.ref a0, .int a1, .int a2]) ++ List.replicate (3 - (lg_sl ([.ref a0, .int a1, .int a2])).length) Slot.unset).toArray = ls at hl ⊢
  have hl : lv_has ls 3 [(0, .ref a0), (1, .int a1), (2, .int a2)] := hl
  refine lv_iload_n hx hb dX12_wayAt_0 rfl (lv_at hl 1 rfl) (hp_n (n := 1) rfl ?_)
  refine lv_aload_n hx hb dX12_wayAt_1 rfl (lv_at hl 0 rfl) (hp_n (n := 2) rfl ?_)
  refine m_geti (k := 7) (φ := 657) (pc' := 5) C B hM fl_X12_139 rfl rfl dX12_wayAt_2 rfl ?_
  refine lv_icmp_lt (tgt := 16) hx hb dX12_wayAt_5 (by decide) (fun c1 => ?_) (fun c1 => hp_n (n := 8) rfl ?_)
  ·
    replace hf := ms_iT c1 hf
    refine lv_iload_n hx hb dX12_wayAt_16 rfl (lv_at hl 2 rfl) (hp_n (n := 17) rfl ?_)
    refine lv_if_ne (tgt := 29) hx hb dX12_wayAt_17 (by decide) (fun c2 => ?_) (fun c2 => hp_n (n := 20) rfl ?_)
    ·
      replace hf := ms_iF c2 hf
      refine lv_aload_n hx hb dX12_wayAt_29 rfl (lv_at hl 0 rfl) (hp_n (n := 30) rfl ?_)
      refine m_getr (κ := 43) (k := 5) (pc' := 33) C B hM fl_X12_19 rfl (by decide) dX12_wayAt_30 rfl ?_
      refine lv_iload_n hx hb dX12_wayAt_33 rfl (lv_at hl 1 rfl) (hp_n (n := 34) rfl ?_)
      obtain ⟨g3, hf⟩ := ms_gE hf
      refine m_ial (κ := 43) (φ := 655) (n := 128) (pc' := 35) C B hM (by decide) (by decide) rfl g3 dX12_wayAt_34 rfl ?_
      cases hf
      exact q_iret C B hr hlk ⟨rfl, B.2.2, hM⟩ dX12_wayAt_35
    ·
      replace hf := ms_iT c2 hf
      refine lv_aload_n hx hb dX12_wayAt_20 rfl (lv_at hl 0 rfl) (hp_n (n := 21) rfl ?_)
      refine m_getr (κ := 42) (k := 4) (pc' := 24) C B hM fl_X12_16 rfl (by decide) dX12_wayAt_21 rfl ?_
      refine lv_iload_n hx hb dX12_wayAt_24 rfl (lv_at hl 1 rfl) (hp_n (n := 25) rfl ?_)
      obtain ⟨g4, hf⟩ := ms_gE hf
      refine m_ial (κ := 42) (φ := 654) (n := 128) (pc' := 26) C B hM (by decide) (by decide) rfl g4 dX12_wayAt_25 rfl ?_
      refine lv_goto (tgt := 35) hx hb dX12_wayAt_26 (by decide) ?_
      cases hf
      exact q_iret C B hr hlk ⟨rfl, B.2.2, hM⟩ dX12_wayAt_35
  ·
    replace hf := ms_iF c1 hf
    refine lv_aload_n hx hb dX12_wayAt_8 rfl (lv_at hl 0 rfl) (hp_n (n := 9) rfl ?_)
    refine lv_iconst (v := 5) hx hb dX12_wayAt_9 (by decide) (hp_n (n := 10) rfl ?_)
    obtain ⟨rh5, σh5, qh5, hf⟩ := ms_cE hf
    refine m_ci (pc' := 13) (a := a0) (ρ := ρ) B (hp_runV (As := [.int (5 : Int32)]) (rest := []) C B (m_X12_refuse n Γ l α a0 ρ σ hM (5 : Int32) (rh5, σh5) qh5) lb_X12_refuse lv_X12_refuse lk_X12_212 hM.1 rfl (by decide) rfl hl.1 rfl (Nat.le_of_ble_eq_true rfl) dX12_wayAt_10 ⟨Nat.le_refl _, Nat.le_refl _⟩) rfl (fun αh5 Hh5 Lh5 Bh5 Mh5 => ?_)
    refine lv_goto (tgt := 35) hx hb dX12_wayAt_13 (by decide) ?_
    cases hf
    exact q_iret C Bh5 hr hlk ⟨rfl, Bh5.2.2, Mh5⟩ dX12_wayAt_35
def f_X12_span_J29 (n : Nat) (σh2 : ms_T) (v1_h2 : Int32) (v2_h2 : Int32) (v3_h2 : Int32) (v4_h2 : Int32) (w0_h2 : Int32) : Option (Int32 × ms_T) :=
  ms_c (f_X12_is n σh2 w0_h2) fun rh3 σh3 =>
  if rh3 = 0 then
    some ((-1 : Int32), σh3)
  else
    ms_b (f_X12_inclusion n σh3 v1_h2 v2_h2) fun σh5 =>
    ms_c (f_X12_wayAt n σh5 v3_h2 v4_h2) fun rh6 σh6 =>
    some (rh6, σh6)
def f_X12_span_J28 (n : Nat) (σh7 : ms_T) (v1_h7 : Int32) (v2_h7 : Int32) (v3_h7 : Int32) (v4_h7 : Int32) : Option (Int32 × ms_T) :=
  f_X12_span_J29 n σh7 v1_h7 v2_h7 v3_h7 v4_h7 (1 : Int32)
def f_X12_span (n : Nat) (σ : ms_T) (a1 : Int32) (a2 : Int32) (a3 : Int32) (a4 : Int32) : Option (Int32 × ms_T) :=
  ms_b (f_X12_isThing n σ a1 a2) fun rh1 =>
  if rh1 = 0 then
    f_X12_span_J28 n σ a1 a2 a3 a4
  else
    if a3 < 0 then
      f_X12_span_J28 n σ a1 a2 a3 a4
    else
      ms_b (f_X12_isIn n a4 (0 : Int32) (1 : Int32)) fun rh10 =>
      if rh10 = 0 then
        f_X12_span_J28 n σ a1 a2 a3 a4
      else
        f_X12_span_J29 n σ a1 a2 a3 a4 (0 : Int32)
set_option maxRecDepth 100000 in
set_option maxHeartbeats 4000000 in
theorem m_X12_span (n : Nat) (Γ : hp_G) (l : Launch) (α : hp_T) (a0 : Nat) (ρ : Nat → Nat) (σ : ms_T) (hM : hm_M α a0 ρ σ) (a1 : Int32) (a2 : Int32) (a3 : Int32) (a4 : Int32) (res : (Int32 × ms_T)) (hf : f_X12_span n σ a1 a2 a3 a4 = some res) : Met l yX12_span (hp_ws yX12_span cX12_span 5 (some .int)) (hp_rm 42 0 0) (hp_Pc Γ α [.ref a0, .int a1, .int a2, .int a3, .int a4]) (hp_Qi Γ (fun r β => r = res.1 ∧ mo α β ∧ hm_M β a0 ρ res.2)) 0 0 (hp_A Γ) := by
  unfold f_X12_span at hf
  refine hp_start (by decide) ?_
  intro p e s m below meth c C hr hlk B0 hnm
  have C : hp_C Γ p m c cX12_span 5 s ([.ref a0, .int a1, .int a2, .int a3, .int a4] : List Value).toArray RX12 := C
  have hx := C.1.1
  have hb := C.1.2.1
  have hown := C.1.2.2.2.1
  have hts := C.1.2.2.2.2
  have B : hp_B Γ mo s α α s.heap [] := ⟨B0.1, B0.2.1, mo_rf⟩
  have hl := lv_entry ([.ref a0, .int a1, .int a2, .int a3, .int a4]) (n := 5) (Nat.le_of_ble_eq_true rfl)
  show W p l e (hp_rm 42 0 0) s m ([.ref a0, .int a1, .int a2, .int a3, .int a4] : List Value).toArray below meth c s.heap [] 0 0 (MQ below (hp_Qi Γ (fun r β => r = res.1 ∧ mo α β ∧ hm_M β a0 ρ res.2)) ([.ref a0, .int a1, .int a2, .int a3, .int a4] : List Value).toArray s 0 0 (hp_A Γ)) (entryFrame m ([.ref a0, .int a1, .int a2, .int a3, .int a4] : List Value).toArray 5)
  rw [lg_entry_eq]
  generalize (lg_sl ([.ref a0, .int a1, .int a2, .int a3, .int a4]) ++ List.replicate (5 - (lg_sl ([.ref a0, .int a1, .int a2, .int a3, .int a4])).length) Slot.unset).toArray = ls at hl ⊢
  have hl : lv_has ls 5 [(0, .ref a0), (1, .int a1), (2, .int a2), (3, .int a3), (4, .int a4)] := hl
  refine lv_aload_n hx hb dX12_span_0 rfl (lv_at hl 0 rfl) (hp_n (n := 1) rfl ?_)
  refine lv_aload_n hx hb dX12_span_1 rfl (lv_at hl 0 rfl) (hp_n (n := 2) rfl ?_)
  refine lv_iload_n hx hb dX12_span_2 rfl (lv_at hl 1 rfl) (hp_n (n := 3) rfl ?_)
  refine lv_iload_n hx hb dX12_span_3 rfl (lv_at hl 2 rfl) (hp_n (n := 4) rfl ?_)
  obtain ⟨rh1, qh1, hf⟩ := ms_bE hf
  refine m_cp (pc' := 7) B (hp_runV (As := [.int a1, .int a2]) (rest := [.ref a0]) C B (m_X12_isThing n Γ l α a0 ρ σ hM a1 a2 rh1 qh1) lb_X12_isThing lv_X12_isThing lk_X12_381 hM.1 rfl (by decide) rfl hl.1 rfl (Nat.le_of_ble_eq_true rfl) dX12_span_4 ⟨Nat.le_refl _, Nat.le_refl _⟩) rfl (fun Hh1 Lh1 Bh1 => ?_)
  have J29 : ∀ (αh2 : hp_T) (Hh2 : Heap) (Lh2 : List Loc) (Bh2 : hp_B Γ mo s α αh2 Hh2 Lh2) (σh2 : ms_T) (Mh2 : hm_M αh2 a0 ρ σh2) (v1_h2 : Int32) (v2_h2 : Int32) (v3_h2 : Int32) (v4_h2 : Int32) (w0_h2 : Int32) (ls : Array Slot) (hl : lv_has ls 5 [(0, .ref a0), (1, .int v1_h2), (2, .int v2_h2), (3, .int v3_h2), (4, .int v4_h2)]) (hf : f_X12_span_J29 n σh2 v1_h2 v2_h2 v3_h2 v4_h2 w0_h2 = some res), W p l e (hp_rm 42 0 0) s m ([.ref a0, .int a1, .int a2, .int a3, .int a4] : List Value).toArray below meth c Hh2 Lh2 0 0 (MQ below (hp_Qi Γ (fun r β => r = res.1 ∧ mo α β ∧ hm_M β a0 ρ res.2)) ([.ref a0, .int a1, .int a2, .int a3, .int a4] : List Value).toArray s 0 0 (hp_A Γ)) (F0 m 29 ls [.int w0_h2, .ref a0]) := by
    intro αh2 Hh2 Lh2 Bh2 σh2 Mh2 v1_h2 v2_h2 v3_h2 v4_h2 w0_h2 ls hl hf
    unfold f_X12_span_J29 at hf
    obtain ⟨rh3, σh3, qh3, hf⟩ := ms_cE hf
    refine m_ci (pc' := 32) (a := a0) (ρ := ρ) Bh2 (hp_runV (As := [.int w0_h2]) (rest := []) C Bh2 (m_X12_is n Γ l αh2 a0 ρ σh2 Mh2 w0_h2 (rh3, σh3) qh3) lb_X12_is lv_X12_is lk_X12_309 Mh2.1 rfl (by decide) rfl hl.1 rfl (Nat.le_of_ble_eq_true rfl) dX12_span_29 ⟨Nat.le_refl _, Nat.le_refl _⟩) rfl (fun αh3 Hh3 Lh3 Bh3 Mh3 => ?_)
    refine lv_if_ne (tgt := 37) hx hb dX12_span_32 (by decide) (fun c4 => ?_) (fun c4 => hp_n (n := 35) rfl ?_)
    ·
      replace hf := ms_iF c4 hf
      refine lv_aload_n hx hb dX12_span_37 rfl (lv_at hl 0 rfl) (hp_n (n := 38) rfl ?_)
      refine lv_iload_n hx hb dX12_span_38 rfl (lv_at hl 1 rfl) (hp_n (n := 39) rfl ?_)
      refine lv_iload_n hx hb dX12_span_39 rfl (lv_at hl 2 rfl) (hp_n (n := 40) rfl ?_)
      obtain ⟨σh5, qh5, hf⟩ := ms_bE hf
      refine m_cv (pc' := 43) (a := a0) (ρ := ρ) Bh3 (hp_runV (As := [.int v1_h2, .int v2_h2]) (rest := []) C Bh3 (m_X12_inclusion n Γ l αh3 a0 ρ σh3 Mh3 v1_h2 v2_h2 σh5 qh5) lb_X12_inclusion lv_X12_inclusion lk_X12_171 Mh3.1 rfl (by decide) rfl hl.1 rfl (Nat.le_of_ble_eq_true rfl) dX12_span_40 ⟨Nat.le_refl _, Nat.le_refl _⟩) rfl (fun αh5 Hh5 Lh5 Bh5 Mh5 => ?_)
      refine lv_aload_n hx hb dX12_span_43 rfl (lv_at hl 0 rfl) (hp_n (n := 44) rfl ?_)
      refine lv_iload_n hx hb dX12_span_44 rfl (lv_at hl 3 rfl) (hp_n (n := 45) rfl ?_)
      refine lv_iload hx hb dX12_span_45 (lv_at hl 4 rfl) (hp_n (n := 47) rfl ?_)
      obtain ⟨rh6, σh6, qh6, hf⟩ := ms_cE hf
      refine m_ci (pc' := 50) (a := a0) (ρ := ρ) Bh5 (hp_runV (As := [.int v3_h2, .int v4_h2]) (rest := []) C Bh5 (m_X12_wayAt n Γ l αh5 a0 ρ σh5 Mh5 v3_h2 v4_h2 (rh6, σh6) qh6) lb_X12_wayAt lv_X12_wayAt lk_X12_414 Mh5.1 rfl (by decide) rfl hl.1 rfl (Nat.le_of_ble_eq_true rfl) dX12_span_47 ⟨Nat.le_refl _, Nat.le_refl _⟩) rfl (fun αh6 Hh6 Lh6 Bh6 Mh6 => ?_)
      cases hf
      exact q_iret C Bh6 hr hlk ⟨rfl, Bh6.2.2, Mh6⟩ dX12_span_50
    ·
      replace hf := ms_iT c4 hf
      refine lv_iconst (v := (-1)) hx hb dX12_span_35 (by decide) (hp_n (n := 36) rfl ?_)
      cases hf
      exact q_iret C Bh3 hr hlk ⟨rfl, Bh3.2.2, Mh3⟩ dX12_span_36
  have J28 : ∀ (αh7 : hp_T) (Hh7 : Heap) (Lh7 : List Loc) (Bh7 : hp_B Γ mo s α αh7 Hh7 Lh7) (σh7 : ms_T) (Mh7 : hm_M αh7 a0 ρ σh7) (v1_h7 : Int32) (v2_h7 : Int32) (v3_h7 : Int32) (v4_h7 : Int32) (ls : Array Slot) (hl : lv_has ls 5 [(0, .ref a0), (1, .int v1_h7), (2, .int v2_h7), (3, .int v3_h7), (4, .int v4_h7)]) (hf : f_X12_span_J28 n σh7 v1_h7 v2_h7 v3_h7 v4_h7 = some res), W p l e (hp_rm 42 0 0) s m ([.ref a0, .int a1, .int a2, .int a3, .int a4] : List Value).toArray below meth c Hh7 Lh7 0 0 (MQ below (hp_Qi Γ (fun r β => r = res.1 ∧ mo α β ∧ hm_M β a0 ρ res.2)) ([.ref a0, .int a1, .int a2, .int a3, .int a4] : List Value).toArray s 0 0 (hp_A Γ)) (F0 m 28 ls [.ref a0]) := by
    intro αh7 Hh7 Lh7 Bh7 σh7 Mh7 v1_h7 v2_h7 v3_h7 v4_h7 ls hl hf
    unfold f_X12_span_J28 at hf
    refine lv_iconst (v := 1) hx hb dX12_span_28 (by decide) (hp_n (n := 29) rfl ?_)
    exact J29 αh7 Hh7 Lh7 Bh7 σh7 Mh7 v1_h7 v2_h7 v3_h7 v4_h7 (1 : Int32) ls (lv_sub hl [0, 1, 2, 3, 4] rfl) hf
  refine lv_if_eq (tgt := 28) hx hb dX12_span_7 (by decide) (fun c8 => ?_) (fun c8 => hp_n (n := 10) rfl ?_)
  ·
    replace hf := ms_iT c8 hf
    exact J28 α Hh1 Lh1 Bh1 σ hM a1 a2 a3 a4 ls (lv_sub hl [0, 1, 2, 3, 4] rfl) hf
  ·
    replace hf := ms_iF c8 hf
    refine lv_iload_n hx hb dX12_span_10 rfl (lv_at hl 3 rfl) (hp_n (n := 11) rfl ?_)
    refine lv_if_lt (tgt := 28) hx hb dX12_span_11 (by decide) (fun c9 => ?_) (fun c9 => hp_n (n := 14) rfl ?_)
    ·
      replace hf := ms_iT c9 hf
      exact J28 α Hh1 Lh1 Bh1 σ hM a1 a2 a3 a4 ls (lv_sub hl [0, 1, 2, 3, 4] rfl) hf
    ·
      replace hf := ms_iF c9 hf
      refine lv_iload hx hb dX12_span_14 (lv_at hl 4 rfl) (hp_n (n := 16) rfl ?_)
      refine lv_iconst (v := 0) hx hb dX12_span_16 (by decide) (hp_n (n := 17) rfl ?_)
      refine lv_iconst (v := 1) hx hb dX12_span_17 (by decide) (hp_n (n := 18) rfl ?_)
      obtain ⟨rh10, qh10, hf⟩ := ms_bE hf
      refine m_cp (pc' := 21) Bh1 (hp_runS (As := [.int a4, .int (0 : Int32), .int (1 : Int32)]) (rest := [.ref a0]) C Bh1 (m_X12_isIn n Γ l α a4 (0 : Int32) (1 : Int32) rh10 qh10) lb_X12_isIn ls_X12_isIn lk_X12_113 rfl (by decide) rfl hl.1 rfl (Nat.le_of_ble_eq_true rfl) dX12_span_18 ⟨Nat.le_refl _, Nat.le_refl _⟩) rfl (fun Hh10 Lh10 Bh10 => ?_)
      refine lv_if_eq (tgt := 28) hx hb dX12_span_21 (by decide) (fun c11 => ?_) (fun c11 => hp_n (n := 24) rfl ?_)
      ·
        replace hf := ms_iT c11 hf
        exact J28 α Hh10 Lh10 Bh10 σ hM a1 a2 a3 a4 ls (lv_sub hl [0, 1, 2, 3, 4] rfl) hf
      ·
        replace hf := ms_iF c11 hf
        refine lv_iconst (v := 0) hx hb dX12_span_24 (by decide) (hp_n (n := 25) rfl ?_)
        refine lv_goto (tgt := 29) hx hb dX12_span_25 (by decide) ?_
        exact J29 α Hh10 Lh10 Bh10 σ hM a1 a2 a3 a4 (0 : Int32) ls (lv_sub hl [0, 1, 2, 3, 4] rfl) hf
def f_X12_rise_J29 (n : Nat) (σh1 : ms_T) (v1_h1 : Int32) (v2_h1 : Int32) (v3_h1 : Int32) (v4_h1 : Int32) (w0_h1 : Int32) : Option (Int32 × ms_T) :=
  ms_c (f_X12_is n σh1 w0_h1) fun rh2 σh2 =>
  if rh2 = 0 then
    some ((-1 : Int32), σh2)
  else
    ms_b (f_X12_growth n σh2 v1_h1 v2_h1) fun σh4 =>
    ms_c (f_X12_wayAt n σh4 v3_h1 v4_h1) fun rh5 σh5 =>
    some (rh5, σh5)
def f_X12_rise_J28 (n : Nat) (σh6 : ms_T) (v1_h6 : Int32) (v2_h6 : Int32) (v3_h6 : Int32) (v4_h6 : Int32) : Option (Int32 × ms_T) :=
  f_X12_rise_J29 n σh6 v1_h6 v2_h6 v3_h6 v4_h6 (1 : Int32)
def f_X12_rise (n : Nat) (σ : ms_T) (a1 : Int32) (a2 : Int32) (a3 : Int32) (a4 : Int32) : Option (Int32 × ms_T) :=
  if a1 < 0 then
    f_X12_rise_J28 n σ a1 a2 a3 a4
  else
    if a2 < a1 then
      f_X12_rise_J28 n σ a1 a2 a3 a4
    else
      if a3 < 0 then
        f_X12_rise_J28 n σ a1 a2 a3 a4
      else
        ms_b (f_X12_isIn n a4 (0 : Int32) (1 : Int32)) fun rh10 =>
        if rh10 = 0 then
          f_X12_rise_J28 n σ a1 a2 a3 a4
        else
          f_X12_rise_J29 n σ a1 a2 a3 a4 (0 : Int32)
set_option maxRecDepth 100000 in
set_option maxHeartbeats 4000000 in
theorem m_X12_rise (n : Nat) (Γ : hp_G) (l : Launch) (α : hp_T) (a0 : Nat) (ρ : Nat → Nat) (σ : ms_T) (hM : hm_M α a0 ρ σ) (a1 : Int32) (a2 : Int32) (a3 : Int32) (a4 : Int32) (res : (Int32 × ms_T)) (hf : f_X12_rise n σ a1 a2 a3 a4 = some res) : Met l yX12_rise (hp_ws yX12_rise cX12_rise 5 (some .int)) (hp_rm 42 0 0) (hp_Pc Γ α [.ref a0, .int a1, .int a2, .int a3, .int a4]) (hp_Qi Γ (fun r β => r = res.1 ∧ mo α β ∧ hm_M β a0 ρ res.2)) 0 0 (hp_A Γ) := by
  unfold f_X12_rise at hf
  refine hp_start (by decide) ?_
  intro p e s m below meth c C hr hlk B0 hnm
  have C : hp_C Γ p m c cX12_rise 5 s ([.ref a0, .int a1, .int a2, .int a3, .int a4] : List Value).toArray RX12 := C
  have hx := C.1.1
  have hb := C.1.2.1
  have hown := C.1.2.2.2.1
  have hts := C.1.2.2.2.2
  have B : hp_B Γ mo s α α s.heap [] := ⟨B0.1, B0.2.1, mo_rf⟩
  have hl := lv_entry ([.ref a0, .int a1, .int a2, .int a3, .int a4]) (n := 5) (Nat.le_of_ble_eq_true rfl)
  show W p l e (hp_rm 42 0 0) s m ([.ref a0, .int a1, .int a2, .int a3, .int a4] : List Value).toArray below meth c s.heap [] 0 0 (MQ below (hp_Qi Γ (fun r β => r = res.1 ∧ mo α β ∧ hm_M β a0 ρ res.2)) ([.ref a0, .int a1, .int a2, .int a3, .int a4] : List Value).toArray s 0 0 (hp_A Γ)) (entryFrame m ([.ref a0, .int a1, .int a2, .int a3, .int a4] : List Value).toArray 5)
  rw [lg_entry_eq]
  generalize (lg_sl ([.ref a0, .int a1, .int a2, .int a3, .int a4]) ++ List.replicate (5 - (lg_sl ([.ref a0, .int a1, .int a2, .int a3, .int a4])).length) Slot.unset).toArray = ls at hl ⊢
  have hl : lv_has ls 5 [(0, .ref a0), (1, .int a1), (2, .int a2), (3, .int a3), (4, .int a4)] := hl
  refine lv_aload_n hx hb dX12_rise_0 rfl (lv_at hl 0 rfl) (hp_n (n := 1) rfl ?_)
  refine lv_iload_n hx hb dX12_rise_1 rfl (lv_at hl 1 rfl) (hp_n (n := 2) rfl ?_)
  have J29 : ∀ (αh1 : hp_T) (Hh1 : Heap) (Lh1 : List Loc) (Bh1 : hp_B Γ mo s α αh1 Hh1 Lh1) (σh1 : ms_T) (Mh1 : hm_M αh1 a0 ρ σh1) (v1_h1 : Int32) (v2_h1 : Int32) (v3_h1 : Int32) (v4_h1 : Int32) (w0_h1 : Int32) (ls : Array Slot) (hl : lv_has ls 5 [(0, .ref a0), (1, .int v1_h1), (2, .int v2_h1), (3, .int v3_h1), (4, .int v4_h1)]) (hf : f_X12_rise_J29 n σh1 v1_h1 v2_h1 v3_h1 v4_h1 w0_h1 = some res), W p l e (hp_rm 42 0 0) s m ([.ref a0, .int a1, .int a2, .int a3, .int a4] : List Value).toArray below meth c Hh1 Lh1 0 0 (MQ below (hp_Qi Γ (fun r β => r = res.1 ∧ mo α β ∧ hm_M β a0 ρ res.2)) ([.ref a0, .int a1, .int a2, .int a3, .int a4] : List Value).toArray s 0 0 (hp_A Γ)) (F0 m 29 ls [.int w0_h1, .ref a0]) := by
    intro αh1 Hh1 Lh1 Bh1 σh1 Mh1 v1_h1 v2_h1 v3_h1 v4_h1 w0_h1 ls hl hf
    unfold f_X12_rise_J29 at hf
    obtain ⟨rh2, σh2, qh2, hf⟩ := ms_cE hf
    refine m_ci (pc' := 32) (a := a0) (ρ := ρ) Bh1 (hp_runV (As := [.int w0_h1]) (rest := []) C Bh1 (m_X12_is n Γ l αh1 a0 ρ σh1 Mh1 w0_h1 (rh2, σh2) qh2) lb_X12_is lv_X12_is lk_X12_309 Mh1.1 rfl (by decide) rfl hl.1 rfl (Nat.le_of_ble_eq_true rfl) dX12_rise_29 ⟨Nat.le_refl _, Nat.le_refl _⟩) rfl (fun αh2 Hh2 Lh2 Bh2 Mh2 => ?_)
    refine lv_if_ne (tgt := 37) hx hb dX12_rise_32 (by decide) (fun c3 => ?_) (fun c3 => hp_n (n := 35) rfl ?_)
    ·
      replace hf := ms_iF c3 hf
      refine lv_aload_n hx hb dX12_rise_37 rfl (lv_at hl 0 rfl) (hp_n (n := 38) rfl ?_)
      refine lv_iload_n hx hb dX12_rise_38 rfl (lv_at hl 1 rfl) (hp_n (n := 39) rfl ?_)
      refine lv_iload_n hx hb dX12_rise_39 rfl (lv_at hl 2 rfl) (hp_n (n := 40) rfl ?_)
      obtain ⟨σh4, qh4, hf⟩ := ms_bE hf
      refine m_cv (pc' := 43) (a := a0) (ρ := ρ) Bh2 (hp_runV (As := [.int v1_h1, .int v2_h1]) (rest := []) C Bh2 (m_X12_growth n Γ l αh2 a0 ρ σh2 Mh2 v1_h1 v2_h1 σh4 qh4) lb_X12_growth lv_X12_growth lk_X12_190 Mh2.1 rfl (by decide) rfl hl.1 rfl (Nat.le_of_ble_eq_true rfl) dX12_rise_40 ⟨Nat.le_refl _, Nat.le_refl _⟩) rfl (fun αh4 Hh4 Lh4 Bh4 Mh4 => ?_)
      refine lv_aload_n hx hb dX12_rise_43 rfl (lv_at hl 0 rfl) (hp_n (n := 44) rfl ?_)
      refine lv_iload_n hx hb dX12_rise_44 rfl (lv_at hl 3 rfl) (hp_n (n := 45) rfl ?_)
      refine lv_iload hx hb dX12_rise_45 (lv_at hl 4 rfl) (hp_n (n := 47) rfl ?_)
      obtain ⟨rh5, σh5, qh5, hf⟩ := ms_cE hf
      refine m_ci (pc' := 50) (a := a0) (ρ := ρ) Bh4 (hp_runV (As := [.int v3_h1, .int v4_h1]) (rest := []) C Bh4 (m_X12_wayAt n Γ l αh4 a0 ρ σh4 Mh4 v3_h1 v4_h1 (rh5, σh5) qh5) lb_X12_wayAt lv_X12_wayAt lk_X12_414 Mh4.1 rfl (by decide) rfl hl.1 rfl (Nat.le_of_ble_eq_true rfl) dX12_rise_47 ⟨Nat.le_refl _, Nat.le_refl _⟩) rfl (fun αh5 Hh5 Lh5 Bh5 Mh5 => ?_)
      cases hf
      exact q_iret C Bh5 hr hlk ⟨rfl, Bh5.2.2, Mh5⟩ dX12_rise_50
    ·
      replace hf := ms_iT c3 hf
      refine lv_iconst (v := (-1)) hx hb dX12_rise_35 (by decide) (hp_n (n := 36) rfl ?_)
      cases hf
      exact q_iret C Bh2 hr hlk ⟨rfl, Bh2.2.2, Mh2⟩ dX12_rise_36
  have J28 : ∀ (αh6 : hp_T) (Hh6 : Heap) (Lh6 : List Loc) (Bh6 : hp_B Γ mo s α αh6 Hh6 Lh6) (σh6 : ms_T) (Mh6 : hm_M αh6 a0 ρ σh6) (v1_h6 : Int32) (v2_h6 : Int32) (v3_h6 : Int32) (v4_h6 : Int32) (ls : Array Slot) (hl : lv_has ls 5 [(0, .ref a0), (1, .int v1_h6), (2, .int v2_h6), (3, .int v3_h6), (4, .int v4_h6)]) (hf : f_X12_rise_J28 n σh6 v1_h6 v2_h6 v3_h6 v4_h6 = some res), W p l e (hp_rm 42 0 0) s m ([.ref a0, .int a1, .int a2, .int a3, .int a4] : List Value).toArray below meth c Hh6 Lh6 0 0 (MQ below (hp_Qi Γ (fun r β => r = res.1 ∧ mo α β ∧ hm_M β a0 ρ res.2)) ([.ref a0, .int a1, .int a2, .int a3, .int a4] : List Value).toArray s 0 0 (hp_A Γ)) (F0 m 28 ls [.ref a0]) := by
    intro αh6 Hh6 Lh6 Bh6 σh6 Mh6 v1_h6 v2_h6 v3_h6 v4_h6 ls hl hf
    unfold f_X12_rise_J28 at hf
    refine lv_iconst (v := 1) hx hb dX12_rise_28 (by decide) (hp_n (n := 29) rfl ?_)
    exact J29 αh6 Hh6 Lh6 Bh6 σh6 Mh6 v1_h6 v2_h6 v3_h6 v4_h6 (1 : Int32) ls (lv_sub hl [0, 1, 2, 3, 4] rfl) hf
  refine lv_if_lt (tgt := 28) hx hb dX12_rise_2 (by decide) (fun c7 => ?_) (fun c7 => hp_n (n := 5) rfl ?_)
  ·
    replace hf := ms_iT c7 hf
    exact J28 α s.heap [] B σ hM a1 a2 a3 a4 ls (lv_sub hl [0, 1, 2, 3, 4] rfl) hf
  ·
    replace hf := ms_iF c7 hf
    refine lv_iload_n hx hb dX12_rise_5 rfl (lv_at hl 1 rfl) (hp_n (n := 6) rfl ?_)
    refine lv_iload_n hx hb dX12_rise_6 rfl (lv_at hl 2 rfl) (hp_n (n := 7) rfl ?_)
    refine lv_icmp_gt (tgt := 28) hx hb dX12_rise_7 (by decide) (fun c8 => ?_) (fun c8 => hp_n (n := 10) rfl ?_)
    ·
      replace hf := ms_iT c8 hf
      exact J28 α s.heap [] B σ hM a1 a2 a3 a4 ls (lv_sub hl [0, 1, 2, 3, 4] rfl) hf
    ·
      replace hf := ms_iF c8 hf
      refine lv_iload_n hx hb dX12_rise_10 rfl (lv_at hl 3 rfl) (hp_n (n := 11) rfl ?_)
      refine lv_if_lt (tgt := 28) hx hb dX12_rise_11 (by decide) (fun c9 => ?_) (fun c9 => hp_n (n := 14) rfl ?_)
      ·
        replace hf := ms_iT c9 hf
        exact J28 α s.heap [] B σ hM a1 a2 a3 a4 ls (lv_sub hl [0, 1, 2, 3, 4] rfl) hf
      ·
        replace hf := ms_iF c9 hf
        refine lv_iload hx hb dX12_rise_14 (lv_at hl 4 rfl) (hp_n (n := 16) rfl ?_)
        refine lv_iconst (v := 0) hx hb dX12_rise_16 (by decide) (hp_n (n := 17) rfl ?_)
        refine lv_iconst (v := 1) hx hb dX12_rise_17 (by decide) (hp_n (n := 18) rfl ?_)
        obtain ⟨rh10, qh10, hf⟩ := ms_bE hf
        refine m_cp (pc' := 21) B (hp_runS (As := [.int a4, .int (0 : Int32), .int (1 : Int32)]) (rest := [.ref a0]) C B (m_X12_isIn n Γ l α a4 (0 : Int32) (1 : Int32) rh10 qh10) lb_X12_isIn ls_X12_isIn lk_X12_113 rfl (by decide) rfl hl.1 rfl (Nat.le_of_ble_eq_true rfl) dX12_rise_18 ⟨Nat.le_refl _, Nat.le_refl _⟩) rfl (fun Hh10 Lh10 Bh10 => ?_)
        refine lv_if_eq (tgt := 28) hx hb dX12_rise_21 (by decide) (fun c11 => ?_) (fun c11 => hp_n (n := 24) rfl ?_)
        ·
          replace hf := ms_iT c11 hf
          exact J28 α Hh10 Lh10 Bh10 σ hM a1 a2 a3 a4 ls (lv_sub hl [0, 1, 2, 3, 4] rfl) hf
        ·
          replace hf := ms_iF c11 hf
          refine lv_iconst (v := 0) hx hb dX12_rise_24 (by decide) (hp_n (n := 25) rfl ?_)
          refine lv_goto (tgt := 29) hx hb dX12_rise_25 (by decide) ?_
          exact J29 α Hh10 Lh10 Bh10 σ hM a1 a2 a3 a4 (0 : Int32) ls (lv_sub hl [0, 1, 2, 3, 4] rfl) hf
def f_X12_had_J32 (n : Nat) (σ : ms_T) (rec2 : Int32 → Int32 → Int32 → Option Int32) (v1_h4 : Int32) (v2_h4 : Int32) (v3_h4 : Int32) : Option Int32 :=
  ms_l (v3_h4 + 1) fun x5 =>
  rec2 v1_h4 v2_h4 x5
def f_X12_had_L2 (n : Nat) (σ : ms_T) : Nat → Int32 → Int32 → Int32 → Option Int32
  | 0, _, _, _ => none
  | k2 + 1, v1_h1, v2_h1, v3_h1 =>
    if (ms_I σ 695) ≤ v3_h1 then
      some (0 : Int32)
    else
      ms_g v3_h1 256 <|
      if (ms_E σ 57 (v3_h1).toNatClampNeg) = v1_h1 then
        ms_g v3_h1 256 <|
        if (ms_E σ 58 (v3_h1).toNatClampNeg) = v2_h1 then
          some (1 : Int32)
        else
          f_X12_had_J32 n σ (f_X12_had_L2 n σ k2) v1_h1 v2_h1 v3_h1
      else
        f_X12_had_J32 n σ (f_X12_had_L2 n σ k2) v1_h1 v2_h1 v3_h1
def f_X12_had (n : Nat) (σ : ms_T) (a1 : Int32) (a2 : Int32) : Option Int32 :=
  f_X12_had_L2 n σ n a1 a2 (0 : Int32)
set_option maxRecDepth 100000 in
set_option maxHeartbeats 4000000 in
theorem m_X12_had (n : Nat) (Γ : hp_G) (l : Launch) (α : hp_T) (a0 : Nat) (ρ : Nat → Nat) (σ : ms_T) (hM : hm_M α a0 ρ σ) (a1 : Int32) (a2 : Int32) (res : Int32) (hf : f_X12_had n σ a1 a2 = some res) : Met l yX12_had (hp_ws yX12_had cX12_had 4 (some .boolean)) (hp_rm 0 0 0) (hp_Pc Γ α [.ref a0, .int a1, .int a2]) (hp_Qi Γ (fun r β => β = α ∧ r = res)) 0 0 (hp_A Γ) := by
  unfold f_X12_had at hf
  refine hp_start (by decide) ?_
  intro p e s m below meth c C hr hlk B0 hnm
  have C : hp_C Γ p m c cX12_had 4 s ([.ref a0, .int a1, .int a2] : List Value).toArray RX12 := C
  have hx := C.1.1
  have hb := C.1.2.1
  have hown := C.1.2.2.2.1
  have hts := C.1.2.2.2.2
  have B : hp_B Γ (fun _ _ => True) s α α s.heap [] := ⟨B0.1, B0.2.1, trivial⟩
  have hl := lv_entry ([.ref a0, .int a1, .int a2]) (n := 4) (Nat.le_of_ble_eq_true rfl)
  show W p l e (hp_rm 0 0 0) s m ([.ref a0, .int a1, .int a2] : List Value).toArray below meth c s.heap [] 0 0 (MQ below (hp_Qi Γ (fun r β => β = α ∧ r = res)) ([.ref a0, .int a1, .int a2] : List Value).toArray s 0 0 (hp_A Γ)) (entryFrame m ([.ref a0, .int a1, .int a2] : List Value).toArray 4)
  rw [lg_entry_eq]
  generalize (lg_sl ([.ref a0, .int a1, .int a2]) ++ List.replicate (4 - (lg_sl ([.ref a0, .int a1, .int a2])).length) Slot.unset).toArray = ls at hl ⊢
  have hl : lv_has ls 4 [(0, .ref a0), (1, .int a1), (2, .int a2)] := hl
  refine lv_iconst (v := 0) hx hb dX12_had_0 (by decide) (hp_n (n := 1) rfl ?_)
  have J2 : ∀ (k2 : Nat) (Hh1 : Heap) (Lh1 : List Loc) (Bh1 : hp_B Γ (fun _ _ => True) s α α Hh1 Lh1) (v1_h1 : Int32) (v2_h1 : Int32) (v3_h1 : Int32) (ls : Array Slot) (hl : lv_has ls 4 [(0, .ref a0), (1, .int v1_h1), (2, .int v2_h1), (3, .int v3_h1)]) (hf : f_X12_had_L2 n σ k2 v1_h1 v2_h1 v3_h1 = some res), W p l e (hp_rm 0 0 0) s m ([.ref a0, .int a1, .int a2] : List Value).toArray below meth c Hh1 Lh1 0 0 (MQ below (hp_Qi Γ (fun r β => β = α ∧ r = res)) ([.ref a0, .int a1, .int a2] : List Value).toArray s 0 0 (hp_A Γ)) (F0 m 2 ls []) := by
    intro k2
    induction k2 with
    | zero => intro Hh1 Lh1 Bh1 v1_h1 v2_h1 v3_h1 ls hl hf; rw [f_X12_had_L2.eq_1] at hf; cases hf
    | succ k2 ih2 =>
      intro Hh1 Lh1 Bh1 v1_h1 v2_h1 v3_h1 ls hl hf
      rw [f_X12_had_L2.eq_2] at hf
      refine lv_iload_n hx hb dX12_had_2 rfl (lv_at hl 3 rfl) (hp_n (n := 3) rfl ?_)
      refine lv_aload_n hx hb dX12_had_3 rfl (lv_at hl 0 rfl) (hp_n (n := 4) rfl ?_)
      refine m_geti (k := 45) (φ := 695) (pc' := 7) C Bh1 hM fl_X12_417 rfl rfl dX12_had_4 rfl ?_
      refine lv_icmp_ge (tgt := 38) hx hb dX12_had_7 (by decide) (fun c2 => ?_) (fun c2 => hp_n (n := 10) rfl ?_)
      ·
        replace hf := ms_iT c2 hf
        refine lv_iconst (v := 0) hx hb dX12_had_38 (by decide) (hp_n (n := 39) rfl ?_)
        cases hf
        exact q_zret C Bh1 hr hlk (by decide) ⟨rfl, rfl⟩ dX12_had_39
      ·
        replace hf := ms_iF c2 hf
        refine lv_aload_n hx hb dX12_had_10 rfl (lv_at hl 0 rfl) (hp_n (n := 11) rfl ?_)
        refine m_getr (κ := 57) (k := 43) (pc' := 14) C Bh1 hM fl_X12_94 rfl (by decide) dX12_had_11 rfl ?_
        refine lv_iload_n hx hb dX12_had_14 rfl (lv_at hl 3 rfl) (hp_n (n := 15) rfl ?_)
        obtain ⟨g3, hf⟩ := ms_gE hf
        refine m_ial (κ := 57) (φ := 693) (n := 256) (pc' := 16) C Bh1 hM (by decide) (by decide) rfl g3 dX12_had_15 rfl ?_
        refine lv_iload_n hx hb dX12_had_16 rfl (lv_at hl 1 rfl) (hp_n (n := 17) rfl ?_)
        have J32 : ∀ (Hh4 : Heap) (Lh4 : List Loc) (Bh4 : hp_B Γ (fun _ _ => True) s α α Hh4 Lh4) (v1_h4 : Int32) (v2_h4 : Int32) (v3_h4 : Int32) (ls : Array Slot) (hl : lv_has ls 4 [(0, .ref a0), (1, .int v1_h4), (2, .int v2_h4), (3, .int v3_h4)]) (hf : f_X12_had_J32 n σ (f_X12_had_L2 n σ k2) v1_h4 v2_h4 v3_h4 = some res), W p l e (hp_rm 0 0 0) s m ([.ref a0, .int a1, .int a2] : List Value).toArray below meth c Hh4 Lh4 0 0 (MQ below (hp_Qi Γ (fun r β => β = α ∧ r = res)) ([.ref a0, .int a1, .int a2] : List Value).toArray s 0 0 (hp_A Γ)) (F0 m 32 ls []) := by
          intro Hh4 Lh4 Bh4 v1_h4 v2_h4 v3_h4 ls hl hf
          unfold f_X12_had_J32 at hf
          obtain ⟨x5, ex5⟩ : ∃ y : Int32, y = v3_h4 + 1 := ⟨_, rfl⟩
          replace hf := ms_lE ex5 hf
          refine lv_iinc (v := x5) (lv' := [(3, .int x5), (0, .ref a0), (1, .int v1_h4), (2, .int v2_h4)]) hx hb dX12_had_32 hl (k := 3) rfl (by rw [ex5]; rfl) (by decide) rfl (fun ls hl => hp_n (n := 35) rfl ?_)
          refine lv_goto (tgt := 2) hx hb dX12_had_35 (by decide) ?_
          exact ih2 Hh4 Lh4 Bh4 v1_h4 v2_h4 x5 ls (lv_sub hl [1, 2, 3, 0] rfl) hf
        refine lv_icmp_ne (tgt := 32) hx hb dX12_had_17 (by decide) (fun c6 => ?_) (fun c6 => hp_n (n := 20) rfl ?_)
        ·
          replace hf := ms_iF c6 hf
          exact J32 Hh1 Lh1 Bh1 v1_h1 v2_h1 v3_h1 ls (lv_sub hl [0, 1, 2, 3] rfl) hf
        ·
          replace hf := ms_iT c6 hf
          refine lv_aload_n hx hb dX12_had_20 rfl (lv_at hl 0 rfl) (hp_n (n := 21) rfl ?_)
          refine m_getr (κ := 58) (k := 44) (pc' := 24) C Bh1 hM fl_X12_97 rfl (by decide) dX12_had_21 rfl ?_
          refine lv_iload_n hx hb dX12_had_24 rfl (lv_at hl 3 rfl) (hp_n (n := 25) rfl ?_)
          obtain ⟨g7, hf⟩ := ms_gE hf
          refine m_ial (κ := 58) (φ := 694) (n := 256) (pc' := 26) C Bh1 hM (by decide) (by decide) rfl g7 dX12_had_25 rfl ?_
          refine lv_iload_n hx hb dX12_had_26 rfl (lv_at hl 2 rfl) (hp_n (n := 27) rfl ?_)
          refine lv_icmp_ne (tgt := 32) hx hb dX12_had_27 (by decide) (fun c8 => ?_) (fun c8 => hp_n (n := 30) rfl ?_)
          ·
            replace hf := ms_iF c8 hf
            exact J32 Hh1 Lh1 Bh1 v1_h1 v2_h1 v3_h1 ls (lv_sub hl [0, 1, 2, 3] rfl) hf
          ·
            replace hf := ms_iT c8 hf
            refine lv_iconst (v := 1) hx hb dX12_had_30 (by decide) (hp_n (n := 31) rfl ?_)
            cases hf
            exact q_zret C Bh1 hr hlk (by decide) ⟨rfl, rfl⟩ dX12_had_31
  refine lv_istore_n (lv' := [(3, .int (0 : Int32)), (0, .ref a0), (1, .int a1), (2, .int a2)]) hx hb dX12_had_1 rfl hl (by decide) rfl (fun ls hl => hp_n (n := 2) rfl ?_)
  exact J2 n s.heap [] B a1 a2 (0 : Int32) ls (lv_sub hl [1, 2, 3, 0] rfl) hf
def f_X12_notes_J72 (n : Nat) (rec2 : ms_T → Int32 → Option ms_T) (σh6 : ms_T) (v1_h6 : Int32) : Option ms_T :=
  ms_l (v1_h6 + 1) fun x7 =>
  rec2 σh6 x7
def f_X12_notes_L2 (n : Nat) : Nat → ms_T → Int32 → Option ms_T
  | 0, _, _ => none
  | k2 + 1, σh1, v1_h1 =>
    if (ms_I σh1 657) ≤ v1_h1 then
      some σh1
    else
      ms_g v1_h1 128 <|
      ms_g v1_h1 128 <|
      ms_b (f_X12_had n σh1 (ms_E σh1 42 (v1_h1).toNatClampNeg) (ms_E σh1 43 (v1_h1).toNatClampNeg)) fun rh5 =>
      if rh5 = 0 then
        ms_g v1_h1 128 <|
        ms_g (ms_I σh1 695) 256 <|
        ms_l (ms_sE σh1 57 ((ms_I σh1 695)).toNatClampNeg (ms_E σh1 42 (v1_h1).toNatClampNeg)) fun σh11 =>
        ms_g v1_h1 128 <|
        ms_g (ms_I σh11 695) 256 <|
        ms_l (ms_sE σh11 58 ((ms_I σh11 695)).toNatClampNeg (ms_E σh11 43 (v1_h1).toNatClampNeg)) fun σh14 =>
        ms_l (ms_sI σh14 695 ((ms_I σh14 695) + (1 : Int32))) fun σh15 =>
        f_X12_notes_J72 n (f_X12_notes_L2 n k2) σh15 v1_h1
      else
        f_X12_notes_J72 n (f_X12_notes_L2 n k2) σh1 v1_h1
def f_X12_notes (n : Nat) (σ : ms_T) : Option ms_T :=
  f_X12_notes_L2 n n σ (0 : Int32)
set_option maxRecDepth 100000 in
set_option maxHeartbeats 4000000 in
theorem m_X12_notes (n : Nat) (Γ : hp_G) (l : Launch) (α : hp_T) (a0 : Nat) (ρ : Nat → Nat) (σ : ms_T) (hM : hm_M α a0 ρ σ)  (res : ms_T) (hf : f_X12_notes n σ = some res) : Met l yX12_notes (hp_ws yX12_notes cX12_notes 2 none) (hp_rm 1 0 0) (hp_Pc Γ α [.ref a0]) (hp_Qv Γ (fun β => mo α β ∧ hm_M β a0 ρ res)) 0 0 (hp_A Γ) := by
  unfold f_X12_notes at hf
  refine hp_start (by decide) ?_
  intro p e s m below meth c C hr hlk B0 hnm
  have C : hp_C Γ p m c cX12_notes 2 s ([.ref a0] : List Value).toArray RX12 := C
  have hx := C.1.1
  have hb := C.1.2.1
  have hown := C.1.2.2.2.1
  have hts := C.1.2.2.2.2
  have B : hp_B Γ mo s α α s.heap [] := ⟨B0.1, B0.2.1, mo_rf⟩
  have hl := lv_entry ([.ref a0]) (n := 2) (Nat.le_of_ble_eq_true rfl)
  show W p l e (hp_rm 1 0 0) s m ([.ref a0] : List Value).toArray below meth c s.heap [] 0 0 (MQ below (hp_Qv Γ (fun β => mo α β ∧ hm_M β a0 ρ res)) ([.ref a0] : List Value).toArray s 0 0 (hp_A Γ)) (entryFrame m ([.ref a0] : List Value).toArray 2)
  rw [lg_entry_eq]
  generalize (lg_sl ([.ref a0]) ++ List.replicate (2 - (lg_sl ([.ref a0])).length) Slot.unset).toArray = ls at hl ⊢
  have hl : lv_has ls 2 [(0, .ref a0)] := hl
  refine lv_iconst (v := 0) hx hb dX12_notes_0 (by decide) (hp_n (n := 1) rfl ?_)
  have J2 : ∀ (k2 : Nat) (αh1 : hp_T) (Hh1 : Heap) (Lh1 : List Loc) (Bh1 : hp_B Γ mo s α αh1 Hh1 Lh1) (σh1 : ms_T) (Mh1 : hm_M αh1 a0 ρ σh1) (v1_h1 : Int32) (ls : Array Slot) (hl : lv_has ls 2 [(0, .ref a0), (1, .int v1_h1)]) (hf : f_X12_notes_L2 n k2 σh1 v1_h1 = some res), W p l e (hp_rm 1 0 0) s m ([.ref a0] : List Value).toArray below meth c Hh1 Lh1 0 0 (MQ below (hp_Qv Γ (fun β => mo α β ∧ hm_M β a0 ρ res)) ([.ref a0] : List Value).toArray s 0 0 (hp_A Γ)) (F0 m 2 ls []) := by
    intro k2
    induction k2 with
    | zero => intro αh1 Hh1 Lh1 Bh1 σh1 Mh1 v1_h1 ls hl hf; rw [f_X12_notes_L2.eq_1] at hf; cases hf
    | succ k2 ih2 =>
      intro αh1 Hh1 Lh1 Bh1 σh1 Mh1 v1_h1 ls hl hf
      rw [f_X12_notes_L2.eq_2] at hf
      refine lv_iload_n hx hb dX12_notes_2 rfl (lv_at hl 1 rfl) (hp_n (n := 3) rfl ?_)
      refine lv_aload_n hx hb dX12_notes_3 rfl (lv_at hl 0 rfl) (hp_n (n := 4) rfl ?_)
      refine m_geti (k := 7) (φ := 657) (pc' := 7) C Bh1 Mh1 fl_X12_139 rfl rfl dX12_notes_4 rfl ?_
      refine lv_icmp_ge (tgt := 78) hx hb dX12_notes_7 (by decide) (fun c2 => ?_) (fun c2 => hp_n (n := 10) rfl ?_)
      ·
        replace hf := ms_iT c2 hf
        cases hf
        exact q_vret C Bh1 hr hlk ⟨Bh1.2.2, Mh1⟩ dX12_notes_78
      ·
        replace hf := ms_iF c2 hf
        refine lv_aload_n hx hb dX12_notes_10 rfl (lv_at hl 0 rfl) (hp_n (n := 11) rfl ?_)
        refine lv_aload_n hx hb dX12_notes_11 rfl (lv_at hl 0 rfl) (hp_n (n := 12) rfl ?_)
        refine m_getr (κ := 42) (k := 4) (pc' := 15) C Bh1 Mh1 fl_X12_16 rfl (by decide) dX12_notes_12 rfl ?_
        refine lv_iload_n hx hb dX12_notes_15 rfl (lv_at hl 1 rfl) (hp_n (n := 16) rfl ?_)
        obtain ⟨g3, hf⟩ := ms_gE hf
        refine m_ial (κ := 42) (φ := 654) (n := 128) (pc' := 17) C Bh1 Mh1 (by decide) (by decide) rfl g3 dX12_notes_16 rfl ?_
        refine lv_aload_n hx hb dX12_notes_17 rfl (lv_at hl 0 rfl) (hp_n (n := 18) rfl ?_)
        refine m_getr (κ := 43) (k := 5) (pc' := 21) C Bh1 Mh1 fl_X12_19 rfl (by decide) dX12_notes_18 rfl ?_
        refine lv_iload_n hx hb dX12_notes_21 rfl (lv_at hl 1 rfl) (hp_n (n := 22) rfl ?_)
        obtain ⟨g4, hf⟩ := ms_gE hf
        refine m_ial (κ := 43) (φ := 655) (n := 128) (pc' := 23) C Bh1 Mh1 (by decide) (by decide) rfl g4 dX12_notes_22 rfl ?_
        obtain ⟨rh5, qh5, hf⟩ := ms_bE hf
        refine m_cp (pc' := 26) Bh1 (hp_runV (As := [.int (ms_E σh1 42 (v1_h1).toNatClampNeg), .int (ms_E σh1 43 (v1_h1).toNatClampNeg)]) (rest := []) C Bh1 (m_X12_had n Γ l αh1 a0 ρ σh1 Mh1 (ms_E σh1 42 (v1_h1).toNatClampNeg) (ms_E σh1 43 (v1_h1).toNatClampNeg) rh5 qh5) lb_X12_had lv_X12_had lk_X12_420 Mh1.1 rfl (by decide) rfl hl.1 rfl (Nat.le_of_ble_eq_true rfl) dX12_notes_23 ⟨Nat.le_refl _, Nat.le_refl _⟩) rfl (fun Hh5 Lh5 Bh5 => ?_)
        have J72 : ∀ (αh6 : hp_T) (Hh6 : Heap) (Lh6 : List Loc) (Bh6 : hp_B Γ mo s α αh6 Hh6 Lh6) (σh6 : ms_T) (Mh6 : hm_M αh6 a0 ρ σh6) (v1_h6 : Int32) (ls : Array Slot) (hl : lv_has ls 2 [(0, .ref a0), (1, .int v1_h6)]) (hf : f_X12_notes_J72 n (f_X12_notes_L2 n k2) σh6 v1_h6 = some res), W p l e (hp_rm 1 0 0) s m ([.ref a0] : List Value).toArray below meth c Hh6 Lh6 0 0 (MQ below (hp_Qv Γ (fun β => mo α β ∧ hm_M β a0 ρ res)) ([.ref a0] : List Value).toArray s 0 0 (hp_A Γ)) (F0 m 72 ls []) := by
          intro αh6 Hh6 Lh6 Bh6 σh6 Mh6 v1_h6 ls hl hf
          unfold f_X12_notes_J72 at hf
          obtain ⟨x7, ex7⟩ : ∃ y : Int32, y = v1_h6 + 1 := ⟨_, rfl⟩
          replace hf := ms_lE ex7 hf
          refine lv_iinc (v := x7) (lv' := [(1, .int x7), (0, .ref a0)]) hx hb dX12_notes_72 hl (k := 1) rfl (by rw [ex7]; rfl) (by decide) rfl (fun ls hl => hp_n (n := 75) rfl ?_)
          refine lv_goto (tgt := 2) hx hb dX12_notes_75 (by decide) ?_
          exact ih2 αh6 Hh6 Lh6 Bh6 σh6 Mh6 x7 ls (lv_sub hl [1, 0] rfl) hf
        refine lv_if_eq (tgt := 32) hx hb dX12_notes_26 (by decide) (fun c8 => ?_) (fun c8 => hp_n (n := 29) rfl ?_)
        ·
          replace hf := ms_iT c8 hf
          refine lv_aload_n hx hb dX12_notes_32 rfl (lv_at hl 0 rfl) (hp_n (n := 33) rfl ?_)
          refine m_getr (κ := 57) (k := 43) (pc' := 36) C Bh5 Mh1 fl_X12_94 rfl (by decide) dX12_notes_33 rfl ?_
          refine lv_aload_n hx hb dX12_notes_36 rfl (lv_at hl 0 rfl) (hp_n (n := 37) rfl ?_)
          refine m_geti (k := 45) (φ := 695) (pc' := 40) C Bh5 Mh1 fl_X12_417 rfl rfl dX12_notes_37 rfl ?_
          refine lv_aload_n hx hb dX12_notes_40 rfl (lv_at hl 0 rfl) (hp_n (n := 41) rfl ?_)
          refine m_getr (κ := 42) (k := 4) (pc' := 44) C Bh5 Mh1 fl_X12_16 rfl (by decide) dX12_notes_41 rfl ?_
          refine lv_iload_n hx hb dX12_notes_44 rfl (lv_at hl 1 rfl) (hp_n (n := 45) rfl ?_)
          obtain ⟨g9, hf⟩ := ms_gE hf
          refine m_ial (κ := 42) (φ := 654) (n := 128) (pc' := 46) C Bh5 Mh1 (by decide) (by decide) rfl g9 dX12_notes_45 rfl ?_
          obtain ⟨g10, hf⟩ := ms_gE hf
          refine m_ias (κ := 57) (φ := 693) (n := 256) (pc' := 47) C Bh5 Mh1 (by decide) (by decide) rfl g10 dX12_notes_46 rfl (fun αh11 Hh11 Lh11 σh11 eh11 Bh11 Mh11 => ?_)
          replace hf := ms_lE eh11 hf
          refine lv_aload_n hx hb dX12_notes_47 rfl (lv_at hl 0 rfl) (hp_n (n := 48) rfl ?_)
          refine m_getr (κ := 58) (k := 44) (pc' := 51) C Bh11 Mh11 fl_X12_97 rfl (by decide) dX12_notes_48 rfl ?_
          refine lv_aload_n hx hb dX12_notes_51 rfl (lv_at hl 0 rfl) (hp_n (n := 52) rfl ?_)
          refine m_geti (k := 45) (φ := 695) (pc' := 55) C Bh11 Mh11 fl_X12_417 rfl rfl dX12_notes_52 rfl ?_
          refine lv_aload_n hx hb dX12_notes_55 rfl (lv_at hl 0 rfl) (hp_n (n := 56) rfl ?_)
          refine m_getr (κ := 43) (k := 5) (pc' := 59) C Bh11 Mh11 fl_X12_19 rfl (by decide) dX12_notes_56 rfl ?_
          refine lv_iload_n hx hb dX12_notes_59 rfl (lv_at hl 1 rfl) (hp_n (n := 60) rfl ?_)
          obtain ⟨g12, hf⟩ := ms_gE hf
          refine m_ial (κ := 43) (φ := 655) (n := 128) (pc' := 61) C Bh11 Mh11 (by decide) (by decide) rfl g12 dX12_notes_60 rfl ?_
          obtain ⟨g13, hf⟩ := ms_gE hf
          refine m_ias (κ := 58) (φ := 694) (n := 256) (pc' := 62) C Bh11 Mh11 (by decide) (by decide) rfl g13 dX12_notes_61 rfl (fun αh14 Hh14 Lh14 σh14 eh14 Bh14 Mh14 => ?_)
          replace hf := ms_lE eh14 hf
          refine lv_aload_n hx hb dX12_notes_62 rfl (lv_at hl 0 rfl) (hp_n (n := 63) rfl ?_)
          refine lv_dup hx hb dX12_notes_63 rfl (hp_n (n := 64) rfl ?_)
          refine m_geti (k := 45) (φ := 695) (pc' := 67) C Bh14 Mh14 fl_X12_417 rfl rfl dX12_notes_64 rfl ?_
          refine lv_iconst (v := 1) hx hb dX12_notes_67 (by decide) (hp_n (n := 68) rfl ?_)
          refine lv_iadd hx hb dX12_notes_68 (hp_n (n := 69) rfl ?_)
          refine m_puti (k := 45) (φ := 695) (pc' := 72) C Bh14 Mh14 fl_X12_417 rfl rfl rfl rfl rfl dX12_notes_69 rfl (fun αh15 Hh15 Lh15 σh15 eh15 Bh15 Mh15 => ?_)
          replace hf := ms_lE eh15 hf
          exact J72 αh15 Hh15 Lh15 Bh15 σh15 Mh15 v1_h1 ls (lv_sub hl [0, 1] rfl) hf
        ·
          replace hf := ms_iF c8 hf
          refine lv_goto (tgt := 72) hx hb dX12_notes_29 (by decide) ?_
          exact J72 αh1 Hh5 Lh5 Bh5 σh1 Mh1 v1_h1 ls (lv_sub hl [0, 1] rfl) hf
  refine lv_istore_n (lv' := [(1, .int (0 : Int32)), (0, .ref a0)]) hx hb dX12_notes_1 rfl hl (by decide) rfl (fun ls hl => hp_n (n := 2) rfl ?_)
  exact J2 n α s.heap [] B σ hM (0 : Int32) ls (lv_sub hl [1, 0] rfl) hf
def f_X12_kept_J92 (n : Nat) (rec55 : ms_T → Int32 → Int32 → Option (Int32 × ms_T)) (σh14 : ms_T) (v5_h14 : Int32) (w0_h14 : Int32) (w1_h14 : Int32) : Option (Int32 × ms_T) :=
  ms_l ((w1_h14 + w0_h14)) fun x15 =>
  ms_l (v5_h14 + 1) fun x16 =>
  rec55 σh14 x15 x16
def f_X12_kept_L55 (n : Nat) : Nat → ms_T → Int32 → Int32 → Option (Int32 × ms_T)
  | 0, _, _, _ => none
  | k55 + 1, σh9, v4_h9, v5_h9 =>
    if (ms_I σh9 657) ≤ v5_h9 then
      some (v4_h9, σh9)
    else
      ms_g v5_h9 128 <|
      ms_g v5_h9 128 <|
      ms_b (f_X12_had n σh9 (ms_E σh9 42 (v5_h9).toNatClampNeg) (ms_E σh9 43 (v5_h9).toNatClampNeg)) fun rh13 =>
      if rh13 = 0 then
        f_X12_kept_J92 n (f_X12_kept_L55 n k55) σh9 v5_h9 (0 : Int32) v4_h9
      else
        f_X12_kept_J92 n (f_X12_kept_L55 n k55) σh9 v5_h9 (1 : Int32) v4_h9
def f_X12_kept_J20 (n : Nat) (σh2 : ms_T) (v1_h2 : Int32) (v2_h2 : Int32) (v3_h2 : Int32) (w0_h2 : Int32) : Option (Int32 × ms_T) :=
  ms_c (f_X12_is n σh2 w0_h2) fun rh3 σh3 =>
  if rh3 = 0 then
    some ((-1 : Int32), σh3)
  else
    ms_l (ms_sI σh3 695 (0 : Int32)) fun σh5 =>
    ms_b (f_X12_inclusion n σh5 v1_h2 v2_h2) fun σh6 =>
    ms_b (f_X12_notes n σh6) fun σh7 =>
    ms_b (f_X12_inclusion n σh7 v1_h2 v3_h2) fun σh8 =>
    f_X12_kept_L55 n n σh8 (0 : Int32) (0 : Int32)
def f_X12_kept_J19 (n : Nat) (σh18 : ms_T) (v1_h18 : Int32) (v2_h18 : Int32) (v3_h18 : Int32) : Option (Int32 × ms_T) :=
  f_X12_kept_J20 n σh18 v1_h18 v2_h18 v3_h18 (1 : Int32)
def f_X12_kept (n : Nat) (σ : ms_T) (a1 : Int32) (a2 : Int32) (a3 : Int32) : Option (Int32 × ms_T) :=
  ms_b (f_X12_isThing n σ a1 a2) fun rh1 =>
  if rh1 = 0 then
    f_X12_kept_J19 n σ a1 a2 a3
  else
    if a3 < a2 then
      f_X12_kept_J19 n σ a1 a2 a3
    else
      f_X12_kept_J20 n σ a1 a2 a3 (0 : Int32)
set_option maxRecDepth 100000 in
set_option maxHeartbeats 4000000 in
theorem m_X12_kept (n : Nat) (Γ : hp_G) (l : Launch) (α : hp_T) (a0 : Nat) (ρ : Nat → Nat) (σ : ms_T) (hM : hm_M α a0 ρ σ) (a1 : Int32) (a2 : Int32) (a3 : Int32) (res : (Int32 × ms_T)) (hf : f_X12_kept n σ a1 a2 a3 = some res) : Met l yX12_kept (hp_ws yX12_kept cX12_kept 6 (some .int)) (hp_rm 42 0 0) (hp_Pc Γ α [.ref a0, .int a1, .int a2, .int a3]) (hp_Qi Γ (fun r β => r = res.1 ∧ mo α β ∧ hm_M β a0 ρ res.2)) 0 0 (hp_A Γ) := by
  unfold f_X12_kept at hf
  refine hp_start (by decide) ?_
  intro p e s m below meth c C hr hlk B0 hnm
  have C : hp_C Γ p m c cX12_kept 6 s ([.ref a0, .int a1, .int a2, .int a3] : List Value).toArray RX12 := C
  have hx := C.1.1
  have hb := C.1.2.1
  have hown := C.1.2.2.2.1
  have hts := C.1.2.2.2.2
  have B : hp_B Γ mo s α α s.heap [] := ⟨B0.1, B0.2.1, mo_rf⟩
  have hl := lv_entry ([.ref a0, .int a1, .int a2, .int a3]) (n := 6) (Nat.le_of_ble_eq_true rfl)
  show W p l e (hp_rm 42 0 0) s m ([.ref a0, .int a1, .int a2, .int a3] : List Value).toArray below meth c s.heap [] 0 0 (MQ below (hp_Qi Γ (fun r β => r = res.1 ∧ mo α β ∧ hm_M β a0 ρ res.2)) ([.ref a0, .int a1, .int a2, .int a3] : List Value).toArray s 0 0 (hp_A Γ)) (entryFrame m ([.ref a0, .int a1, .int a2, .int a3] : List Value).toArray 6)
  rw [lg_entry_eq]
  generalize (lg_sl ([.ref a0, .int a1, .int a2, .int a3]) ++ List.replicate (6 - (lg_sl ([.ref a0, .int a1, .int a2, .int a3])).length) Slot.unset).toArray = ls at hl ⊢
  have hl : lv_has ls 6 [(0, .ref a0), (1, .int a1), (2, .int a2), (3, .int a3)] := hl
  refine lv_aload_n hx hb dX12_kept_0 rfl (lv_at hl 0 rfl) (hp_n (n := 1) rfl ?_)
  refine lv_aload_n hx hb dX12_kept_1 rfl (lv_at hl 0 rfl) (hp_n (n := 2) rfl ?_)
  refine lv_iload_n hx hb dX12_kept_2 rfl (lv_at hl 1 rfl) (hp_n (n := 3) rfl ?_)
  refine lv_iload_n hx hb dX12_kept_3 rfl (lv_at hl 2 rfl) (hp_n (n := 4) rfl ?_)
  obtain ⟨rh1, qh1, hf⟩ := ms_bE hf
  refine m_cp (pc' := 7) B (hp_runV (As := [.int a1, .int a2]) (rest := [.ref a0]) C B (m_X12_isThing n Γ l α a0 ρ σ hM a1 a2 rh1 qh1) lb_X12_isThing lv_X12_isThing lk_X12_381 hM.1 rfl (by decide) rfl hl.1 rfl (Nat.le_of_ble_eq_true rfl) dX12_kept_4 ⟨Nat.le_refl _, Nat.le_refl _⟩) rfl (fun Hh1 Lh1 Bh1 => ?_)
  have J20 : ∀ (αh2 : hp_T) (Hh2 : Heap) (Lh2 : List Loc) (Bh2 : hp_B Γ mo s α αh2 Hh2 Lh2) (σh2 : ms_T) (Mh2 : hm_M αh2 a0 ρ σh2) (v1_h2 : Int32) (v2_h2 : Int32) (v3_h2 : Int32) (w0_h2 : Int32) (ls : Array Slot) (hl : lv_has ls 6 [(0, .ref a0), (1, .int v1_h2), (2, .int v2_h2), (3, .int v3_h2)]) (hf : f_X12_kept_J20 n σh2 v1_h2 v2_h2 v3_h2 w0_h2 = some res), W p l e (hp_rm 42 0 0) s m ([.ref a0, .int a1, .int a2, .int a3] : List Value).toArray below meth c Hh2 Lh2 0 0 (MQ below (hp_Qi Γ (fun r β => r = res.1 ∧ mo α β ∧ hm_M β a0 ρ res.2)) ([.ref a0, .int a1, .int a2, .int a3] : List Value).toArray s 0 0 (hp_A Γ)) (F0 m 20 ls [.int w0_h2, .ref a0]) := by
    intro αh2 Hh2 Lh2 Bh2 σh2 Mh2 v1_h2 v2_h2 v3_h2 w0_h2 ls hl hf
    unfold f_X12_kept_J20 at hf
    obtain ⟨rh3, σh3, qh3, hf⟩ := ms_cE hf
    refine m_ci (pc' := 23) (a := a0) (ρ := ρ) Bh2 (hp_runV (As := [.int w0_h2]) (rest := []) C Bh2 (m_X12_is n Γ l αh2 a0 ρ σh2 Mh2 w0_h2 (rh3, σh3) qh3) lb_X12_is lv_X12_is lk_X12_309 Mh2.1 rfl (by decide) rfl hl.1 rfl (Nat.le_of_ble_eq_true rfl) dX12_kept_20 ⟨Nat.le_refl _, Nat.le_refl _⟩) rfl (fun αh3 Hh3 Lh3 Bh3 Mh3 => ?_)
    refine lv_if_ne (tgt := 28) hx hb dX12_kept_23 (by decide) (fun c4 => ?_) (fun c4 => hp_n (n := 26) rfl ?_)
    ·
      replace hf := ms_iF c4 hf
      refine lv_aload_n hx hb dX12_kept_28 rfl (lv_at hl 0 rfl) (hp_n (n := 29) rfl ?_)
      refine lv_iconst (v := 0) hx hb dX12_kept_29 (by decide) (hp_n (n := 30) rfl ?_)
      refine m_puti (k := 45) (φ := 695) (pc' := 33) C Bh3 Mh3 fl_X12_417 rfl rfl rfl rfl rfl dX12_kept_30 rfl (fun αh5 Hh5 Lh5 σh5 eh5 Bh5 Mh5 => ?_)
      replace hf := ms_lE eh5 hf
      refine lv_aload_n hx hb dX12_kept_33 rfl (lv_at hl 0 rfl) (hp_n (n := 34) rfl ?_)
      refine lv_iload_n hx hb dX12_kept_34 rfl (lv_at hl 1 rfl) (hp_n (n := 35) rfl ?_)
      refine lv_iload_n hx hb dX12_kept_35 rfl (lv_at hl 2 rfl) (hp_n (n := 36) rfl ?_)
      obtain ⟨σh6, qh6, hf⟩ := ms_bE hf
      refine m_cv (pc' := 39) (a := a0) (ρ := ρ) Bh5 (hp_runV (As := [.int v1_h2, .int v2_h2]) (rest := []) C Bh5 (m_X12_inclusion n Γ l αh5 a0 ρ σh5 Mh5 v1_h2 v2_h2 σh6 qh6) lb_X12_inclusion lv_X12_inclusion lk_X12_171 Mh5.1 rfl (by decide) rfl hl.1 rfl (Nat.le_of_ble_eq_true rfl) dX12_kept_36 ⟨Nat.le_refl _, Nat.le_refl _⟩) rfl (fun αh6 Hh6 Lh6 Bh6 Mh6 => ?_)
      refine lv_aload_n hx hb dX12_kept_39 rfl (lv_at hl 0 rfl) (hp_n (n := 40) rfl ?_)
      obtain ⟨σh7, qh7, hf⟩ := ms_bE hf
      refine m_cv (pc' := 43) (a := a0) (ρ := ρ) Bh6 (hp_runV (As := []) (rest := []) C Bh6 (m_X12_notes n Γ l αh6 a0 ρ σh6 Mh6  σh7 qh7) lb_X12_notes lv_X12_notes lk_X12_423 Mh6.1 rfl (by decide) rfl hl.1 rfl (Nat.le_of_ble_eq_true rfl) dX12_kept_40 ⟨Nat.le_refl _, Nat.le_refl _⟩) rfl (fun αh7 Hh7 Lh7 Bh7 Mh7 => ?_)
      refine lv_aload_n hx hb dX12_kept_43 rfl (lv_at hl 0 rfl) (hp_n (n := 44) rfl ?_)
      refine lv_iload_n hx hb dX12_kept_44 rfl (lv_at hl 1 rfl) (hp_n (n := 45) rfl ?_)
      refine lv_iload_n hx hb dX12_kept_45 rfl (lv_at hl 3 rfl) (hp_n (n := 46) rfl ?_)
      obtain ⟨σh8, qh8, hf⟩ := ms_bE hf
      refine m_cv (pc' := 49) (a := a0) (ρ := ρ) Bh7 (hp_runV (As := [.int v1_h2, .int v3_h2]) (rest := []) C Bh7 (m_X12_inclusion n Γ l αh7 a0 ρ σh7 Mh7 v1_h2 v3_h2 σh8 qh8) lb_X12_inclusion lv_X12_inclusion lk_X12_171 Mh7.1 rfl (by decide) rfl hl.1 rfl (Nat.le_of_ble_eq_true rfl) dX12_kept_46 ⟨Nat.le_refl _, Nat.le_refl _⟩) rfl (fun αh8 Hh8 Lh8 Bh8 Mh8 => ?_)
      refine lv_iconst (v := 0) hx hb dX12_kept_49 (by decide) (hp_n (n := 50) rfl ?_)
      refine lv_istore (lv' := [(4, .int (0 : Int32)), (0, .ref a0), (1, .int v1_h2), (2, .int v2_h2), (3, .int v3_h2)]) hx hb dX12_kept_50 hl (by decide) rfl (fun ls hl => hp_n (n := 52) rfl ?_)
      refine lv_iconst (v := 0) hx hb dX12_kept_52 (by decide) (hp_n (n := 53) rfl ?_)
      have J55 : ∀ (k55 : Nat) (αh9 : hp_T) (Hh9 : Heap) (Lh9 : List Loc) (Bh9 : hp_B Γ mo s α αh9 Hh9 Lh9) (σh9 : ms_T) (Mh9 : hm_M αh9 a0 ρ σh9) (v4_h9 : Int32) (v5_h9 : Int32) (ls : Array Slot) (hl : lv_has ls 6 [(0, .ref a0), (4, .int v4_h9), (5, .int v5_h9)]) (hf : f_X12_kept_L55 n k55 σh9 v4_h9 v5_h9 = some res), W p l e (hp_rm 42 0 0) s m ([.ref a0, .int a1, .int a2, .int a3] : List Value).toArray below meth c Hh9 Lh9 0 0 (MQ below (hp_Qi Γ (fun r β => r = res.1 ∧ mo α β ∧ hm_M β a0 ρ res.2)) ([.ref a0, .int a1, .int a2, .int a3] : List Value).toArray s 0 0 (hp_A Γ)) (F0 m 55 ls []) := by
        intro k55
        induction k55 with
        | zero => intro αh9 Hh9 Lh9 Bh9 σh9 Mh9 v4_h9 v5_h9 ls hl hf; rw [f_X12_kept_L55.eq_1] at hf; cases hf
        | succ k55 ih55 =>
          intro αh9 Hh9 Lh9 Bh9 σh9 Mh9 v4_h9 v5_h9 ls hl hf
          rw [f_X12_kept_L55.eq_2] at hf
          refine lv_iload hx hb dX12_kept_55 (lv_at hl 2 rfl) (hp_n (n := 57) rfl ?_)
          refine lv_aload_n hx hb dX12_kept_57 rfl (lv_at hl 0 rfl) (hp_n (n := 58) rfl ?_)
          refine m_geti (k := 7) (φ := 657) (pc' := 61) C Bh9 Mh9 fl_X12_139 rfl rfl dX12_kept_58 rfl ?_
          refine lv_icmp_ge (tgt := 101) hx hb dX12_kept_61 (by decide) (fun c10 => ?_) (fun c10 => hp_n (n := 64) rfl ?_)
          ·
            replace hf := ms_iT c10 hf
            refine lv_iload hx hb dX12_kept_101 (lv_at hl 1 rfl) (hp_n (n := 103) rfl ?_)
            cases hf
            exact q_iret C Bh9 hr hlk ⟨rfl, Bh9.2.2, Mh9⟩ dX12_kept_103
          ·
            replace hf := ms_iF c10 hf
            refine lv_iload hx hb dX12_kept_64 (lv_at hl 1 rfl) (hp_n (n := 66) rfl ?_)
            refine lv_aload_n hx hb dX12_kept_66 rfl (lv_at hl 0 rfl) (hp_n (n := 67) rfl ?_)
            refine lv_aload_n hx hb dX12_kept_67 rfl (lv_at hl 0 rfl) (hp_n (n := 68) rfl ?_)
            refine m_getr (κ := 42) (k := 4) (pc' := 71) C Bh9 Mh9 fl_X12_16 rfl (by decide) dX12_kept_68 rfl ?_
            refine lv_iload hx hb dX12_kept_71 (lv_at hl 2 rfl) (hp_n (n := 73) rfl ?_)
            obtain ⟨g11, hf⟩ := ms_gE hf
            refine m_ial (κ := 42) (φ := 654) (n := 128) (pc' := 74) C Bh9 Mh9 (by decide) (by decide) rfl g11 dX12_kept_73 rfl ?_
            refine lv_aload_n hx hb dX12_kept_74 rfl (lv_at hl 0 rfl) (hp_n (n := 75) rfl ?_)
            refine m_getr (κ := 43) (k := 5) (pc' := 78) C Bh9 Mh9 fl_X12_19 rfl (by decide) dX12_kept_75 rfl ?_
            refine lv_iload hx hb dX12_kept_78 (lv_at hl 2 rfl) (hp_n (n := 80) rfl ?_)
            obtain ⟨g12, hf⟩ := ms_gE hf
            refine m_ial (κ := 43) (φ := 655) (n := 128) (pc' := 81) C Bh9 Mh9 (by decide) (by decide) rfl g12 dX12_kept_80 rfl ?_
            obtain ⟨rh13, qh13, hf⟩ := ms_bE hf
            refine m_cp (pc' := 84) Bh9 (hp_runV (As := [.int (ms_E σh9 42 (v5_h9).toNatClampNeg), .int (ms_E σh9 43 (v5_h9).toNatClampNeg)]) (rest := [.int v4_h9]) C Bh9 (m_X12_had n Γ l αh9 a0 ρ σh9 Mh9 (ms_E σh9 42 (v5_h9).toNatClampNeg) (ms_E σh9 43 (v5_h9).toNatClampNeg) rh13 qh13) lb_X12_had lv_X12_had lk_X12_420 Mh9.1 rfl (by decide) rfl hl.1 rfl (Nat.le_of_ble_eq_true rfl) dX12_kept_81 ⟨Nat.le_refl _, Nat.le_refl _⟩) rfl (fun Hh13 Lh13 Bh13 => ?_)
            have J92 : ∀ (αh14 : hp_T) (Hh14 : Heap) (Lh14 : List Loc) (Bh14 : hp_B Γ mo s α αh14 Hh14 Lh14) (σh14 : ms_T) (Mh14 : hm_M αh14 a0 ρ σh14) (v5_h14 : Int32) (w0_h14 : Int32) (w1_h14 : Int32) (ls : Array Slot) (hl : lv_has ls 6 [(0, .ref a0), (5, .int v5_h14)]) (hf : f_X12_kept_J92 n (f_X12_kept_L55 n k55) σh14 v5_h14 w0_h14 w1_h14 = some res), W p l e (hp_rm 42 0 0) s m ([.ref a0, .int a1, .int a2, .int a3] : List Value).toArray below meth c Hh14 Lh14 0 0 (MQ below (hp_Qi Γ (fun r β => r = res.1 ∧ mo α β ∧ hm_M β a0 ρ res.2)) ([.ref a0, .int a1, .int a2, .int a3] : List Value).toArray s 0 0 (hp_A Γ)) (F0 m 92 ls [.int w0_h14, .int w1_h14]) := by
              intro αh14 Hh14 Lh14 Bh14 σh14 Mh14 v5_h14 w0_h14 w1_h14 ls hl hf
              unfold f_X12_kept_J92 at hf
              refine lv_iadd hx hb dX12_kept_92 (hp_n (n := 93) rfl ?_)
              refine lv_topi (fun x15 ex15 => ?_)
              replace hf := ms_lE ex15 hf
              refine lv_istore (lv' := [(4, .int x15), (0, .ref a0), (5, .int v5_h14)]) hx hb dX12_kept_93 hl (by decide) rfl (fun ls hl => hp_n (n := 95) rfl ?_)
              obtain ⟨x16, ex16⟩ : ∃ y : Int32, y = v5_h14 + 1 := ⟨_, rfl⟩
              replace hf := ms_lE ex16 hf
              refine lv_iinc (v := x16) (lv' := [(5, .int x16), (4, .int x15), (0, .ref a0)]) hx hb dX12_kept_95 hl (k := 2) rfl (by rw [ex16]; rfl) (by decide) rfl (fun ls hl => hp_n (n := 98) rfl ?_)
              refine lv_goto (tgt := 55) hx hb dX12_kept_98 (by decide) ?_
              exact ih55 αh14 Hh14 Lh14 Bh14 σh14 Mh14 x15 x16 ls (lv_sub hl [2, 1, 0] rfl) hf
            refine lv_if_eq (tgt := 91) hx hb dX12_kept_84 (by decide) (fun c17 => ?_) (fun c17 => hp_n (n := 87) rfl ?_)
            ·
              replace hf := ms_iT c17 hf
              refine lv_iconst (v := 0) hx hb dX12_kept_91 (by decide) (hp_n (n := 92) rfl ?_)
              exact J92 αh9 Hh13 Lh13 Bh13 σh9 Mh9 v5_h9 (0 : Int32) v4_h9 ls (lv_sub hl [0, 2] rfl) hf
            ·
              replace hf := ms_iF c17 hf
              refine lv_iconst (v := 1) hx hb dX12_kept_87 (by decide) (hp_n (n := 88) rfl ?_)
              refine lv_goto (tgt := 92) hx hb dX12_kept_88 (by decide) ?_
              exact J92 αh9 Hh13 Lh13 Bh13 σh9 Mh9 v5_h9 (1 : Int32) v4_h9 ls (lv_sub hl [0, 2] rfl) hf
      refine lv_istore (lv' := [(5, .int (0 : Int32)), (4, .int (0 : Int32)), (0, .ref a0), (1, .int v1_h2), (2, .int v2_h2), (3, .int v3_h2)]) hx hb dX12_kept_53 hl (by decide) rfl (fun ls hl => hp_n (n := 55) rfl ?_)
      exact J55 n αh8 Hh8 Lh8 Bh8 σh8 Mh8 (0 : Int32) (0 : Int32) ls (lv_sub hl [2, 1, 0] rfl) hf
    ·
      replace hf := ms_iT c4 hf
      refine lv_iconst (v := (-1)) hx hb dX12_kept_26 (by decide) (hp_n (n := 27) rfl ?_)
      cases hf
      exact q_iret C Bh3 hr hlk ⟨rfl, Bh3.2.2, Mh3⟩ dX12_kept_27
  have J19 : ∀ (αh18 : hp_T) (Hh18 : Heap) (Lh18 : List Loc) (Bh18 : hp_B Γ mo s α αh18 Hh18 Lh18) (σh18 : ms_T) (Mh18 : hm_M αh18 a0 ρ σh18) (v1_h18 : Int32) (v2_h18 : Int32) (v3_h18 : Int32) (ls : Array Slot) (hl : lv_has ls 6 [(0, .ref a0), (1, .int v1_h18), (2, .int v2_h18), (3, .int v3_h18)]) (hf : f_X12_kept_J19 n σh18 v1_h18 v2_h18 v3_h18 = some res), W p l e (hp_rm 42 0 0) s m ([.ref a0, .int a1, .int a2, .int a3] : List Value).toArray below meth c Hh18 Lh18 0 0 (MQ below (hp_Qi Γ (fun r β => r = res.1 ∧ mo α β ∧ hm_M β a0 ρ res.2)) ([.ref a0, .int a1, .int a2, .int a3] : List Value).toArray s 0 0 (hp_A Γ)) (F0 m 19 ls [.ref a0]) := by
    intro αh18 Hh18 Lh18 Bh18 σh18 Mh18 v1_h18 v2_h18 v3_h18 ls hl hf
    unfold f_X12_kept_J19 at hf
    refine lv_iconst (v := 1) hx hb dX12_kept_19 (by decide) (hp_n (n := 20) rfl ?_)
    exact J20 αh18 Hh18 Lh18 Bh18 σh18 Mh18 v1_h18 v2_h18 v3_h18 (1 : Int32) ls (lv_sub hl [0, 1, 2, 3] rfl) hf
  refine lv_if_eq (tgt := 19) hx hb dX12_kept_7 (by decide) (fun c19 => ?_) (fun c19 => hp_n (n := 10) rfl ?_)
  ·
    replace hf := ms_iT c19 hf
    exact J19 α Hh1 Lh1 Bh1 σ hM a1 a2 a3 ls (lv_sub hl [0, 1, 2, 3] rfl) hf
  ·
    replace hf := ms_iF c19 hf
    refine lv_iload_n hx hb dX12_kept_10 rfl (lv_at hl 3 rfl) (hp_n (n := 11) rfl ?_)
    refine lv_iload_n hx hb dX12_kept_11 rfl (lv_at hl 2 rfl) (hp_n (n := 12) rfl ?_)
    refine lv_icmp_lt (tgt := 19) hx hb dX12_kept_12 (by decide) (fun c20 => ?_) (fun c20 => hp_n (n := 15) rfl ?_)
    ·
      replace hf := ms_iT c20 hf
      exact J19 α Hh1 Lh1 Bh1 σ hM a1 a2 a3 ls (lv_sub hl [0, 1, 2, 3] rfl) hf
    ·
      replace hf := ms_iF c20 hf
      refine lv_iconst (v := 0) hx hb dX12_kept_15 (by decide) (hp_n (n := 16) rfl ?_)
      refine lv_goto (tgt := 20) hx hb dX12_kept_16 (by decide) ?_
      exact J20 α Hh1 Lh1 Bh1 σ hM a1 a2 a3 (0 : Int32) ls (lv_sub hl [0, 1, 2, 3] rfl) hf
def f_X12_sick_J89 (n : Nat) (rec56 : ms_T → Int32 → Int32 → Int32 → Option (Int32 × ms_T)) (σh12 : ms_T) (v1_h12 : Int32) (v3_h12 : Int32) (w0_h12 : Int32) (w1_h12 : Int32) : Option (Int32 × ms_T) :=
  ms_l ((w1_h12 ||| w0_h12)) fun x13 =>
  ms_l (v3_h12 + 1) fun x14 =>
  rec56 σh12 v1_h12 x13 x14
def f_X12_sick_L56 (n : Nat) : Nat → ms_T → Int32 → Int32 → Int32 → Option (Int32 × ms_T)
  | 0, _, _, _, _ => none
  | k56 + 1, σh8, v1_h8, v2_h8, v3_h8 =>
    if (ms_I σh8 657) ≤ v3_h8 then
      some (v2_h8, σh8)
    else
      ms_g v3_h8 128 <|
      ms_b (f_X12_froze n σh8 v1_h8 ((4 : Int32) + v3_h8)) fun rh11 =>
      if (ms_E σh8 44 (v3_h8).toNatClampNeg) = rh11 then
        f_X12_sick_J89 n (f_X12_sick_L56 n k56) σh8 v1_h8 v3_h8 (0 : Int32) v2_h8
      else
        f_X12_sick_J89 n (f_X12_sick_L56 n k56) σh8 v1_h8 v3_h8 ((1 : Int32) <<< (v3_h8 &&& 31)) v2_h8
def f_X12_sick_J24 (n : Nat) (σh1 : ms_T) (v1_h1 : Int32) (w0_h1 : Int32) : Option (Int32 × ms_T) :=
  ms_c (f_X12_is n σh1 w0_h1) fun rh2 σh2 =>
  if rh2 = 0 then
    some ((-1 : Int32), σh2)
  else
    ms_b (f_X12_froze n σh2 v1_h1 (1 : Int32)) fun rh4 =>
    ms_b (f_X12_peaksOf n σh2 rh4) fun σh5 =>
    ms_b (f_X12_froze n σh5 v1_h1 (0 : Int32)) fun rh6 =>
    ms_b (f_X12_fetches n σh5 rh6) fun σh7 =>
    f_X12_sick_L56 n n σh7 v1_h1 (0 : Int32) (0 : Int32)
def f_X12_sick (n : Nat) (σ : ms_T) (a1 : Int32) : Option (Int32 × ms_T) :=
  if 0 ≤ a1 then
    ms_g (3 : Int32) 1980 <|
    if a1 < (ms_E σ 40 ((3 : Int32)).toNatClampNeg) then
      f_X12_sick_J24 n σ a1 (0 : Int32)
    else
      f_X12_sick_J24 n σ a1 (5 : Int32)
  else
    f_X12_sick_J24 n σ a1 (1 : Int32)
set_option maxRecDepth 100000 in
set_option maxHeartbeats 4000000 in
theorem m_X12_sick (n : Nat) (Γ : hp_G) (l : Launch) (α : hp_T) (a0 : Nat) (ρ : Nat → Nat) (σ : ms_T) (hM : hm_M α a0 ρ σ) (a1 : Int32) (res : (Int32 × ms_T)) (hf : f_X12_sick n σ a1 = some res) : Met l yX12_sick (hp_ws yX12_sick cX12_sick 4 (some .int)) (hp_rm 43 0 0) (hp_Pc Γ α [.ref a0, .int a1]) (hp_Qi Γ (fun r β => r = res.1 ∧ mo α β ∧ hm_M β a0 ρ res.2)) 0 0 (hp_A Γ) := by
  unfold f_X12_sick at hf
  refine hp_start (by decide) ?_
  intro p e s m below meth c C hr hlk B0 hnm
  have C : hp_C Γ p m c cX12_sick 4 s ([.ref a0, .int a1] : List Value).toArray RX12 := C
  have hx := C.1.1
  have hb := C.1.2.1
  have hown := C.1.2.2.2.1
  have hts := C.1.2.2.2.2
  have B : hp_B Γ mo s α α s.heap [] := ⟨B0.1, B0.2.1, mo_rf⟩
  have hl := lv_entry ([.ref a0, .int a1]) (n := 4) (Nat.le_of_ble_eq_true rfl)
  show W p l e (hp_rm 43 0 0) s m ([.ref a0, .int a1] : List Value).toArray below meth c s.heap [] 0 0 (MQ below (hp_Qi Γ (fun r β => r = res.1 ∧ mo α β ∧ hm_M β a0 ρ res.2)) ([.ref a0, .int a1] : List Value).toArray s 0 0 (hp_A Γ)) (entryFrame m ([.ref a0, .int a1] : List Value).toArray 4)
  rw [lg_entry_eq]
  generalize (lg_sl ([.ref a0, .int a1]) ++ List.replicate (4 - (lg_sl ([.ref a0, .int a1])).length) Slot.unset).toArray = ls at hl ⊢
  have hl : lv_has ls 4 [(0, .ref a0), (1, .int a1)] := hl
  refine lv_aload_n hx hb dX12_sick_0 rfl (lv_at hl 0 rfl) (hp_n (n := 1) rfl ?_)
  refine lv_iload_n hx hb dX12_sick_1 rfl (lv_at hl 1 rfl) (hp_n (n := 2) rfl ?_)
  have J24 : ∀ (αh1 : hp_T) (Hh1 : Heap) (Lh1 : List Loc) (Bh1 : hp_B Γ mo s α αh1 Hh1 Lh1) (σh1 : ms_T) (Mh1 : hm_M αh1 a0 ρ σh1) (v1_h1 : Int32) (w0_h1 : Int32) (ls : Array Slot) (hl : lv_has ls 4 [(0, .ref a0), (1, .int v1_h1)]) (hf : f_X12_sick_J24 n σh1 v1_h1 w0_h1 = some res), W p l e (hp_rm 43 0 0) s m ([.ref a0, .int a1] : List Value).toArray below meth c Hh1 Lh1 0 0 (MQ below (hp_Qi Γ (fun r β => r = res.1 ∧ mo α β ∧ hm_M β a0 ρ res.2)) ([.ref a0, .int a1] : List Value).toArray s 0 0 (hp_A Γ)) (F0 m 24 ls [.int w0_h1, .ref a0]) := by
    intro αh1 Hh1 Lh1 Bh1 σh1 Mh1 v1_h1 w0_h1 ls hl hf
    unfold f_X12_sick_J24 at hf
    obtain ⟨rh2, σh2, qh2, hf⟩ := ms_cE hf
    refine m_ci (pc' := 27) (a := a0) (ρ := ρ) Bh1 (hp_runV (As := [.int w0_h1]) (rest := []) C Bh1 (m_X12_is n Γ l αh1 a0 ρ σh1 Mh1 w0_h1 (rh2, σh2) qh2) lb_X12_is lv_X12_is lk_X12_309 Mh1.1 rfl (by decide) rfl hl.1 rfl (Nat.le_of_ble_eq_true rfl) dX12_sick_24 ⟨Nat.le_refl _, Nat.le_refl _⟩) rfl (fun αh2 Hh2 Lh2 Bh2 Mh2 => ?_)
    refine lv_if_ne (tgt := 32) hx hb dX12_sick_27 (by decide) (fun c3 => ?_) (fun c3 => hp_n (n := 30) rfl ?_)
    ·
      replace hf := ms_iF c3 hf
      refine lv_aload_n hx hb dX12_sick_32 rfl (lv_at hl 0 rfl) (hp_n (n := 33) rfl ?_)
      refine lv_aload_n hx hb dX12_sick_33 rfl (lv_at hl 0 rfl) (hp_n (n := 34) rfl ?_)
      refine lv_iload_n hx hb dX12_sick_34 rfl (lv_at hl 1 rfl) (hp_n (n := 35) rfl ?_)
      refine lv_iconst (v := 1) hx hb dX12_sick_35 (by decide) (hp_n (n := 36) rfl ?_)
      obtain ⟨rh4, qh4, hf⟩ := ms_bE hf
      refine m_cp (pc' := 39) Bh2 (hp_runV (As := [.int v1_h1, .int (1 : Int32)]) (rest := [.ref a0]) C Bh2 (m_X12_froze n Γ l αh2 a0 ρ σh2 Mh2 v1_h1 (1 : Int32) rh4 qh4) lb_X12_froze lv_X12_froze lk_X12_350 Mh2.1 rfl (by decide) rfl hl.1 rfl (Nat.le_of_ble_eq_true rfl) dX12_sick_36 ⟨Nat.le_refl _, Nat.le_refl _⟩) rfl (fun Hh4 Lh4 Bh4 => ?_)
      obtain ⟨σh5, qh5, hf⟩ := ms_bE hf
      refine m_cv (pc' := 42) (a := a0) (ρ := ρ) Bh4 (hp_runV (As := [.int rh4]) (rest := []) C Bh4 (m_X12_peaksOf n Γ l αh2 a0 ρ σh2 Mh2 rh4 σh5 qh5) lb_X12_peaksOf lv_X12_peaksOf lk_X12_218 Mh2.1 rfl (by decide) rfl hl.1 rfl (Nat.le_of_ble_eq_true rfl) dX12_sick_39 ⟨Nat.le_refl _, Nat.le_refl _⟩) rfl (fun αh5 Hh5 Lh5 Bh5 Mh5 => ?_)
      refine lv_aload_n hx hb dX12_sick_42 rfl (lv_at hl 0 rfl) (hp_n (n := 43) rfl ?_)
      refine lv_aload_n hx hb dX12_sick_43 rfl (lv_at hl 0 rfl) (hp_n (n := 44) rfl ?_)
      refine lv_iload_n hx hb dX12_sick_44 rfl (lv_at hl 1 rfl) (hp_n (n := 45) rfl ?_)
      refine lv_iconst (v := 0) hx hb dX12_sick_45 (by decide) (hp_n (n := 46) rfl ?_)
      obtain ⟨rh6, qh6, hf⟩ := ms_bE hf
      refine m_cp (pc' := 49) Bh5 (hp_runV (As := [.int v1_h1, .int (0 : Int32)]) (rest := [.ref a0]) C Bh5 (m_X12_froze n Γ l αh5 a0 ρ σh5 Mh5 v1_h1 (0 : Int32) rh6 qh6) lb_X12_froze lv_X12_froze lk_X12_350 Mh5.1 rfl (by decide) rfl hl.1 rfl (Nat.le_of_ble_eq_true rfl) dX12_sick_46 ⟨Nat.le_refl _, Nat.le_refl _⟩) rfl (fun Hh6 Lh6 Bh6 => ?_)
      obtain ⟨σh7, qh7, hf⟩ := ms_bE hf
      refine m_cv (pc' := 52) (a := a0) (ρ := ρ) Bh6 (hp_runV (As := [.int rh6]) (rest := []) C Bh6 (m_X12_fetches n Γ l αh5 a0 ρ σh5 Mh5 rh6 σh7 qh7) lb_X12_fetches lv_X12_fetches lk_X12_161 Mh5.1 rfl (by decide) rfl hl.1 rfl (Nat.le_of_ble_eq_true rfl) dX12_sick_49 ⟨Nat.le_refl _, Nat.le_refl _⟩) rfl (fun αh7 Hh7 Lh7 Bh7 Mh7 => ?_)
      refine lv_iconst (v := 0) hx hb dX12_sick_52 (by decide) (hp_n (n := 53) rfl ?_)
      refine lv_istore_n (lv' := [(2, .int (0 : Int32)), (0, .ref a0), (1, .int v1_h1)]) hx hb dX12_sick_53 rfl hl (by decide) rfl (fun ls hl => hp_n (n := 54) rfl ?_)
      refine lv_iconst (v := 0) hx hb dX12_sick_54 (by decide) (hp_n (n := 55) rfl ?_)
      have J56 : ∀ (k56 : Nat) (αh8 : hp_T) (Hh8 : Heap) (Lh8 : List Loc) (Bh8 : hp_B Γ mo s α αh8 Hh8 Lh8) (σh8 : ms_T) (Mh8 : hm_M αh8 a0 ρ σh8) (v1_h8 : Int32) (v2_h8 : Int32) (v3_h8 : Int32) (ls : Array Slot) (hl : lv_has ls 4 [(0, .ref a0), (1, .int v1_h8), (2, .int v2_h8), (3, .int v3_h8)]) (hf : f_X12_sick_L56 n k56 σh8 v1_h8 v2_h8 v3_h8 = some res), W p l e (hp_rm 43 0 0) s m ([.ref a0, .int a1] : List Value).toArray below meth c Hh8 Lh8 0 0 (MQ below (hp_Qi Γ (fun r β => r = res.1 ∧ mo α β ∧ hm_M β a0 ρ res.2)) ([.ref a0, .int a1] : List Value).toArray s 0 0 (hp_A Γ)) (F0 m 56 ls []) := by
        intro k56
        induction k56 with
        | zero => intro αh8 Hh8 Lh8 Bh8 σh8 Mh8 v1_h8 v2_h8 v3_h8 ls hl hf; rw [f_X12_sick_L56.eq_1] at hf; cases hf
        | succ k56 ih56 =>
          intro αh8 Hh8 Lh8 Bh8 σh8 Mh8 v1_h8 v2_h8 v3_h8 ls hl hf
          rw [f_X12_sick_L56.eq_2] at hf
          refine lv_iload_n hx hb dX12_sick_56 rfl (lv_at hl 3 rfl) (hp_n (n := 57) rfl ?_)
          refine lv_aload_n hx hb dX12_sick_57 rfl (lv_at hl 0 rfl) (hp_n (n := 58) rfl ?_)
          refine m_geti (k := 7) (φ := 657) (pc' := 61) C Bh8 Mh8 fl_X12_139 rfl rfl dX12_sick_58 rfl ?_
          refine lv_icmp_ge (tgt := 97) hx hb dX12_sick_61 (by decide) (fun c9 => ?_) (fun c9 => hp_n (n := 64) rfl ?_)
          ·
            replace hf := ms_iT c9 hf
            refine lv_iload_n hx hb dX12_sick_97 rfl (lv_at hl 2 rfl) (hp_n (n := 98) rfl ?_)
            cases hf
            exact q_iret C Bh8 hr hlk ⟨rfl, Bh8.2.2, Mh8⟩ dX12_sick_98
          ·
            replace hf := ms_iF c9 hf
            refine lv_iload_n hx hb dX12_sick_64 rfl (lv_at hl 2 rfl) (hp_n (n := 65) rfl ?_)
            refine lv_aload_n hx hb dX12_sick_65 rfl (lv_at hl 0 rfl) (hp_n (n := 66) rfl ?_)
            refine m_getr (κ := 44) (k := 6) (pc' := 69) C Bh8 Mh8 fl_X12_22 rfl (by decide) dX12_sick_66 rfl ?_
            refine lv_iload_n hx hb dX12_sick_69 rfl (lv_at hl 3 rfl) (hp_n (n := 70) rfl ?_)
            obtain ⟨g10, hf⟩ := ms_gE hf
            refine m_ial (κ := 44) (φ := 656) (n := 128) (pc' := 71) C Bh8 Mh8 (by decide) (by decide) rfl g10 dX12_sick_70 rfl ?_
            refine lv_aload_n hx hb dX12_sick_71 rfl (lv_at hl 0 rfl) (hp_n (n := 72) rfl ?_)
            refine lv_iload_n hx hb dX12_sick_72 rfl (lv_at hl 1 rfl) (hp_n (n := 73) rfl ?_)
            refine lv_iconst (v := 4) hx hb dX12_sick_73 (by decide) (hp_n (n := 74) rfl ?_)
            refine lv_iload_n hx hb dX12_sick_74 rfl (lv_at hl 3 rfl) (hp_n (n := 75) rfl ?_)
            refine lv_iadd hx hb dX12_sick_75 (hp_n (n := 76) rfl ?_)
            obtain ⟨rh11, qh11, hf⟩ := ms_bE hf
            refine m_cp (pc' := 79) Bh8 (hp_runV (As := [.int v1_h8, .int ((4 : Int32) + v3_h8)]) (rest := [.int (ms_E σh8 44 (v3_h8).toNatClampNeg), .int v2_h8]) C Bh8 (m_X12_froze n Γ l αh8 a0 ρ σh8 Mh8 v1_h8 ((4 : Int32) + v3_h8) rh11 qh11) lb_X12_froze lv_X12_froze lk_X12_350 Mh8.1 rfl (by decide) rfl hl.1 rfl (Nat.le_of_ble_eq_true rfl) dX12_sick_76 ⟨Nat.le_refl _, Nat.le_refl _⟩) rfl (fun Hh11 Lh11 Bh11 => ?_)
            have J89 : ∀ (αh12 : hp_T) (Hh12 : Heap) (Lh12 : List Loc) (Bh12 : hp_B Γ mo s α αh12 Hh12 Lh12) (σh12 : ms_T) (Mh12 : hm_M αh12 a0 ρ σh12) (v1_h12 : Int32) (v3_h12 : Int32) (w0_h12 : Int32) (w1_h12 : Int32) (ls : Array Slot) (hl : lv_has ls 4 [(0, .ref a0), (1, .int v1_h12), (3, .int v3_h12)]) (hf : f_X12_sick_J89 n (f_X12_sick_L56 n k56) σh12 v1_h12 v3_h12 w0_h12 w1_h12 = some res), W p l e (hp_rm 43 0 0) s m ([.ref a0, .int a1] : List Value).toArray below meth c Hh12 Lh12 0 0 (MQ below (hp_Qi Γ (fun r β => r = res.1 ∧ mo α β ∧ hm_M β a0 ρ res.2)) ([.ref a0, .int a1] : List Value).toArray s 0 0 (hp_A Γ)) (F0 m 89 ls [.int w0_h12, .int w1_h12]) := by
              intro αh12 Hh12 Lh12 Bh12 σh12 Mh12 v1_h12 v3_h12 w0_h12 w1_h12 ls hl hf
              unfold f_X12_sick_J89 at hf
              refine lv_ior hx hb dX12_sick_89 (hp_n (n := 90) rfl ?_)
              refine lv_topi (fun x13 ex13 => ?_)
              replace hf := ms_lE ex13 hf
              refine lv_istore_n (lv' := [(2, .int x13), (0, .ref a0), (1, .int v1_h12), (3, .int v3_h12)]) hx hb dX12_sick_90 rfl hl (by decide) rfl (fun ls hl => hp_n (n := 91) rfl ?_)
              obtain ⟨x14, ex14⟩ : ∃ y : Int32, y = v3_h12 + 1 := ⟨_, rfl⟩
              replace hf := ms_lE ex14 hf
              refine lv_iinc (v := x14) (lv' := [(3, .int x14), (2, .int x13), (0, .ref a0), (1, .int v1_h12)]) hx hb dX12_sick_91 hl (k := 3) rfl (by rw [ex14]; rfl) (by decide) rfl (fun ls hl => hp_n (n := 94) rfl ?_)
              refine lv_goto (tgt := 56) hx hb dX12_sick_94 (by decide) ?_
              exact ih56 αh12 Hh12 Lh12 Bh12 σh12 Mh12 v1_h12 x13 x14 ls (lv_sub hl [2, 3, 1, 0] rfl) hf
            refine lv_icmp_eq (tgt := 88) hx hb dX12_sick_79 (by decide) (fun c15 => ?_) (fun c15 => hp_n (n := 82) rfl ?_)
            ·
              replace hf := ms_iT c15 hf
              refine lv_iconst (v := 0) hx hb dX12_sick_88 (by decide) (hp_n (n := 89) rfl ?_)
              exact J89 αh8 Hh11 Lh11 Bh11 σh8 Mh8 v1_h8 v3_h8 (0 : Int32) v2_h8 ls (lv_sub hl [0, 1, 3] rfl) hf
            ·
              replace hf := ms_iF c15 hf
              refine lv_iconst (v := 1) hx hb dX12_sick_82 (by decide) (hp_n (n := 83) rfl ?_)
              refine lv_iload_n hx hb dX12_sick_83 rfl (lv_at hl 3 rfl) (hp_n (n := 84) rfl ?_)
              refine lv_ishl hx hb dX12_sick_84 (hp_n (n := 85) rfl ?_)
              refine lv_goto (tgt := 89) hx hb dX12_sick_85 (by decide) ?_
              exact J89 αh8 Hh11 Lh11 Bh11 σh8 Mh8 v1_h8 v3_h8 ((1 : Int32) <<< (v3_h8 &&& 31)) v2_h8 ls (lv_sub hl [0, 1, 3] rfl) hf
      refine lv_istore_n (lv' := [(3, .int (0 : Int32)), (2, .int (0 : Int32)), (0, .ref a0), (1, .int v1_h1)]) hx hb dX12_sick_55 rfl hl (by decide) rfl (fun ls hl => hp_n (n := 56) rfl ?_)
      exact J56 n αh7 Hh7 Lh7 Bh7 σh7 Mh7 v1_h1 (0 : Int32) (0 : Int32) ls (lv_sub hl [2, 3, 1, 0] rfl) hf
    ·
      replace hf := ms_iT c3 hf
      refine lv_iconst (v := (-1)) hx hb dX12_sick_30 (by decide) (hp_n (n := 31) rfl ?_)
      cases hf
      exact q_iret C Bh2 hr hlk ⟨rfl, Bh2.2.2, Mh2⟩ dX12_sick_31
  refine lv_if_ge (tgt := 9) hx hb dX12_sick_2 (by decide) (fun c16 => ?_) (fun c16 => hp_n (n := 5) rfl ?_)
  ·
    replace hf := ms_iT c16 hf
    refine lv_iload_n hx hb dX12_sick_9 rfl (lv_at hl 1 rfl) (hp_n (n := 10) rfl ?_)
    refine lv_aload_n hx hb dX12_sick_10 rfl (lv_at hl 0 rfl) (hp_n (n := 11) rfl ?_)
    refine m_getr (κ := 40) (k := 0) (pc' := 14) C B hM fl_X12_7 rfl (by decide) dX12_sick_11 rfl ?_
    refine lv_iconst (v := 3) hx hb dX12_sick_14 (by decide) (hp_n (n := 15) rfl ?_)
    obtain ⟨g17, hf⟩ := ms_gE hf
    refine m_ial (κ := 40) (φ := 650) (n := 1980) (pc' := 16) C B hM (by decide) (by decide) rfl g17 dX12_sick_15 rfl ?_
    refine lv_icmp_lt (tgt := 23) hx hb dX12_sick_16 (by decide) (fun c18 => ?_) (fun c18 => hp_n (n := 19) rfl ?_)
    ·
      replace hf := ms_iT c18 hf
      refine lv_iconst (v := 0) hx hb dX12_sick_23 (by decide) (hp_n (n := 24) rfl ?_)
      exact J24 α s.heap [] B σ hM a1 (0 : Int32) ls (lv_sub hl [0, 1] rfl) hf
    ·
      replace hf := ms_iF c18 hf
      refine lv_iconst (v := 5) hx hb dX12_sick_19 (by decide) (hp_n (n := 20) rfl ?_)
      refine lv_goto (tgt := 24) hx hb dX12_sick_20 (by decide) ?_
      exact J24 α s.heap [] B σ hM a1 (5 : Int32) ls (lv_sub hl [0, 1] rfl) hf
  ·
    replace hf := ms_iF c16 hf
    refine lv_iconst (v := 1) hx hb dX12_sick_5 (by decide) (hp_n (n := 6) rfl ?_)
    refine lv_goto (tgt := 24) hx hb dX12_sick_6 (by decide) ?_
    exact J24 α s.heap [] B σ hM a1 (1 : Int32) ls (lv_sub hl [0, 1] rfl) hf
def f_X12_sizeAbove_J61 (n : Nat) (σ : ms_T) (rec5 : Int32 → Int32 → Int32 → Int32 → Option Int32) (v1_h5 : Int32) (v2_h5 : Int32) (v3_h5 : Int32) (v4_h5 : Int32) : Option Int32 :=
  ms_l (v4_h5 + 1) fun x6 =>
  rec5 v1_h5 v2_h5 v3_h5 x6
def f_X12_sizeAbove_J53 (n : Nat) (σ : ms_T) (rec5 : Int32 → Int32 → Int32 → Int32 → Option Int32) (v1_h10 : Int32) (v2_h10 : Int32) (v4_h10 : Int32) : Option Int32 :=
  ms_b (f_X12_froze n σ v4_h10 (1 : Int32)) fun rh11 =>
  f_X12_sizeAbove_J61 n σ rec5 v1_h10 v2_h10 rh11 v4_h10
def f_X12_sizeAbove_L5 (n : Nat) (σ : ms_T) : Nat → Int32 → Int32 → Int32 → Int32 → Option Int32
  | 0, _, _, _, _ => none
  | k5 + 1, v1_h1, v2_h1, v3_h1, v4_h1 =>
    ms_g (3 : Int32) 1980 <|
    if (ms_E σ 40 ((3 : Int32)).toNatClampNeg) ≤ v4_h1 then
      some v3_h1
    else
      ms_b (f_X12_froze n σ v4_h1 (0 : Int32)) fun rh4 =>
      if rh4 = v1_h1 then
        ms_b (f_X12_froze n σ v4_h1 (1 : Int32)) fun rh8 =>
        if rh8 ≤ v2_h1 then
          f_X12_sizeAbove_J61 n σ (f_X12_sizeAbove_L5 n σ k5) v1_h1 v2_h1 v3_h1 v4_h1
        else
          if v3_h1 < 0 then
            f_X12_sizeAbove_J53 n σ (f_X12_sizeAbove_L5 n σ k5) v1_h1 v2_h1 v4_h1
          else
            ms_b (f_X12_froze n σ v4_h1 (1 : Int32)) fun rh13 =>
            if v3_h1 ≤ rh13 then
              f_X12_sizeAbove_J61 n σ (f_X12_sizeAbove_L5 n σ k5) v1_h1 v2_h1 v3_h1 v4_h1
            else
              f_X12_sizeAbove_J53 n σ (f_X12_sizeAbove_L5 n σ k5) v1_h1 v2_h1 v4_h1
      else
        f_X12_sizeAbove_J61 n σ (f_X12_sizeAbove_L5 n σ k5) v1_h1 v2_h1 v3_h1 v4_h1
def f_X12_sizeAbove (n : Nat) (σ : ms_T) (a1 : Int32) (a2 : Int32) : Option Int32 :=
  f_X12_sizeAbove_L5 n σ n a1 a2 (-1 : Int32) (0 : Int32)
set_option maxRecDepth 100000 in
set_option maxHeartbeats 4000000 in
theorem m_X12_sizeAbove (n : Nat) (Γ : hp_G) (l : Launch) (α : hp_T) (a0 : Nat) (ρ : Nat → Nat) (σ : ms_T) (hM : hm_M α a0 ρ σ) (a1 : Int32) (a2 : Int32) (res : Int32) (hf : f_X12_sizeAbove n σ a1 a2 = some res) : Met l yX12_sizeAbove (hp_ws yX12_sizeAbove cX12_sizeAbove 5 (some .int)) (hp_rm 1 0 0) (hp_Pc Γ α [.ref a0, .int a1, .int a2]) (hp_Qi Γ (fun r β => β = α ∧ r = res)) 0 0 (hp_A Γ) := by
  unfold f_X12_sizeAbove at hf
  refine hp_start (by decide) ?_
  intro p e s m below meth c C hr hlk B0 hnm
  have C : hp_C Γ p m c cX12_sizeAbove 5 s ([.ref a0, .int a1, .int a2] : List Value).toArray RX12 := C
  have hx := C.1.1
  have hb := C.1.2.1
  have hown := C.1.2.2.2.1
  have hts := C.1.2.2.2.2
  have B : hp_B Γ (fun _ _ => True) s α α s.heap [] := ⟨B0.1, B0.2.1, trivial⟩
  have hl := lv_entry ([.ref a0, .int a1, .int a2]) (n := 5) (Nat.le_of_ble_eq_true rfl)
  show W p l e (hp_rm 1 0 0) s m ([.ref a0, .int a1, .int a2] : List Value).toArray below meth c s.heap [] 0 0 (MQ below (hp_Qi Γ (fun r β => β = α ∧ r = res)) ([.ref a0, .int a1, .int a2] : List Value).toArray s 0 0 (hp_A Γ)) (entryFrame m ([.ref a0, .int a1, .int a2] : List Value).toArray 5)
  rw [lg_entry_eq]
  generalize (lg_sl ([.ref a0, .int a1, .int a2]) ++ List.replicate (5 - (lg_sl ([.ref a0, .int a1, .int a2])).length) Slot.unset).toArray = ls at hl ⊢
  have hl : lv_has ls 5 [(0, .ref a0), (1, .int a1), (2, .int a2)] := hl
  refine lv_iconst (v := (-1)) hx hb dX12_sizeAbove_0 (by decide) (hp_n (n := 1) rfl ?_)
  refine lv_istore_n (lv' := [(3, .int (-1 : Int32)), (0, .ref a0), (1, .int a1), (2, .int a2)]) hx hb dX12_sizeAbove_1 rfl hl (by decide) rfl (fun ls hl => hp_n (n := 2) rfl ?_)
  refine lv_iconst (v := 0) hx hb dX12_sizeAbove_2 (by decide) (hp_n (n := 3) rfl ?_)
  have J5 : ∀ (k5 : Nat) (Hh1 : Heap) (Lh1 : List Loc) (Bh1 : hp_B Γ (fun _ _ => True) s α α Hh1 Lh1) (v1_h1 : Int32) (v2_h1 : Int32) (v3_h1 : Int32) (v4_h1 : Int32) (ls : Array Slot) (hl : lv_has ls 5 [(0, .ref a0), (1, .int v1_h1), (2, .int v2_h1), (3, .int v3_h1), (4, .int v4_h1)]) (hf : f_X12_sizeAbove_L5 n σ k5 v1_h1 v2_h1 v3_h1 v4_h1 = some res), W p l e (hp_rm 1 0 0) s m ([.ref a0, .int a1, .int a2] : List Value).toArray below meth c Hh1 Lh1 0 0 (MQ below (hp_Qi Γ (fun r β => β = α ∧ r = res)) ([.ref a0, .int a1, .int a2] : List Value).toArray s 0 0 (hp_A Γ)) (F0 m 5 ls []) := by
    intro k5
    induction k5 with
    | zero => intro Hh1 Lh1 Bh1 v1_h1 v2_h1 v3_h1 v4_h1 ls hl hf; rw [f_X12_sizeAbove_L5.eq_1] at hf; cases hf
    | succ k5 ih5 =>
      intro Hh1 Lh1 Bh1 v1_h1 v2_h1 v3_h1 v4_h1 ls hl hf
      rw [f_X12_sizeAbove_L5.eq_2] at hf
      refine lv_iload hx hb dX12_sizeAbove_5 (lv_at hl 4 rfl) (hp_n (n := 7) rfl ?_)
      refine lv_aload_n hx hb dX12_sizeAbove_7 rfl (lv_at hl 0 rfl) (hp_n (n := 8) rfl ?_)
      refine m_getr (κ := 40) (k := 0) (pc' := 11) C Bh1 hM fl_X12_7 rfl (by decide) dX12_sizeAbove_8 rfl ?_
      refine lv_iconst (v := 3) hx hb dX12_sizeAbove_11 (by decide) (hp_n (n := 12) rfl ?_)
      obtain ⟨g2, hf⟩ := ms_gE hf
      refine m_ial (κ := 40) (φ := 650) (n := 1980) (pc' := 13) C Bh1 hM (by decide) (by decide) rfl g2 dX12_sizeAbove_12 rfl ?_
      refine lv_icmp_ge (tgt := 67) hx hb dX12_sizeAbove_13 (by decide) (fun c3 => ?_) (fun c3 => hp_n (n := 16) rfl ?_)
      ·
        replace hf := ms_iT c3 hf
        refine lv_iload_n hx hb dX12_sizeAbove_67 rfl (lv_at hl 3 rfl) (hp_n (n := 68) rfl ?_)
        cases hf
        exact q_iret C Bh1 hr hlk ⟨rfl, rfl⟩ dX12_sizeAbove_68
      ·
        replace hf := ms_iF c3 hf
        refine lv_aload_n hx hb dX12_sizeAbove_16 rfl (lv_at hl 0 rfl) (hp_n (n := 17) rfl ?_)
        refine lv_iload hx hb dX12_sizeAbove_17 (lv_at hl 4 rfl) (hp_n (n := 19) rfl ?_)
        refine lv_iconst (v := 0) hx hb dX12_sizeAbove_19 (by decide) (hp_n (n := 20) rfl ?_)
        obtain ⟨rh4, qh4, hf⟩ := ms_bE hf
        refine m_cp (pc' := 23) Bh1 (hp_runV (As := [.int v4_h1, .int (0 : Int32)]) (rest := []) C Bh1 (m_X12_froze n Γ l α a0 ρ σ hM v4_h1 (0 : Int32) rh4 qh4) lb_X12_froze lv_X12_froze lk_X12_350 hM.1 rfl (by decide) rfl hl.1 rfl (Nat.le_of_ble_eq_true rfl) dX12_sizeAbove_20 ⟨Nat.le_refl _, Nat.le_refl _⟩) rfl (fun Hh4 Lh4 Bh4 => ?_)
        refine lv_iload_n hx hb dX12_sizeAbove_23 rfl (lv_at hl 1 rfl) (hp_n (n := 24) rfl ?_)
        have J61 : ∀ (Hh5 : Heap) (Lh5 : List Loc) (Bh5 : hp_B Γ (fun _ _ => True) s α α Hh5 Lh5) (v1_h5 : Int32) (v2_h5 : Int32) (v3_h5 : Int32) (v4_h5 : Int32) (ls : Array Slot) (hl : lv_has ls 5 [(0, .ref a0), (1, .int v1_h5), (2, .int v2_h5), (3, .int v3_h5), (4, .int v4_h5)]) (hf : f_X12_sizeAbove_J61 n σ (f_X12_sizeAbove_L5 n σ k5) v1_h5 v2_h5 v3_h5 v4_h5 = some res), W p l e (hp_rm 1 0 0) s m ([.ref a0, .int a1, .int a2] : List Value).toArray below meth c Hh5 Lh5 0 0 (MQ below (hp_Qi Γ (fun r β => β = α ∧ r = res)) ([.ref a0, .int a1, .int a2] : List Value).toArray s 0 0 (hp_A Γ)) (F0 m 61 ls []) := by
          intro Hh5 Lh5 Bh5 v1_h5 v2_h5 v3_h5 v4_h5 ls hl hf
          unfold f_X12_sizeAbove_J61 at hf
          obtain ⟨x6, ex6⟩ : ∃ y : Int32, y = v4_h5 + 1 := ⟨_, rfl⟩
          replace hf := ms_lE ex6 hf
          refine lv_iinc (v := x6) (lv' := [(4, .int x6), (0, .ref a0), (1, .int v1_h5), (2, .int v2_h5), (3, .int v3_h5)]) hx hb dX12_sizeAbove_61 hl (k := 4) rfl (by rw [ex6]; rfl) (by decide) rfl (fun ls hl => hp_n (n := 64) rfl ?_)
          refine lv_goto (tgt := 5) hx hb dX12_sizeAbove_64 (by decide) ?_
          exact ih5 Hh5 Lh5 Bh5 v1_h5 v2_h5 v3_h5 x6 ls (lv_sub hl [1, 2, 3, 4, 0] rfl) hf
        refine lv_icmp_ne (tgt := 61) hx hb dX12_sizeAbove_24 (by decide) (fun c7 => ?_) (fun c7 => hp_n (n := 27) rfl ?_)
        ·
          replace hf := ms_iF c7 hf
          exact J61 Hh4 Lh4 Bh4 v1_h1 v2_h1 v3_h1 v4_h1 ls (lv_sub hl [0, 1, 2, 3, 4] rfl) hf
        ·
          replace hf := ms_iT c7 hf
          refine lv_aload_n hx hb dX12_sizeAbove_27 rfl (lv_at hl 0 rfl) (hp_n (n := 28) rfl ?_)
          refine lv_iload hx hb dX12_sizeAbove_28 (lv_at hl 4 rfl) (hp_n (n := 30) rfl ?_)
          refine lv_iconst (v := 1) hx hb dX12_sizeAbove_30 (by decide) (hp_n (n := 31) rfl ?_)
          obtain ⟨rh8, qh8, hf⟩ := ms_bE hf
          refine m_cp (pc' := 34) Bh4 (hp_runV (As := [.int v4_h1, .int (1 : Int32)]) (rest := []) C Bh4 (m_X12_froze n Γ l α a0 ρ σ hM v4_h1 (1 : Int32) rh8 qh8) lb_X12_froze lv_X12_froze lk_X12_350 hM.1 rfl (by decide) rfl hl.1 rfl (Nat.le_of_ble_eq_true rfl) dX12_sizeAbove_31 ⟨Nat.le_refl _, Nat.le_refl _⟩) rfl (fun Hh8 Lh8 Bh8 => ?_)
          refine lv_iload_n hx hb dX12_sizeAbove_34 rfl (lv_at hl 2 rfl) (hp_n (n := 35) rfl ?_)
          refine lv_icmp_le (tgt := 61) hx hb dX12_sizeAbove_35 (by decide) (fun c9 => ?_) (fun c9 => hp_n (n := 38) rfl ?_)
          ·
            replace hf := ms_iT c9 hf
            exact J61 Hh8 Lh8 Bh8 v1_h1 v2_h1 v3_h1 v4_h1 ls (lv_sub hl [0, 1, 2, 3, 4] rfl) hf
          ·
            replace hf := ms_iF c9 hf
            refine lv_iload_n hx hb dX12_sizeAbove_38 rfl (lv_at hl 3 rfl) (hp_n (n := 39) rfl ?_)
            have J53 : ∀ (Hh10 : Heap) (Lh10 : List Loc) (Bh10 : hp_B Γ (fun _ _ => True) s α α Hh10 Lh10) (v1_h10 : Int32) (v2_h10 : Int32) (v4_h10 : Int32) (ls : Array Slot) (hl : lv_has ls 5 [(0, .ref a0), (1, .int v1_h10), (2, .int v2_h10), (4, .int v4_h10)]) (hf : f_X12_sizeAbove_J53 n σ (f_X12_sizeAbove_L5 n σ k5) v1_h10 v2_h10 v4_h10 = some res), W p l e (hp_rm 1 0 0) s m ([.ref a0, .int a1, .int a2] : List Value).toArray below meth c Hh10 Lh10 0 0 (MQ below (hp_Qi Γ (fun r β => β = α ∧ r = res)) ([.ref a0, .int a1, .int a2] : List Value).toArray s 0 0 (hp_A Γ)) (F0 m 53 ls []) := by
              intro Hh10 Lh10 Bh10 v1_h10 v2_h10 v4_h10 ls hl hf
              unfold f_X12_sizeAbove_J53 at hf
              refine lv_aload_n hx hb dX12_sizeAbove_53 rfl (lv_at hl 0 rfl) (hp_n (n := 54) rfl ?_)
              refine lv_iload hx hb dX12_sizeAbove_54 (lv_at hl 3 rfl) (hp_n (n := 56) rfl ?_)
              refine lv_iconst (v := 1) hx hb dX12_sizeAbove_56 (by decide) (hp_n (n := 57) rfl ?_)
              obtain ⟨rh11, qh11, hf⟩ := ms_bE hf
              refine m_cp (pc' := 60) Bh10 (hp_runV (As := [.int v4_h10, .int (1 : Int32)]) (rest := []) C Bh10 (m_X12_froze n Γ l α a0 ρ σ hM v4_h10 (1 : Int32) rh11 qh11) lb_X12_froze lv_X12_froze lk_X12_350 hM.1 rfl (by decide) rfl hl.1 rfl (Nat.le_of_ble_eq_true rfl) dX12_sizeAbove_57 ⟨Nat.le_refl _, Nat.le_refl _⟩) rfl (fun Hh11 Lh11 Bh11 => ?_)
              refine lv_istore_n (lv' := [(3, .int rh11), (0, .ref a0), (1, .int v1_h10), (2, .int v2_h10), (4, .int v4_h10)]) hx hb dX12_sizeAbove_60 rfl hl (by decide) rfl (fun ls hl => hp_n (n := 61) rfl ?_)
              exact J61 Hh11 Lh11 Bh11 v1_h10 v2_h10 rh11 v4_h10 ls (lv_sub hl [1, 2, 3, 0, 4] rfl) hf
            refine lv_if_lt (tgt := 53) hx hb dX12_sizeAbove_39 (by decide) (fun c12 => ?_) (fun c12 => hp_n (n := 42) rfl ?_)
            ·
              replace hf := ms_iT c12 hf
              exact J53 Hh8 Lh8 Bh8 v1_h1 v2_h1 v4_h1 ls (lv_sub hl [0, 1, 2, 4] rfl) hf
            ·
              replace hf := ms_iF c12 hf
              refine lv_aload_n hx hb dX12_sizeAbove_42 rfl (lv_at hl 0 rfl) (hp_n (n := 43) rfl ?_)
              refine lv_iload hx hb dX12_sizeAbove_43 (lv_at hl 4 rfl) (hp_n (n := 45) rfl ?_)
              refine lv_iconst (v := 1) hx hb dX12_sizeAbove_45 (by decide) (hp_n (n := 46) rfl ?_)
              obtain ⟨rh13, qh13, hf⟩ := ms_bE hf
              refine m_cp (pc' := 49) Bh8 (hp_runV (As := [.int v4_h1, .int (1 : Int32)]) (rest := []) C Bh8 (m_X12_froze n Γ l α a0 ρ σ hM v4_h1 (1 : Int32) rh13 qh13) lb_X12_froze lv_X12_froze lk_X12_350 hM.1 rfl (by decide) rfl hl.1 rfl (Nat.le_of_ble_eq_true rfl) dX12_sizeAbove_46 ⟨Nat.le_refl _, Nat.le_refl _⟩) rfl (fun Hh13 Lh13 Bh13 => ?_)
              refine lv_iload_n hx hb dX12_sizeAbove_49 rfl (lv_at hl 3 rfl) (hp_n (n := 50) rfl ?_)
              refine lv_icmp_ge (tgt := 61) hx hb dX12_sizeAbove_50 (by decide) (fun c14 => ?_) (fun c14 => hp_n (n := 53) rfl ?_)
              ·
                replace hf := ms_iT c14 hf
                exact J61 Hh13 Lh13 Bh13 v1_h1 v2_h1 v3_h1 v4_h1 ls (lv_sub hl [0, 1, 2, 3, 4] rfl) hf
              ·
                replace hf := ms_iF c14 hf
                exact J53 Hh13 Lh13 Bh13 v1_h1 v2_h1 v4_h1 ls (lv_sub hl [0, 1, 2, 4] rfl) hf
  refine lv_istore (lv' := [(4, .int (0 : Int32)), (3, .int (-1 : Int32)), (0, .ref a0), (1, .int a1), (2, .int a2)]) hx hb dX12_sizeAbove_3 hl (by decide) rfl (fun ls hl => hp_n (n := 5) rfl ?_)
  exact J5 n s.heap [] B a1 a2 (-1 : Int32) (0 : Int32) ls (lv_sub hl [2, 3, 4, 1, 0] rfl) hf
def f_X12_chain_J82 (n : Nat) (rec56 : ms_T → Int32 → Int32 → Int32 → Int32 → Int32 → Int32 → Option (Int32 × ms_T)) (σh13 : ms_T) (v1_h13 : Int32) (v2_h13 : Int32) (v3_h13 : Int32) (v4_h13 : Int32) (v6_h13 : Int32) : Option (Int32 × ms_T) :=
  ms_l ((v4_h13 + (ms_I σh13 657))) fun x14 =>
  ms_b (f_X12_notes n σh13) fun σh15 =>
  ms_b (f_X12_sizeAbove n σh15 v1_h13 v6_h13) fun rh16 =>
  rec56 σh15 v1_h13 v2_h13 v3_h13 x14 v6_h13 rh16
def f_X12_chain_L56 (n : Nat) : Nat → ms_T → Int32 → Int32 → Int32 → Int32 → Int32 → Int32 → Option (Int32 × ms_T)
  | 0, _, _, _, _, _, _, _ => none
  | k56 + 1, σh7, v1_h7, v2_h7, v3_h7, v4_h7, v5_h7, v6_h7 =>
    if v6_h7 < 0 then
      if v2_h7 = 0 then
        some (v3_h7, σh7)
      else
        if v2_h7 = (1 : Int32) then
          some (v4_h7, σh7)
        else
          some ((ms_I σh7 695), σh7)
    else
      ms_l (v3_h7 + 1) fun x11 =>
      ms_l (ms_sI σh7 657 (0 : Int32)) fun σh12 =>
      if v5_h7 < 0 then
        f_X12_chain_J82 n (f_X12_chain_L56 n k56) σh12 v1_h7 v2_h7 x11 v4_h7 v6_h7
      else
        ms_b (f_X12_growth n σh12 v5_h7 v6_h7) fun σh18 =>
        f_X12_chain_J82 n (f_X12_chain_L56 n k56) σh18 v1_h7 v2_h7 x11 v4_h7 v6_h7
def f_X12_chain_J27 (n : Nat) (σh2 : ms_T) (v1_h2 : Int32) (v2_h2 : Int32) (w0_h2 : Int32) : Option (Int32 × ms_T) :=
  ms_c (f_X12_is n σh2 w0_h2) fun rh3 σh3 =>
  if rh3 = 0 then
    some ((-1 : Int32), σh3)
  else
    ms_l (ms_sI σh3 695 (0 : Int32)) fun σh5 =>
    ms_b (f_X12_sizeAbove n σh5 v1_h2 (-1 : Int32)) fun rh6 =>
    f_X12_chain_L56 n n σh5 v1_h2 v2_h2 (0 : Int32) (0 : Int32) (-1 : Int32) rh6
def f_X12_chain (n : Nat) (σ : ms_T) (a1 : Int32) (a2 : Int32) : Option (Int32 × ms_T) :=
  ms_b (f_X12_isIn n a2 (0 : Int32) (2 : Int32)) fun rh1 =>
  if rh1 = 0 then
    f_X12_chain_J27 n σ a1 a2 (1 : Int32)
  else
    ms_b (f_X12_isRecord n σ a1) fun rh20 =>
    if rh20 = 0 then
      f_X12_chain_J27 n σ a1 a2 (2 : Int32)
    else
      f_X12_chain_J27 n σ a1 a2 (0 : Int32)
set_option maxRecDepth 100000 in
set_option maxHeartbeats 4000000 in
theorem m_X12_chain (n : Nat) (Γ : hp_G) (l : Launch) (α : hp_T) (a0 : Nat) (ρ : Nat → Nat) (σ : ms_T) (hM : hm_M α a0 ρ σ) (a1 : Int32) (a2 : Int32) (res : (Int32 × ms_T)) (hf : f_X12_chain n σ a1 a2 = some res) : Met l yX12_chain (hp_ws yX12_chain cX12_chain 7 (some .int)) (hp_rm 42 0 0) (hp_Pc Γ α [.ref a0, .int a1, .int a2]) (hp_Qi Γ (fun r β => r = res.1 ∧ mo α β ∧ hm_M β a0 ρ res.2)) 0 0 (hp_A Γ) := by
  unfold f_X12_chain at hf
  refine hp_start (by decide) ?_
  intro p e s m below meth c C hr hlk B0 hnm
  have C : hp_C Γ p m c cX12_chain 7 s ([.ref a0, .int a1, .int a2] : List Value).toArray RX12 := C
  have hx := C.1.1
  have hb := C.1.2.1
  have hown := C.1.2.2.2.1
  have hts := C.1.2.2.2.2
  have B : hp_B Γ mo s α α s.heap [] := ⟨B0.1, B0.2.1, mo_rf⟩
  have hl := lv_entry ([.ref a0, .int a1, .int a2]) (n := 7) (Nat.le_of_ble_eq_true rfl)
  show W p l e (hp_rm 42 0 0) s m ([.ref a0, .int a1, .int a2] : List Value).toArray below meth c s.heap [] 0 0 (MQ below (hp_Qi Γ (fun r β => r = res.1 ∧ mo α β ∧ hm_M β a0 ρ res.2)) ([.ref a0, .int a1, .int a2] : List Value).toArray s 0 0 (hp_A Γ)) (entryFrame m ([.ref a0, .int a1, .int a2] : List Value).toArray 7)
  rw [lg_entry_eq]
  generalize (lg_sl ([.ref a0, .int a1, .int a2]) ++ List.replicate (7 - (lg_sl ([.ref a0, .int a1, .int a2])).length) Slot.unset).toArray = ls at hl ⊢
  have hl : lv_has ls 7 [(0, .ref a0), (1, .int a1), (2, .int a2)] := hl
  refine lv_aload_n hx hb dX12_chain_0 rfl (lv_at hl 0 rfl) (hp_n (n := 1) rfl ?_)
  refine lv_iload_n hx hb dX12_chain_1 rfl (lv_at hl 2 rfl) (hp_n (n := 2) rfl ?_)
  refine lv_iconst (v := 0) hx hb dX12_chain_2 (by decide) (hp_n (n := 3) rfl ?_)
  refine lv_iconst (v := 2) hx hb dX12_chain_3 (by decide) (hp_n (n := 4) rfl ?_)
  obtain ⟨rh1, qh1, hf⟩ := ms_bE hf
  refine m_cp (pc' := 7) B (hp_runS (As := [.int a2, .int (0 : Int32), .int (2 : Int32)]) (rest := [.ref a0]) C B (m_X12_isIn n Γ l α a2 (0 : Int32) (2 : Int32) rh1 qh1) lb_X12_isIn ls_X12_isIn lk_X12_113 rfl (by decide) rfl hl.1 rfl (Nat.le_of_ble_eq_true rfl) dX12_chain_4 ⟨Nat.le_refl _, Nat.le_refl _⟩) rfl (fun Hh1 Lh1 Bh1 => ?_)
  have J27 : ∀ (αh2 : hp_T) (Hh2 : Heap) (Lh2 : List Loc) (Bh2 : hp_B Γ mo s α αh2 Hh2 Lh2) (σh2 : ms_T) (Mh2 : hm_M αh2 a0 ρ σh2) (v1_h2 : Int32) (v2_h2 : Int32) (w0_h2 : Int32) (ls : Array Slot) (hl : lv_has ls 7 [(0, .ref a0), (1, .int v1_h2), (2, .int v2_h2)]) (hf : f_X12_chain_J27 n σh2 v1_h2 v2_h2 w0_h2 = some res), W p l e (hp_rm 42 0 0) s m ([.ref a0, .int a1, .int a2] : List Value).toArray below meth c Hh2 Lh2 0 0 (MQ below (hp_Qi Γ (fun r β => r = res.1 ∧ mo α β ∧ hm_M β a0 ρ res.2)) ([.ref a0, .int a1, .int a2] : List Value).toArray s 0 0 (hp_A Γ)) (F0 m 27 ls [.int w0_h2, .ref a0]) := by
    intro αh2 Hh2 Lh2 Bh2 σh2 Mh2 v1_h2 v2_h2 w0_h2 ls hl hf
    unfold f_X12_chain_J27 at hf
    obtain ⟨rh3, σh3, qh3, hf⟩ := ms_cE hf
    refine m_ci (pc' := 30) (a := a0) (ρ := ρ) Bh2 (hp_runV (As := [.int w0_h2]) (rest := []) C Bh2 (m_X12_is n Γ l αh2 a0 ρ σh2 Mh2 w0_h2 (rh3, σh3) qh3) lb_X12_is lv_X12_is lk_X12_309 Mh2.1 rfl (by decide) rfl hl.1 rfl (Nat.le_of_ble_eq_true rfl) dX12_chain_27 ⟨Nat.le_refl _, Nat.le_refl _⟩) rfl (fun αh3 Hh3 Lh3 Bh3 Mh3 => ?_)
    refine lv_if_ne (tgt := 35) hx hb dX12_chain_30 (by decide) (fun c4 => ?_) (fun c4 => hp_n (n := 33) rfl ?_)
    ·
      replace hf := ms_iF c4 hf
      refine lv_iconst (v := 0) hx hb dX12_chain_35 (by decide) (hp_n (n := 36) rfl ?_)
      refine lv_istore_n (lv' := [(3, .int (0 : Int32)), (0, .ref a0), (1, .int v1_h2), (2, .int v2_h2)]) hx hb dX12_chain_36 rfl hl (by decide) rfl (fun ls hl => hp_n (n := 37) rfl ?_)
      refine lv_iconst (v := 0) hx hb dX12_chain_37 (by decide) (hp_n (n := 38) rfl ?_)
      refine lv_istore (lv' := [(4, .int (0 : Int32)), (3, .int (0 : Int32)), (0, .ref a0), (1, .int v1_h2), (2, .int v2_h2)]) hx hb dX12_chain_38 hl (by decide) rfl (fun ls hl => hp_n (n := 40) rfl ?_)
      refine lv_aload_n hx hb dX12_chain_40 rfl (lv_at hl 2 rfl) (hp_n (n := 41) rfl ?_)
      refine lv_iconst (v := 0) hx hb dX12_chain_41 (by decide) (hp_n (n := 42) rfl ?_)
      refine m_puti (k := 45) (φ := 695) (pc' := 45) C Bh3 Mh3 fl_X12_417 rfl rfl rfl rfl rfl dX12_chain_42 rfl (fun αh5 Hh5 Lh5 σh5 eh5 Bh5 Mh5 => ?_)
      replace hf := ms_lE eh5 hf
      refine lv_iconst (v := (-1)) hx hb dX12_chain_45 (by decide) (hp_n (n := 46) rfl ?_)
      refine lv_istore (lv' := [(5, .int (-1 : Int32)), (4, .int (0 : Int32)), (3, .int (0 : Int32)), (0, .ref a0), (1, .int v1_h2), (2, .int v2_h2)]) hx hb dX12_chain_46 hl (by decide) rfl (fun ls hl => hp_n (n := 48) rfl ?_)
      refine lv_aload_n hx hb dX12_chain_48 rfl (lv_at hl 3 rfl) (hp_n (n := 49) rfl ?_)
      refine lv_iload_n hx hb dX12_chain_49 rfl (lv_at hl 4 rfl) (hp_n (n := 50) rfl ?_)
      refine lv_iconst (v := (-1)) hx hb dX12_chain_50 (by decide) (hp_n (n := 51) rfl ?_)
      obtain ⟨rh6, qh6, hf⟩ := ms_bE hf
      refine m_cp (pc' := 54) Bh5 (hp_runV (As := [.int v1_h2, .int (-1 : Int32)]) (rest := []) C Bh5 (m_X12_sizeAbove n Γ l αh5 a0 ρ σh5 Mh5 v1_h2 (-1 : Int32) rh6 qh6) lb_X12_sizeAbove lv_X12_sizeAbove lk_X12_426 Mh5.1 rfl (by decide) rfl hl.1 rfl (Nat.le_of_ble_eq_true rfl) dX12_chain_51 ⟨Nat.le_refl _, Nat.le_refl _⟩) rfl (fun Hh6 Lh6 Bh6 => ?_)
      have J56 : ∀ (k56 : Nat) (αh7 : hp_T) (Hh7 : Heap) (Lh7 : List Loc) (Bh7 : hp_B Γ mo s α αh7 Hh7 Lh7) (σh7 : ms_T) (Mh7 : hm_M αh7 a0 ρ σh7) (v1_h7 : Int32) (v2_h7 : Int32) (v3_h7 : Int32) (v4_h7 : Int32) (v5_h7 : Int32) (v6_h7 : Int32) (ls : Array Slot) (hl : lv_has ls 7 [(0, .ref a0), (1, .int v1_h7), (2, .int v2_h7), (3, .int v3_h7), (4, .int v4_h7), (5, .int v5_h7), (6, .int v6_h7)]) (hf : f_X12_chain_L56 n k56 σh7 v1_h7 v2_h7 v3_h7 v4_h7 v5_h7 v6_h7 = some res), W p l e (hp_rm 42 0 0) s m ([.ref a0, .int a1, .int a2] : List Value).toArray below meth c Hh7 Lh7 0 0 (MQ below (hp_Qi Γ (fun r β => r = res.1 ∧ mo α β ∧ hm_M β a0 ρ res.2)) ([.ref a0, .int a1, .int a2] : List Value).toArray s 0 0 (hp_A Γ)) (F0 m 56 ls []) := by
        intro k56
        induction k56 with
        | zero => intro αh7 Hh7 Lh7 Bh7 σh7 Mh7 v1_h7 v2_h7 v3_h7 v4_h7 v5_h7 v6_h7 ls hl hf; rw [f_X12_chain_L56.eq_1] at hf; cases hf
        | succ k56 ih56 =>
          intro αh7 Hh7 Lh7 Bh7 σh7 Mh7 v1_h7 v2_h7 v3_h7 v4_h7 v5_h7 v6_h7 ls hl hf
          rw [f_X12_chain_L56.eq_2] at hf
          refine lv_iload hx hb dX12_chain_56 (lv_at hl 6 rfl) (hp_n (n := 58) rfl ?_)
          refine lv_if_lt (tgt := 111) hx hb dX12_chain_58 (by decide) (fun c8 => ?_) (fun c8 => hp_n (n := 61) rfl ?_)
          ·
            replace hf := ms_iT c8 hf
            refine lv_iload_n hx hb dX12_chain_111 rfl (lv_at hl 2 rfl) (hp_n (n := 112) rfl ?_)
            refine lv_if_ne (tgt := 119) hx hb dX12_chain_112 (by decide) (fun c9 => ?_) (fun c9 => hp_n (n := 115) rfl ?_)
            ·
              replace hf := ms_iF c9 hf
              refine lv_iload_n hx hb dX12_chain_119 rfl (lv_at hl 2 rfl) (hp_n (n := 120) rfl ?_)
              refine lv_iconst (v := 1) hx hb dX12_chain_120 (by decide) (hp_n (n := 121) rfl ?_)
              refine lv_icmp_ne (tgt := 129) hx hb dX12_chain_121 (by decide) (fun c10 => ?_) (fun c10 => hp_n (n := 124) rfl ?_)
              ·
                replace hf := ms_iF c10 hf
                refine lv_aload_n hx hb dX12_chain_129 rfl (lv_at hl 0 rfl) (hp_n (n := 130) rfl ?_)
                refine m_geti (k := 45) (φ := 695) (pc' := 133) C Bh7 Mh7 fl_X12_417 rfl rfl dX12_chain_130 rfl ?_
                cases hf
                exact q_iret C Bh7 hr hlk ⟨rfl, Bh7.2.2, Mh7⟩ dX12_chain_133
              ·
                replace hf := ms_iT c10 hf
                refine lv_iload hx hb dX12_chain_124 (lv_at hl 4 rfl) (hp_n (n := 126) rfl ?_)
                refine lv_goto (tgt := 133) hx hb dX12_chain_126 (by decide) ?_
                cases hf
                exact q_iret C Bh7 hr hlk ⟨rfl, Bh7.2.2, Mh7⟩ dX12_chain_133
            ·
              replace hf := ms_iT c9 hf
              refine lv_iload_n hx hb dX12_chain_115 rfl (lv_at hl 3 rfl) (hp_n (n := 116) rfl ?_)
              refine lv_goto (tgt := 133) hx hb dX12_chain_116 (by decide) ?_
              cases hf
              exact q_iret C Bh7 hr hlk ⟨rfl, Bh7.2.2, Mh7⟩ dX12_chain_133
          ·
            replace hf := ms_iF c8 hf
            obtain ⟨x11, ex11⟩ : ∃ y : Int32, y = v3_h7 + 1 := ⟨_, rfl⟩
            replace hf := ms_lE ex11 hf
            refine lv_iinc (v := x11) (lv' := [(3, .int x11), (0, .ref a0), (1, .int v1_h7), (2, .int v2_h7), (4, .int v4_h7), (5, .int v5_h7), (6, .int v6_h7)]) hx hb dX12_chain_61 hl (k := 3) rfl (by rw [ex11]; rfl) (by decide) rfl (fun ls hl => hp_n (n := 64) rfl ?_)
            refine lv_aload_n hx hb dX12_chain_64 rfl (lv_at hl 1 rfl) (hp_n (n := 65) rfl ?_)
            refine lv_iconst (v := 0) hx hb dX12_chain_65 (by decide) (hp_n (n := 66) rfl ?_)
            refine m_puti (k := 7) (φ := 657) (pc' := 69) C Bh7 Mh7 fl_X12_139 rfl rfl rfl rfl rfl dX12_chain_66 rfl (fun αh12 Hh12 Lh12 σh12 eh12 Bh12 Mh12 => ?_)
            replace hf := ms_lE eh12 hf
            refine lv_iload hx hb dX12_chain_69 (lv_at hl 5 rfl) (hp_n (n := 71) rfl ?_)
            have J82 : ∀ (αh13 : hp_T) (Hh13 : Heap) (Lh13 : List Loc) (Bh13 : hp_B Γ mo s α αh13 Hh13 Lh13) (σh13 : ms_T) (Mh13 : hm_M αh13 a0 ρ σh13) (v1_h13 : Int32) (v2_h13 : Int32) (v3_h13 : Int32) (v4_h13 : Int32) (v6_h13 : Int32) (ls : Array Slot) (hl : lv_has ls 7 [(0, .ref a0), (1, .int v1_h13), (2, .int v2_h13), (3, .int v3_h13), (4, .int v4_h13), (6, .int v6_h13)]) (hf : f_X12_chain_J82 n (f_X12_chain_L56 n k56) σh13 v1_h13 v2_h13 v3_h13 v4_h13 v6_h13 = some res), W p l e (hp_rm 42 0 0) s m ([.ref a0, .int a1, .int a2] : List Value).toArray below meth c Hh13 Lh13 0 0 (MQ below (hp_Qi Γ (fun r β => r = res.1 ∧ mo α β ∧ hm_M β a0 ρ res.2)) ([.ref a0, .int a1, .int a2] : List Value).toArray s 0 0 (hp_A Γ)) (F0 m 82 ls []) := by
              intro αh13 Hh13 Lh13 Bh13 σh13 Mh13 v1_h13 v2_h13 v3_h13 v4_h13 v6_h13 ls hl hf
              unfold f_X12_chain_J82 at hf
              refine lv_iload hx hb dX12_chain_82 (lv_at hl 4 rfl) (hp_n (n := 84) rfl ?_)
              refine lv_aload_n hx hb dX12_chain_84 rfl (lv_at hl 0 rfl) (hp_n (n := 85) rfl ?_)
              refine m_geti (k := 7) (φ := 657) (pc' := 88) C Bh13 Mh13 fl_X12_139 rfl rfl dX12_chain_85 rfl ?_
              refine lv_iadd hx hb dX12_chain_88 (hp_n (n := 89) rfl ?_)
              refine lv_topi (fun x14 ex14 => ?_)
              replace hf := ms_lE ex14 hf
              refine lv_istore (lv' := [(4, .int x14), (0, .ref a0), (1, .int v1_h13), (2, .int v2_h13), (3, .int v3_h13), (6, .int v6_h13)]) hx hb dX12_chain_89 hl (by decide) rfl (fun ls hl => hp_n (n := 91) rfl ?_)
              refine lv_aload_n hx hb dX12_chain_91 rfl (lv_at hl 1 rfl) (hp_n (n := 92) rfl ?_)
              obtain ⟨σh15, qh15, hf⟩ := ms_bE hf
              refine m_cv (pc' := 95) (a := a0) (ρ := ρ) Bh13 (hp_runV (As := []) (rest := []) C Bh13 (m_X12_notes n Γ l αh13 a0 ρ σh13 Mh13  σh15 qh15) lb_X12_notes lv_X12_notes lk_X12_423 Mh13.1 rfl (by decide) rfl hl.1 rfl (Nat.le_of_ble_eq_true rfl) dX12_chain_92 ⟨Nat.le_refl _, Nat.le_refl _⟩) rfl (fun αh15 Hh15 Lh15 Bh15 Mh15 => ?_)
              refine lv_iload hx hb dX12_chain_95 (lv_at hl 5 rfl) (hp_n (n := 97) rfl ?_)
              refine lv_istore (lv' := [(5, .int v6_h13), (4, .int x14), (0, .ref a0), (1, .int v1_h13), (2, .int v2_h13), (3, .int v3_h13), (6, .int v6_h13)]) hx hb dX12_chain_97 hl (by decide) rfl (fun ls hl => hp_n (n := 99) rfl ?_)
              refine lv_aload_n hx hb dX12_chain_99 rfl (lv_at hl 2 rfl) (hp_n (n := 100) rfl ?_)
              refine lv_iload_n hx hb dX12_chain_100 rfl (lv_at hl 3 rfl) (hp_n (n := 101) rfl ?_)
              refine lv_iload hx hb dX12_chain_101 (lv_at hl 6 rfl) (hp_n (n := 103) rfl ?_)
              obtain ⟨rh16, qh16, hf⟩ := ms_bE hf
              refine m_cp (pc' := 106) Bh15 (hp_runV (As := [.int v1_h13, .int v6_h13]) (rest := []) C Bh15 (m_X12_sizeAbove n Γ l αh15 a0 ρ σh15 Mh15 v1_h13 v6_h13 rh16 qh16) lb_X12_sizeAbove lv_X12_sizeAbove lk_X12_426 Mh15.1 rfl (by decide) rfl hl.1 rfl (Nat.le_of_ble_eq_true rfl) dX12_chain_103 ⟨Nat.le_refl _, Nat.le_refl _⟩) rfl (fun Hh16 Lh16 Bh16 => ?_)
              refine lv_istore (lv' := [(6, .int rh16), (5, .int v6_h13), (4, .int x14), (0, .ref a0), (1, .int v1_h13), (2, .int v2_h13), (3, .int v3_h13)]) hx hb dX12_chain_106 hl (by decide) rfl (fun ls hl => hp_n (n := 108) rfl ?_)
              refine lv_goto (tgt := 56) hx hb dX12_chain_108 (by decide) ?_
              exact ih56 αh15 Hh16 Lh16 Bh16 σh15 Mh15 v1_h13 v2_h13 v3_h13 x14 v6_h13 rh16 ls (lv_sub hl [3, 4, 5, 6, 2, 1, 0] rfl) hf
            refine lv_if_lt (tgt := 82) hx hb dX12_chain_71 (by decide) (fun c17 => ?_) (fun c17 => hp_n (n := 74) rfl ?_)
            ·
              replace hf := ms_iT c17 hf
              exact J82 αh12 Hh12 Lh12 Bh12 σh12 Mh12 v1_h7 v2_h7 x11 v4_h7 v6_h7 ls (lv_sub hl [1, 2, 3, 0, 4, 6] rfl) hf
            ·
              replace hf := ms_iF c17 hf
              refine lv_aload_n hx hb dX12_chain_74 rfl (lv_at hl 1 rfl) (hp_n (n := 75) rfl ?_)
              refine lv_iload hx hb dX12_chain_75 (lv_at hl 5 rfl) (hp_n (n := 77) rfl ?_)
              refine lv_iload hx hb dX12_chain_77 (lv_at hl 6 rfl) (hp_n (n := 79) rfl ?_)
              obtain ⟨σh18, qh18, hf⟩ := ms_bE hf
              refine m_cv (pc' := 82) (a := a0) (ρ := ρ) Bh12 (hp_runV (As := [.int v5_h7, .int v6_h7]) (rest := []) C Bh12 (m_X12_growth n Γ l αh12 a0 ρ σh12 Mh12 v5_h7 v6_h7 σh18 qh18) lb_X12_growth lv_X12_growth lk_X12_190 Mh12.1 rfl (by decide) rfl hl.1 rfl (Nat.le_of_ble_eq_true rfl) dX12_chain_79 ⟨Nat.le_refl _, Nat.le_refl _⟩) rfl (fun αh18 Hh18 Lh18 Bh18 Mh18 => ?_)
              exact J82 αh18 Hh18 Lh18 Bh18 σh18 Mh18 v1_h7 v2_h7 x11 v4_h7 v6_h7 ls (lv_sub hl [1, 2, 3, 0, 4, 6] rfl) hf
      refine lv_istore (lv' := [(6, .int rh6), (5, .int (-1 : Int32)), (4, .int (0 : Int32)), (3, .int (0 : Int32)), (0, .ref a0), (1, .int v1_h2), (2, .int v2_h2)]) hx hb dX12_chain_54 hl (by decide) rfl (fun ls hl => hp_n (n := 56) rfl ?_)
      exact J56 n αh5 Hh6 Lh6 Bh6 σh5 Mh5 v1_h2 v2_h2 (0 : Int32) (0 : Int32) (-1 : Int32) rh6 ls (lv_sub hl [4, 5, 6, 3, 2, 1, 0] rfl) hf
    ·
      replace hf := ms_iT c4 hf
      refine lv_iconst (v := (-1)) hx hb dX12_chain_33 (by decide) (hp_n (n := 34) rfl ?_)
      cases hf
      exact q_iret C Bh3 hr hlk ⟨rfl, Bh3.2.2, Mh3⟩ dX12_chain_34
  refine lv_if_ne (tgt := 14) hx hb dX12_chain_7 (by decide) (fun c19 => ?_) (fun c19 => hp_n (n := 10) rfl ?_)
  ·
    replace hf := ms_iF c19 hf
    refine lv_aload_n hx hb dX12_chain_14 rfl (lv_at hl 0 rfl) (hp_n (n := 15) rfl ?_)
    refine lv_iload_n hx hb dX12_chain_15 rfl (lv_at hl 1 rfl) (hp_n (n := 16) rfl ?_)
    obtain ⟨rh20, qh20, hf⟩ := ms_bE hf
    refine m_cp (pc' := 19) Bh1 (hp_runV (As := [.int a1]) (rest := [.ref a0]) C Bh1 (m_X12_isRecord n Γ l α a0 ρ σ hM a1 rh20 qh20) lb_X12_isRecord lv_X12_isRecord lk_X12_344 hM.1 rfl (by decide) rfl hl.1 rfl (Nat.le_of_ble_eq_true rfl) dX12_chain_16 ⟨Nat.le_refl _, Nat.le_refl _⟩) rfl (fun Hh20 Lh20 Bh20 => ?_)
    refine lv_if_ne (tgt := 26) hx hb dX12_chain_19 (by decide) (fun c21 => ?_) (fun c21 => hp_n (n := 22) rfl ?_)
    ·
      replace hf := ms_iF c21 hf
      refine lv_iconst (v := 0) hx hb dX12_chain_26 (by decide) (hp_n (n := 27) rfl ?_)
      exact J27 α Hh20 Lh20 Bh20 σ hM a1 a2 (0 : Int32) ls (lv_sub hl [0, 1, 2] rfl) hf
    ·
      replace hf := ms_iT c21 hf
      refine lv_iconst (v := 2) hx hb dX12_chain_22 (by decide) (hp_n (n := 23) rfl ?_)
      refine lv_goto (tgt := 27) hx hb dX12_chain_23 (by decide) ?_
      exact J27 α Hh20 Lh20 Bh20 σ hM a1 a2 (2 : Int32) ls (lv_sub hl [0, 1, 2] rfl) hf
  ·
    replace hf := ms_iT c19 hf
    refine lv_iconst (v := 1) hx hb dX12_chain_10 (by decide) (hp_n (n := 11) rfl ?_)
    refine lv_goto (tgt := 27) hx hb dX12_chain_11 (by decide) ?_
    exact J27 α Hh1 Lh1 Bh1 σ hM a1 a2 (1 : Int32) ls (lv_sub hl [0, 1, 2] rfl) hf
def f_X12_split_J82 (n : Nat) (rec30 : ms_T → Int32 → Int32 → Int32 → Int32 → Option (Int32 × ms_T)) (rec42 : ms_T → Int32 → Int32 → Int32 → Int32 → Int32 → Option (Int32 × ms_T)) (σh14 : ms_T) (v1_h14 : Int32) (v2_h14 : Int32) (v3_h14 : Int32) (v4_h14 : Int32) (v5_h14 : Int32) : Option (Int32 × ms_T) :=
  ms_l (v5_h14 + 1) fun x15 =>
  rec42 σh14 v1_h14 v2_h14 v3_h14 v4_h14 x15
def f_X12_split_J81 (n : Nat) (rec30 : ms_T → Int32 → Int32 → Int32 → Int32 → Option (Int32 × ms_T)) (rec42 : ms_T → Int32 → Int32 → Int32 → Int32 → Int32 → Option (Int32 × ms_T)) (σh18 : ms_T) (v1_h18 : Int32) (v2_h18 : Int32) (v4_h18 : Int32) (v5_h18 : Int32) (w0_h18 : Int32) : Option (Int32 × ms_T) :=
  f_X12_split_J82 n rec30 rec42 σh18 v1_h18 v2_h18 w0_h18 v4_h18 v5_h18
def f_X12_split_L42 (n : Nat) (rec30 : ms_T → Int32 → Int32 → Int32 → Int32 → Option (Int32 × ms_T)) : Nat → ms_T → Int32 → Int32 → Int32 → Int32 → Int32 → Option (Int32 × ms_T)
  | 0, _, _, _, _, _, _ => none
  | k42 + 1, σh10, v1_h10, v2_h10, v3_h10, v4_h10, v5_h10 =>
    if (4 : Int32) ≤ v5_h10 then
      ms_l (v4_h10 + 1) fun x12 =>
      rec30 σh10 v1_h10 v2_h10 v3_h10 x12
    else
      ms_b (f_X12_isAgreed n σh10 v4_h10 v5_h10) fun rh13 =>
      if rh13 = 0 then
        ms_l (v2_h10 + 1) fun x17 =>
        if 0 ≤ v3_h10 then
          f_X12_split_J81 n rec30 (f_X12_split_L42 n rec30 k42) σh10 v1_h10 x17 v4_h10 v5_h10 v3_h10
        else
          f_X12_split_J81 n rec30 (f_X12_split_L42 n rec30 k42) σh10 v1_h10 x17 v4_h10 v5_h10 (((10 : Int32) * v4_h10) + v5_h10)
      else
        f_X12_split_J82 n rec30 (f_X12_split_L42 n rec30 k42) σh10 v1_h10 v2_h10 v3_h10 v4_h10 v5_h10
def f_X12_split_L30 (n : Nat) : Nat → ms_T → Int32 → Int32 → Int32 → Int32 → Option (Int32 × ms_T)
  | 0, _, _, _, _, _ => none
  | k30 + 1, σh5, v1_h5, v2_h5, v3_h5, v4_h5 =>
    if (4 : Int32) ≤ v4_h5 then
      if v1_h5 = 0 then
        some (v2_h5, σh5)
      else
        if 0 ≤ v3_h5 then
          some (v3_h5, σh5)
        else
          ms_c (f_X12_refuse n σh5 (5 : Int32)) fun rh9 σh9 =>
          some (rh9, σh9)
    else
      ms_l ((v4_h5 + (1 : Int32))) fun x20 =>
      f_X12_split_L42 n (f_X12_split_L30 n k30) n σh5 v1_h5 v2_h5 v3_h5 v4_h5 x20
def f_X12_split_J15 (n : Nat) (σh2 : ms_T) (v1_h2 : Int32) (w0_h2 : Int32) : Option (Int32 × ms_T) :=
  ms_c (f_X12_is n σh2 w0_h2) fun rh3 σh3 =>
  if rh3 = 0 then
    some ((-1 : Int32), σh3)
  else
    f_X12_split_L30 n n σh3 v1_h2 (0 : Int32) (-1 : Int32) (0 : Int32)
def f_X12_split (n : Nat) (σ : ms_T) (a1 : Int32) : Option (Int32 × ms_T) :=
  ms_b (f_X12_isIn n a1 (0 : Int32) (1 : Int32)) fun rh1 =>
  if rh1 = 0 then
    f_X12_split_J15 n σ a1 (1 : Int32)
  else
    f_X12_split_J15 n σ a1 (0 : Int32)
set_option maxRecDepth 100000 in
set_option maxHeartbeats 4000000 in
theorem m_X12_split (n : Nat) (Γ : hp_G) (l : Launch) (α : hp_T) (a0 : Nat) (ρ : Nat → Nat) (σ : ms_T) (hM : hm_M α a0 ρ σ) (a1 : Int32) (res : (Int32 × ms_T)) (hf : f_X12_split n σ a1 = some res) : Met l yX12_split (hp_ws yX12_split cX12_split 6 (some .int)) (hp_rm 45 0 0) (hp_Pc Γ α [.ref a0, .int a1]) (hp_Qi Γ (fun r β => r = res.1 ∧ mo α β ∧ hm_M β a0 ρ res.2)) 0 0 (hp_A Γ) := by
  unfold f_X12_split at hf
  refine hp_start (by decide) ?_
  intro p e s m below meth c C hr hlk B0 hnm
  have C : hp_C Γ p m c cX12_split 6 s ([.ref a0, .int a1] : List Value).toArray RX12 := C
  have hx := C.1.1
  have hb := C.1.2.1
  have hown := C.1.2.2.2.1
  have hts := C.1.2.2.2.2
  have B : hp_B Γ mo s α α s.heap [] := ⟨B0.1, B0.2.1, mo_rf⟩
  have hl := lv_entry ([.ref a0, .int a1]) (n := 6) (Nat.le_of_ble_eq_true rfl)
  show W p l e (hp_rm 45 0 0) s m ([.ref a0, .int a1] : List Value).toArray below meth c s.heap [] 0 0 (MQ below (hp_Qi Γ (fun r β => r = res.1 ∧ mo α β ∧ hm_M β a0 ρ res.2)) ([.ref a0, .int a1] : List Value).toArray s 0 0 (hp_A Γ)) (entryFrame m ([.ref a0, .int a1] : List Value).toArray 6)
  rw [lg_entry_eq]
  generalize (lg_sl ([.ref a0, .int a1]) ++ List.replicate (6 - (lg_sl ([.ref a0, .int a1])).length) Slot.unset).toArray = ls at hl ⊢
  have hl : lv_has ls 6 [(0, .ref a0), (1, .int a1)] := hl
  refine lv_aload_n hx hb dX12_split_0 rfl (lv_at hl 0 rfl) (hp_n (n := 1) rfl ?_)
  refine lv_iload_n hx hb dX12_split_1 rfl (lv_at hl 1 rfl) (hp_n (n := 2) rfl ?_)
  refine lv_iconst (v := 0) hx hb dX12_split_2 (by decide) (hp_n (n := 3) rfl ?_)
  refine lv_iconst (v := 1) hx hb dX12_split_3 (by decide) (hp_n (n := 4) rfl ?_)
  obtain ⟨rh1, qh1, hf⟩ := ms_bE hf
  refine m_cp (pc' := 7) B (hp_runS (As := [.int a1, .int (0 : Int32), .int (1 : Int32)]) (rest := [.ref a0]) C B (m_X12_isIn n Γ l α a1 (0 : Int32) (1 : Int32) rh1 qh1) lb_X12_isIn ls_X12_isIn lk_X12_113 rfl (by decide) rfl hl.1 rfl (Nat.le_of_ble_eq_true rfl) dX12_split_4 ⟨Nat.le_refl _, Nat.le_refl _⟩) rfl (fun Hh1 Lh1 Bh1 => ?_)
  have J15 : ∀ (αh2 : hp_T) (Hh2 : Heap) (Lh2 : List Loc) (Bh2 : hp_B Γ mo s α αh2 Hh2 Lh2) (σh2 : ms_T) (Mh2 : hm_M αh2 a0 ρ σh2) (v1_h2 : Int32) (w0_h2 : Int32) (ls : Array Slot) (hl : lv_has ls 6 [(0, .ref a0), (1, .int v1_h2)]) (hf : f_X12_split_J15 n σh2 v1_h2 w0_h2 = some res), W p l e (hp_rm 45 0 0) s m ([.ref a0, .int a1] : List Value).toArray below meth c Hh2 Lh2 0 0 (MQ below (hp_Qi Γ (fun r β => r = res.1 ∧ mo α β ∧ hm_M β a0 ρ res.2)) ([.ref a0, .int a1] : List Value).toArray s 0 0 (hp_A Γ)) (F0 m 15 ls [.int w0_h2, .ref a0]) := by
    intro αh2 Hh2 Lh2 Bh2 σh2 Mh2 v1_h2 w0_h2 ls hl hf
    unfold f_X12_split_J15 at hf
    obtain ⟨rh3, σh3, qh3, hf⟩ := ms_cE hf
    refine m_ci (pc' := 18) (a := a0) (ρ := ρ) Bh2 (hp_runV (As := [.int w0_h2]) (rest := []) C Bh2 (m_X12_is n Γ l αh2 a0 ρ σh2 Mh2 w0_h2 (rh3, σh3) qh3) lb_X12_is lv_X12_is lk_X12_309 Mh2.1 rfl (by decide) rfl hl.1 rfl (Nat.le_of_ble_eq_true rfl) dX12_split_15 ⟨Nat.le_refl _, Nat.le_refl _⟩) rfl (fun αh3 Hh3 Lh3 Bh3 Mh3 => ?_)
    refine lv_if_ne (tgt := 23) hx hb dX12_split_18 (by decide) (fun c4 => ?_) (fun c4 => hp_n (n := 21) rfl ?_)
    ·
      replace hf := ms_iF c4 hf
      refine lv_iconst (v := 0) hx hb dX12_split_23 (by decide) (hp_n (n := 24) rfl ?_)
      refine lv_istore_n (lv' := [(2, .int (0 : Int32)), (0, .ref a0), (1, .int v1_h2)]) hx hb dX12_split_24 rfl hl (by decide) rfl (fun ls hl => hp_n (n := 25) rfl ?_)
      refine lv_iconst (v := (-1)) hx hb dX12_split_25 (by decide) (hp_n (n := 26) rfl ?_)
      refine lv_istore_n (lv' := [(3, .int (-1 : Int32)), (2, .int (0 : Int32)), (0, .ref a0), (1, .int v1_h2)]) hx hb dX12_split_26 rfl hl (by decide) rfl (fun ls hl => hp_n (n := 27) rfl ?_)
      refine lv_iconst (v := 0) hx hb dX12_split_27 (by decide) (hp_n (n := 28) rfl ?_)
      have J30 : ∀ (k30 : Nat) (αh5 : hp_T) (Hh5 : Heap) (Lh5 : List Loc) (Bh5 : hp_B Γ mo s α αh5 Hh5 Lh5) (σh5 : ms_T) (Mh5 : hm_M αh5 a0 ρ σh5) (v1_h5 : Int32) (v2_h5 : Int32) (v3_h5 : Int32) (v4_h5 : Int32) (ls : Array Slot) (hl : lv_has ls 6 [(0, .ref a0), (1, .int v1_h5), (2, .int v2_h5), (3, .int v3_h5), (4, .int v4_h5)]) (hf : f_X12_split_L30 n k30 σh5 v1_h5 v2_h5 v3_h5 v4_h5 = some res), W p l e (hp_rm 45 0 0) s m ([.ref a0, .int a1] : List Value).toArray below meth c Hh5 Lh5 0 0 (MQ below (hp_Qi Γ (fun r β => r = res.1 ∧ mo α β ∧ hm_M β a0 ρ res.2)) ([.ref a0, .int a1] : List Value).toArray s 0 0 (hp_A Γ)) (F0 m 30 ls []) := by
        intro k30
        induction k30 with
        | zero => intro αh5 Hh5 Lh5 Bh5 σh5 Mh5 v1_h5 v2_h5 v3_h5 v4_h5 ls hl hf; rw [f_X12_split_L30.eq_1] at hf; cases hf
        | succ k30 ih30 =>
          intro αh5 Hh5 Lh5 Bh5 σh5 Mh5 v1_h5 v2_h5 v3_h5 v4_h5 ls hl hf
          rw [f_X12_split_L30.eq_2] at hf
          refine lv_iload hx hb dX12_split_30 (lv_at hl 4 rfl) (hp_n (n := 32) rfl ?_)
          refine lv_iconst (v := 4) hx hb dX12_split_32 (by decide) (hp_n (n := 33) rfl ?_)
          refine lv_icmp_ge (tgt := 94) hx hb dX12_split_33 (by decide) (fun c6 => ?_) (fun c6 => hp_n (n := 36) rfl ?_)
          ·
            replace hf := ms_iT c6 hf
            refine lv_iload_n hx hb dX12_split_94 rfl (lv_at hl 1 rfl) (hp_n (n := 95) rfl ?_)
            refine lv_if_ne (tgt := 102) hx hb dX12_split_95 (by decide) (fun c7 => ?_) (fun c7 => hp_n (n := 98) rfl ?_)
            ·
              replace hf := ms_iF c7 hf
              refine lv_iload_n hx hb dX12_split_102 rfl (lv_at hl 3 rfl) (hp_n (n := 103) rfl ?_)
              refine lv_if_ge (tgt := 114) hx hb dX12_split_103 (by decide) (fun c8 => ?_) (fun c8 => hp_n (n := 106) rfl ?_)
              ·
                replace hf := ms_iT c8 hf
                refine lv_iload_n hx hb dX12_split_114 rfl (lv_at hl 3 rfl) (hp_n (n := 115) rfl ?_)
                cases hf
                exact q_iret C Bh5 hr hlk ⟨rfl, Bh5.2.2, Mh5⟩ dX12_split_115
              ·
                replace hf := ms_iF c8 hf
                refine lv_aload_n hx hb dX12_split_106 rfl (lv_at hl 0 rfl) (hp_n (n := 107) rfl ?_)
                refine lv_iconst (v := 5) hx hb dX12_split_107 (by decide) (hp_n (n := 108) rfl ?_)
                obtain ⟨rh9, σh9, qh9, hf⟩ := ms_cE hf
                refine m_ci (pc' := 111) (a := a0) (ρ := ρ) Bh5 (hp_runV (As := [.int (5 : Int32)]) (rest := []) C Bh5 (m_X12_refuse n Γ l αh5 a0 ρ σh5 Mh5 (5 : Int32) (rh9, σh9) qh9) lb_X12_refuse lv_X12_refuse lk_X12_212 Mh5.1 rfl (by decide) rfl hl.1 rfl (Nat.le_of_ble_eq_true rfl) dX12_split_108 ⟨Nat.le_refl _, Nat.le_refl _⟩) rfl (fun αh9 Hh9 Lh9 Bh9 Mh9 => ?_)
                refine lv_goto (tgt := 115) hx hb dX12_split_111 (by decide) ?_
                cases hf
                exact q_iret C Bh9 hr hlk ⟨rfl, Bh9.2.2, Mh9⟩ dX12_split_115
            ·
              replace hf := ms_iT c7 hf
              refine lv_iload_n hx hb dX12_split_98 rfl (lv_at hl 2 rfl) (hp_n (n := 99) rfl ?_)
              refine lv_goto (tgt := 115) hx hb dX12_split_99 (by decide) ?_
              cases hf
              exact q_iret C Bh5 hr hlk ⟨rfl, Bh5.2.2, Mh5⟩ dX12_split_115
          ·
            replace hf := ms_iF c6 hf
            refine lv_iload hx hb dX12_split_36 (lv_at hl 4 rfl) (hp_n (n := 38) rfl ?_)
            refine lv_iconst (v := 1) hx hb dX12_split_38 (by decide) (hp_n (n := 39) rfl ?_)
            refine lv_iadd hx hb dX12_split_39 (hp_n (n := 40) rfl ?_)
            have J42 : ∀ (k42 : Nat) (αh10 : hp_T) (Hh10 : Heap) (Lh10 : List Loc) (Bh10 : hp_B Γ mo s α αh10 Hh10 Lh10) (σh10 : ms_T) (Mh10 : hm_M αh10 a0 ρ σh10) (v1_h10 : Int32) (v2_h10 : Int32) (v3_h10 : Int32) (v4_h10 : Int32) (v5_h10 : Int32) (ls : Array Slot) (hl : lv_has ls 6 [(0, .ref a0), (1, .int v1_h10), (2, .int v2_h10), (3, .int v3_h10), (4, .int v4_h10), (5, .int v5_h10)]) (hf : f_X12_split_L42 n (f_X12_split_L30 n k30) k42 σh10 v1_h10 v2_h10 v3_h10 v4_h10 v5_h10 = some res), W p l e (hp_rm 45 0 0) s m ([.ref a0, .int a1] : List Value).toArray below meth c Hh10 Lh10 0 0 (MQ below (hp_Qi Γ (fun r β => r = res.1 ∧ mo α β ∧ hm_M β a0 ρ res.2)) ([.ref a0, .int a1] : List Value).toArray s 0 0 (hp_A Γ)) (F0 m 42 ls []) := by
              intro k42
              induction k42 with
              | zero => intro αh10 Hh10 Lh10 Bh10 σh10 Mh10 v1_h10 v2_h10 v3_h10 v4_h10 v5_h10 ls hl hf; rw [f_X12_split_L42.eq_1] at hf; cases hf
              | succ k42 ih42 =>
                intro αh10 Hh10 Lh10 Bh10 σh10 Mh10 v1_h10 v2_h10 v3_h10 v4_h10 v5_h10 ls hl hf
                rw [f_X12_split_L42.eq_2] at hf
                refine lv_iload hx hb dX12_split_42 (lv_at hl 5 rfl) (hp_n (n := 44) rfl ?_)
                refine lv_iconst (v := 4) hx hb dX12_split_44 (by decide) (hp_n (n := 45) rfl ?_)
                refine lv_icmp_ge (tgt := 88) hx hb dX12_split_45 (by decide) (fun c11 => ?_) (fun c11 => hp_n (n := 48) rfl ?_)
                ·
                  replace hf := ms_iT c11 hf
                  obtain ⟨x12, ex12⟩ : ∃ y : Int32, y = v4_h10 + 1 := ⟨_, rfl⟩
                  replace hf := ms_lE ex12 hf
                  refine lv_iinc (v := x12) (lv' := [(4, .int x12), (0, .ref a0), (1, .int v1_h10), (2, .int v2_h10), (3, .int v3_h10), (5, .int v5_h10)]) hx hb dX12_split_88 hl (k := 4) rfl (by rw [ex12]; rfl) (by decide) rfl (fun ls hl => hp_n (n := 91) rfl ?_)
                  refine lv_goto (tgt := 30) hx hb dX12_split_91 (by decide) ?_
                  exact ih30 αh10 Hh10 Lh10 Bh10 σh10 Mh10 v1_h10 v2_h10 v3_h10 x12 ls (lv_sub hl [1, 2, 3, 4, 0] rfl) hf
                ·
                  replace hf := ms_iF c11 hf
                  refine lv_aload_n hx hb dX12_split_48 rfl (lv_at hl 0 rfl) (hp_n (n := 49) rfl ?_)
                  refine lv_iload hx hb dX12_split_49 (lv_at hl 4 rfl) (hp_n (n := 51) rfl ?_)
                  refine lv_iload hx hb dX12_split_51 (lv_at hl 5 rfl) (hp_n (n := 53) rfl ?_)
                  obtain ⟨rh13, qh13, hf⟩ := ms_bE hf
                  refine m_cp (pc' := 56) Bh10 (hp_runV (As := [.int v4_h10, .int v5_h10]) (rest := []) C Bh10 (m_X12_isAgreed n Γ l αh10 a0 ρ σh10 Mh10 v4_h10 v5_h10 rh13 qh13) lb_X12_isAgreed lv_X12_isAgreed lk_X12_390 Mh10.1 rfl (by decide) rfl hl.1 rfl (Nat.le_of_ble_eq_true rfl) dX12_split_53 ⟨Nat.le_refl _, Nat.le_refl _⟩) rfl (fun Hh13 Lh13 Bh13 => ?_)
                  have J82 : ∀ (αh14 : hp_T) (Hh14 : Heap) (Lh14 : List Loc) (Bh14 : hp_B Γ mo s α αh14 Hh14 Lh14) (σh14 : ms_T) (Mh14 : hm_M αh14 a0 ρ σh14) (v1_h14 : Int32) (v2_h14 : Int32) (v3_h14 : Int32) (v4_h14 : Int32) (v5_h14 : Int32) (ls : Array Slot) (hl : lv_has ls 6 [(0, .ref a0), (1, .int v1_h14), (2, .int v2_h14), (3, .int v3_h14), (4, .int v4_h14), (5, .int v5_h14)]) (hf : f_X12_split_J82 n (f_X12_split_L30 n k30) (f_X12_split_L42 n (f_X12_split_L30 n k30) k42) σh14 v1_h14 v2_h14 v3_h14 v4_h14 v5_h14 = some res), W p l e (hp_rm 45 0 0) s m ([.ref a0, .int a1] : List Value).toArray below meth c Hh14 Lh14 0 0 (MQ below (hp_Qi Γ (fun r β => r = res.1 ∧ mo α β ∧ hm_M β a0 ρ res.2)) ([.ref a0, .int a1] : List Value).toArray s 0 0 (hp_A Γ)) (F0 m 82 ls []) := by
                    intro αh14 Hh14 Lh14 Bh14 σh14 Mh14 v1_h14 v2_h14 v3_h14 v4_h14 v5_h14 ls hl hf
                    unfold f_X12_split_J82 at hf
                    obtain ⟨x15, ex15⟩ : ∃ y : Int32, y = v5_h14 + 1 := ⟨_, rfl⟩
                    replace hf := ms_lE ex15 hf
                    refine lv_iinc (v := x15) (lv' := [(5, .int x15), (0, .ref a0), (1, .int v1_h14), (2, .int v2_h14), (3, .int v3_h14), (4, .int v4_h14)]) hx hb dX12_split_82 hl (k := 5) rfl (by rw [ex15]; rfl) (by decide) rfl (fun ls hl => hp_n (n := 85) rfl ?_)
                    refine lv_goto (tgt := 42) hx hb dX12_split_85 (by decide) ?_
                    exact ih42 αh14 Hh14 Lh14 Bh14 σh14 Mh14 v1_h14 v2_h14 v3_h14 v4_h14 x15 ls (lv_sub hl [1, 2, 3, 4, 5, 0] rfl) hf
                  refine lv_if_eq (tgt := 62) hx hb dX12_split_56 (by decide) (fun c16 => ?_) (fun c16 => hp_n (n := 59) rfl ?_)
                  ·
                    replace hf := ms_iT c16 hf
                    obtain ⟨x17, ex17⟩ : ∃ y : Int32, y = v2_h10 + 1 := ⟨_, rfl⟩
                    replace hf := ms_lE ex17 hf
                    refine lv_iinc (v := x17) (lv' := [(2, .int x17), (0, .ref a0), (1, .int v1_h10), (3, .int v3_h10), (4, .int v4_h10), (5, .int v5_h10)]) hx hb dX12_split_62 hl (k := 2) rfl (by rw [ex17]; rfl) (by decide) rfl (fun ls hl => hp_n (n := 65) rfl ?_)
                    refine lv_iload_n hx hb dX12_split_65 rfl (lv_at hl 3 rfl) (hp_n (n := 66) rfl ?_)
                    have J81 : ∀ (αh18 : hp_T) (Hh18 : Heap) (Lh18 : List Loc) (Bh18 : hp_B Γ mo s α αh18 Hh18 Lh18) (σh18 : ms_T) (Mh18 : hm_M αh18 a0 ρ σh18) (v1_h18 : Int32) (v2_h18 : Int32) (v4_h18 : Int32) (v5_h18 : Int32) (w0_h18 : Int32) (ls : Array Slot) (hl : lv_has ls 6 [(0, .ref a0), (1, .int v1_h18), (2, .int v2_h18), (4, .int v4_h18), (5, .int v5_h18)]) (hf : f_X12_split_J81 n (f_X12_split_L30 n k30) (f_X12_split_L42 n (f_X12_split_L30 n k30) k42) σh18 v1_h18 v2_h18 v4_h18 v5_h18 w0_h18 = some res), W p l e (hp_rm 45 0 0) s m ([.ref a0, .int a1] : List Value).toArray below meth c Hh18 Lh18 0 0 (MQ below (hp_Qi Γ (fun r β => r = res.1 ∧ mo α β ∧ hm_M β a0 ρ res.2)) ([.ref a0, .int a1] : List Value).toArray s 0 0 (hp_A Γ)) (F0 m 81 ls [.int w0_h18]) := by
                      intro αh18 Hh18 Lh18 Bh18 σh18 Mh18 v1_h18 v2_h18 v4_h18 v5_h18 w0_h18 ls hl hf
                      unfold f_X12_split_J81 at hf
                      refine lv_istore_n (lv' := [(3, .int w0_h18), (0, .ref a0), (1, .int v1_h18), (2, .int v2_h18), (4, .int v4_h18), (5, .int v5_h18)]) hx hb dX12_split_81 rfl hl (by decide) rfl (fun ls hl => hp_n (n := 82) rfl ?_)
                      exact J82 αh18 Hh18 Lh18 Bh18 σh18 Mh18 v1_h18 v2_h18 w0_h18 v4_h18 v5_h18 ls (lv_sub hl [1, 2, 3, 0, 4, 5] rfl) hf
                    refine lv_if_ge (tgt := 80) hx hb dX12_split_66 (by decide) (fun c19 => ?_) (fun c19 => hp_n (n := 69) rfl ?_)
                    ·
                      replace hf := ms_iT c19 hf
                      refine lv_iload_n hx hb dX12_split_80 rfl (lv_at hl 3 rfl) (hp_n (n := 81) rfl ?_)
                      exact J81 αh10 Hh13 Lh13 Bh13 σh10 Mh10 v1_h10 x17 v4_h10 v5_h10 v3_h10 ls (lv_sub hl [1, 2, 0, 4, 5] rfl) hf
                    ·
                      replace hf := ms_iF c19 hf
                      refine lv_bipush (v := 10) hx hb dX12_split_69 (by decide) (hp_n (n := 71) rfl ?_)
                      refine lv_iload hx hb dX12_split_71 (lv_at hl 4 rfl) (hp_n (n := 73) rfl ?_)
                      refine lv_imul hx hb dX12_split_73 (hp_n (n := 74) rfl ?_)
                      refine lv_iload hx hb dX12_split_74 (lv_at hl 5 rfl) (hp_n (n := 76) rfl ?_)
                      refine lv_iadd hx hb dX12_split_76 (hp_n (n := 77) rfl ?_)
                      refine lv_goto (tgt := 81) hx hb dX12_split_77 (by decide) ?_
                      exact J81 αh10 Hh13 Lh13 Bh13 σh10 Mh10 v1_h10 x17 v4_h10 v5_h10 (((10 : Int32) * v4_h10) + v5_h10) ls (lv_sub hl [1, 2, 0, 4, 5] rfl) hf
                  ·
                    replace hf := ms_iF c16 hf
                    refine lv_goto (tgt := 82) hx hb dX12_split_59 (by decide) ?_
                    exact J82 αh10 Hh13 Lh13 Bh13 σh10 Mh10 v1_h10 v2_h10 v3_h10 v4_h10 v5_h10 ls (lv_sub hl [0, 1, 2, 3, 4, 5] rfl) hf
            refine lv_topi (fun x20 ex20 => ?_)
            replace hf := ms_lE ex20 hf
            refine lv_istore (lv' := [(5, .int x20), (0, .ref a0), (1, .int v1_h5), (2, .int v2_h5), (3, .int v3_h5), (4, .int v4_h5)]) hx hb dX12_split_40 hl (by decide) rfl (fun ls hl => hp_n (n := 42) rfl ?_)
            exact J42 n αh5 Hh5 Lh5 Bh5 σh5 Mh5 v1_h5 v2_h5 v3_h5 v4_h5 x20 ls (lv_sub hl [1, 2, 3, 4, 5, 0] rfl) hf
      refine lv_istore (lv' := [(4, .int (0 : Int32)), (3, .int (-1 : Int32)), (2, .int (0 : Int32)), (0, .ref a0), (1, .int v1_h2)]) hx hb dX12_split_28 hl (by decide) rfl (fun ls hl => hp_n (n := 30) rfl ?_)
      exact J30 n αh3 Hh3 Lh3 Bh3 σh3 Mh3 v1_h2 (0 : Int32) (-1 : Int32) (0 : Int32) ls (lv_sub hl [3, 4, 2, 1, 0] rfl) hf
    ·
      replace hf := ms_iT c4 hf
      refine lv_iconst (v := (-1)) hx hb dX12_split_21 (by decide) (hp_n (n := 22) rfl ?_)
      cases hf
      exact q_iret C Bh3 hr hlk ⟨rfl, Bh3.2.2, Mh3⟩ dX12_split_22
  refine lv_if_eq (tgt := 14) hx hb dX12_split_7 (by decide) (fun c21 => ?_) (fun c21 => hp_n (n := 10) rfl ?_)
  ·
    replace hf := ms_iT c21 hf
    refine lv_iconst (v := 1) hx hb dX12_split_14 (by decide) (hp_n (n := 15) rfl ?_)
    exact J15 α Hh1 Lh1 Bh1 σ hM a1 (1 : Int32) ls (lv_sub hl [0, 1] rfl) hf
  ·
    replace hf := ms_iF c21 hf
    refine lv_iconst (v := 0) hx hb dX12_split_10 (by decide) (hp_n (n := 11) rfl ?_)
    refine lv_goto (tgt := 15) hx hb dX12_split_11 (by decide) ?_
    exact J15 α Hh1 Lh1 Bh1 σ hM a1 (0 : Int32) ls (lv_sub hl [0, 1] rfl) hf
