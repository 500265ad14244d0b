def f_X12_statementGrow (n : Nat) (σ : ms_T) : Option (Int32 × ms_T) :=
  ms_b (f_X12_takes n σ (7 : Int32)) fun σh1 =>
  ms_c (f_X12_takesNumber n σh1 (0 : Int32) (99999 : Int32)) fun rh2 σh2 =>
  ms_b (f_X12_takes n σh2 (9 : Int32)) fun σh3 =>
  ms_c (f_X12_takesMark n σh3) fun rh4 σh4 =>
  ms_b (f_X12_takes n σh4 (2 : Int32)) fun σh5 =>
  ms_c (f_X12_takesNumber n σh5 rh2 (99999 : Int32)) fun rh6 σh6 =>
  ms_b (f_X12_takes n σh6 (10 : Int32)) fun σh7 =>
  ms_c (f_X12_takesMark n σh7) fun rh8 σh8 =>
  ms_c (f_X12_takesMarks n σh8) fun rh9 σh9 =>
  if (ms_I σh9 670) ≤ 0 then
    ms_c (f_X12_whyGrown n σh9 rh9 rh2 rh4 rh6 rh8) fun rh11 σh11 =>
    some (rh11, σh11)
  else
    some ((0 : Int32), σh9)
set_option maxRecDepth 100000 in
set_option maxHeartbeats 4000000 in
theorem m_X12_statementGrow (n : Nat) (Γ : hp_G) (l : Launch) (α : hp_T) (a0 : Nat) (ρ : Nat → Nat) (σ : ms_T) (hM : hm_M α a0 ρ σ)  (res : (Int32 × ms_T)) (hf : f_X12_statementGrow n σ = some res) : Met l yX12_statementGrow (hp_ws yX12_statementGrow cX12_statementGrow 6 (some .int)) (hp_rm 43 0 0) (hp_Pc Γ α [.ref a0]) (hp_Qi Γ (fun r β => r = res.1 ∧ mo α β ∧ hm_M β a0 ρ res.2)) 0 0 (hp_A Γ) := by
  unfold f_X12_statementGrow at hf
  refine hp_start (by decide) ?_
  intro p e s m below meth c C hr hlk B0 hnm
  have C : hp_C Γ p m c cX12_statementGrow 6 s ([.ref a0] : List Value).toArray RX12 := C
  have hx := C.1.1
  have hb := C.1.2.1
  have hown := C.1.2.2.2.1
  have hts := C.1.2.2.2.2
  have B : hp_B Γ mo s α α s.heap [] := ⟨B0.1, B0.2.1, mo_rf⟩
  have hl := lv_entry ([.ref a0]) (n := 6) (Nat.le_of_ble_eq_true rfl)
  show W p l e (hp_rm 43 0 0) s m ([.ref a0] : List Value).toArray below meth c s.heap [] 0 0 (MQ below (hp_Qi Γ (fun r β => r = res.1 ∧ mo α β ∧ hm_M β a0 ρ res.2)) ([.ref a0] : List Value).toArray s 0 0 (hp_A Γ)) (entryFrame m ([.ref a0] : List Value).toArray 6)
  rw [lg_entry_eq]
  generalize (lg_sl ([.ref a0]) ++ List.replicate (6 - (lg_sl ([.ref a0])).length) Slot.unset).toArray = ls at hl ⊢
  have hl : lv_has ls 6 [(0, .ref a0)] := hl
  refine lv_aload_n hx hb dX12_statementGrow_0 rfl (lv_at hl 0 rfl) (hp_n (n := 1) rfl ?_)
  refine lv_bipush (v := 7) hx hb dX12_statementGrow_1 (by decide) (hp_n (n := 3) rfl ?_)
  obtain ⟨σh1, qh1, hf⟩ := ms_bE hf
  refine m_cv (pc' := 6) (a := a0) (ρ := ρ) B (hp_runV (As := [.int (7 : Int32)]) (rest := []) C B (m_X12_takes n Γ l α a0 ρ σ hM (7 : Int32) σh1 qh1) lb_X12_takes lv_X12_takes lk_X12_303 hM.1 rfl (by decide) rfl hl.1 rfl (Nat.le_of_ble_eq_true rfl) dX12_statementGrow_3 ⟨Nat.le_refl _, Nat.le_refl _⟩) rfl (fun αh1 Hh1 Lh1 Bh1 Mh1 => ?_)
  refine lv_aload_n hx hb dX12_statementGrow_6 rfl (lv_at hl 0 rfl) (hp_n (n := 7) rfl ?_)
  refine lv_iconst (v := 0) hx hb dX12_statementGrow_7 (by decide) (hp_n (n := 8) rfl ?_)
  refine lv_ldcw hx hb hown (hts _ kc_X12_324) dX12_statementGrow_8 (hp_n (n := 11) rfl ?_)
  obtain ⟨rh2, σh2, qh2, hf⟩ := ms_cE hf
  refine m_ci (pc' := 14) (a := a0) (ρ := ρ) Bh1 (hp_runV (As := [.int (0 : Int32), .int (99999 : Int32)]) (rest := []) C Bh1 (m_X12_takesNumber n Γ l αh1 a0 ρ σh1 Mh1 (0 : Int32) (99999 : Int32) (rh2, σh2) qh2) lb_X12_takesNumber lv_X12_takesNumber lk_X12_279 Mh1.1 rfl (by decide) rfl hl.1 rfl (Nat.le_of_ble_eq_true rfl) dX12_statementGrow_11 ⟨Nat.le_refl _, Nat.le_refl _⟩) rfl (fun αh2 Hh2 Lh2 Bh2 Mh2 => ?_)
  refine lv_istore_n (lv' := [(1, .int rh2), (0, .ref a0)]) hx hb dX12_statementGrow_14 rfl hl (by decide) rfl (fun ls hl => hp_n (n := 15) rfl ?_)
  refine lv_aload_n hx hb dX12_statementGrow_15 rfl (lv_at hl 1 rfl) (hp_n (n := 16) rfl ?_)
  refine lv_bipush (v := 9) hx hb dX12_statementGrow_16 (by decide) (hp_n (n := 18) rfl ?_)
  obtain ⟨σh3, qh3, hf⟩ := ms_bE hf
  refine m_cv (pc' := 21) (a := a0) (ρ := ρ) Bh2 (hp_runV (As := [.int (9 : Int32)]) (rest := []) C Bh2 (m_X12_takes n Γ l αh2 a0 ρ σh2 Mh2 (9 : Int32) σh3 qh3) lb_X12_takes lv_X12_takes lk_X12_303 Mh2.1 rfl (by decide) rfl hl.1 rfl (Nat.le_of_ble_eq_true rfl) dX12_statementGrow_18 ⟨Nat.le_refl _, Nat.le_refl _⟩) rfl (fun αh3 Hh3 Lh3 Bh3 Mh3 => ?_)
  refine lv_aload_n hx hb dX12_statementGrow_21 rfl (lv_at hl 1 rfl) (hp_n (n := 22) rfl ?_)
  obtain ⟨rh4, σh4, qh4, hf⟩ := ms_cE hf
  refine m_ci (pc' := 25) (a := a0) (ρ := ρ) Bh3 (hp_runV (As := []) (rest := []) C Bh3 (m_X12_takesMark n Γ l αh3 a0 ρ σh3 Mh3  (rh4, σh4) qh4) lb_X12_takesMark lv_X12_takesMark lk_X12_325 Mh3.1 rfl (by decide) rfl hl.1 rfl (Nat.le_of_ble_eq_true rfl) dX12_statementGrow_22 ⟨Nat.le_refl _, Nat.le_refl _⟩) rfl (fun αh4 Hh4 Lh4 Bh4 Mh4 => ?_)
  refine lv_istore_n (lv' := [(2, .int rh4), (1, .int rh2), (0, .ref a0)]) hx hb dX12_statementGrow_25 rfl hl (by decide) rfl (fun ls hl => hp_n (n := 26) rfl ?_)
  refine lv_aload_n hx hb dX12_statementGrow_26 rfl (lv_at hl 2 rfl) (hp_n (n := 27) rfl ?_)
  refine lv_iconst (v := 2) hx hb dX12_statementGrow_27 (by decide) (hp_n (n := 28) rfl ?_)
  obtain ⟨σh5, qh5, hf⟩ := ms_bE hf
  refine m_cv (pc' := 31) (a := a0) (ρ := ρ) Bh4 (hp_runV (As := [.int (2 : Int32)]) (rest := []) C Bh4 (m_X12_takes n Γ l αh4 a0 ρ σh4 Mh4 (2 : Int32) σh5 qh5) lb_X12_takes lv_X12_takes lk_X12_303 Mh4.1 rfl (by decide) rfl hl.1 rfl (Nat.le_of_ble_eq_true rfl) dX12_statementGrow_28 ⟨Nat.le_refl _, Nat.le_refl _⟩) rfl (fun αh5 Hh5 Lh5 Bh5 Mh5 => ?_)
  refine lv_aload_n hx hb dX12_statementGrow_31 rfl (lv_at hl 2 rfl) (hp_n (n := 32) rfl ?_)
  refine lv_iload_n hx hb dX12_statementGrow_32 rfl (lv_at hl 1 rfl) (hp_n (n := 33) rfl ?_)
  refine lv_ldcw hx hb hown (hts _ kc_X12_324) dX12_statementGrow_33 (hp_n (n := 36) rfl ?_)
  obtain ⟨rh6, σh6, qh6, hf⟩ := ms_cE hf
  refine m_ci (pc' := 39) (a := a0) (ρ := ρ) Bh5 (hp_runV (As := [.int rh2, .int (99999 : Int32)]) (rest := []) C Bh5 (m_X12_takesNumber n Γ l αh5 a0 ρ σh5 Mh5 rh2 (99999 : Int32) (rh6, σh6) qh6) lb_X12_takesNumber lv_X12_takesNumber lk_X12_279 Mh5.1 rfl (by decide) rfl hl.1 rfl (Nat.le_of_ble_eq_true rfl) dX12_statementGrow_36 ⟨Nat.le_refl _, Nat.le_refl _⟩) rfl (fun αh6 Hh6 Lh6 Bh6 Mh6 => ?_)
  refine lv_istore_n (lv' := [(3, .int rh6), (2, .int rh4), (1, .int rh2), (0, .ref a0)]) hx hb dX12_statementGrow_39 rfl hl (by decide) rfl (fun ls hl => hp_n (n := 40) rfl ?_)
  refine lv_aload_n hx hb dX12_statementGrow_40 rfl (lv_at hl 3 rfl) (hp_n (n := 41) rfl ?_)
  refine lv_bipush (v := 10) hx hb dX12_statementGrow_41 (by decide) (hp_n (n := 43) rfl ?_)
  obtain ⟨σh7, qh7, hf⟩ := ms_bE hf
  refine m_cv (pc' := 46) (a := a0) (ρ := ρ) Bh6 (hp_runV (As := [.int (10 : Int32)]) (rest := []) C Bh6 (m_X12_takes n Γ l αh6 a0 ρ σh6 Mh6 (10 : Int32) σh7 qh7) lb_X12_takes lv_X12_takes lk_X12_303 Mh6.1 rfl (by decide) rfl hl.1 rfl (Nat.le_of_ble_eq_true rfl) dX12_statementGrow_43 ⟨Nat.le_refl _, Nat.le_refl _⟩) rfl (fun αh7 Hh7 Lh7 Bh7 Mh7 => ?_)
  refine lv_aload_n hx hb dX12_statementGrow_46 rfl (lv_at hl 3 rfl) (hp_n (n := 47) rfl ?_)
  obtain ⟨rh8, σh8, qh8, hf⟩ := ms_cE hf
  refine m_ci (pc' := 50) (a := a0) (ρ := ρ) Bh7 (hp_runV (As := []) (rest := []) C Bh7 (m_X12_takesMark n Γ l αh7 a0 ρ σh7 Mh7  (rh8, σh8) qh8) lb_X12_takesMark lv_X12_takesMark lk_X12_325 Mh7.1 rfl (by decide) rfl hl.1 rfl (Nat.le_of_ble_eq_true rfl) dX12_statementGrow_47 ⟨Nat.le_refl _, Nat.le_refl _⟩) rfl (fun αh8 Hh8 Lh8 Bh8 Mh8 => ?_)
  refine lv_istore (lv' := [(4, .int rh8), (3, .int rh6), (2, .int rh4), (1, .int rh2), (0, .ref a0)]) hx hb dX12_statementGrow_50 hl (by decide) rfl (fun ls hl => hp_n (n := 52) rfl ?_)
  refine lv_aload_n hx hb dX12_statementGrow_52 rfl (lv_at hl 4 rfl) (hp_n (n := 53) rfl ?_)
  obtain ⟨rh9, σh9, qh9, hf⟩ := ms_cE hf
  refine m_ci (pc' := 56) (a := a0) (ρ := ρ) Bh8 (hp_runV (As := []) (rest := []) C Bh8 (m_X12_takesMarks n Γ l αh8 a0 ρ σh8 Mh8  (rh9, σh9) qh9) lb_X12_takesMarks lv_X12_takesMarks lk_X12_329 Mh8.1 rfl (by decide) rfl hl.1 rfl (Nat.le_of_ble_eq_true rfl) dX12_statementGrow_53 ⟨Nat.le_refl _, Nat.le_refl _⟩) rfl (fun αh9 Hh9 Lh9 Bh9 Mh9 => ?_)
  refine lv_istore (lv' := [(5, .int rh9), (4, .int rh8), (3, .int rh6), (2, .int rh4), (1, .int rh2), (0, .ref a0)]) hx hb dX12_statementGrow_56 hl (by decide) rfl (fun ls hl => hp_n (n := 58) rfl ?_)
  refine lv_aload_n hx hb dX12_statementGrow_58 rfl (lv_at hl 5 rfl) (hp_n (n := 59) rfl ?_)
  refine m_geti (k := 20) (φ := 670) (pc' := 62) C Bh9 Mh9 fl_X12_262 rfl rfl dX12_statementGrow_59 rfl ?_
  refine lv_if_le (tgt := 69) hx hb dX12_statementGrow_62 (by decide) (fun c10 => ?_) (fun c10 => hp_n (n := 65) rfl ?_)
  ·
    replace hf := ms_iT c10 hf
    refine lv_aload_n hx hb dX12_statementGrow_69 rfl (lv_at hl 5 rfl) (hp_n (n := 70) rfl ?_)
    refine lv_iload hx hb dX12_statementGrow_70 (lv_at hl 0 rfl) (hp_n (n := 72) rfl ?_)
    refine lv_iload_n hx hb dX12_statementGrow_72 rfl (lv_at hl 4 rfl) (hp_n (n := 73) rfl ?_)
    refine lv_iload_n hx hb dX12_statementGrow_73 rfl (lv_at hl 3 rfl) (hp_n (n := 74) rfl ?_)
    refine lv_iload_n hx hb dX12_statementGrow_74 rfl (lv_at hl 2 rfl) (hp_n (n := 75) rfl ?_)
    refine lv_iload hx hb dX12_statementGrow_75 (lv_at hl 1 rfl) (hp_n (n := 77) rfl ?_)
    obtain ⟨rh11, σh11, qh11, hf⟩ := ms_cE hf
    refine m_ci (pc' := 80) (a := a0) (ρ := ρ) Bh9 (hp_runV (As := [.int rh9, .int rh2, .int rh4, .int rh6, .int rh8]) (rest := []) C Bh9 (m_X12_whyGrown n Γ l αh9 a0 ρ σh9 Mh9 rh9 rh2 rh4 rh6 rh8 (rh11, σh11) qh11) lb_X12_whyGrown lv_X12_whyGrown lk_X12_199 Mh9.1 rfl (by decide) rfl hl.1 rfl (Nat.le_of_ble_eq_true rfl) dX12_statementGrow_77 ⟨Nat.le_refl _, Nat.le_refl _⟩) rfl (fun αh11 Hh11 Lh11 Bh11 Mh11 => ?_)
    cases hf
    exact q_iret C Bh11 hr hlk ⟨rfl, Bh11.2.2, Mh11⟩ dX12_statementGrow_80
  ·
    replace hf := ms_iF c10 hf
    refine lv_iconst (v := 0) hx hb dX12_statementGrow_65 (by decide) (hp_n (n := 66) rfl ?_)
    refine lv_goto (tgt := 80) hx hb dX12_statementGrow_66 (by decide) ?_
    cases hf
    exact q_iret C Bh9 hr hlk ⟨rfl, Bh9.2.2, Mh9⟩ dX12_statementGrow_80
def f_X12_hear_L169 (n : Nat) : Nat → ms_T → Int32 → Int32 → Int32 → Option (Int32 × ms_T)
  | 0, _, _, _, _ => none
  | k169 + 1, σh10, v2_h10, v3_h10, v4_h10 =>
    if v2_h10 ≤ v4_h10 then
      ms_l (ms_sI σh10 682 v2_h10) fun σh12 =>
      some (v3_h10, σh12)
    else
      ms_g v4_h10 20 <|
      ms_g v4_h10 20 <|
      ms_l (ms_sE σh10 49 (v4_h10).toNatClampNeg (ms_E σh10 50 (v4_h10).toNatClampNeg)) fun σh15 =>
      ms_l (v4_h10 + 1) fun x16 =>
      (f_X12_hear_L169 n k169) σh15 v2_h10 v3_h10 x16
def f_X12_hear_J153 (n : Nat) (σh7 : ms_T) (v2_h7 : Int32) (v3_h7 : Int32) : Option (Int32 × ms_T) :=
  ms_b (f_X12_ends n σh7) fun σh8 =>
  if (ms_I σh8 670) ≤ 0 then
    f_X12_hear_L169 n n σh8 v2_h7 v3_h7 (0 : Int32)
  else
    some ((-1 : Int32), σh8)
def f_X12_hear_J145 (n : Nat) (rec35 : ms_T → Int32 → Int32 → Option (Int32 × ms_T)) (σh30 : ms_T) (v2_h30 : Int32) (w0_h30 : Int32) (w1_h30 : Int32) : Option (Int32 × ms_T) :=
  ms_l ((w1_h30 + w0_h30)) fun x31 =>
  ms_l (v2_h30 + 1) fun x32 =>
  rec35 σh30 x32 x31
def f_X12_hear_J129 (n : Nat) (rec35 : ms_T → Int32 → Int32 → Option (Int32 × ms_T)) (σh26 : ms_T) (v2_h26 : Int32) (v3_h26 : Int32) (w0_h26 : Int32) (w1_h26 : Int32) : Option (Int32 × ms_T) :=
  ms_g w1_h26 20 <|
  ms_l (ms_sE σh26 50 (w1_h26).toNatClampNeg w0_h26) fun σh28 =>
  ms_g v2_h26 20 <|
  if (ms_E σh28 50 (v2_h26).toNatClampNeg) = 0 then
    f_X12_hear_J145 n rec35 σh28 v2_h26 (1 : Int32) v3_h26
  else
    f_X12_hear_J145 n rec35 σh28 v2_h26 (0 : Int32) v3_h26
def f_X12_hear_J89 (n : Nat) (rec35 : ms_T → Int32 → Int32 → Option (Int32 × ms_T)) (σh22 : ms_T) (v2_h22 : Int32) (v3_h22 : Int32) (w0_h22 : Int32) : Option (Int32 × ms_T) :=
  ms_b (f_X12_must n σh22 w0_h22 (6 : Int32)) fun σh23 =>
  if (ms_I σh23 670) ≤ 0 then
    ms_b (f_X12_isWord n σh23 (6 : Int32)) fun rh25 =>
    if rh25 = 0 then
      ms_c (f_X12_statementGrow n σh23) fun rh35 σh35 =>
      f_X12_hear_J129 n rec35 σh35 v2_h22 v3_h22 rh35 v2_h22
    else
      ms_c (f_X12_statementIn n σh23) fun rh36 σh36 =>
      f_X12_hear_J129 n rec35 σh36 v2_h22 v3_h22 rh36 v2_h22
  else
    f_X12_hear_J153 n σh23 v2_h22 v3_h22
def f_X12_hear_J73 (n : Nat) (rec35 : ms_T → Int32 → Int32 → Option (Int32 × ms_T)) (σh20 : ms_T) (v2_h20 : Int32) (v3_h20 : Int32) (w0_h20 : Int32) : Option (Int32 × ms_T) :=
  ms_b (f_X12_must n σh20 w0_h20 (2 : Int32)) fun σh21 =>
  if (20 : Int32) ≤ v2_h20 then
    f_X12_hear_J89 n rec35 σh21 v2_h20 v3_h20 (0 : Int32)
  else
    f_X12_hear_J89 n rec35 σh21 v2_h20 v3_h20 (1 : Int32)
def f_X12_hear_J68 (n : Nat) (rec35 : ms_T → Int32 → Int32 → Option (Int32 × ms_T)) (σh38 : ms_T) (v2_h38 : Int32) (v3_h38 : Int32) : Option (Int32 × ms_T) :=
  f_X12_hear_J73 n rec35 σh38 v2_h38 v3_h38 (1 : Int32)
def f_X12_hear_L35 (n : Nat) : Nat → ms_T → Int32 → Int32 → Option (Int32 × ms_T)
  | 0, _, _, _ => none
  | k35 + 1, σh6, v2_h6, v3_h6 =>
    if (ms_I σh6 670) = 0 then
      if (ms_I σh6 674) = 0 then
        f_X12_hear_J153 n σh6 v2_h6 v3_h6
      else
        ms_b (f_X12_isWord n σh6 (6 : Int32)) fun rh19 =>
        if rh19 = 0 then
          ms_b (f_X12_isWord n σh6 (7 : Int32)) fun rh40 =>
          if rh40 = 0 then
            f_X12_hear_J73 n (f_X12_hear_L35 n k35) σh6 v2_h6 v3_h6 (0 : Int32)
          else
            f_X12_hear_J68 n (f_X12_hear_L35 n k35) σh6 v2_h6 v3_h6
        else
          f_X12_hear_J68 n (f_X12_hear_L35 n k35) σh6 v2_h6 v3_h6
    else
      f_X12_hear_J153 n σh6 v2_h6 v3_h6
def f_X12_hear_J18 (n : Nat) (σh2 : ms_T) (v1_h2 : Int32) (w0_h2 : Int32) : Option (Int32 × ms_T) :=
  ms_c (f_X12_is n σh2 w0_h2) fun rh3 σh3 =>
  if rh3 = 0 then
    some ((-1 : Int32), σh3)
  else
    ms_b (f_X12_begins n σh3 v1_h2) fun σh5 =>
    f_X12_hear_L35 n n σh5 (0 : Int32) (0 : Int32)
def f_X12_hear (n : Nat) (σ : ms_T) (a1 : Int32) : Option (Int32 × ms_T) :=
  ms_b (f_X12_isIn n a1 (0 : Int32) (ms_I σ 667)) fun rh1 =>
  if rh1 = 0 then
    f_X12_hear_J18 n σ a1 (1 : Int32)
  else
    f_X12_hear_J18 n σ a1 (0 : Int32)
set_option maxRecDepth 100000 in
set_option maxHeartbeats 4000000 in
theorem m_X12_hear (n : Nat) (Γ : hp_G) (l : Launch) (α : hp_T) (a0 : Nat) (ρ : Nat → Nat) (σ : ms_T) (hM : hm_M α a0 ρ σ) (a1 : Int32) (res : (Int32 × ms_T)) (hf : f_X12_hear n σ a1 = some res) : Met l yX12_hear (hp_ws yX12_hear cX12_hear 5 (some .int)) (hp_rm 45 0 0) (hp_Pc Γ α [.ref a0, .int a1]) (hp_Qi Γ (fun r β => r = res.1 ∧ mo α β ∧ hm_M β a0 ρ res.2)) 0 0 (hp_A Γ) := by
  unfold f_X12_hear at hf
  refine hp_start (by decide) ?_
  intro p e s m below meth c C hr hlk B0 hnm
  have C : hp_C Γ p m c cX12_hear 5 s ([.ref a0, .int a1] : List Value).toArray RX12 := C
  have hx := C.1.1
  have hb := C.1.2.1
  have hown := C.1.2.2.2.1
  have hts := C.1.2.2.2.2
  have B : hp_B Γ mo s α α s.heap [] := ⟨B0.1, B0.2.1, mo_rf⟩
  have hl := lv_entry ([.ref a0, .int a1]) (n := 5) (Nat.le_of_ble_eq_true rfl)
  show W p l e (hp_rm 45 0 0) s m ([.ref a0, .int a1] : List Value).toArray below meth c s.heap [] 0 0 (MQ below (hp_Qi Γ (fun r β => r = res.1 ∧ mo α β ∧ hm_M β a0 ρ res.2)) ([.ref a0, .int a1] : List Value).toArray s 0 0 (hp_A Γ)) (entryFrame m ([.ref a0, .int a1] : List Value).toArray 5)
  rw [lg_entry_eq]
  generalize (lg_sl ([.ref a0, .int a1]) ++ List.replicate (5 - (lg_sl ([.ref a0, .int a1])).length) Slot.unset).toArray = ls at hl ⊢
  have hl : lv_has ls 5 [(0, .ref a0), (1, .int a1)] := hl
  refine lv_aload_n hx hb dX12_hear_0 rfl (lv_at hl 0 rfl) (hp_n (n := 1) rfl ?_)
  refine lv_iload_n hx hb dX12_hear_1 rfl (lv_at hl 1 rfl) (hp_n (n := 2) rfl ?_)
  refine lv_iconst (v := 0) hx hb dX12_hear_2 (by decide) (hp_n (n := 3) rfl ?_)
  refine lv_aload_n hx hb dX12_hear_3 rfl (lv_at hl 0 rfl) (hp_n (n := 4) rfl ?_)
  refine m_geti (k := 17) (φ := 667) (pc' := 7) C B hM fl_X12_230 rfl rfl dX12_hear_4 rfl ?_
  obtain ⟨rh1, qh1, hf⟩ := ms_bE hf
  refine m_cp (pc' := 10) B (hp_runS (As := [.int a1, .int (0 : Int32), .int (ms_I σ 667)]) (rest := [.ref a0]) C B (m_X12_isIn n Γ l α a1 (0 : Int32) (ms_I σ 667) rh1 qh1) lb_X12_isIn ls_X12_isIn lk_X12_113 rfl (by decide) rfl hl.1 rfl (Nat.le_of_ble_eq_true rfl) dX12_hear_7 ⟨Nat.le_refl _, Nat.le_refl _⟩) rfl (fun Hh1 Lh1 Bh1 => ?_)
  have J18 : ∀ (αh2 : hp_T) (Hh2 : Heap) (Lh2 : List Loc) (Bh2 : hp_B Γ mo s α αh2 Hh2 Lh2) (σh2 : ms_T) (Mh2 : hm_M αh2 a0 ρ σh2) (v1_h2 : Int32) (w0_h2 : Int32) (ls : Array Slot) (hl : lv_has ls 5 [(0, .ref a0), (1, .int v1_h2)]) (hf : f_X12_hear_J18 n σh2 v1_h2 w0_h2 = some res), W p l e (hp_rm 45 0 0) s m ([.ref a0, .int a1] : List Value).toArray below meth c Hh2 Lh2 0 0 (MQ below (hp_Qi Γ (fun r β => r = res.1 ∧ mo α β ∧ hm_M β a0 ρ res.2)) ([.ref a0, .int a1] : List Value).toArray s 0 0 (hp_A Γ)) (F0 m 18 ls [.int w0_h2, .ref a0]) := by
    intro αh2 Hh2 Lh2 Bh2 σh2 Mh2 v1_h2 w0_h2 ls hl hf
    unfold f_X12_hear_J18 at hf
    obtain ⟨rh3, σh3, qh3, hf⟩ := ms_cE hf
    refine m_ci (pc' := 21) (a := a0) (ρ := ρ) Bh2 (hp_runV (As := [.int w0_h2]) (rest := []) C Bh2 (m_X12_is n Γ l αh2 a0 ρ σh2 Mh2 w0_h2 (rh3, σh3) qh3) lb_X12_is lv_X12_is lk_X12_309 Mh2.1 rfl (by decide) rfl hl.1 rfl (Nat.le_of_ble_eq_true rfl) dX12_hear_18 ⟨Nat.le_refl _, Nat.le_refl _⟩) rfl (fun αh3 Hh3 Lh3 Bh3 Mh3 => ?_)
    refine lv_if_ne (tgt := 26) hx hb dX12_hear_21 (by decide) (fun c4 => ?_) (fun c4 => hp_n (n := 24) rfl ?_)
    ·
      replace hf := ms_iF c4 hf
      refine lv_aload_n hx hb dX12_hear_26 rfl (lv_at hl 0 rfl) (hp_n (n := 27) rfl ?_)
      refine lv_iload_n hx hb dX12_hear_27 rfl (lv_at hl 1 rfl) (hp_n (n := 28) rfl ?_)
      obtain ⟨σh5, qh5, hf⟩ := ms_bE hf
      refine m_cv (pc' := 31) (a := a0) (ρ := ρ) Bh3 (hp_runV (As := [.int v1_h2]) (rest := []) C Bh3 (m_X12_begins n Γ l αh3 a0 ρ σh3 Mh3 v1_h2 σh5 qh5) lb_X12_begins lv_X12_begins lk_X12_312 Mh3.1 rfl (by decide) rfl hl.1 rfl (Nat.le_of_ble_eq_true rfl) dX12_hear_28 ⟨Nat.le_refl _, Nat.le_refl _⟩) rfl (fun αh5 Hh5 Lh5 Bh5 Mh5 => ?_)
      refine lv_iconst (v := 0) hx hb dX12_hear_31 (by decide) (hp_n (n := 32) rfl ?_)
      refine lv_istore_n (lv' := [(2, .int (0 : Int32)), (0, .ref a0), (1, .int v1_h2)]) hx hb dX12_hear_32 rfl hl (by decide) rfl (fun ls hl => hp_n (n := 33) rfl ?_)
      refine lv_iconst (v := 0) hx hb dX12_hear_33 (by decide) (hp_n (n := 34) rfl ?_)
      have J35 : ∀ (k35 : Nat) (αh6 : hp_T) (Hh6 : Heap) (Lh6 : List Loc) (Bh6 : hp_B Γ mo s α αh6 Hh6 Lh6) (σh6 : ms_T) (Mh6 : hm_M αh6 a0 ρ σh6) (v2_h6 : Int32) (v3_h6 : Int32) (ls : Array Slot) (hl : lv_has ls 5 [(0, .ref a0), (2, .int v2_h6), (3, .int v3_h6)]) (hf : f_X12_hear_L35 n k35 σh6 v2_h6 v3_h6 = some res), W p l e (hp_rm 45 0 0) s m ([.ref a0, .int a1] : List Value).toArray below meth c Hh6 Lh6 0 0 (MQ below (hp_Qi Γ (fun r β => r = res.1 ∧ mo α β ∧ hm_M β a0 ρ res.2)) ([.ref a0, .int a1] : List Value).toArray s 0 0 (hp_A Γ)) (F0 m 35 ls []) := by
        intro k35
        induction k35 with
        | zero => intro αh6 Hh6 Lh6 Bh6 σh6 Mh6 v2_h6 v3_h6 ls hl hf; rw [f_X12_hear_L35.eq_1] at hf; cases hf
        | succ k35 ih35 =>
          intro αh6 Hh6 Lh6 Bh6 σh6 Mh6 v2_h6 v3_h6 ls hl hf
          rw [f_X12_hear_L35.eq_2] at hf
          refine lv_aload_n hx hb dX12_hear_35 rfl (lv_at hl 0 rfl) (hp_n (n := 36) rfl ?_)
          refine m_geti (k := 20) (φ := 670) (pc' := 39) C Bh6 Mh6 fl_X12_262 rfl rfl dX12_hear_36 rfl ?_
          have J153 : ∀ (αh7 : hp_T) (Hh7 : Heap) (Lh7 : List Loc) (Bh7 : hp_B Γ mo s α αh7 Hh7 Lh7) (σh7 : ms_T) (Mh7 : hm_M αh7 a0 ρ σh7) (v2_h7 : Int32) (v3_h7 : Int32) (ls : Array Slot) (hl : lv_has ls 5 [(0, .ref a0), (2, .int v2_h7), (3, .int v3_h7)]) (hf : f_X12_hear_J153 n σh7 v2_h7 v3_h7 = some res), W p l e (hp_rm 45 0 0) s m ([.ref a0, .int a1] : List Value).toArray below meth c Hh7 Lh7 0 0 (MQ below (hp_Qi Γ (fun r β => r = res.1 ∧ mo α β ∧ hm_M β a0 ρ res.2)) ([.ref a0, .int a1] : List Value).toArray s 0 0 (hp_A Γ)) (F0 m 153 ls []) := by
            intro αh7 Hh7 Lh7 Bh7 σh7 Mh7 v2_h7 v3_h7 ls hl hf
            unfold f_X12_hear_J153 at hf
            refine lv_aload_n hx hb dX12_hear_153 rfl (lv_at hl 0 rfl) (hp_n (n := 154) rfl ?_)
            obtain ⟨σh8, qh8, hf⟩ := ms_bE hf
            refine m_cv (pc' := 157) (a := a0) (ρ := ρ) Bh7 (hp_runV (As := []) (rest := []) C Bh7 (m_X12_ends n Γ l αh7 a0 ρ σh7 Mh7  σh8 qh8) lb_X12_ends lv_X12_ends lk_X12_318 Mh7.1 rfl (by decide) rfl hl.1 rfl (Nat.le_of_ble_eq_true rfl) dX12_hear_154 ⟨Nat.le_refl _, Nat.le_refl _⟩) rfl (fun αh8 Hh8 Lh8 Bh8 Mh8 => ?_)
            refine lv_aload_n hx hb dX12_hear_157 rfl (lv_at hl 0 rfl) (hp_n (n := 158) rfl ?_)
            refine m_geti (k := 20) (φ := 670) (pc' := 161) C Bh8 Mh8 fl_X12_262 rfl rfl dX12_hear_158 rfl ?_
            refine lv_if_le (tgt := 166) hx hb dX12_hear_161 (by decide) (fun c9 => ?_) (fun c9 => hp_n (n := 164) rfl ?_)
            ·
              replace hf := ms_iT c9 hf
              refine lv_iconst (v := 0) hx hb dX12_hear_166 (by decide) (hp_n (n := 167) rfl ?_)
              have J169 : ∀ (k169 : Nat) (αh10 : hp_T) (Hh10 : Heap) (Lh10 : List Loc) (Bh10 : hp_B Γ mo s α αh10 Hh10 Lh10) (σh10 : ms_T) (Mh10 : hm_M αh10 a0 ρ σh10) (v2_h10 : Int32) (v3_h10 : Int32) (v4_h10 : Int32) (ls : Array Slot) (hl : lv_has ls 5 [(0, .ref a0), (2, .int v2_h10), (3, .int v3_h10), (4, .int v4_h10)]) (hf : f_X12_hear_L169 n k169 σh10 v2_h10 v3_h10 v4_h10 = some res), W p l e (hp_rm 45 0 0) s m ([.ref a0, .int a1] : List Value).toArray below meth c Hh10 Lh10 0 0 (MQ below (hp_Qi Γ (fun r β => r = res.1 ∧ mo α β ∧ hm_M β a0 ρ res.2)) ([.ref a0, .int a1] : List Value).toArray s 0 0 (hp_A Γ)) (F0 m 169 ls []) := by
                intro k169
                induction k169 with
                | zero => intro αh10 Hh10 Lh10 Bh10 σh10 Mh10 v2_h10 v3_h10 v4_h10 ls hl hf; rw [f_X12_hear_L169.eq_1] at hf; cases hf
                | succ k169 ih169 =>
                  intro αh10 Hh10 Lh10 Bh10 σh10 Mh10 v2_h10 v3_h10 v4_h10 ls hl hf
                  rw [f_X12_hear_L169.eq_2] at hf
                  refine lv_iload hx hb dX12_hear_169 (lv_at hl 3 rfl) (hp_n (n := 171) rfl ?_)
                  refine lv_iload_n hx hb dX12_hear_171 rfl (lv_at hl 1 rfl) (hp_n (n := 172) rfl ?_)
                  refine lv_icmp_ge (tgt := 195) hx hb dX12_hear_172 (by decide) (fun c11 => ?_) (fun c11 => hp_n (n := 175) rfl ?_)
                  ·
                    replace hf := ms_iT c11 hf
                    refine lv_aload_n hx hb dX12_hear_195 rfl (lv_at hl 0 rfl) (hp_n (n := 196) rfl ?_)
                    refine lv_iload_n hx hb dX12_hear_196 rfl (lv_at hl 1 rfl) (hp_n (n := 197) rfl ?_)
                    refine m_puti (k := 32) (φ := 682) (pc' := 200) C Bh10 Mh10 fl_X12_341 rfl rfl rfl rfl rfl dX12_hear_197 rfl (fun αh12 Hh12 Lh12 σh12 eh12 Bh12 Mh12 => ?_)
                    replace hf := ms_lE eh12 hf
                    refine lv_iload_n hx hb dX12_hear_200 rfl (lv_at hl 2 rfl) (hp_n (n := 201) rfl ?_)
                    cases hf
                    exact q_iret C Bh12 hr hlk ⟨rfl, Bh12.2.2, Mh12⟩ dX12_hear_201
                  ·
                    replace hf := ms_iF c11 hf
                    refine lv_aload_n hx hb dX12_hear_175 rfl (lv_at hl 0 rfl) (hp_n (n := 176) rfl ?_)
                    refine m_getr (κ := 49) (k := 30) (pc' := 179) C Bh10 Mh10 fl_X12_70 rfl (by decide) dX12_hear_176 rfl ?_
                    refine lv_iload hx hb dX12_hear_179 (lv_at hl 3 rfl) (hp_n (n := 181) rfl ?_)
                    refine lv_aload_n hx hb dX12_hear_181 rfl (lv_at hl 0 rfl) (hp_n (n := 182) rfl ?_)
                    refine m_getr (κ := 50) (k := 31) (pc' := 185) C Bh10 Mh10 fl_X12_73 rfl (by decide) dX12_hear_182 rfl ?_
                    refine lv_iload hx hb dX12_hear_185 (lv_at hl 3 rfl) (hp_n (n := 187) rfl ?_)
                    obtain ⟨g13, hf⟩ := ms_gE hf
                    refine m_ial (κ := 50) (φ := 681) (n := 20) (pc' := 188) C Bh10 Mh10 (by decide) (by decide) rfl g13 dX12_hear_187 rfl ?_
                    obtain ⟨g14, hf⟩ := ms_gE hf
                    refine m_ias (κ := 49) (φ := 680) (n := 20) (pc' := 189) C Bh10 Mh10 (by decide) (by decide) rfl g14 dX12_hear_188 rfl (fun αh15 Hh15 Lh15 σh15 eh15 Bh15 Mh15 => ?_)
                    replace hf := ms_lE eh15 hf
                    obtain ⟨x16, ex16⟩ : ∃ y : Int32, y = v4_h10 + 1 := ⟨_, rfl⟩
                    replace hf := ms_lE ex16 hf
                    refine lv_iinc (v := x16) (lv' := [(4, .int x16), (0, .ref a0), (2, .int v2_h10), (3, .int v3_h10)]) hx hb dX12_hear_189 hl (k := 3) rfl (by rw [ex16]; rfl) (by decide) rfl (fun ls hl => hp_n (n := 192) rfl ?_)
                    refine lv_goto (tgt := 169) hx hb dX12_hear_192 (by decide) ?_
                    exact ih169 αh15 Hh15 Lh15 Bh15 σh15 Mh15 v2_h10 v3_h10 x16 ls (lv_sub hl [1, 2, 3, 0] rfl) hf
              refine lv_istore (lv' := [(4, .int (0 : Int32)), (0, .ref a0), (2, .int v2_h7), (3, .int v3_h7)]) hx hb dX12_hear_167 hl (by decide) rfl (fun ls hl => hp_n (n := 169) rfl ?_)
              exact J169 n αh8 Hh8 Lh8 Bh8 σh8 Mh8 v2_h7 v3_h7 (0 : Int32) ls (lv_sub hl [1, 2, 3, 0] rfl) hf
            ·
              replace hf := ms_iF c9 hf
              refine lv_iconst (v := (-1)) hx hb dX12_hear_164 (by decide) (hp_n (n := 165) rfl ?_)
              cases hf
              exact q_iret C Bh8 hr hlk ⟨rfl, Bh8.2.2, Mh8⟩ dX12_hear_165
          refine lv_if_ne (tgt := 153) hx hb dX12_hear_39 (by decide) (fun c17 => ?_) (fun c17 => hp_n (n := 42) rfl ?_)
          ·
            replace hf := ms_iF c17 hf
            exact J153 αh6 Hh6 Lh6 Bh6 σh6 Mh6 v2_h6 v3_h6 ls (lv_sub hl [0, 1, 2] rfl) hf
          ·
            replace hf := ms_iT c17 hf
            refine lv_aload_n hx hb dX12_hear_42 rfl (lv_at hl 0 rfl) (hp_n (n := 43) rfl ?_)
            refine m_geti (k := 24) (φ := 674) (pc' := 46) C Bh6 Mh6 fl_X12_245 rfl rfl dX12_hear_43 rfl ?_
            refine lv_if_eq (tgt := 153) hx hb dX12_hear_46 (by decide) (fun c18 => ?_) (fun c18 => hp_n (n := 49) rfl ?_)
            ·
              replace hf := ms_iT c18 hf
              exact J153 αh6 Hh6 Lh6 Bh6 σh6 Mh6 v2_h6 v3_h6 ls (lv_sub hl [0, 1, 2] rfl) hf
            ·
              replace hf := ms_iF c18 hf
              refine lv_aload_n hx hb dX12_hear_49 rfl (lv_at hl 0 rfl) (hp_n (n := 50) rfl ?_)
              refine lv_aload_n hx hb dX12_hear_50 rfl (lv_at hl 0 rfl) (hp_n (n := 51) rfl ?_)
              refine lv_bipush (v := 6) hx hb dX12_hear_51 (by decide) (hp_n (n := 53) rfl ?_)
              obtain ⟨rh19, qh19, hf⟩ := ms_bE hf
              refine m_cp (pc' := 56) Bh6 (hp_runV (As := [.int (6 : Int32)]) (rest := [.ref a0]) C Bh6 (m_X12_isWord n Γ l αh6 a0 ρ σh6 Mh6 (6 : Int32) rh19 qh19) lb_X12_isWord lv_X12_isWord lk_X12_268 Mh6.1 rfl (by decide) rfl hl.1 rfl (Nat.le_of_ble_eq_true rfl) dX12_hear_53 ⟨Nat.le_refl _, Nat.le_refl _⟩) rfl (fun Hh19 Lh19 Bh19 => ?_)
              have J73 : ∀ (αh20 : hp_T) (Hh20 : Heap) (Lh20 : List Loc) (Bh20 : hp_B Γ mo s α αh20 Hh20 Lh20) (σh20 : ms_T) (Mh20 : hm_M αh20 a0 ρ σh20) (v2_h20 : Int32) (v3_h20 : Int32) (w0_h20 : Int32) (ls : Array Slot) (hl : lv_has ls 5 [(0, .ref a0), (2, .int v2_h20), (3, .int v3_h20)]) (hf : f_X12_hear_J73 n (f_X12_hear_L35 n k35) σh20 v2_h20 v3_h20 w0_h20 = some res), W p l e (hp_rm 45 0 0) s m ([.ref a0, .int a1] : List Value).toArray below meth c Hh20 Lh20 0 0 (MQ below (hp_Qi Γ (fun r β => r = res.1 ∧ mo α β ∧ hm_M β a0 ρ res.2)) ([.ref a0, .int a1] : List Value).toArray s 0 0 (hp_A Γ)) (F0 m 73 ls [.int w0_h20, .ref a0]) := by
                intro αh20 Hh20 Lh20 Bh20 σh20 Mh20 v2_h20 v3_h20 w0_h20 ls hl hf
                unfold f_X12_hear_J73 at hf
                refine lv_iconst (v := 2) hx hb dX12_hear_73 (by decide) (hp_n (n := 74) rfl ?_)
                obtain ⟨σh21, qh21, hf⟩ := ms_bE hf
                refine m_cv (pc' := 77) (a := a0) (ρ := ρ) Bh20 (hp_runV (As := [.int w0_h20, .int (2 : Int32)]) (rest := []) C Bh20 (m_X12_must n Γ l αh20 a0 ρ σh20 Mh20 w0_h20 (2 : Int32) σh21 qh21) lb_X12_must lv_X12_must lk_X12_272 Mh20.1 rfl (by decide) rfl hl.1 rfl (Nat.le_of_ble_eq_true rfl) dX12_hear_74 ⟨Nat.le_refl _, Nat.le_refl _⟩) rfl (fun αh21 Hh21 Lh21 Bh21 Mh21 => ?_)
                refine lv_aload_n hx hb dX12_hear_77 rfl (lv_at hl 0 rfl) (hp_n (n := 78) rfl ?_)
                refine lv_iload_n hx hb dX12_hear_78 rfl (lv_at hl 1 rfl) (hp_n (n := 79) rfl ?_)
                refine lv_bipush (v := 20) hx hb dX12_hear_79 (by decide) (hp_n (n := 81) rfl ?_)
                have J89 : ∀ (αh22 : hp_T) (Hh22 : Heap) (Lh22 : List Loc) (Bh22 : hp_B Γ mo s α αh22 Hh22 Lh22) (σh22 : ms_T) (Mh22 : hm_M αh22 a0 ρ σh22) (v2_h22 : Int32) (v3_h22 : Int32) (w0_h22 : Int32) (ls : Array Slot) (hl : lv_has ls 5 [(0, .ref a0), (2, .int v2_h22), (3, .int v3_h22)]) (hf : f_X12_hear_J89 n (f_X12_hear_L35 n k35) σh22 v2_h22 v3_h22 w0_h22 = some res), W p l e (hp_rm 45 0 0) s m ([.ref a0, .int a1] : List Value).toArray below meth c Hh22 Lh22 0 0 (MQ below (hp_Qi Γ (fun r β => r = res.1 ∧ mo α β ∧ hm_M β a0 ρ res.2)) ([.ref a0, .int a1] : List Value).toArray s 0 0 (hp_A Γ)) (F0 m 89 ls [.int w0_h22, .ref a0]) := by
                  intro αh22 Hh22 Lh22 Bh22 σh22 Mh22 v2_h22 v3_h22 w0_h22 ls hl hf
                  unfold f_X12_hear_J89 at hf
                  refine lv_bipush (v := 6) hx hb dX12_hear_89 (by decide) (hp_n (n := 91) rfl ?_)
                  obtain ⟨σh23, qh23, hf⟩ := ms_bE hf
                  refine m_cv (pc' := 94) (a := a0) (ρ := ρ) Bh22 (hp_runV (As := [.int w0_h22, .int (6 : Int32)]) (rest := []) C Bh22 (m_X12_must n Γ l αh22 a0 ρ σh22 Mh22 w0_h22 (6 : Int32) σh23 qh23) lb_X12_must lv_X12_must lk_X12_272 Mh22.1 rfl (by decide) rfl hl.1 rfl (Nat.le_of_ble_eq_true rfl) dX12_hear_91 ⟨Nat.le_refl _, Nat.le_refl _⟩) rfl (fun αh23 Hh23 Lh23 Bh23 Mh23 => ?_)
                  refine lv_aload_n hx hb dX12_hear_94 rfl (lv_at hl 0 rfl) (hp_n (n := 95) rfl ?_)
                  refine m_geti (k := 20) (φ := 670) (pc' := 98) C Bh23 Mh23 fl_X12_262 rfl rfl dX12_hear_95 rfl ?_
                  refine lv_if_le (tgt := 104) hx hb dX12_hear_98 (by decide) (fun c24 => ?_) (fun c24 => hp_n (n := 101) rfl ?_)
                  ·
                    replace hf := ms_iT c24 hf
                    refine lv_aload_n hx hb dX12_hear_104 rfl (lv_at hl 0 rfl) (hp_n (n := 105) rfl ?_)
                    refine m_getr (κ := 50) (k := 31) (pc' := 108) C Bh23 Mh23 fl_X12_73 rfl (by decide) dX12_hear_105 rfl ?_
                    refine lv_iload_n hx hb dX12_hear_108 rfl (lv_at hl 1 rfl) (hp_n (n := 109) rfl ?_)
                    refine lv_aload_n hx hb dX12_hear_109 rfl (lv_at hl 0 rfl) (hp_n (n := 110) rfl ?_)
                    refine lv_bipush (v := 6) hx hb dX12_hear_110 (by decide) (hp_n (n := 112) rfl ?_)
                    obtain ⟨rh25, qh25, hf⟩ := ms_bE hf
                    refine m_cp (pc' := 115) Bh23 (hp_runV (As := [.int (6 : Int32)]) (rest := [.int v2_h22, .ref (ρ 50)]) C Bh23 (m_X12_isWord n Γ l αh23 a0 ρ σh23 Mh23 (6 : Int32) rh25 qh25) lb_X12_isWord lv_X12_isWord lk_X12_268 Mh23.1 rfl (by decide) rfl hl.1 rfl (Nat.le_of_ble_eq_true rfl) dX12_hear_112 ⟨Nat.le_refl _, Nat.le_refl _⟩) rfl (fun Hh25 Lh25 Bh25 => ?_)
                    have J129 : ∀ (αh26 : hp_T) (Hh26 : Heap) (Lh26 : List Loc) (Bh26 : hp_B Γ mo s α αh26 Hh26 Lh26) (σh26 : ms_T) (Mh26 : hm_M αh26 a0 ρ σh26) (v2_h26 : Int32) (v3_h26 : Int32) (w0_h26 : Int32) (w1_h26 : Int32) (ls : Array Slot) (hl : lv_has ls 5 [(0, .ref a0), (2, .int v2_h26), (3, .int v3_h26)]) (hf : f_X12_hear_J129 n (f_X12_hear_L35 n k35) σh26 v2_h26 v3_h26 w0_h26 w1_h26 = some res), W p l e (hp_rm 45 0 0) s m ([.ref a0, .int a1] : List Value).toArray below meth c Hh26 Lh26 0 0 (MQ below (hp_Qi Γ (fun r β => r = res.1 ∧ mo α β ∧ hm_M β a0 ρ res.2)) ([.ref a0, .int a1] : List Value).toArray s 0 0 (hp_A Γ)) (F0 m 129 ls [.int w0_h26, .int w1_h26, .ref (ρ 50)]) := by
                      intro αh26 Hh26 Lh26 Bh26 σh26 Mh26 v2_h26 v3_h26 w0_h26 w1_h26 ls hl hf
                      unfold f_X12_hear_J129 at hf
                      obtain ⟨g27, hf⟩ := ms_gE hf
                      refine m_ias (κ := 50) (φ := 681) (n := 20) (pc' := 130) C Bh26 Mh26 (by decide) (by decide) rfl g27 dX12_hear_129 rfl (fun αh28 Hh28 Lh28 σh28 eh28 Bh28 Mh28 => ?_)
                      replace hf := ms_lE eh28 hf
                      refine lv_iload_n hx hb dX12_hear_130 rfl (lv_at hl 2 rfl) (hp_n (n := 131) rfl ?_)
                      refine lv_aload_n hx hb dX12_hear_131 rfl (lv_at hl 0 rfl) (hp_n (n := 132) rfl ?_)
                      refine m_getr (κ := 50) (k := 31) (pc' := 135) C Bh28 Mh28 fl_X12_73 rfl (by decide) dX12_hear_132 rfl ?_
                      refine lv_iload_n hx hb dX12_hear_135 rfl (lv_at hl 1 rfl) (hp_n (n := 136) rfl ?_)
                      obtain ⟨g29, hf⟩ := ms_gE hf
                      refine m_ial (κ := 50) (φ := 681) (n := 20) (pc' := 137) C Bh28 Mh28 (by decide) (by decide) rfl g29 dX12_hear_136 rfl ?_
                      have J145 : ∀ (αh30 : hp_T) (Hh30 : Heap) (Lh30 : List Loc) (Bh30 : hp_B Γ mo s α αh30 Hh30 Lh30) (σh30 : ms_T) (Mh30 : hm_M αh30 a0 ρ σh30) (v2_h30 : Int32) (w0_h30 : Int32) (w1_h30 : Int32) (ls : Array Slot) (hl : lv_has ls 5 [(0, .ref a0), (2, .int v2_h30)]) (hf : f_X12_hear_J145 n (f_X12_hear_L35 n k35) σh30 v2_h30 w0_h30 w1_h30 = some res), W p l e (hp_rm 45 0 0) s m ([.ref a0, .int a1] : List Value).toArray below meth c Hh30 Lh30 0 0 (MQ below (hp_Qi Γ (fun r β => r = res.1 ∧ mo α β ∧ hm_M β a0 ρ res.2)) ([.ref a0, .int a1] : List Value).toArray s 0 0 (hp_A Γ)) (F0 m 145 ls [.int w0_h30, .int w1_h30]) := by
                        intro αh30 Hh30 Lh30 Bh30 σh30 Mh30 v2_h30 w0_h30 w1_h30 ls hl hf
                        unfold f_X12_hear_J145 at hf
                        refine lv_iadd hx hb dX12_hear_145 (hp_n (n := 146) rfl ?_)
                        refine lv_topi (fun x31 ex31 => ?_)
                        replace hf := ms_lE ex31 hf
                        refine lv_istore_n (lv' := [(3, .int x31), (0, .ref a0), (2, .int v2_h30)]) hx hb dX12_hear_146 rfl hl (by decide) rfl (fun ls hl => hp_n (n := 147) rfl ?_)
                        obtain ⟨x32, ex32⟩ : ∃ y : Int32, y = v2_h30 + 1 := ⟨_, rfl⟩
                        replace hf := ms_lE ex32 hf
                        refine lv_iinc (v := x32) (lv' := [(2, .int x32), (3, .int x31), (0, .ref a0)]) hx hb dX12_hear_147 hl (k := 2) rfl (by rw [ex32]; rfl) (by decide) rfl (fun ls hl => hp_n (n := 150) rfl ?_)
                        refine lv_goto (tgt := 35) hx hb dX12_hear_150 (by decide) ?_
                        exact ih35 αh30 Hh30 Lh30 Bh30 σh30 Mh30 x32 x31 ls (lv_sub hl [2, 0, 1] rfl) hf
                      refine lv_if_ne (tgt := 144) hx hb dX12_hear_137 (by decide) (fun c33 => ?_) (fun c33 => hp_n (n := 140) rfl ?_)
                      ·
                        replace hf := ms_iF c33 hf
                        refine lv_iconst (v := 0) hx hb dX12_hear_144 (by decide) (hp_n (n := 145) rfl ?_)
                        exact J145 αh28 Hh28 Lh28 Bh28 σh28 Mh28 v2_h26 (0 : Int32) v3_h26 ls (lv_sub hl [0, 1] rfl) hf
                      ·
                        replace hf := ms_iT c33 hf
                        refine lv_iconst (v := 1) hx hb dX12_hear_140 (by decide) (hp_n (n := 141) rfl ?_)
                        refine lv_goto (tgt := 145) hx hb dX12_hear_141 (by decide) ?_
                        exact J145 αh28 Hh28 Lh28 Bh28 σh28 Mh28 v2_h26 (1 : Int32) v3_h26 ls (lv_sub hl [0, 1] rfl) hf
                    refine lv_if_eq (tgt := 125) hx hb dX12_hear_115 (by decide) (fun c34 => ?_) (fun c34 => hp_n (n := 118) rfl ?_)
                    ·
                      replace hf := ms_iT c34 hf
                      refine lv_aload_n hx hb dX12_hear_125 rfl (lv_at hl 0 rfl) (hp_n (n := 126) rfl ?_)
                      obtain ⟨rh35, σh35, qh35, hf⟩ := ms_cE hf
                      refine m_ci (pc' := 129) (a := a0) (ρ := ρ) Bh25 (hp_runV (As := []) (rest := [.int v2_h22, .ref (ρ 50)]) C Bh25 (m_X12_statementGrow n Γ l αh23 a0 ρ σh23 Mh23  (rh35, σh35) qh35) lb_X12_statementGrow lv_X12_statementGrow lk_X12_338 Mh23.1 rfl (by decide) rfl hl.1 rfl (Nat.le_of_ble_eq_true rfl) dX12_hear_126 ⟨Nat.le_refl _, Nat.le_refl _⟩) rfl (fun αh35 Hh35 Lh35 Bh35 Mh35 => ?_)
                      exact J129 αh35 Hh35 Lh35 Bh35 σh35 Mh35 v2_h22 v3_h22 rh35 v2_h22 ls (lv_sub hl [0, 1, 2] rfl) hf
                    ·
                      replace hf := ms_iF c34 hf
                      refine lv_aload_n hx hb dX12_hear_118 rfl (lv_at hl 0 rfl) (hp_n (n := 119) rfl ?_)
                      obtain ⟨rh36, σh36, qh36, hf⟩ := ms_cE hf
                      refine m_ci (pc' := 122) (a := a0) (ρ := ρ) Bh25 (hp_runV (As := []) (rest := [.int v2_h22, .ref (ρ 50)]) C Bh25 (m_X12_statementIn n Γ l αh23 a0 ρ σh23 Mh23  (rh36, σh36) qh36) lb_X12_statementIn lv_X12_statementIn lk_X12_335 Mh23.1 rfl (by decide) rfl hl.1 rfl (Nat.le_of_ble_eq_true rfl) dX12_hear_119 ⟨Nat.le_refl _, Nat.le_refl _⟩) rfl (fun αh36 Hh36 Lh36 Bh36 Mh36 => ?_)
                      refine lv_goto (tgt := 129) hx hb dX12_hear_122 (by decide) ?_
                      exact J129 αh36 Hh36 Lh36 Bh36 σh36 Mh36 v2_h22 v3_h22 rh36 v2_h22 ls (lv_sub hl [0, 1, 2] rfl) hf
                  ·
                    replace hf := ms_iF c24 hf
                    refine lv_goto (tgt := 153) hx hb dX12_hear_101 (by decide) ?_
                    exact J153 αh23 Hh23 Lh23 Bh23 σh23 Mh23 v2_h22 v3_h22 ls (lv_sub hl [0, 1, 2] rfl) hf
                refine lv_icmp_ge (tgt := 88) hx hb dX12_hear_81 (by decide) (fun c37 => ?_) (fun c37 => hp_n (n := 84) rfl ?_)
                ·
                  replace hf := ms_iT c37 hf
                  refine lv_iconst (v := 0) hx hb dX12_hear_88 (by decide) (hp_n (n := 89) rfl ?_)
                  exact J89 αh21 Hh21 Lh21 Bh21 σh21 Mh21 v2_h20 v3_h20 (0 : Int32) ls (lv_sub hl [0, 1, 2] rfl) hf
                ·
                  replace hf := ms_iF c37 hf
                  refine lv_iconst (v := 1) hx hb dX12_hear_84 (by decide) (hp_n (n := 85) rfl ?_)
                  refine lv_goto (tgt := 89) hx hb dX12_hear_85 (by decide) ?_
                  exact J89 αh21 Hh21 Lh21 Bh21 σh21 Mh21 v2_h20 v3_h20 (1 : Int32) ls (lv_sub hl [0, 1, 2] rfl) hf
              have J68 : ∀ (αh38 : hp_T) (Hh38 : Heap) (Lh38 : List Loc) (Bh38 : hp_B Γ mo s α αh38 Hh38 Lh38) (σh38 : ms_T) (Mh38 : hm_M αh38 a0 ρ σh38) (v2_h38 : Int32) (v3_h38 : Int32) (ls : Array Slot) (hl : lv_has ls 5 [(0, .ref a0), (2, .int v2_h38), (3, .int v3_h38)]) (hf : f_X12_hear_J68 n (f_X12_hear_L35 n k35) σh38 v2_h38 v3_h38 = some res), W p l e (hp_rm 45 0 0) s m ([.ref a0, .int a1] : List Value).toArray below meth c Hh38 Lh38 0 0 (MQ below (hp_Qi Γ (fun r β => r = res.1 ∧ mo α β ∧ hm_M β a0 ρ res.2)) ([.ref a0, .int a1] : List Value).toArray s 0 0 (hp_A Γ)) (F0 m 68 ls [.ref a0]) := by
                intro αh38 Hh38 Lh38 Bh38 σh38 Mh38 v2_h38 v3_h38 ls hl hf
                unfold f_X12_hear_J68 at hf
                refine lv_iconst (v := 1) hx hb dX12_hear_68 (by decide) (hp_n (n := 69) rfl ?_)
                refine lv_goto (tgt := 73) hx hb dX12_hear_69 (by decide) ?_
                exact J73 αh38 Hh38 Lh38 Bh38 σh38 Mh38 v2_h38 v3_h38 (1 : Int32) ls (lv_sub hl [0, 1, 2] rfl) hf
              refine lv_if_ne (tgt := 68) hx hb dX12_hear_56 (by decide) (fun c39 => ?_) (fun c39 => hp_n (n := 59) rfl ?_)
              ·
                replace hf := ms_iF c39 hf
                exact J68 αh6 Hh19 Lh19 Bh19 σh6 Mh6 v2_h6 v3_h6 ls (lv_sub hl [0, 1, 2] rfl) hf
              ·
                replace hf := ms_iT c39 hf
                refine lv_aload_n hx hb dX12_hear_59 rfl (lv_at hl 0 rfl) (hp_n (n := 60) rfl ?_)
                refine lv_bipush (v := 7) hx hb dX12_hear_60 (by decide) (hp_n (n := 62) rfl ?_)
                obtain ⟨rh40, qh40, hf⟩ := ms_bE hf
                refine m_cp (pc' := 65) Bh19 (hp_runV (As := [.int (7 : Int32)]) (rest := [.ref a0]) C Bh19 (m_X12_isWord n Γ l αh6 a0 ρ σh6 Mh6 (7 : Int32) rh40 qh40) lb_X12_isWord lv_X12_isWord lk_X12_268 Mh6.1 rfl (by decide) rfl hl.1 rfl (Nat.le_of_ble_eq_true rfl) dX12_hear_62 ⟨Nat.le_refl _, Nat.le_refl _⟩) rfl (fun Hh40 Lh40 Bh40 => ?_)
                refine lv_if_eq (tgt := 72) hx hb dX12_hear_65 (by decide) (fun c41 => ?_) (fun c41 => hp_n (n := 68) rfl ?_)
                ·
                  replace hf := ms_iT c41 hf
                  refine lv_iconst (v := 0) hx hb dX12_hear_72 (by decide) (hp_n (n := 73) rfl ?_)
                  exact J73 αh6 Hh40 Lh40 Bh40 σh6 Mh6 v2_h6 v3_h6 (0 : Int32) ls (lv_sub hl [0, 1, 2] rfl) hf
                ·
                  replace hf := ms_iF c41 hf
                  exact J68 αh6 Hh40 Lh40 Bh40 σh6 Mh6 v2_h6 v3_h6 ls (lv_sub hl [0, 1, 2] rfl) hf
      refine lv_istore_n (lv' := [(3, .int (0 : Int32)), (2, .int (0 : Int32)), (0, .ref a0), (1, .int v1_h2)]) hx hb dX12_hear_34 rfl hl (by decide) rfl (fun ls hl => hp_n (n := 35) rfl ?_)
      exact J35 n αh5 Hh5 Lh5 Bh5 σh5 Mh5 (0 : Int32) (0 : Int32) ls (lv_sub hl [2, 1, 0] rfl) hf
    ·
      replace hf := ms_iT c4 hf
      refine lv_iconst (v := (-1)) hx hb dX12_hear_24 (by decide) (hp_n (n := 25) rfl ?_)
      cases hf
      exact q_iret C Bh3 hr hlk ⟨rfl, Bh3.2.2, Mh3⟩ dX12_hear_25
  refine lv_if_eq (tgt := 17) hx hb dX12_hear_10 (by decide) (fun c42 => ?_) (fun c42 => hp_n (n := 13) rfl ?_)
  ·
    replace hf := ms_iT c42 hf
    refine lv_iconst (v := 1) hx hb dX12_hear_17 (by decide) (hp_n (n := 18) rfl ?_)
    exact J18 α Hh1 Lh1 Bh1 σ hM a1 (1 : Int32) ls (lv_sub hl [0, 1] rfl) hf
  ·
    replace hf := ms_iF c42 hf
    refine lv_iconst (v := 0) hx hb dX12_hear_13 (by decide) (hp_n (n := 14) rfl ?_)
    refine lv_goto (tgt := 18) hx hb dX12_hear_14 (by decide) ?_
    exact J18 α Hh1 Lh1 Bh1 σ hM a1 (0 : Int32) ls (lv_sub hl [0, 1] rfl) hf
def f_X12_heard_J22 (n : Nat) (σh1 : ms_T) (v1_h1 : Int32) (w0_h1 : Int32) : Option (Int32 × ms_T) :=
  ms_c (f_X12_is n σh1 w0_h1) fun rh2 σh2 =>
  if rh2 = 0 then
    some ((-1 : Int32), σh2)
  else
    ms_g v1_h1 20 <|
    some ((ms_E σh2 49 (v1_h1).toNatClampNeg), σh2)
def f_X12_heard (n : Nat) (σ : ms_T) (a1 : Int32) : Option (Int32 × ms_T) :=
  if 0 ≤ a1 then
    if a1 < (ms_I σ 682) then
      f_X12_heard_J22 n σ a1 (0 : Int32)
    else
      f_X12_heard_J22 n σ a1 (5 : Int32)
  else
    f_X12_heard_J22 n σ a1 (1 : Int32)
set_option maxRecDepth 100000 in
set_option maxHeartbeats 4000000 in
theorem m_X12_heard (n : Nat) (Γ : hp_G) (l : Launch) (α : hp_T) (a0 : Nat) (ρ : Nat → Nat) (σ : ms_T) (hM : hm_M α a0 ρ σ) (a1 : Int32) (res : (Int32 × ms_T)) (hf : f_X12_heard n σ a1 = some res) : Met l yX12_heard (hp_ws yX12_heard cX12_heard 2 (some .int)) (hp_rm 1 0 0) (hp_Pc Γ α [.ref a0, .int a1]) (hp_Qi Γ (fun r β => r = res.1 ∧ mo α β ∧ hm_M β a0 ρ res.2)) 0 0 (hp_A Γ) := by
  unfold f_X12_heard at hf
  refine hp_start (by decide) ?_
  intro p e s m below meth c C hr hlk B0 hnm
  have C : hp_C Γ p m c cX12_heard 2 s ([.ref a0, .int a1] : List Value).toArray RX12 := C
  have hx := C.1.1
  have hb := C.1.2.1
  have hown := C.1.2.2.2.1
  have hts := C.1.2.2.2.2
  have B : hp_B Γ mo s α α s.heap [] := ⟨B0.1, B0.2.1, mo_rf⟩
  have hl := lv_entry ([.ref a0, .int a1]) (n := 2) (Nat.le_of_ble_eq_true rfl)
  show W p l e (hp_rm 1 0 0) s m ([.ref a0, .int a1] : List Value).toArray below meth c s.heap [] 0 0 (MQ below (hp_Qi Γ (fun r β => r = res.1 ∧ mo α β ∧ hm_M β a0 ρ res.2)) ([.ref a0, .int a1] : List Value).toArray s 0 0 (hp_A Γ)) (entryFrame m ([.ref a0, .int a1] : List Value).toArray 2)
  rw [lg_entry_eq]
  generalize (lg_sl ([.ref a0, .int a1]) ++ List.replicate (2 - (lg_sl ([.ref a0, .int a1])).length) Slot.unset).toArray = ls at hl ⊢
  have hl : lv_has ls 2 [(0, .ref a0), (1, .int a1)] := hl
  refine lv_aload_n hx hb dX12_heard_0 rfl (lv_at hl 0 rfl) (hp_n (n := 1) rfl ?_)
  refine lv_iload_n hx hb dX12_heard_1 rfl (lv_at hl 1 rfl) (hp_n (n := 2) rfl ?_)
  have J22 : ∀ (αh1 : hp_T) (Hh1 : Heap) (Lh1 : List Loc) (Bh1 : hp_B Γ mo s α αh1 Hh1 Lh1) (σh1 : ms_T) (Mh1 : hm_M αh1 a0 ρ σh1) (v1_h1 : Int32) (w0_h1 : Int32) (ls : Array Slot) (hl : lv_has ls 2 [(0, .ref a0), (1, .int v1_h1)]) (hf : f_X12_heard_J22 n σh1 v1_h1 w0_h1 = some res), W p l e (hp_rm 1 0 0) s m ([.ref a0, .int a1] : List Value).toArray below meth c Hh1 Lh1 0 0 (MQ below (hp_Qi Γ (fun r β => r = res.1 ∧ mo α β ∧ hm_M β a0 ρ res.2)) ([.ref a0, .int a1] : List Value).toArray s 0 0 (hp_A Γ)) (F0 m 22 ls [.int w0_h1, .ref a0]) := by
    intro αh1 Hh1 Lh1 Bh1 σh1 Mh1 v1_h1 w0_h1 ls hl hf
    unfold f_X12_heard_J22 at hf
    obtain ⟨rh2, σh2, qh2, hf⟩ := ms_cE hf
    refine m_ci (pc' := 25) (a := a0) (ρ := ρ) Bh1 (hp_runV (As := [.int w0_h1]) (rest := []) C Bh1 (m_X12_is n Γ l αh1 a0 ρ σh1 Mh1 w0_h1 (rh2, σh2) qh2) lb_X12_is lv_X12_is lk_X12_309 Mh1.1 rfl (by decide) rfl hl.1 rfl (Nat.le_of_ble_eq_true rfl) dX12_heard_22 ⟨Nat.le_refl _, Nat.le_refl _⟩) rfl (fun αh2 Hh2 Lh2 Bh2 Mh2 => ?_)
    refine lv_if_eq (tgt := 37) hx hb dX12_heard_25 (by decide) (fun c3 => ?_) (fun c3 => hp_n (n := 28) rfl ?_)
    ·
      replace hf := ms_iT c3 hf
      refine lv_iconst (v := (-1)) hx hb dX12_heard_37 (by decide) (hp_n (n := 38) rfl ?_)
      cases hf
      exact q_iret C Bh2 hr hlk ⟨rfl, Bh2.2.2, Mh2⟩ dX12_heard_38
    ·
      replace hf := ms_iF c3 hf
      refine lv_aload_n hx hb dX12_heard_28 rfl (lv_at hl 0 rfl) (hp_n (n := 29) rfl ?_)
      refine m_getr (κ := 49) (k := 30) (pc' := 32) C Bh2 Mh2 fl_X12_70 rfl (by decide) dX12_heard_29 rfl ?_
      refine lv_iload_n hx hb dX12_heard_32 rfl (lv_at hl 1 rfl) (hp_n (n := 33) rfl ?_)
      obtain ⟨g4, hf⟩ := ms_gE hf
      refine m_ial (κ := 49) (φ := 680) (n := 20) (pc' := 34) C Bh2 Mh2 (by decide) (by decide) rfl g4 dX12_heard_33 rfl ?_
      refine lv_goto (tgt := 38) hx hb dX12_heard_34 (by decide) ?_
      cases hf
      exact q_iret C Bh2 hr hlk ⟨rfl, Bh2.2.2, Mh2⟩ dX12_heard_38
  refine lv_if_ge (tgt := 9) hx hb dX12_heard_2 (by decide) (fun c5 => ?_) (fun c5 => hp_n (n := 5) rfl ?_)
  ·
    replace hf := ms_iT c5 hf
    refine lv_iload_n hx hb dX12_heard_9 rfl (lv_at hl 1 rfl) (hp_n (n := 10) rfl ?_)
    refine lv_aload_n hx hb dX12_heard_10 rfl (lv_at hl 0 rfl) (hp_n (n := 11) rfl ?_)
    refine m_geti (k := 32) (φ := 682) (pc' := 14) C B hM fl_X12_341 rfl rfl dX12_heard_11 rfl ?_
    refine lv_icmp_lt (tgt := 21) hx hb dX12_heard_14 (by decide) (fun c6 => ?_) (fun c6 => hp_n (n := 17) rfl ?_)
    ·
      replace hf := ms_iT c6 hf
      refine lv_iconst (v := 0) hx hb dX12_heard_21 (by decide) (hp_n (n := 22) rfl ?_)
      exact J22 α s.heap [] B σ hM a1 (0 : Int32) ls (lv_sub hl [0, 1] rfl) hf
    ·
      replace hf := ms_iF c6 hf
      refine lv_iconst (v := 5) hx hb dX12_heard_17 (by decide) (hp_n (n := 18) rfl ?_)
      refine lv_goto (tgt := 22) hx hb dX12_heard_18 (by decide) ?_
      exact J22 α s.heap [] B σ hM a1 (5 : Int32) ls (lv_sub hl [0, 1] rfl) hf
  ·
    replace hf := ms_iF c5 hf
    refine lv_iconst (v := 1) hx hb dX12_heard_5 (by decide) (hp_n (n := 6) rfl ?_)
    refine lv_goto (tgt := 22) hx hb dX12_heard_6 (by decide) ?_
    exact J22 α s.heap [] B σ hM a1 (1 : Int32) ls (lv_sub hl [0, 1] rfl) hf
def f_X12_fault (n : Nat) (σ : ms_T) (a1 : Int32) : Option (Int32 × ms_T) :=
  ms_l (ms_sI σ 653 (0 : Int32)) fun σh1 =>
  if a1 = 0 then
    some ((ms_I σh1 668), σh1)
  else
    if a1 = (1 : Int32) then
      some ((ms_I σh1 669), σh1)
    else
      some ((-1 : Int32), σh1)
set_option maxRecDepth 100000 in
set_option maxHeartbeats 4000000 in
theorem m_X12_fault (n : Nat) (Γ : hp_G) (l : Launch) (α : hp_T) (a0 : Nat) (ρ : Nat → Nat) (σ : ms_T) (hM : hm_M α a0 ρ σ) (a1 : Int32) (res : (Int32 × ms_T)) (hf : f_X12_fault n σ a1 = some res) : Met l yX12_fault (hp_ws yX12_fault cX12_fault 2 (some .int)) (hp_rm 0 0 0) (hp_Pc Γ α [.ref a0, .int a1]) (hp_Qi Γ (fun r β => r = res.1 ∧ mo α β ∧ hm_M β a0 ρ res.2)) 0 0 (hp_A Γ) := by
  unfold f_X12_fault at hf
  refine hp_start (by decide) ?_
  intro p e s m below meth c C hr hlk B0 hnm
  have C : hp_C Γ p m c cX12_fault 2 s ([.ref a0, .int a1] : List Value).toArray RX12 := C
  have hx := C.1.1
  have hb := C.1.2.1
  have hown := C.1.2.2.2.1
  have hts := C.1.2.2.2.2
  have B : hp_B Γ mo s α α s.heap [] := ⟨B0.1, B0.2.1, mo_rf⟩
  have hl := lv_entry ([.ref a0, .int a1]) (n := 2) (Nat.le_of_ble_eq_true rfl)
  show W p l e (hp_rm 0 0 0) s m ([.ref a0, .int a1] : List Value).toArray below meth c s.heap [] 0 0 (MQ below (hp_Qi Γ (fun r β => r = res.1 ∧ mo α β ∧ hm_M β a0 ρ res.2)) ([.ref a0, .int a1] : List Value).toArray s 0 0 (hp_A Γ)) (entryFrame m ([.ref a0, .int a1] : List Value).toArray 2)
  rw [lg_entry_eq]
  generalize (lg_sl ([.ref a0, .int a1]) ++ List.replicate (2 - (lg_sl ([.ref a0, .int a1])).length) Slot.unset).toArray = ls at hl ⊢
  have hl : lv_has ls 2 [(0, .ref a0), (1, .int a1)] := hl
  refine lv_aload_n hx hb dX12_fault_0 rfl (lv_at hl 0 rfl) (hp_n (n := 1) rfl ?_)
  refine lv_iconst (v := 0) hx hb dX12_fault_1 (by decide) (hp_n (n := 2) rfl ?_)
  refine m_puti (k := 3) (φ := 653) (pc' := 5) C B hM fl_X12_106 rfl rfl rfl rfl rfl dX12_fault_2 rfl (fun αh1 Hh1 Lh1 σh1 eh1 Bh1 Mh1 => ?_)
  replace hf := ms_lE eh1 hf
  refine lv_iload_n hx hb dX12_fault_5 rfl (lv_at hl 1 rfl) (hp_n (n := 6) rfl ?_)
  refine lv_if_ne (tgt := 16) hx hb dX12_fault_6 (by decide) (fun c2 => ?_) (fun c2 => hp_n (n := 9) rfl ?_)
  ·
    replace hf := ms_iF c2 hf
    refine lv_iload_n hx hb dX12_fault_16 rfl (lv_at hl 1 rfl) (hp_n (n := 17) rfl ?_)
    refine lv_iconst (v := 1) hx hb dX12_fault_17 (by decide) (hp_n (n := 18) rfl ?_)
    refine lv_icmp_ne (tgt := 28) hx hb dX12_fault_18 (by decide) (fun c3 => ?_) (fun c3 => hp_n (n := 21) rfl ?_)
    ·
      replace hf := ms_iF c3 hf
      refine lv_iconst (v := (-1)) hx hb dX12_fault_28 (by decide) (hp_n (n := 29) rfl ?_)
      cases hf
      exact q_iret C Bh1 hr hlk ⟨rfl, Bh1.2.2, Mh1⟩ dX12_fault_29
    ·
      replace hf := ms_iT c3 hf
      refine lv_aload_n hx hb dX12_fault_21 rfl (lv_at hl 0 rfl) (hp_n (n := 22) rfl ?_)
      refine m_geti (k := 19) (φ := 669) (pc' := 25) C Bh1 Mh1 fl_X12_39 rfl rfl dX12_fault_22 rfl ?_
      refine lv_goto (tgt := 29) hx hb dX12_fault_25 (by decide) ?_
      cases hf
      exact q_iret C Bh1 hr hlk ⟨rfl, Bh1.2.2, Mh1⟩ dX12_fault_29
  ·
    replace hf := ms_iT c2 hf
    refine lv_aload_n hx hb dX12_fault_9 rfl (lv_at hl 0 rfl) (hp_n (n := 10) rfl ?_)
    refine m_geti (k := 18) (φ := 668) (pc' := 13) C Bh1 Mh1 fl_X12_35 rfl rfl dX12_fault_10 rfl ?_
    refine lv_goto (tgt := 29) hx hb dX12_fault_13 (by decide) ?_
    cases hf
    exact q_iret C Bh1 hr hlk ⟨rfl, Bh1.2.2, Mh1⟩ dX12_fault_29
def f_X12_many_L39 (n : Nat) : Nat → ms_T → Int32 → Int32 → Option (Int32 × ms_T)
  | 0, _, _, _ => none
  | k39 + 1, σh6, v2_h6, v3_h6 =>
    if (4 : Int32) ≤ v3_h6 then
      some (v2_h6, σh6)
    else
      ms_b (f_X12_trust n σh6 v3_h6 (2 : Int32)) fun rh8 =>
      ms_l ((v2_h6 ||| (rh8 <<< (v3_h6 &&& 31)))) fun x9 =>
      ms_l (v3_h6 + 1) fun x10 =>
      (f_X12_many_L39 n k39) σh6 x9 x10
def f_X12_many_J15 (n : Nat) (σh2 : ms_T) (v1_h2 : Int32) (w0_h2 : Int32) : Option (Int32 × ms_T) :=
  ms_c (f_X12_is n σh2 w0_h2) fun rh3 σh3 =>
  if rh3 = 0 then
    some ((-1 : Int32), σh3)
  else
    if (5 : Int32) ≤ v1_h2 then
      f_X12_many_L39 n n σh3 (0 : Int32) (0 : Int32)
    else
      ms_g v1_h2 1980 <|
      some ((ms_E σh3 40 (v1_h2).toNatClampNeg), σh3)
def f_X12_many (n : Nat) (σ : ms_T) (a1 : Int32) : Option (Int32 × ms_T) :=
  ms_b (f_X12_isIn n a1 (0 : Int32) (5 : Int32)) fun rh1 =>
  if rh1 = 0 then
    f_X12_many_J15 n σ a1 (1 : Int32)
  else
    f_X12_many_J15 n σ a1 (0 : Int32)
set_option maxRecDepth 100000 in
set_option maxHeartbeats 4000000 in
theorem m_X12_many (n : Nat) (Γ : hp_G) (l : Launch) (α : hp_T) (a0 : Nat) (ρ : Nat → Nat) (σ : ms_T) (hM : hm_M α a0 ρ σ) (a1 : Int32) (res : (Int32 × ms_T)) (hf : f_X12_many n σ a1 = some res) : Met l yX12_many (hp_ws yX12_many cX12_many 4 (some .int)) (hp_rm 1 0 0) (hp_Pc Γ α [.ref a0, .int a1]) (hp_Qi Γ (fun r β => r = res.1 ∧ mo α β ∧ hm_M β a0 ρ res.2)) 0 0 (hp_A Γ) := by
  unfold f_X12_many at hf
  refine hp_start (by decide) ?_
  intro p e s m below meth c C hr hlk B0 hnm
  have C : hp_C Γ p m c cX12_many 4 s ([.ref a0, .int a1] : List Value).toArray RX12 := C
  have hx := C.1.1
  have hb := C.1.2.1
  have hown := C.1.2.2.2.1
  have hts := C.1.2.2.2.2
  have B : hp_B Γ mo s α α s.heap [] := ⟨B0.1, B0.2.1, mo_rf⟩
  have hl := lv_entry ([.ref a0, .int a1]) (n := 4) (Nat.le_of_ble_eq_true rfl)
  show W p l e (hp_rm 1 0 0) s m ([.ref a0, .int a1] : List Value).toArray below meth c s.heap [] 0 0 (MQ below (hp_Qi Γ (fun r β => r = res.1 ∧ mo α β ∧ hm_M β a0 ρ res.2)) ([.ref a0, .int a1] : List Value).toArray s 0 0 (hp_A Γ)) (entryFrame m ([.ref a0, .int a1] : List Value).toArray 4)
  rw [lg_entry_eq]
  generalize (lg_sl ([.ref a0, .int a1]) ++ List.replicate (4 - (lg_sl ([.ref a0, .int a1])).length) Slot.unset).toArray = ls at hl ⊢
  have hl : lv_has ls 4 [(0, .ref a0), (1, .int a1)] := hl
  refine lv_aload_n hx hb dX12_many_0 rfl (lv_at hl 0 rfl) (hp_n (n := 1) rfl ?_)
  refine lv_iload_n hx hb dX12_many_1 rfl (lv_at hl 1 rfl) (hp_n (n := 2) rfl ?_)
  refine lv_iconst (v := 0) hx hb dX12_many_2 (by decide) (hp_n (n := 3) rfl ?_)
  refine lv_iconst (v := 5) hx hb dX12_many_3 (by decide) (hp_n (n := 4) rfl ?_)
  obtain ⟨rh1, qh1, hf⟩ := ms_bE hf
  refine m_cp (pc' := 7) B (hp_runS (As := [.int a1, .int (0 : Int32), .int (5 : Int32)]) (rest := [.ref a0]) C B (m_X12_isIn n Γ l α a1 (0 : Int32) (5 : Int32) rh1 qh1) lb_X12_isIn ls_X12_isIn lk_X12_113 rfl (by decide) rfl hl.1 rfl (Nat.le_of_ble_eq_true rfl) dX12_many_4 ⟨Nat.le_refl _, Nat.le_refl _⟩) rfl (fun Hh1 Lh1 Bh1 => ?_)
  have J15 : ∀ (αh2 : hp_T) (Hh2 : Heap) (Lh2 : List Loc) (Bh2 : hp_B Γ mo s α αh2 Hh2 Lh2) (σh2 : ms_T) (Mh2 : hm_M αh2 a0 ρ σh2) (v1_h2 : Int32) (w0_h2 : Int32) (ls : Array Slot) (hl : lv_has ls 4 [(0, .ref a0), (1, .int v1_h2)]) (hf : f_X12_many_J15 n σh2 v1_h2 w0_h2 = some res), W p l e (hp_rm 1 0 0) s m ([.ref a0, .int a1] : List Value).toArray below meth c Hh2 Lh2 0 0 (MQ below (hp_Qi Γ (fun r β => r = res.1 ∧ mo α β ∧ hm_M β a0 ρ res.2)) ([.ref a0, .int a1] : List Value).toArray s 0 0 (hp_A Γ)) (F0 m 15 ls [.int w0_h2, .ref a0]) := by
    intro αh2 Hh2 Lh2 Bh2 σh2 Mh2 v1_h2 w0_h2 ls hl hf
    unfold f_X12_many_J15 at hf
    obtain ⟨rh3, σh3, qh3, hf⟩ := ms_cE hf
    refine m_ci (pc' := 18) (a := a0) (ρ := ρ) Bh2 (hp_runV (As := [.int w0_h2]) (rest := []) C Bh2 (m_X12_is n Γ l αh2 a0 ρ σh2 Mh2 w0_h2 (rh3, σh3) qh3) lb_X12_is lv_X12_is lk_X12_309 Mh2.1 rfl (by decide) rfl hl.1 rfl (Nat.le_of_ble_eq_true rfl) dX12_many_15 ⟨Nat.le_refl _, Nat.le_refl _⟩) rfl (fun αh3 Hh3 Lh3 Bh3 Mh3 => ?_)
    refine lv_if_ne (tgt := 23) hx hb dX12_many_18 (by decide) (fun c4 => ?_) (fun c4 => hp_n (n := 21) rfl ?_)
    ·
      replace hf := ms_iF c4 hf
      refine lv_iload_n hx hb dX12_many_23 rfl (lv_at hl 1 rfl) (hp_n (n := 24) rfl ?_)
      refine lv_iconst (v := 5) hx hb dX12_many_24 (by decide) (hp_n (n := 25) rfl ?_)
      refine lv_icmp_ge (tgt := 35) hx hb dX12_many_25 (by decide) (fun c5 => ?_) (fun c5 => hp_n (n := 28) rfl ?_)
      ·
        replace hf := ms_iT c5 hf
        refine lv_iconst (v := 0) hx hb dX12_many_35 (by decide) (hp_n (n := 36) rfl ?_)
        refine lv_istore_n (lv' := [(2, .int (0 : Int32)), (0, .ref a0), (1, .int v1_h2)]) hx hb dX12_many_36 rfl hl (by decide) rfl (fun ls hl => hp_n (n := 37) rfl ?_)
        refine lv_iconst (v := 0) hx hb dX12_many_37 (by decide) (hp_n (n := 38) rfl ?_)
        have J39 : ∀ (k39 : Nat) (αh6 : hp_T) (Hh6 : Heap) (Lh6 : List Loc) (Bh6 : hp_B Γ mo s α αh6 Hh6 Lh6) (σh6 : ms_T) (Mh6 : hm_M αh6 a0 ρ σh6) (v2_h6 : Int32) (v3_h6 : Int32) (ls : Array Slot) (hl : lv_has ls 4 [(0, .ref a0), (2, .int v2_h6), (3, .int v3_h6)]) (hf : f_X12_many_L39 n k39 σh6 v2_h6 v3_h6 = some res), W p l e (hp_rm 1 0 0) s m ([.ref a0, .int a1] : List Value).toArray below meth c Hh6 Lh6 0 0 (MQ below (hp_Qi Γ (fun r β => r = res.1 ∧ mo α β ∧ hm_M β a0 ρ res.2)) ([.ref a0, .int a1] : List Value).toArray s 0 0 (hp_A Γ)) (F0 m 39 ls []) := by
          intro k39
          induction k39 with
          | zero => intro αh6 Hh6 Lh6 Bh6 σh6 Mh6 v2_h6 v3_h6 ls hl hf; rw [f_X12_many_L39.eq_1] at hf; cases hf
          | succ k39 ih39 =>
            intro αh6 Hh6 Lh6 Bh6 σh6 Mh6 v2_h6 v3_h6 ls hl hf
            rw [f_X12_many_L39.eq_2] at hf
            refine lv_iload_n hx hb dX12_many_39 rfl (lv_at hl 2 rfl) (hp_n (n := 40) rfl ?_)
            refine lv_iconst (v := 4) hx hb dX12_many_40 (by decide) (hp_n (n := 41) rfl ?_)
            refine lv_icmp_ge (tgt := 61) hx hb dX12_many_41 (by decide) (fun c7 => ?_) (fun c7 => hp_n (n := 44) rfl ?_)
            ·
              replace hf := ms_iT c7 hf
              refine lv_iload_n hx hb dX12_many_61 rfl (lv_at hl 1 rfl) (hp_n (n := 62) rfl ?_)
              cases hf
              exact q_iret C Bh6 hr hlk ⟨rfl, Bh6.2.2, Mh6⟩ dX12_many_62
            ·
              replace hf := ms_iF c7 hf
              refine lv_iload_n hx hb dX12_many_44 rfl (lv_at hl 1 rfl) (hp_n (n := 45) rfl ?_)
              refine lv_aload_n hx hb dX12_many_45 rfl (lv_at hl 0 rfl) (hp_n (n := 46) rfl ?_)
              refine lv_iload_n hx hb dX12_many_46 rfl (lv_at hl 2 rfl) (hp_n (n := 47) rfl ?_)
              refine lv_iconst (v := 2) hx hb dX12_many_47 (by decide) (hp_n (n := 48) rfl ?_)
              obtain ⟨rh8, qh8, hf⟩ := ms_bE hf
              refine m_cp (pc' := 51) Bh6 (hp_runV (As := [.int v3_h6, .int (2 : Int32)]) (rest := [.int v2_h6]) C Bh6 (m_X12_trust n Γ l αh6 a0 ρ σh6 Mh6 v3_h6 (2 : Int32) rh8 qh8) lb_X12_trust lv_X12_trust lk_X12_221 Mh6.1 rfl (by decide) rfl hl.1 rfl (Nat.le_of_ble_eq_true rfl) dX12_many_48 ⟨Nat.le_refl _, Nat.le_refl _⟩) rfl (fun Hh8 Lh8 Bh8 => ?_)
              refine lv_iload_n hx hb dX12_many_51 rfl (lv_at hl 2 rfl) (hp_n (n := 52) rfl ?_)
              refine lv_ishl hx hb dX12_many_52 (hp_n (n := 53) rfl ?_)
              refine lv_ior hx hb dX12_many_53 (hp_n (n := 54) rfl ?_)
              refine lv_topi (fun x9 ex9 => ?_)
              replace hf := ms_lE ex9 hf
              refine lv_istore_n (lv' := [(2, .int x9), (0, .ref a0), (3, .int v3_h6)]) hx hb dX12_many_54 rfl hl (by decide) rfl (fun ls hl => hp_n (n := 55) rfl ?_)
              obtain ⟨x10, ex10⟩ : ∃ y : Int32, y = v3_h6 + 1 := ⟨_, rfl⟩
              replace hf := ms_lE ex10 hf
              refine lv_iinc (v := x10) (lv' := [(3, .int x10), (2, .int x9), (0, .ref a0)]) hx hb dX12_many_55 hl (k := 2) rfl (by rw [ex10]; rfl) (by decide) rfl (fun ls hl => hp_n (n := 58) rfl ?_)
              refine lv_goto (tgt := 39) hx hb dX12_many_58 (by decide) ?_
              exact ih39 αh6 Hh8 Lh8 Bh8 σh6 Mh6 x9 x10 ls (lv_sub hl [2, 1, 0] rfl) hf
        refine lv_istore_n (lv' := [(3, .int (0 : Int32)), (2, .int (0 : Int32)), (0, .ref a0), (1, .int v1_h2)]) hx hb dX12_many_38 rfl hl (by decide) rfl (fun ls hl => hp_n (n := 39) rfl ?_)
        exact J39 n αh3 Hh3 Lh3 Bh3 σh3 Mh3 (0 : Int32) (0 : Int32) ls (lv_sub hl [2, 1, 0] rfl) hf
      ·
        replace hf := ms_iF c5 hf
        refine lv_aload_n hx hb dX12_many_28 rfl (lv_at hl 0 rfl) (hp_n (n := 29) rfl ?_)
        refine m_getr (κ := 40) (k := 0) (pc' := 32) C Bh3 Mh3 fl_X12_7 rfl (by decide) dX12_many_29 rfl ?_
        refine lv_iload_n hx hb dX12_many_32 rfl (lv_at hl 1 rfl) (hp_n (n := 33) rfl ?_)
        obtain ⟨g11, hf⟩ := ms_gE hf
        refine m_ial (κ := 40) (φ := 650) (n := 1980) (pc' := 34) C Bh3 Mh3 (by decide) (by decide) rfl g11 dX12_many_33 rfl ?_
        cases hf
        exact q_iret C Bh3 hr hlk ⟨rfl, Bh3.2.2, Mh3⟩ dX12_many_34
    ·
      replace hf := ms_iT c4 hf
      refine lv_iconst (v := (-1)) hx hb dX12_many_21 (by decide) (hp_n (n := 22) rfl ?_)
      cases hf
      exact q_iret C Bh3 hr hlk ⟨rfl, Bh3.2.2, Mh3⟩ dX12_many_22
  refine lv_if_eq (tgt := 14) hx hb dX12_many_7 (by decide) (fun c12 => ?_) (fun c12 => hp_n (n := 10) rfl ?_)
  ·
    replace hf := ms_iT c12 hf
    refine lv_iconst (v := 1) hx hb dX12_many_14 (by decide) (hp_n (n := 15) rfl ?_)
    exact J15 α Hh1 Lh1 Bh1 σ hM a1 (1 : Int32) ls (lv_sub hl [0, 1] rfl) hf
  ·
    replace hf := ms_iF c12 hf
    refine lv_iconst (v := 0) hx hb dX12_many_10 (by decide) (hp_n (n := 11) rfl ?_)
    refine lv_goto (tgt := 15) hx hb dX12_many_11 (by decide) ?_
    exact J15 α Hh1 Lh1 Bh1 σ hM a1 (0 : Int32) ls (lv_sub hl [0, 1] rfl) hf
def f_X12_size_J14 (n : Nat) (σh2 : ms_T) (v1_h2 : Int32) (w0_h2 : Int32) : Option (Int32 × ms_T) :=
  ms_c (f_X12_is n σh2 w0_h2) fun rh3 σh3 =>
  if rh3 = 0 then
    some ((-1 : Int32), σh3)
  else
    ms_b (f_X12_sizeOf n σh3 v1_h2) fun rh5 =>
    some (rh5, σh3)
def f_X12_size (n : Nat) (σ : ms_T) (a1 : Int32) : Option (Int32 × ms_T) :=
  ms_b (f_X12_isRecord n σ a1) fun rh1 =>
  if rh1 = 0 then
    f_X12_size_J14 n σ a1 (2 : Int32)
  else
    f_X12_size_J14 n σ a1 (0 : Int32)
set_option maxRecDepth 100000 in
set_option maxHeartbeats 4000000 in
theorem m_X12_size (n : Nat) (Γ : hp_G) (l : Launch) (α : hp_T) (a0 : Nat) (ρ : Nat → Nat) (σ : ms_T) (hM : hm_M α a0 ρ σ) (a1 : Int32) (res : (Int32 × ms_T)) (hf : f_X12_size n σ a1 = some res) : Met l yX12_size (hp_ws yX12_size cX12_size 2 (some .int)) (hp_rm 2 0 0) (hp_Pc Γ α [.ref a0, .int a1]) (hp_Qi Γ (fun r β => r = res.1 ∧ mo α β ∧ hm_M β a0 ρ res.2)) 0 0 (hp_A Γ) := by
  unfold f_X12_size at hf
  refine hp_start (by decide) ?_
  intro p e s m below meth c C hr hlk B0 hnm
  have C : hp_C Γ p m c cX12_size 2 s ([.ref a0, .int a1] : List Value).toArray RX12 := C
  have hx := C.1.1
  have hb := C.1.2.1
  have hown := C.1.2.2.2.1
  have hts := C.1.2.2.2.2
  have B : hp_B Γ mo s α α s.heap [] := ⟨B0.1, B0.2.1, mo_rf⟩
  have hl := lv_entry ([.ref a0, .int a1]) (n := 2) (Nat.le_of_ble_eq_true rfl)
  show W p l e (hp_rm 2 0 0) s m ([.ref a0, .int a1] : List Value).toArray below meth c s.heap [] 0 0 (MQ below (hp_Qi Γ (fun r β => r = res.1 ∧ mo α β ∧ hm_M β a0 ρ res.2)) ([.ref a0, .int a1] : List Value).toArray s 0 0 (hp_A Γ)) (entryFrame m ([.ref a0, .int a1] : List Value).toArray 2)
  rw [lg_entry_eq]
  generalize (lg_sl ([.ref a0, .int a1]) ++ List.replicate (2 - (lg_sl ([.ref a0, .int a1])).length) Slot.unset).toArray = ls at hl ⊢
  have hl : lv_has ls 2 [(0, .ref a0), (1, .int a1)] := hl
  refine lv_aload_n hx hb dX12_size_0 rfl (lv_at hl 0 rfl) (hp_n (n := 1) rfl ?_)
  refine lv_aload_n hx hb dX12_size_1 rfl (lv_at hl 0 rfl) (hp_n (n := 2) rfl ?_)
  refine lv_iload_n hx hb dX12_size_2 rfl (lv_at hl 1 rfl) (hp_n (n := 3) rfl ?_)
  obtain ⟨rh1, qh1, hf⟩ := ms_bE hf
  refine m_cp (pc' := 6) B (hp_runV (As := [.int a1]) (rest := [.ref a0]) C B (m_X12_isRecord n Γ l α a0 ρ σ hM a1 rh1 qh1) lb_X12_isRecord lv_X12_isRecord lk_X12_344 hM.1 rfl (by decide) rfl hl.1 rfl (Nat.le_of_ble_eq_true rfl) dX12_size_3 ⟨Nat.le_refl _, Nat.le_refl _⟩) rfl (fun Hh1 Lh1 Bh1 => ?_)
  have J14 : ∀ (αh2 : hp_T) (Hh2 : Heap) (Lh2 : List Loc) (Bh2 : hp_B Γ mo s α αh2 Hh2 Lh2) (σh2 : ms_T) (Mh2 : hm_M αh2 a0 ρ σh2) (v1_h2 : Int32) (w0_h2 : Int32) (ls : Array Slot) (hl : lv_has ls 2 [(0, .ref a0), (1, .int v1_h2)]) (hf : f_X12_size_J14 n σh2 v1_h2 w0_h2 = some res), W p l e (hp_rm 2 0 0) s m ([.ref a0, .int a1] : List Value).toArray below meth c Hh2 Lh2 0 0 (MQ below (hp_Qi Γ (fun r β => r = res.1 ∧ mo α β ∧ hm_M β a0 ρ res.2)) ([.ref a0, .int a1] : List Value).toArray s 0 0 (hp_A Γ)) (F0 m 14 ls [.int w0_h2, .ref a0]) := by
    intro αh2 Hh2 Lh2 Bh2 σh2 Mh2 v1_h2 w0_h2 ls hl hf
    unfold f_X12_size_J14 at hf
    obtain ⟨rh3, σh3, qh3, hf⟩ := ms_cE hf
    refine m_ci (pc' := 17) (a := a0) (ρ := ρ) Bh2 (hp_runV (As := [.int w0_h2]) (rest := []) C Bh2 (m_X12_is n Γ l αh2 a0 ρ σh2 Mh2 w0_h2 (rh3, σh3) qh3) lb_X12_is lv_X12_is lk_X12_309 Mh2.1 rfl (by decide) rfl hl.1 rfl (Nat.le_of_ble_eq_true rfl) dX12_size_14 ⟨Nat.le_refl _, Nat.le_refl _⟩) rfl (fun αh3 Hh3 Lh3 Bh3 Mh3 => ?_)
    refine lv_if_eq (tgt := 28) hx hb dX12_size_17 (by decide) (fun c4 => ?_) (fun c4 => hp_n (n := 20) rfl ?_)
    ·
      replace hf := ms_iT c4 hf
      refine lv_iconst (v := (-1)) hx hb dX12_size_28 (by decide) (hp_n (n := 29) rfl ?_)
      cases hf
      exact q_iret C Bh3 hr hlk ⟨rfl, Bh3.2.2, Mh3⟩ dX12_size_29
    ·
      replace hf := ms_iF c4 hf
      refine lv_aload_n hx hb dX12_size_20 rfl (lv_at hl 0 rfl) (hp_n (n := 21) rfl ?_)
      refine lv_iload_n hx hb dX12_size_21 rfl (lv_at hl 1 rfl) (hp_n (n := 22) rfl ?_)
      obtain ⟨rh5, qh5, hf⟩ := ms_bE hf
      refine m_cp (pc' := 25) Bh3 (hp_runV (As := [.int v1_h2]) (rest := []) C Bh3 (m_X12_sizeOf n Γ l αh3 a0 ρ σh3 Mh3 v1_h2 rh5 qh5) lb_X12_sizeOf lv_X12_sizeOf lk_X12_209 Mh3.1 rfl (by decide) rfl hl.1 rfl (Nat.le_of_ble_eq_true rfl) dX12_size_22 ⟨Nat.le_refl _, Nat.le_refl _⟩) rfl (fun Hh5 Lh5 Bh5 => ?_)
      refine lv_goto (tgt := 29) hx hb dX12_size_25 (by decide) ?_
      cases hf
      exact q_iret C Bh5 hr hlk ⟨rfl, Bh5.2.2, Mh3⟩ dX12_size_29
  refine lv_if_eq (tgt := 13) hx hb dX12_size_6 (by decide) (fun c6 => ?_) (fun c6 => hp_n (n := 9) rfl ?_)
  ·
    replace hf := ms_iT c6 hf
    refine lv_iconst (v := 2) hx hb dX12_size_13 (by decide) (hp_n (n := 14) rfl ?_)
    exact J14 α Hh1 Lh1 Bh1 σ hM a1 (2 : Int32) ls (lv_sub hl [0, 1] rfl) hf
  ·
    replace hf := ms_iF c6 hf
    refine lv_iconst (v := 0) hx hb dX12_size_9 (by decide) (hp_n (n := 10) rfl ?_)
    refine lv_goto (tgt := 14) hx hb dX12_size_10 (by decide) ?_
    exact J14 α Hh1 Lh1 Bh1 σ hM a1 (0 : Int32) ls (lv_sub hl [0, 1] rfl) hf
def f_X12_entry_J39 (n : Nat) (σh1 : ms_T) (v1_h1 : Int32) (v2_h1 : Int32) (v3_h1 : Int32) (w0_h1 : Int32) : Option (Int32 × ms_T) :=
  ms_c (f_X12_is n σh1 w0_h1) fun rh2 σh2 =>
  if rh2 = 0 then
    some ((-1 : Int32), σh2)
  else
    ms_l ((((48 : Int32) * v1_h1) + v2_h1)) fun x4 =>
    if (2 : Int32) ≤ v3_h1 then
      ms_g ((252 : Int32) + x4) 1980 <|
      if (ms_E σh2 40 (((252 : Int32) + x4)).toNatClampNeg) ≤ (v3_h1 - (2 : Int32)) then
        ms_c (f_X12_refuse n σh2 (5 : Int32)) fun rh8 σh8 =>
        some (rh8, σh8)
      else
        ms_g ((((444 : Int32) + ((8 : Int32) * x4)) + v3_h1) - (2 : Int32)) 1980 <|
        some ((ms_E σh2 40 (((((444 : Int32) + ((8 : Int32) * x4)) + v3_h1) - (2 : Int32))).toNatClampNeg), σh2)
    else
      if v3_h1 = 0 then
        ms_g ((252 : Int32) + x4) 1980 <|
        some ((ms_E σh2 40 (((252 : Int32) + x4)).toNatClampNeg), σh2)
      else
        ms_b (f_X12_entryMark n σh2 v1_h1 v2_h1) fun rh11 =>
        some (rh11, σh2)
def f_X12_entry_J9 (n : Nat) (σh13 : ms_T) (v1_h13 : Int32) (v2_h13 : Int32) (v3_h13 : Int32) : Option (Int32 × ms_T) :=
  f_X12_entry_J39 n σh13 v1_h13 v2_h13 v3_h13 (1 : Int32)
def f_X12_entry (n : Nat) (σ : ms_T) (a1 : Int32) (a2 : Int32) (a3 : Int32) : Option (Int32 × ms_T) :=
  if a2 < 0 then
    f_X12_entry_J9 n σ a1 a2 a3
  else
    if 0 ≤ a3 then
      ms_b (f_X12_isRecord n σ a1) fun rh16 =>
      if rh16 = 0 then
        f_X12_entry_J39 n σ a1 a2 a3 (2 : Int32)
      else
        ms_b (f_X12_sizeOf n σ a1) fun rh18 =>
        if a2 < rh18 then
          f_X12_entry_J39 n σ a1 a2 a3 (0 : Int32)
        else
          f_X12_entry_J39 n σ a1 a2 a3 (5 : Int32)
    else
      f_X12_entry_J9 n σ a1 a2 a3
set_option maxRecDepth 100000 in
set_option maxHeartbeats 4000000 in
theorem m_X12_entry (n : Nat) (Γ : hp_G) (l : Launch) (α : hp_T) (a0 : Nat) (ρ : Nat → Nat) (σ : ms_T) (hM : hm_M α a0 ρ σ) (a1 : Int32) (a2 : Int32) (a3 : Int32) (res : (Int32 × ms_T)) (hf : f_X12_entry n σ a1 a2 a3 = some res) : Met l yX12_entry (hp_ws yX12_entry cX12_entry 5 (some .int)) (hp_rm 2 0 0) (hp_Pc Γ α [.ref a0, .int a1, .int a2, .int a3]) (hp_Qi Γ (fun r β => r = res.1 ∧ mo α β ∧ hm_M β a0 ρ res.2)) 0 0 (hp_A Γ) := by
  unfold f_X12_entry at hf
  refine hp_start (by decide) ?_
  intro p e s m below meth c C hr hlk B0 hnm
  have C : hp_C Γ p m c cX12_entry 5 s ([.ref a0, .int a1, .int a2, .int a3] : List Value).toArray RX12 := C
  have hx := C.1.1
  have hb := C.1.2.1
  have hown := C.1.2.2.2.1
  have hts := C.1.2.2.2.2
  have B : hp_B Γ mo s α α s.heap [] := ⟨B0.1, B0.2.1, mo_rf⟩
  have hl := lv_entry ([.ref a0, .int a1, .int a2, .int a3]) (n := 5) (Nat.le_of_ble_eq_true rfl)
  show W p l e (hp_rm 2 0 0) s m ([.ref a0, .int a1, .int a2, .int a3] : List Value).toArray below meth c s.heap [] 0 0 (MQ below (hp_Qi Γ (fun r β => r = res.1 ∧ mo α β ∧ hm_M β a0 ρ res.2)) ([.ref a0, .int a1, .int a2, .int a3] : List Value).toArray s 0 0 (hp_A Γ)) (entryFrame m ([.ref a0, .int a1, .int a2, .int a3] : List Value).toArray 5)
  rw [lg_entry_eq]
  generalize (lg_sl ([.ref a0, .int a1, .int a2, .int a3]) ++ List.replicate (5 - (lg_sl ([.ref a0, .int a1, .int a2, .int a3])).length) Slot.unset).toArray = ls at hl ⊢
  have hl : lv_has ls 5 [(0, .ref a0), (1, .int a1), (2, .int a2), (3, .int a3)] := hl
  refine lv_aload_n hx hb dX12_entry_0 rfl (lv_at hl 0 rfl) (hp_n (n := 1) rfl ?_)
  refine lv_iload_n hx hb dX12_entry_1 rfl (lv_at hl 2 rfl) (hp_n (n := 2) rfl ?_)
  have J39 : ∀ (αh1 : hp_T) (Hh1 : Heap) (Lh1 : List Loc) (Bh1 : hp_B Γ mo s α αh1 Hh1 Lh1) (σh1 : ms_T) (Mh1 : hm_M αh1 a0 ρ σh1) (v1_h1 : Int32) (v2_h1 : Int32) (v3_h1 : Int32) (w0_h1 : Int32) (ls : Array Slot) (hl : lv_has ls 5 [(0, .ref a0), (1, .int v1_h1), (2, .int v2_h1), (3, .int v3_h1)]) (hf : f_X12_entry_J39 n σh1 v1_h1 v2_h1 v3_h1 w0_h1 = some res), W p l e (hp_rm 2 0 0) s m ([.ref a0, .int a1, .int a2, .int a3] : List Value).toArray below meth c Hh1 Lh1 0 0 (MQ below (hp_Qi Γ (fun r β => r = res.1 ∧ mo α β ∧ hm_M β a0 ρ res.2)) ([.ref a0, .int a1, .int a2, .int a3] : List Value).toArray s 0 0 (hp_A Γ)) (F0 m 39 ls [.int w0_h1, .ref a0]) := by
    intro αh1 Hh1 Lh1 Bh1 σh1 Mh1 v1_h1 v2_h1 v3_h1 w0_h1 ls hl hf
    unfold f_X12_entry_J39 at hf
    obtain ⟨rh2, σh2, qh2, hf⟩ := ms_cE hf
    refine m_ci (pc' := 42) (a := a0) (ρ := ρ) Bh1 (hp_runV (As := [.int w0_h1]) (rest := []) C Bh1 (m_X12_is n Γ l αh1 a0 ρ σh1 Mh1 w0_h1 (rh2, σh2) qh2) lb_X12_is lv_X12_is lk_X12_309 Mh1.1 rfl (by decide) rfl hl.1 rfl (Nat.le_of_ble_eq_true rfl) dX12_entry_39 ⟨Nat.le_refl _, Nat.le_refl _⟩) rfl (fun αh2 Hh2 Lh2 Bh2 Mh2 => ?_)
    refine lv_if_ne (tgt := 47) hx hb dX12_entry_42 (by decide) (fun c3 => ?_) (fun c3 => hp_n (n := 45) rfl ?_)
    ·
      replace hf := ms_iF c3 hf
      refine lv_bipush (v := 48) hx hb dX12_entry_47 (by decide) (hp_n (n := 49) rfl ?_)
      refine lv_iload_n hx hb dX12_entry_49 rfl (lv_at hl 1 rfl) (hp_n (n := 50) rfl ?_)
      refine lv_imul hx hb dX12_entry_50 (hp_n (n := 51) rfl ?_)
      refine lv_iload_n hx hb dX12_entry_51 rfl (lv_at hl 2 rfl) (hp_n (n := 52) rfl ?_)
      refine lv_iadd hx hb dX12_entry_52 (hp_n (n := 53) rfl ?_)
      refine lv_topi (fun x4 ex4 => ?_)
      replace hf := ms_lE ex4 hf
      refine lv_istore (lv' := [(4, .int x4), (0, .ref a0), (1, .int v1_h1), (2, .int v2_h1), (3, .int v3_h1)]) hx hb dX12_entry_53 hl (by decide) rfl (fun ls hl => hp_n (n := 55) rfl ?_)
      refine lv_iload_n hx hb dX12_entry_55 rfl (lv_at hl 4 rfl) (hp_n (n := 56) rfl ?_)
      refine lv_iconst (v := 2) hx hb dX12_entry_56 (by decide) (hp_n (n := 57) rfl ?_)
      refine lv_icmp_ge (tgt := 85) hx hb dX12_entry_57 (by decide) (fun c5 => ?_) (fun c5 => hp_n (n := 60) rfl ?_)
      ·
        replace hf := ms_iT c5 hf
        refine lv_iload_n hx hb dX12_entry_85 rfl (lv_at hl 4 rfl) (hp_n (n := 86) rfl ?_)
        refine lv_iconst (v := 2) hx hb dX12_entry_86 (by decide) (hp_n (n := 87) rfl ?_)
        refine lv_isub hx hb dX12_entry_87 (hp_n (n := 88) rfl ?_)
        refine lv_aload_n hx hb dX12_entry_88 rfl (lv_at hl 1 rfl) (hp_n (n := 89) rfl ?_)
        refine m_getr (κ := 40) (k := 0) (pc' := 92) C Bh2 Mh2 fl_X12_7 rfl (by decide) dX12_entry_89 rfl ?_
        refine lv_sipush (v := 252) hx hb dX12_entry_92 (by decide) (hp_n (n := 95) rfl ?_)
        refine lv_iload hx hb dX12_entry_95 (lv_at hl 0 rfl) (hp_n (n := 97) rfl ?_)
        refine lv_iadd hx hb dX12_entry_97 (hp_n (n := 98) rfl ?_)
        obtain ⟨g6, hf⟩ := ms_gE hf
        refine m_ial (κ := 40) (φ := 650) (n := 1980) (pc' := 99) C Bh2 Mh2 (by decide) (by decide) rfl g6 dX12_entry_98 rfl ?_
        refine lv_icmp_ge (tgt := 123) hx hb dX12_entry_99 (by decide) (fun c7 => ?_) (fun c7 => hp_n (n := 102) rfl ?_)
        ·
          replace hf := ms_iT c7 hf
          refine lv_aload_n hx hb dX12_entry_123 rfl (lv_at hl 1 rfl) (hp_n (n := 124) rfl ?_)
          refine lv_iconst (v := 5) hx hb dX12_entry_124 (by decide) (hp_n (n := 125) rfl ?_)
          obtain ⟨rh8, σh8, qh8, hf⟩ := ms_cE hf
          refine m_ci (pc' := 128) (a := a0) (ρ := ρ) Bh2 (hp_runV (As := [.int (5 : Int32)]) (rest := []) C Bh2 (m_X12_refuse n Γ l αh2 a0 ρ σh2 Mh2 (5 : Int32) (rh8, σh8) qh8) lb_X12_refuse lv_X12_refuse lk_X12_212 Mh2.1 rfl (by decide) rfl hl.1 rfl (Nat.le_of_ble_eq_true rfl) dX12_entry_125 ⟨Nat.le_refl _, Nat.le_refl _⟩) rfl (fun αh8 Hh8 Lh8 Bh8 Mh8 => ?_)
          cases hf
          exact q_iret C Bh8 hr hlk ⟨rfl, Bh8.2.2, Mh8⟩ dX12_entry_128
        ·
          replace hf := ms_iF c7 hf
          refine lv_aload_n hx hb dX12_entry_102 rfl (lv_at hl 1 rfl) (hp_n (n := 103) rfl ?_)
          refine m_getr (κ := 40) (k := 0) (pc' := 106) C Bh2 Mh2 fl_X12_7 rfl (by decide) dX12_entry_103 rfl ?_
          refine lv_sipush (v := 444) hx hb dX12_entry_106 (by decide) (hp_n (n := 109) rfl ?_)
          refine lv_bipush (v := 8) hx hb dX12_entry_109 (by decide) (hp_n (n := 111) rfl ?_)
          refine lv_iload hx hb dX12_entry_111 (lv_at hl 0 rfl) (hp_n (n := 113) rfl ?_)
          refine lv_imul hx hb dX12_entry_113 (hp_n (n := 114) rfl ?_)
          refine lv_iadd hx hb dX12_entry_114 (hp_n (n := 115) rfl ?_)
          refine lv_iload_n hx hb dX12_entry_115 rfl (lv_at hl 4 rfl) (hp_n (n := 116) rfl ?_)
          refine lv_iadd hx hb dX12_entry_116 (hp_n (n := 117) rfl ?_)
          refine lv_iconst (v := 2) hx hb dX12_entry_117 (by decide) (hp_n (n := 118) rfl ?_)
          refine lv_isub hx hb dX12_entry_118 (hp_n (n := 119) rfl ?_)
          obtain ⟨g9, hf⟩ := ms_gE hf
          refine m_ial (κ := 40) (φ := 650) (n := 1980) (pc' := 120) C Bh2 Mh2 (by decide) (by decide) rfl g9 dX12_entry_119 rfl ?_
          refine lv_goto (tgt := 128) hx hb dX12_entry_120 (by decide) ?_
          cases hf
          exact q_iret C Bh2 hr hlk ⟨rfl, Bh2.2.2, Mh2⟩ dX12_entry_128
      ·
        replace hf := ms_iF c5 hf
        refine lv_iload_n hx hb dX12_entry_60 rfl (lv_at hl 4 rfl) (hp_n (n := 61) rfl ?_)
        refine lv_if_ne (tgt := 78) hx hb dX12_entry_61 (by decide) (fun c10 => ?_) (fun c10 => hp_n (n := 64) rfl ?_)
        ·
          replace hf := ms_iF c10 hf
          refine lv_aload_n hx hb dX12_entry_78 rfl (lv_at hl 1 rfl) (hp_n (n := 79) rfl ?_)
          refine lv_iload_n hx hb dX12_entry_79 rfl (lv_at hl 2 rfl) (hp_n (n := 80) rfl ?_)
          refine lv_iload_n hx hb dX12_entry_80 rfl (lv_at hl 3 rfl) (hp_n (n := 81) rfl ?_)
          obtain ⟨rh11, qh11, hf⟩ := ms_bE hf
          refine m_cp (pc' := 84) Bh2 (hp_runV (As := [.int v1_h1, .int v2_h1]) (rest := []) C Bh2 (m_X12_entryMark n Γ l αh2 a0 ρ σh2 Mh2 v1_h1 v2_h1 rh11 qh11) lb_X12_entryMark lv_X12_entryMark lk_X12_125 Mh2.1 rfl (by decide) rfl hl.1 rfl (Nat.le_of_ble_eq_true rfl) dX12_entry_81 ⟨Nat.le_refl _, Nat.le_refl _⟩) rfl (fun Hh11 Lh11 Bh11 => ?_)
          cases hf
          exact q_iret C Bh11 hr hlk ⟨rfl, Bh11.2.2, Mh2⟩ dX12_entry_84
        ·
          replace hf := ms_iT c10 hf
          refine lv_aload_n hx hb dX12_entry_64 rfl (lv_at hl 1 rfl) (hp_n (n := 65) rfl ?_)
          refine m_getr (κ := 40) (k := 0) (pc' := 68) C Bh2 Mh2 fl_X12_7 rfl (by decide) dX12_entry_65 rfl ?_
          refine lv_sipush (v := 252) hx hb dX12_entry_68 (by decide) (hp_n (n := 71) rfl ?_)
          refine lv_iload hx hb dX12_entry_71 (lv_at hl 0 rfl) (hp_n (n := 73) rfl ?_)
          refine lv_iadd hx hb dX12_entry_73 (hp_n (n := 74) rfl ?_)
          obtain ⟨g12, hf⟩ := ms_gE hf
          refine m_ial (κ := 40) (φ := 650) (n := 1980) (pc' := 75) C Bh2 Mh2 (by decide) (by decide) rfl g12 dX12_entry_74 rfl ?_
          refine lv_goto (tgt := 84) hx hb dX12_entry_75 (by decide) ?_
          cases hf
          exact q_iret C Bh2 hr hlk ⟨rfl, Bh2.2.2, Mh2⟩ dX12_entry_84
    ·
      replace hf := ms_iT c3 hf
      refine lv_iconst (v := (-1)) hx hb dX12_entry_45 (by decide) (hp_n (n := 46) rfl ?_)
      cases hf
      exact q_iret C Bh2 hr hlk ⟨rfl, Bh2.2.2, Mh2⟩ dX12_entry_46
  have J9 : ∀ (αh13 : hp_T) (Hh13 : Heap) (Lh13 : List Loc) (Bh13 : hp_B Γ mo s α αh13 Hh13 Lh13) (σh13 : ms_T) (Mh13 : hm_M αh13 a0 ρ σh13) (v1_h13 : Int32) (v2_h13 : Int32) (v3_h13 : Int32) (ls : Array Slot) (hl : lv_has ls 5 [(0, .ref a0), (1, .int v1_h13), (2, .int v2_h13), (3, .int v3_h13)]) (hf : f_X12_entry_J9 n σh13 v1_h13 v2_h13 v3_h13 = some res), W p l e (hp_rm 2 0 0) s m ([.ref a0, .int a1, .int a2, .int a3] : List Value).toArray below meth c Hh13 Lh13 0 0 (MQ below (hp_Qi Γ (fun r β => r = res.1 ∧ mo α β ∧ hm_M β a0 ρ res.2)) ([.ref a0, .int a1, .int a2, .int a3] : List Value).toArray s 0 0 (hp_A Γ)) (F0 m 9 ls [.ref a0]) := by
    intro αh13 Hh13 Lh13 Bh13 σh13 Mh13 v1_h13 v2_h13 v3_h13 ls hl hf
    unfold f_X12_entry_J9 at hf
    refine lv_iconst (v := 1) hx hb dX12_entry_9 (by decide) (hp_n (n := 10) rfl ?_)
    refine lv_goto (tgt := 39) hx hb dX12_entry_10 (by decide) ?_
    exact J39 αh13 Hh13 Lh13 Bh13 σh13 Mh13 v1_h13 v2_h13 v3_h13 (1 : Int32) ls (lv_sub hl [0, 1, 2, 3] rfl) hf
  refine lv_if_lt (tgt := 9) hx hb dX12_entry_2 (by decide) (fun c14 => ?_) (fun c14 => hp_n (n := 5) rfl ?_)
  ·
    replace hf := ms_iT c14 hf
    exact J9 α s.heap [] B σ hM a1 a2 a3 ls (lv_sub hl [0, 1, 2, 3] rfl) hf
  ·
    replace hf := ms_iF c14 hf
    refine lv_iload_n hx hb dX12_entry_5 rfl (lv_at hl 3 rfl) (hp_n (n := 6) rfl ?_)
    refine lv_if_ge (tgt := 13) hx hb dX12_entry_6 (by decide) (fun c15 => ?_) (fun c15 => hp_n (n := 9) rfl ?_)
    ·
      replace hf := ms_iT c15 hf
      refine lv_aload_n hx hb dX12_entry_13 rfl (lv_at hl 0 rfl) (hp_n (n := 14) rfl ?_)
      refine lv_iload_n hx hb dX12_entry_14 rfl (lv_at hl 1 rfl) (hp_n (n := 15) rfl ?_)
      obtain ⟨rh16, qh16, hf⟩ := ms_bE hf
      refine m_cp (pc' := 18) B (hp_runV (As := [.int a1]) (rest := [.ref a0]) C B (m_X12_isRecord n Γ l α a0 ρ σ hM a1 rh16 qh16) lb_X12_isRecord lv_X12_isRecord lk_X12_344 hM.1 rfl (by decide) rfl hl.1 rfl (Nat.le_of_ble_eq_true rfl) dX12_entry_15 ⟨Nat.le_refl _, Nat.le_refl _⟩) rfl (fun Hh16 Lh16 Bh16 => ?_)
      refine lv_if_ne (tgt := 25) hx hb dX12_entry_18 (by decide) (fun c17 => ?_) (fun c17 => hp_n (n := 21) rfl ?_)
      ·
        replace hf := ms_iF c17 hf
        refine lv_iload_n hx hb dX12_entry_25 rfl (lv_at hl 2 rfl) (hp_n (n := 26) rfl ?_)
        refine lv_aload_n hx hb dX12_entry_26 rfl (lv_at hl 0 rfl) (hp_n (n := 27) rfl ?_)
        refine lv_iload_n hx hb dX12_entry_27 rfl (lv_at hl 1 rfl) (hp_n (n := 28) rfl ?_)
        obtain ⟨rh18, qh18, hf⟩ := ms_bE hf
        refine m_cp (pc' := 31) Bh16 (hp_runV (As := [.int a1]) (rest := [.int a2, .ref a0]) C Bh16 (m_X12_sizeOf n Γ l α a0 ρ σ hM a1 rh18 qh18) lb_X12_sizeOf lv_X12_sizeOf lk_X12_209 hM.1 rfl (by decide) rfl hl.1 rfl (Nat.le_of_ble_eq_true rfl) dX12_entry_28 ⟨Nat.le_refl _, Nat.le_refl _⟩) rfl (fun Hh18 Lh18 Bh18 => ?_)
        refine lv_icmp_lt (tgt := 38) hx hb dX12_entry_31 (by decide) (fun c19 => ?_) (fun c19 => hp_n (n := 34) rfl ?_)
        ·
          replace hf := ms_iT c19 hf
          refine lv_iconst (v := 0) hx hb dX12_entry_38 (by decide) (hp_n (n := 39) rfl ?_)
          exact J39 α Hh18 Lh18 Bh18 σ hM a1 a2 a3 (0 : Int32) ls (lv_sub hl [0, 1, 2, 3] rfl) hf
        ·
          replace hf := ms_iF c19 hf
          refine lv_iconst (v := 5) hx hb dX12_entry_34 (by decide) (hp_n (n := 35) rfl ?_)
          refine lv_goto (tgt := 39) hx hb dX12_entry_35 (by decide) ?_
          exact J39 α Hh18 Lh18 Bh18 σ hM a1 a2 a3 (5 : Int32) ls (lv_sub hl [0, 1, 2, 3] rfl) hf
      ·
        replace hf := ms_iT c17 hf
        refine lv_iconst (v := 2) hx hb dX12_entry_21 (by decide) (hp_n (n := 22) rfl ?_)
        refine lv_goto (tgt := 39) hx hb dX12_entry_22 (by decide) ?_
        exact J39 α Hh16 Lh16 Bh16 σ hM a1 a2 a3 (2 : Int32) ls (lv_sub hl [0, 1, 2, 3] rfl) hf
    ·
      replace hf := ms_iF c15 hf
      exact J9 α s.heap [] B σ hM a1 a2 a3 ls (lv_sub hl [0, 1, 2, 3] rfl) hf
def f_X12_noSize (n : Nat) (σ : ms_T) (a1 : Int32) (a2 : Int32) : Option Int32 :=
  if 0 ≤ a2 then
    ms_b (f_X12_isRecord n σ a1) fun rh2 =>
    if rh2 = 0 then
      some (2 : Int32)
    else
      ms_b (f_X12_sizeOf n σ a1) fun rh4 =>
      if a2 ≤ rh4 then
        some (0 : Int32)
      else
        some (5 : Int32)
  else
    some (1 : Int32)
set_option maxRecDepth 100000 in
set_option maxHeartbeats 4000000 in
theorem m_X12_noSize (n : Nat) (Γ : hp_G) (l : Launch) (α : hp_T) (a0 : Nat) (ρ : Nat → Nat) (σ : ms_T) (hM : hm_M α a0 ρ σ) (a1 : Int32) (a2 : Int32) (res : Int32) (hf : f_X12_noSize n σ a1 a2 = some res) : Met l yX12_noSize (hp_ws yX12_noSize cX12_noSize 3 (some .int)) (hp_rm 2 0 0) (hp_Pc Γ α [.ref a0, .int a1, .int a2]) (hp_Qi Γ (fun r β => β = α ∧ r = res)) 0 0 (hp_A Γ) := by
  unfold f_X12_noSize at hf
  refine hp_start (by decide) ?_
  intro p e s m below meth c C hr hlk B0 hnm
  have C : hp_C Γ p m c cX12_noSize 3 s ([.ref a0, .int a1, .int a2] : List Value).toArray RX12 := C
  have hx := C.1.1
  have hb := C.1.2.1
  have hown := C.1.2.2.2.1
  have hts := C.1.2.2.2.2
  have B : hp_B Γ (fun _ _ => True) s α α s.heap [] := ⟨B0.1, B0.2.1, trivial⟩
  have hl := lv_entry ([.ref a0, .int a1, .int a2]) (n := 3) (Nat.le_of_ble_eq_true rfl)
  show W p l e (hp_rm 2 0 0) s m ([.ref a0, .int a1, .int a2] : List Value).toArray below meth c s.heap [] 0 0 (MQ below (hp_Qi Γ (fun r β => β = α ∧ r = res)) ([.ref a0, .int a1, .int a2] : List Value).toArray s 0 0 (hp_A Γ)) (entryFrame m ([.ref a0, .int a1, .int a2] : List Value).toArray 3)
  rw [lg_entry_eq]
  generalize (lg_sl ([.ref a0, .int a1, .int a2]) ++ List.replicate (3 - (lg_sl ([.ref a0, .int a1, .int a2])).length) Slot.unset).toArray = ls at hl ⊢
  have hl : lv_has ls 3 [(0, .ref a0), (1, .int a1), (2, .int a2)] := hl
  refine lv_iload_n hx hb dX12_noSize_0 rfl (lv_at hl 2 rfl) (hp_n (n := 1) rfl ?_)
  refine lv_if_ge (tgt := 8) hx hb dX12_noSize_1 (by decide) (fun c1 => ?_) (fun c1 => hp_n (n := 4) rfl ?_)
  ·
    replace hf := ms_iT c1 hf
    refine lv_aload_n hx hb dX12_noSize_8 rfl (lv_at hl 0 rfl) (hp_n (n := 9) rfl ?_)
    refine lv_iload_n hx hb dX12_noSize_9 rfl (lv_at hl 1 rfl) (hp_n (n := 10) rfl ?_)
    obtain ⟨rh2, qh2, hf⟩ := ms_bE hf
    refine m_cp (pc' := 13) B (hp_runV (As := [.int a1]) (rest := []) C B (m_X12_isRecord n Γ l α a0 ρ σ hM a1 rh2 qh2) lb_X12_isRecord lv_X12_isRecord lk_X12_344 hM.1 rfl (by decide) rfl hl.1 rfl (Nat.le_of_ble_eq_true rfl) dX12_noSize_10 ⟨Nat.le_refl _, Nat.le_refl _⟩) rfl (fun Hh2 Lh2 Bh2 => ?_)
    refine lv_if_ne (tgt := 20) hx hb dX12_noSize_13 (by decide) (fun c3 => ?_) (fun c3 => hp_n (n := 16) rfl ?_)
    ·
      replace hf := ms_iF c3 hf
      refine lv_iload_n hx hb dX12_noSize_20 rfl (lv_at hl 2 rfl) (hp_n (n := 21) rfl ?_)
      refine lv_aload_n hx hb dX12_noSize_21 rfl (lv_at hl 0 rfl) (hp_n (n := 22) rfl ?_)
      refine lv_iload_n hx hb dX12_noSize_22 rfl (lv_at hl 1 rfl) (hp_n (n := 23) rfl ?_)
      obtain ⟨rh4, qh4, hf⟩ := ms_bE hf
      refine m_cp (pc' := 26) Bh2 (hp_runV (As := [.int a1]) (rest := [.int a2]) C Bh2 (m_X12_sizeOf n Γ l α a0 ρ σ hM a1 rh4 qh4) lb_X12_sizeOf lv_X12_sizeOf lk_X12_209 hM.1 rfl (by decide) rfl hl.1 rfl (Nat.le_of_ble_eq_true rfl) dX12_noSize_23 ⟨Nat.le_refl _, Nat.le_refl _⟩) rfl (fun Hh4 Lh4 Bh4 => ?_)
      refine lv_icmp_le (tgt := 33) hx hb dX12_noSize_26 (by decide) (fun c5 => ?_) (fun c5 => hp_n (n := 29) rfl ?_)
      ·
        replace hf := ms_iT c5 hf
        refine lv_iconst (v := 0) hx hb dX12_noSize_33 (by decide) (hp_n (n := 34) rfl ?_)
        cases hf
        exact q_iret C Bh4 hr hlk ⟨rfl, rfl⟩ dX12_noSize_34
      ·
        replace hf := ms_iF c5 hf
        refine lv_iconst (v := 5) hx hb dX12_noSize_29 (by decide) (hp_n (n := 30) rfl ?_)
        refine lv_goto (tgt := 34) hx hb dX12_noSize_30 (by decide) ?_
        cases hf
        exact q_iret C Bh4 hr hlk ⟨rfl, rfl⟩ dX12_noSize_34
    ·
      replace hf := ms_iT c3 hf
      refine lv_iconst (v := 2) hx hb dX12_noSize_16 (by decide) (hp_n (n := 17) rfl ?_)
      refine lv_goto (tgt := 34) hx hb dX12_noSize_17 (by decide) ?_
      cases hf
      exact q_iret C Bh2 hr hlk ⟨rfl, rfl⟩ dX12_noSize_34
  ·
    replace hf := ms_iF c1 hf
    refine lv_iconst (v := 1) hx hb dX12_noSize_4 (by decide) (hp_n (n := 5) rfl ?_)
    refine lv_goto (tgt := 34) hx hb dX12_noSize_5 (by decide) ?_
    cases hf
    exact q_iret C B hr hlk ⟨rfl, rfl⟩ dX12_noSize_34
def f_X12_head (n : Nat) (σ : ms_T) (a1 : Int32) (a2 : Int32) : Option (Int32 × ms_T) :=
  ms_b (f_X12_noSize n σ a1 a2) fun rh1 =>
  ms_c (f_X12_is n σ rh1) fun rh2 σh2 =>
  if rh2 = 0 then
    some ((-1 : Int32), σh2)
  else
    ms_b (f_X12_headOf n σh2 a1 a2) fun rh4 =>
    some (rh4, σh2)
set_option maxRecDepth 100000 in
set_option maxHeartbeats 4000000 in
theorem m_X12_head (n : Nat) (Γ : hp_G) (l : Launch) (α : hp_T) (a0 : Nat) (ρ : Nat → Nat) (σ : ms_T) (hM : hm_M α a0 ρ σ) (a1 : Int32) (a2 : Int32) (res : (Int32 × ms_T)) (hf : f_X12_head n σ a1 a2 = some res) : Met l yX12_head (hp_ws yX12_head cX12_head 3 (some .int)) (hp_rm 43 0 0) (hp_Pc Γ α [.ref a0, .int a1, .int a2]) (hp_Qi Γ (fun r β => r = res.1 ∧ mo α β ∧ hm_M β a0 ρ res.2)) 0 0 (hp_A Γ) := by
  unfold f_X12_head at hf
  refine hp_start (by decide) ?_
  intro p e s m below meth c C hr hlk B0 hnm
  have C : hp_C Γ p m c cX12_head 3 s ([.ref a0, .int a1, .int a2] : List Value).toArray RX12 := C
  have hx := C.1.1
  have hb := C.1.2.1
  have hown := C.1.2.2.2.1
  have hts := C.1.2.2.2.2
  have B : hp_B Γ mo s α α s.heap [] := ⟨B0.1, B0.2.1, mo_rf⟩
  have hl := lv_entry ([.ref a0, .int a1, .int a2]) (n := 3) (Nat.le_of_ble_eq_true rfl)
  show W p l e (hp_rm 43 0 0) s m ([.ref a0, .int a1, .int a2] : List Value).toArray below meth c s.heap [] 0 0 (MQ below (hp_Qi Γ (fun r β => r = res.1 ∧ mo α β ∧ hm_M β a0 ρ res.2)) ([.ref a0, .int a1, .int a2] : List Value).toArray s 0 0 (hp_A Γ)) (entryFrame m ([.ref a0, .int a1, .int a2] : List Value).toArray 3)
  rw [lg_entry_eq]
  generalize (lg_sl ([.ref a0, .int a1, .int a2]) ++ List.replicate (3 - (lg_sl ([.ref a0, .int a1, .int a2])).length) Slot.unset).toArray = ls at hl ⊢
  have hl : lv_has ls 3 [(0, .ref a0), (1, .int a1), (2, .int a2)] := hl
  refine lv_aload_n hx hb dX12_head_0 rfl (lv_at hl 0 rfl) (hp_n (n := 1) rfl ?_)
  refine lv_aload_n hx hb dX12_head_1 rfl (lv_at hl 0 rfl) (hp_n (n := 2) rfl ?_)
  refine lv_iload_n hx hb dX12_head_2 rfl (lv_at hl 1 rfl) (hp_n (n := 3) rfl ?_)
  refine lv_iload_n hx hb dX12_head_3 rfl (lv_at hl 2 rfl) (hp_n (n := 4) rfl ?_)
  obtain ⟨rh1, qh1, hf⟩ := ms_bE hf
  refine m_cp (pc' := 7) B (hp_runV (As := [.int a1, .int a2]) (rest := [.ref a0]) C B (m_X12_noSize n Γ l α a0 ρ σ hM a1 a2 rh1 qh1) lb_X12_noSize lv_X12_noSize lk_X12_347 hM.1 rfl (by decide) rfl hl.1 rfl (Nat.le_of_ble_eq_true rfl) dX12_head_4 ⟨Nat.le_refl _, Nat.le_refl _⟩) rfl (fun Hh1 Lh1 Bh1 => ?_)
  obtain ⟨rh2, σh2, qh2, hf⟩ := ms_cE hf
  refine m_ci (pc' := 10) (a := a0) (ρ := ρ) Bh1 (hp_runV (As := [.int rh1]) (rest := []) C Bh1 (m_X12_is n Γ l α a0 ρ σ hM rh1 (rh2, σh2) qh2) lb_X12_is lv_X12_is lk_X12_309 hM.1 rfl (by decide) rfl hl.1 rfl (Nat.le_of_ble_eq_true rfl) dX12_head_7 ⟨Nat.le_refl _, Nat.le_refl _⟩) rfl (fun αh2 Hh2 Lh2 Bh2 Mh2 => ?_)
  refine lv_if_eq (tgt := 22) hx hb dX12_head_10 (by decide) (fun c3 => ?_) (fun c3 => hp_n (n := 13) rfl ?_)
  ·
    replace hf := ms_iT c3 hf
    refine lv_iconst (v := (-1)) hx hb dX12_head_22 (by decide) (hp_n (n := 23) rfl ?_)
    cases hf
    exact q_iret C Bh2 hr hlk ⟨rfl, Bh2.2.2, Mh2⟩ dX12_head_23
  ·
    replace hf := ms_iF c3 hf
    refine lv_aload_n hx hb dX12_head_13 rfl (lv_at hl 0 rfl) (hp_n (n := 14) rfl ?_)
    refine lv_iload_n hx hb dX12_head_14 rfl (lv_at hl 1 rfl) (hp_n (n := 15) rfl ?_)
    refine lv_iload_n hx hb dX12_head_15 rfl (lv_at hl 2 rfl) (hp_n (n := 16) rfl ?_)
    obtain ⟨rh4, qh4, hf⟩ := ms_bE hf
    refine m_cp (pc' := 19) Bh2 (hp_runV (As := [.int a1, .int a2]) (rest := []) C Bh2 (m_X12_headOf n Γ l αh2 a0 ρ σh2 Mh2 a1 a2 rh4 qh4) lb_X12_headOf lv_X12_headOf lk_X12_215 Mh2.1 rfl (by decide) rfl hl.1 rfl (Nat.le_of_ble_eq_true rfl) dX12_head_16 ⟨Nat.le_refl _, Nat.le_refl _⟩) rfl (fun Hh4 Lh4 Bh4 => ?_)
    refine lv_goto (tgt := 23) hx hb dX12_head_19 (by decide) ?_
    cases hf
    exact q_iret C Bh4 hr hlk ⟨rfl, Bh4.2.2, Mh2⟩ dX12_head_23
def f_X12_join_J22 (n : Nat) (σh2 : ms_T) (v1_h2 : Int32) (v2_h2 : Int32) (w0_h2 : Int32) : Option (Int32 × ms_T) :=
  ms_c (f_X12_is n σh2 w0_h2) fun rh3 σh3 =>
  if rh3 = 0 then
    some ((-1 : Int32), σh3)
  else
    ms_b (f_X12_both n σh3 v1_h2 v2_h2) fun rh5 =>
    some (rh5, σh3)
def f_X12_join_J21 (n : Nat) (σh6 : ms_T) (v1_h6 : Int32) (v2_h6 : Int32) : Option (Int32 × ms_T) :=
  f_X12_join_J22 n σh6 v1_h6 v2_h6 (1 : Int32)
def f_X12_join (n : Nat) (σ : ms_T) (a1 : Int32) (a2 : Int32) : Option (Int32 × ms_T) :=
  ms_b (f_X12_isMark n σ a1) fun rh1 =>
  if rh1 = 0 then
    f_X12_join_J21 n σ a1 a2
  else
    ms_b (f_X12_isMark n σ a2) fun rh8 =>
    if rh8 = 0 then
      f_X12_join_J21 n σ a1 a2
    else
      f_X12_join_J22 n σ a1 a2 (0 : Int32)
set_option maxRecDepth 100000 in
set_option maxHeartbeats 4000000 in
theorem m_X12_join (n : Nat) (Γ : hp_G) (l : Launch) (α : hp_T) (a0 : Nat) (ρ : Nat → Nat) (σ : ms_T) (hM : hm_M α a0 ρ σ) (a1 : Int32) (a2 : Int32) (res : (Int32 × ms_T)) (hf : f_X12_join n σ a1 a2 = some res) : Met l yX12_join (hp_ws yX12_join cX12_join 3 (some .int)) (hp_rm 2 0 0) (hp_Pc Γ α [.ref a0, .int a1, .int a2]) (hp_Qi Γ (fun r β => r = res.1 ∧ mo α β ∧ hm_M β a0 ρ res.2)) 0 0 (hp_A Γ) := by
  unfold f_X12_join at hf
  refine hp_start (by decide) ?_
  intro p e s m below meth c C hr hlk B0 hnm
  have C : hp_C Γ p m c cX12_join 3 s ([.ref a0, .int a1, .int a2] : List Value).toArray RX12 := C
  have hx := C.1.1
  have hb := C.1.2.1
  have hown := C.1.2.2.2.1
  have hts := C.1.2.2.2.2
  have B : hp_B Γ mo s α α s.heap [] := ⟨B0.1, B0.2.1, mo_rf⟩
  have hl := lv_entry ([.ref a0, .int a1, .int a2]) (n := 3) (Nat.le_of_ble_eq_true rfl)
  show W p l e (hp_rm 2 0 0) s m ([.ref a0, .int a1, .int a2] : List Value).toArray below meth c s.heap [] 0 0 (MQ below (hp_Qi Γ (fun r β => r = res.1 ∧ mo α β ∧ hm_M β a0 ρ res.2)) ([.ref a0, .int a1, .int a2] : List Value).toArray s 0 0 (hp_A Γ)) (entryFrame m ([.ref a0, .int a1, .int a2] : List Value).toArray 3)
  rw [lg_entry_eq]
  generalize (lg_sl ([.ref a0, .int a1, .int a2]) ++ List.replicate (3 - (lg_sl ([.ref a0, .int a1, .int a2])).length) Slot.unset).toArray = ls at hl ⊢
  have hl : lv_has ls 3 [(0, .ref a0), (1, .int a1), (2, .int a2)] := hl
  refine lv_aload_n hx hb dX12_join_0 rfl (lv_at hl 0 rfl) (hp_n (n := 1) rfl ?_)
  refine lv_aload_n hx hb dX12_join_1 rfl (lv_at hl 0 rfl) (hp_n (n := 2) rfl ?_)
  refine lv_iload_n hx hb dX12_join_2 rfl (lv_at hl 1 rfl) (hp_n (n := 3) rfl ?_)
  obtain ⟨rh1, qh1, hf⟩ := ms_bE hf
  refine m_cp (pc' := 6) B (hp_runV (As := [.int a1]) (rest := [.ref a0]) C B (m_X12_isMark n Γ l α a0 ρ σ hM a1 rh1 qh1) lb_X12_isMark lv_X12_isMark lk_X12_321 hM.1 rfl (by decide) rfl hl.1 rfl (Nat.le_of_ble_eq_true rfl) dX12_join_3 ⟨Nat.le_refl _, Nat.le_refl _⟩) rfl (fun Hh1 Lh1 Bh1 => ?_)
  have J22 : ∀ (αh2 : hp_T) (Hh2 : Heap) (Lh2 : List Loc) (Bh2 : hp_B Γ mo s α αh2 Hh2 Lh2) (σh2 : ms_T) (Mh2 : hm_M αh2 a0 ρ σh2) (v1_h2 : Int32) (v2_h2 : Int32) (w0_h2 : Int32) (ls : Array Slot) (hl : lv_has ls 3 [(0, .ref a0), (1, .int v1_h2), (2, .int v2_h2)]) (hf : f_X12_join_J22 n σh2 v1_h2 v2_h2 w0_h2 = some res), W p l e (hp_rm 2 0 0) s m ([.ref a0, .int a1, .int a2] : List Value).toArray below meth c Hh2 Lh2 0 0 (MQ below (hp_Qi Γ (fun r β => r = res.1 ∧ mo α β ∧ hm_M β a0 ρ res.2)) ([.ref a0, .int a1, .int a2] : List Value).toArray s 0 0 (hp_A Γ)) (F0 m 22 ls [.int w0_h2, .ref a0]) := by
    intro αh2 Hh2 Lh2 Bh2 σh2 Mh2 v1_h2 v2_h2 w0_h2 ls hl hf
    unfold f_X12_join_J22 at hf
    obtain ⟨rh3, σh3, qh3, hf⟩ := ms_cE hf
    refine m_ci (pc' := 25) (a := a0) (ρ := ρ) Bh2 (hp_runV (As := [.int w0_h2]) (rest := []) C Bh2 (m_X12_is n Γ l αh2 a0 ρ σh2 Mh2 w0_h2 (rh3, σh3) qh3) lb_X12_is lv_X12_is lk_X12_309 Mh2.1 rfl (by decide) rfl hl.1 rfl (Nat.le_of_ble_eq_true rfl) dX12_join_22 ⟨Nat.le_refl _, Nat.le_refl _⟩) rfl (fun αh3 Hh3 Lh3 Bh3 Mh3 => ?_)
    refine lv_if_eq (tgt := 37) hx hb dX12_join_25 (by decide) (fun c4 => ?_) (fun c4 => hp_n (n := 28) rfl ?_)
    ·
      replace hf := ms_iT c4 hf
      refine lv_iconst (v := (-1)) hx hb dX12_join_37 (by decide) (hp_n (n := 38) rfl ?_)
      cases hf
      exact q_iret C Bh3 hr hlk ⟨rfl, Bh3.2.2, Mh3⟩ dX12_join_38
    ·
      replace hf := ms_iF c4 hf
      refine lv_aload_n hx hb dX12_join_28 rfl (lv_at hl 0 rfl) (hp_n (n := 29) rfl ?_)
      refine lv_iload_n hx hb dX12_join_29 rfl (lv_at hl 1 rfl) (hp_n (n := 30) rfl ?_)
      refine lv_iload_n hx hb dX12_join_30 rfl (lv_at hl 2 rfl) (hp_n (n := 31) rfl ?_)
      obtain ⟨rh5, qh5, hf⟩ := ms_bE hf
      refine m_cp (pc' := 34) Bh3 (hp_runV (As := [.int v1_h2, .int v2_h2]) (rest := []) C Bh3 (m_X12_both n Γ l αh3 a0 ρ σh3 Mh3 v1_h2 v2_h2 rh5 qh5) lb_X12_both lv_X12_both lk_X12_136 Mh3.1 rfl (by decide) rfl hl.1 rfl (Nat.le_of_ble_eq_true rfl) dX12_join_31 ⟨Nat.le_refl _, Nat.le_refl _⟩) rfl (fun Hh5 Lh5 Bh5 => ?_)
      refine lv_goto (tgt := 38) hx hb dX12_join_34 (by decide) ?_
      cases hf
      exact q_iret C Bh5 hr hlk ⟨rfl, Bh5.2.2, Mh3⟩ dX12_join_38
  have J21 : ∀ (αh6 : hp_T) (Hh6 : Heap) (Lh6 : List Loc) (Bh6 : hp_B Γ mo s α αh6 Hh6 Lh6) (σh6 : ms_T) (Mh6 : hm_M αh6 a0 ρ σh6) (v1_h6 : Int32) (v2_h6 : Int32) (ls : Array Slot) (hl : lv_has ls 3 [(0, .ref a0), (1, .int v1_h6), (2, .int v2_h6)]) (hf : f_X12_join_J21 n σh6 v1_h6 v2_h6 = some res), W p l e (hp_rm 2 0 0) s m ([.ref a0, .int a1, .int a2] : List Value).toArray below meth c Hh6 Lh6 0 0 (MQ below (hp_Qi Γ (fun r β => r = res.1 ∧ mo α β ∧ hm_M β a0 ρ res.2)) ([.ref a0, .int a1, .int a2] : List Value).toArray s 0 0 (hp_A Γ)) (F0 m 21 ls [.ref a0]) := by
    intro αh6 Hh6 Lh6 Bh6 σh6 Mh6 v1_h6 v2_h6 ls hl hf
    unfold f_X12_join_J21 at hf
    refine lv_iconst (v := 1) hx hb dX12_join_21 (by decide) (hp_n (n := 22) rfl ?_)
    exact J22 αh6 Hh6 Lh6 Bh6 σh6 Mh6 v1_h6 v2_h6 (1 : Int32) ls (lv_sub hl [0, 1, 2] rfl) hf
  refine lv_if_eq (tgt := 21) hx hb dX12_join_6 (by decide) (fun c7 => ?_) (fun c7 => hp_n (n := 9) rfl ?_)
  ·
    replace hf := ms_iT c7 hf
    exact J21 α Hh1 Lh1 Bh1 σ hM a1 a2 ls (lv_sub hl [0, 1, 2] rfl) hf
  ·
    replace hf := ms_iF c7 hf
    refine lv_aload_n hx hb dX12_join_9 rfl (lv_at hl 0 rfl) (hp_n (n := 10) rfl ?_)
    refine lv_iload_n hx hb dX12_join_10 rfl (lv_at hl 2 rfl) (hp_n (n := 11) rfl ?_)
    obtain ⟨rh8, qh8, hf⟩ := ms_bE hf
    refine m_cp (pc' := 14) Bh1 (hp_runV (As := [.int a2]) (rest := [.ref a0]) C Bh1 (m_X12_isMark n Γ l α a0 ρ σ hM a2 rh8 qh8) lb_X12_isMark lv_X12_isMark lk_X12_321 hM.1 rfl (by decide) rfl hl.1 rfl (Nat.le_of_ble_eq_true rfl) dX12_join_11 ⟨Nat.le_refl _, Nat.le_refl _⟩) rfl (fun Hh8 Lh8 Bh8 => ?_)
    refine lv_if_eq (tgt := 21) hx hb dX12_join_14 (by decide) (fun c9 => ?_) (fun c9 => hp_n (n := 17) rfl ?_)
    ·
      replace hf := ms_iT c9 hf
      exact J21 α Hh8 Lh8 Bh8 σ hM a1 a2 ls (lv_sub hl [0, 1, 2] rfl) hf
    ·
      replace hf := ms_iF c9 hf
      refine lv_iconst (v := 0) hx hb dX12_join_17 (by decide) (hp_n (n := 18) rfl ?_)
      refine lv_goto (tgt := 22) hx hb dX12_join_18 (by decide) ?_
      exact J22 α Hh8 Lh8 Bh8 σ hM a1 a2 (0 : Int32) ls (lv_sub hl [0, 1, 2] rfl) hf
def f_X12_mark_L10 (n : Nat) : Nat → ms_T → Int32 → Int32 → Option (Int32 × ms_T)
  | 0, _, _, _ => none
  | k10 + 1, σh2, v1_h2, v2_h2 =>
    if (ms_I σh2 664) ≤ v2_h2 then
      some (v1_h2, σh2)
    else
      ms_g v2_h2 8 <|
      ms_b (f_X12_mixed n σh2 v1_h2 (ms_E σh2 45 (v2_h2).toNatClampNeg)) fun rh5 =>
      ms_l (v2_h2 + 1) fun x6 =>
      (f_X12_mark_L10 n k10) σh2 rh5 x6
def f_X12_mark (n : Nat) (σ : ms_T) : Option (Int32 × ms_T) :=
  ms_c (f_X12_is n σ (0 : Int32)) fun rh1 σh1 =>
  f_X12_mark_L10 n n σh1 (1 : Int32) (0 : Int32)
set_option maxRecDepth 100000 in
set_option maxHeartbeats 4000000 in
theorem m_X12_mark (n : Nat) (Γ : hp_G) (l : Launch) (α : hp_T) (a0 : Nat) (ρ : Nat → Nat) (σ : ms_T) (hM : hm_M α a0 ρ σ)  (res : (Int32 × ms_T)) (hf : f_X12_mark n σ = some res) : Met l yX12_mark (hp_ws yX12_mark cX12_mark 3 (some .int)) (hp_rm 1 0 0) (hp_Pc Γ α [.ref a0]) (hp_Qi Γ (fun r β => r = res.1 ∧ mo α β ∧ hm_M β a0 ρ res.2)) 0 0 (hp_A Γ) := by
  unfold f_X12_mark at hf
  refine hp_start (by decide) ?_
  intro p e s m below meth c C hr hlk B0 hnm
  have C : hp_C Γ p m c cX12_mark 3 s ([.ref a0] : List Value).toArray RX12 := C
  have hx := C.1.1
  have hb := C.1.2.1
  have hown := C.1.2.2.2.1
  have hts := C.1.2.2.2.2
  have B : hp_B Γ mo s α α s.heap [] := ⟨B0.1, B0.2.1, mo_rf⟩
  have hl := lv_entry ([.ref a0]) (n := 3) (Nat.le_of_ble_eq_true rfl)
  show W p l e (hp_rm 1 0 0) s m ([.ref a0] : List Value).toArray below meth c s.heap [] 0 0 (MQ below (hp_Qi Γ (fun r β => r = res.1 ∧ mo α β ∧ hm_M β a0 ρ res.2)) ([.ref a0] : List Value).toArray s 0 0 (hp_A Γ)) (entryFrame m ([.ref a0] : List Value).toArray 3)
  rw [lg_entry_eq]
  generalize (lg_sl ([.ref a0]) ++ List.replicate (3 - (lg_sl ([.ref a0])).length) Slot.unset).toArray = ls at hl ⊢
  have hl : lv_has ls 3 [(0, .ref a0)] := hl
  refine lv_aload_n hx hb dX12_mark_0 rfl (lv_at hl 0 rfl) (hp_n (n := 1) rfl ?_)
  refine lv_iconst (v := 0) hx hb dX12_mark_1 (by decide) (hp_n (n := 2) rfl ?_)
  obtain ⟨rh1, σh1, qh1, hf⟩ := ms_cE hf
  refine m_ci (pc' := 5) (a := a0) (ρ := ρ) B (hp_runV (As := [.int (0 : Int32)]) (rest := []) C B (m_X12_is n Γ l α a0 ρ σ hM (0 : Int32) (rh1, σh1) qh1) lb_X12_is lv_X12_is lk_X12_309 hM.1 rfl (by decide) rfl hl.1 rfl (Nat.le_of_ble_eq_true rfl) dX12_mark_2 ⟨Nat.le_refl _, Nat.le_refl _⟩) rfl (fun αh1 Hh1 Lh1 Bh1 Mh1 => ?_)
  refine lv_pop hx hb dX12_mark_5 rfl (hp_n (n := 6) rfl ?_)
  refine lv_iconst (v := 1) hx hb dX12_mark_6 (by decide) (hp_n (n := 7) rfl ?_)
  refine lv_istore_n (lv' := [(1, .int (1 : Int32)), (0, .ref a0)]) hx hb dX12_mark_7 rfl hl (by decide) rfl (fun ls hl => hp_n (n := 8) rfl ?_)
  refine lv_iconst (v := 0) hx hb dX12_mark_8 (by decide) (hp_n (n := 9) rfl ?_)
  have J10 : ∀ (k10 : Nat) (αh2 : hp_T) (Hh2 : Heap) (Lh2 : List Loc) (Bh2 : hp_B Γ mo s α αh2 Hh2 Lh2) (σh2 : ms_T) (Mh2 : hm_M αh2 a0 ρ σh2) (v1_h2 : Int32) (v2_h2 : Int32) (ls : Array Slot) (hl : lv_has ls 3 [(0, .ref a0), (1, .int v1_h2), (2, .int v2_h2)]) (hf : f_X12_mark_L10 n k10 σh2 v1_h2 v2_h2 = some res), W p l e (hp_rm 1 0 0) s m ([.ref a0] : List Value).toArray below meth c Hh2 Lh2 0 0 (MQ below (hp_Qi Γ (fun r β => r = res.1 ∧ mo α β ∧ hm_M β a0 ρ res.2)) ([.ref a0] : List Value).toArray s 0 0 (hp_A Γ)) (F0 m 10 ls []) := by
    intro k10
    induction k10 with
    | zero => intro αh2 Hh2 Lh2 Bh2 σh2 Mh2 v1_h2 v2_h2 ls hl hf; rw [f_X12_mark_L10.eq_1] at hf; cases hf
    | succ k10 ih10 =>
      intro αh2 Hh2 Lh2 Bh2 σh2 Mh2 v1_h2 v2_h2 ls hl hf
      rw [f_X12_mark_L10.eq_2] at hf
      refine lv_iload_n hx hb dX12_mark_10 rfl (lv_at hl 2 rfl) (hp_n (n := 11) rfl ?_)
      refine lv_aload_n hx hb dX12_mark_11 rfl (lv_at hl 0 rfl) (hp_n (n := 12) rfl ?_)
      refine m_geti (k := 14) (φ := 664) (pc' := 15) C Bh2 Mh2 fl_X12_203 rfl rfl dX12_mark_12 rfl ?_
      refine lv_icmp_ge (tgt := 36) hx hb dX12_mark_15 (by decide) (fun c3 => ?_) (fun c3 => hp_n (n := 18) rfl ?_)
      ·
        replace hf := ms_iT c3 hf
        refine lv_iload_n hx hb dX12_mark_36 rfl (lv_at hl 1 rfl) (hp_n (n := 37) rfl ?_)
        cases hf
        exact q_iret C Bh2 hr hlk ⟨rfl, Bh2.2.2, Mh2⟩ dX12_mark_37
      ·
        replace hf := ms_iF c3 hf
        refine lv_aload_n hx hb dX12_mark_18 rfl (lv_at hl 0 rfl) (hp_n (n := 19) rfl ?_)
        refine lv_iload_n hx hb dX12_mark_19 rfl (lv_at hl 1 rfl) (hp_n (n := 20) rfl ?_)
        refine lv_aload_n hx hb dX12_mark_20 rfl (lv_at hl 0 rfl) (hp_n (n := 21) rfl ?_)
        refine m_getr (κ := 45) (k := 12) (pc' := 24) C Bh2 Mh2 fl_X12_25 rfl (by decide) dX12_mark_21 rfl ?_
        refine lv_iload_n hx hb dX12_mark_24 rfl (lv_at hl 2 rfl) (hp_n (n := 25) rfl ?_)
        obtain ⟨g4, hf⟩ := ms_gE hf
        refine m_ial (κ := 45) (φ := 662) (n := 8) (pc' := 26) C Bh2 Mh2 (by decide) (by decide) rfl g4 dX12_mark_25 rfl ?_
        obtain ⟨rh5, qh5, hf⟩ := ms_bE hf
        refine m_cp (pc' := 29) Bh2 (hp_runV (As := [.int v1_h2, .int (ms_E σh2 45 (v2_h2).toNatClampNeg)]) (rest := []) C Bh2 (m_X12_mixed n Γ l αh2 a0 ρ σh2 Mh2 v1_h2 (ms_E σh2 45 (v2_h2).toNatClampNeg) rh5 qh5) lb_X12_mixed lv_X12_mixed lk_X12_121 Mh2.1 rfl (by decide) rfl hl.1 rfl (Nat.le_of_ble_eq_true rfl) dX12_mark_26 ⟨Nat.le_refl _, Nat.le_refl _⟩) rfl (fun Hh5 Lh5 Bh5 => ?_)
        refine lv_istore_n (lv' := [(1, .int rh5), (0, .ref a0), (2, .int v2_h2)]) hx hb dX12_mark_29 rfl hl (by decide) rfl (fun ls hl => hp_n (n := 30) rfl ?_)
        obtain ⟨x6, ex6⟩ : ∃ y : Int32, y = v2_h2 + 1 := ⟨_, rfl⟩
        replace hf := ms_lE ex6 hf
        refine lv_iinc (v := x6) (lv' := [(2, .int x6), (1, .int rh5), (0, .ref a0)]) hx hb dX12_mark_30 hl (k := 2) rfl (by rw [ex6]; rfl) (by decide) rfl (fun ls hl => hp_n (n := 33) rfl ?_)
        refine lv_goto (tgt := 10) hx hb dX12_mark_33 (by decide) ?_
        exact ih10 αh2 Hh5 Lh5 Bh5 σh2 Mh2 rh5 x6 ls (lv_sub hl [2, 1, 0] rfl) hf
  refine lv_istore_n (lv' := [(2, .int (0 : Int32)), (1, .int (1 : Int32)), (0, .ref a0)]) hx hb dX12_mark_9 rfl hl (by decide) rfl (fun ls hl => hp_n (n := 10) rfl ?_)
  exact J10 n αh1 Hh1 Lh1 Bh1 σh1 Mh1 (1 : Int32) (0 : Int32) ls (lv_sub hl [2, 1, 0] rfl) hf
def f_X12_froze (n : Nat) (σ : ms_T) (a1 : Int32) (a2 : Int32) : Option Int32 :=
  ms_g (((92 : Int32) + ((10 : Int32) * a1)) + a2) 1980 <|
  some (ms_E σ 40 ((((92 : Int32) + ((10 : Int32) * a1)) + a2)).toNatClampNeg)
set_option maxRecDepth 100000 in
set_option maxHeartbeats 4000000 in
theorem m_X12_froze (n : Nat) (Γ : hp_G) (l : Launch) (α : hp_T) (a0 : Nat) (ρ : Nat → Nat) (σ : ms_T) (hM : hm_M α a0 ρ σ) (a1 : Int32) (a2 : Int32) (res : Int32) (hf : f_X12_froze n σ a1 a2 = some res) : Met l yX12_froze (hp_ws yX12_froze cX12_froze 3 (some .int)) (hp_rm 0 0 0) (hp_Pc Γ α [.ref a0, .int a1, .int a2]) (hp_Qi Γ (fun r β => β = α ∧ r = res)) 0 0 (hp_A Γ) := by
  unfold f_X12_froze at hf
  refine hp_start (by decide) ?_
  intro p e s m below meth c C hr hlk B0 hnm
  have C : hp_C Γ p m c cX12_froze 3 s ([.ref a0, .int a1, .int a2] : List Value).toArray RX12 := C
  have hx := C.1.1
  have hb := C.1.2.1
  have hown := C.1.2.2.2.1
  have hts := C.1.2.2.2.2
  have B : hp_B Γ (fun _ _ => True) s α α s.heap [] := ⟨B0.1, B0.2.1, trivial⟩
  have hl := lv_entry ([.ref a0, .int a1, .int a2]) (n := 3) (Nat.le_of_ble_eq_true rfl)
  show W p l e (hp_rm 0 0 0) s m ([.ref a0, .int a1, .int a2] : List Value).toArray below meth c s.heap [] 0 0 (MQ below (hp_Qi Γ (fun r β => β = α ∧ r = res)) ([.ref a0, .int a1, .int a2] : List Value).toArray s 0 0 (hp_A Γ)) (entryFrame m ([.ref a0, .int a1, .int a2] : List Value).toArray 3)
  rw [lg_entry_eq]
  generalize (lg_sl ([.ref a0, .int a1, .int a2]) ++ List.replicate (3 - (lg_sl ([.ref a0, .int a1, .int a2])).length) Slot.unset).toArray = ls at hl ⊢
  have hl : lv_has ls 3 [(0, .ref a0), (1, .int a1), (2, .int a2)] := hl
  refine lv_aload_n hx hb dX12_froze_0 rfl (lv_at hl 0 rfl) (hp_n (n := 1) rfl ?_)
  refine m_getr (κ := 40) (k := 0) (pc' := 4) C B hM fl_X12_7 rfl (by decide) dX12_froze_1 rfl ?_
  refine lv_bipush (v := 92) hx hb dX12_froze_4 (by decide) (hp_n (n := 6) rfl ?_)
  refine lv_bipush (v := 10) hx hb dX12_froze_6 (by decide) (hp_n (n := 8) rfl ?_)
  refine lv_iload_n hx hb dX12_froze_8 rfl (lv_at hl 1 rfl) (hp_n (n := 9) rfl ?_)
  refine lv_imul hx hb dX12_froze_9 (hp_n (n := 10) rfl ?_)
  refine lv_iadd hx hb dX12_froze_10 (hp_n (n := 11) rfl ?_)
  refine lv_iload_n hx hb dX12_froze_11 rfl (lv_at hl 2 rfl) (hp_n (n := 12) rfl ?_)
  refine lv_iadd hx hb dX12_froze_12 (hp_n (n := 13) rfl ?_)
  obtain ⟨g1, hf⟩ := ms_gE hf
  refine m_ial (κ := 40) (φ := 650) (n := 1980) (pc' := 14) C B hM (by decide) (by decide) rfl g1 dX12_froze_13 rfl ?_
  cases hf
  exact q_iret C B hr hlk ⟨rfl, rfl⟩ dX12_froze_14
def f_X12_isSound (n : Nat) (σ : ms_T) (a1 : Int32) : Option Int32 :=
  ms_b (f_X12_froze n σ a1 (0 : Int32)) fun rh1 =>
  ms_b (f_X12_froze n σ a1 (1 : Int32)) fun rh2 =>
  ms_b (f_X12_headOf n σ rh1 rh2) fun rh3 =>
  ms_b (f_X12_froze n σ a1 (2 : Int32)) fun rh4 =>
  if rh3 = rh4 then
    some (1 : Int32)
  else
    some (0 : Int32)
set_option maxRecDepth 100000 in
set_option maxHeartbeats 4000000 in
theorem m_X12_isSound (n : Nat) (Γ : hp_G) (l : Launch) (α : hp_T) (a0 : Nat) (ρ : Nat → Nat) (σ : ms_T) (hM : hm_M α a0 ρ σ) (a1 : Int32) (res : Int32) (hf : f_X12_isSound n σ a1 = some res) : Met l yX12_isSound (hp_ws yX12_isSound cX12_isSound 2 (some .boolean)) (hp_rm 43 0 0) (hp_Pc Γ α [.ref a0, .int a1]) (hp_Qi Γ (fun r β => β = α ∧ r = res)) 0 0 (hp_A Γ) := by
  unfold f_X12_isSound at hf
  refine hp_start (by decide) ?_
  intro p e s m below meth c C hr hlk B0 hnm
  have C : hp_C Γ p m c cX12_isSound 2 s ([.ref a0, .int a1] : List Value).toArray RX12 := C
  have hx := C.1.1
  have hb := C.1.2.1
  have hown := C.1.2.2.2.1
  have hts := C.1.2.2.2.2
  have B : hp_B Γ (fun _ _ => True) s α α s.heap [] := ⟨B0.1, B0.2.1, trivial⟩
  have hl := lv_entry ([.ref a0, .int a1]) (n := 2) (Nat.le_of_ble_eq_true rfl)
  show W p l e (hp_rm 43 0 0) s m ([.ref a0, .int a1] : List Value).toArray below meth c s.heap [] 0 0 (MQ below (hp_Qi Γ (fun r β => β = α ∧ r = res)) ([.ref a0, .int a1] : List Value).toArray s 0 0 (hp_A Γ)) (entryFrame m ([.ref a0, .int a1] : List Value).toArray 2)
  rw [lg_entry_eq]
  generalize (lg_sl ([.ref a0, .int a1]) ++ List.replicate (2 - (lg_sl ([.ref a0, .int a1])).length) Slot.unset).toArray = ls at hl ⊢
  have hl : lv_has ls 2 [(0, .ref a0), (1, .int a1)] := hl
  refine lv_aload_n hx hb dX12_isSound_0 rfl (lv_at hl 0 rfl) (hp_n (n := 1) rfl ?_)
  refine lv_aload_n hx hb dX12_isSound_1 rfl (lv_at hl 0 rfl) (hp_n (n := 2) rfl ?_)
  refine lv_iload_n hx hb dX12_isSound_2 rfl (lv_at hl 1 rfl) (hp_n (n := 3) rfl ?_)
  refine lv_iconst (v := 0) hx hb dX12_isSound_3 (by decide) (hp_n (n := 4) rfl ?_)
  obtain ⟨rh1, qh1, hf⟩ := ms_bE hf
  refine m_cp (pc' := 7) B (hp_runV (As := [.int a1, .int (0 : Int32)]) (rest := [.ref a0]) C B (m_X12_froze n Γ l α a0 ρ σ hM a1 (0 : Int32) rh1 qh1) lb_X12_froze lv_X12_froze lk_X12_350 hM.1 rfl (by decide) rfl hl.1 rfl (Nat.le_of_ble_eq_true rfl) dX12_isSound_4 ⟨Nat.le_refl _, Nat.le_refl _⟩) rfl (fun Hh1 Lh1 Bh1 => ?_)
  refine lv_aload_n hx hb dX12_isSound_7 rfl (lv_at hl 0 rfl) (hp_n (n := 8) rfl ?_)
  refine lv_iload_n hx hb dX12_isSound_8 rfl (lv_at hl 1 rfl) (hp_n (n := 9) rfl ?_)
  refine lv_iconst (v := 1) hx hb dX12_isSound_9 (by decide) (hp_n (n := 10) rfl ?_)
  obtain ⟨rh2, qh2, hf⟩ := ms_bE hf
  refine m_cp (pc' := 13) Bh1 (hp_runV (As := [.int a1, .int (1 : Int32)]) (rest := [.int rh1, .ref a0]) C Bh1 (m_X12_froze n Γ l α a0 ρ σ hM a1 (1 : Int32) rh2 qh2) lb_X12_froze lv_X12_froze lk_X12_350 hM.1 rfl (by decide) rfl hl.1 rfl (Nat.le_of_ble_eq_true rfl) dX12_isSound_10 ⟨Nat.le_refl _, Nat.le_refl _⟩) rfl (fun Hh2 Lh2 Bh2 => ?_)
  obtain ⟨rh3, qh3, hf⟩ := ms_bE hf
  refine m_cp (pc' := 16) Bh2 (hp_runV (As := [.int rh1, .int rh2]) (rest := []) C Bh2 (m_X12_headOf n Γ l α a0 ρ σ hM rh1 rh2 rh3 qh3) lb_X12_headOf lv_X12_headOf lk_X12_215 hM.1 rfl (by decide) rfl hl.1 rfl (Nat.le_of_ble_eq_true rfl) dX12_isSound_13 ⟨Nat.le_refl _, Nat.le_refl _⟩) rfl (fun Hh3 Lh3 Bh3 => ?_)
  refine lv_aload_n hx hb dX12_isSound_16 rfl (lv_at hl 0 rfl) (hp_n (n := 17) rfl ?_)
  refine lv_iload_n hx hb dX12_isSound_17 rfl (lv_at hl 1 rfl) (hp_n (n := 18) rfl ?_)
  refine lv_iconst (v := 2) hx hb dX12_isSound_18 (by decide) (hp_n (n := 19) rfl ?_)
  obtain ⟨rh4, qh4, hf⟩ := ms_bE hf
  refine m_cp (pc' := 22) Bh3 (hp_runV (As := [.int a1, .int (2 : Int32)]) (rest := [.int rh3]) C Bh3 (m_X12_froze n Γ l α a0 ρ σ hM a1 (2 : Int32) rh4 qh4) lb_X12_froze lv_X12_froze lk_X12_350 hM.1 rfl (by decide) rfl hl.1 rfl (Nat.le_of_ble_eq_true rfl) dX12_isSound_19 ⟨Nat.le_refl _, Nat.le_refl _⟩) rfl (fun Hh4 Lh4 Bh4 => ?_)
  refine lv_icmp_ne (tgt := 29) hx hb dX12_isSound_22 (by decide) (fun c5 => ?_) (fun c5 => hp_n (n := 25) rfl ?_)
  ·
    replace hf := ms_iF c5 hf
    refine lv_iconst (v := 0) hx hb dX12_isSound_29 (by decide) (hp_n (n := 30) rfl ?_)
    cases hf
    exact q_zret C Bh4 hr hlk (by decide) ⟨rfl, rfl⟩ dX12_isSound_30
  ·
    replace hf := ms_iT c5 hf
    refine lv_iconst (v := 1) hx hb dX12_isSound_25 (by decide) (hp_n (n := 26) rfl ?_)
    refine lv_goto (tgt := 30) hx hb dX12_isSound_26 (by decide) ?_
    cases hf
    exact q_zret C Bh4 hr hlk (by decide) ⟨rfl, rfl⟩ dX12_isSound_30
def f_X12_frozen_J33 (n : Nat) (σh1 : ms_T) (v1_h1 : Int32) (v2_h1 : Int32) (w0_h1 : Int32) : Option (Int32 × ms_T) :=
  ms_c (f_X12_is n σh1 w0_h1) fun rh2 σh2 =>
  if rh2 = 0 then
    some ((-1 : Int32), σh2)
  else
    if (4 : Int32) ≤ v2_h1 then
      ms_b (f_X12_isSound n σh2 v1_h1) fun rh5 =>
      if rh5 = 0 then
        some ((0 : Int32), σh2)
      else
        some ((1 : Int32), σh2)
    else
      ms_b (f_X12_froze n σh2 v1_h1 v2_h1) fun rh7 =>
      some (rh7, σh2)
def f_X12_frozen_J14 (n : Nat) (σh8 : ms_T) (v1_h8 : Int32) (v2_h8 : Int32) : Option (Int32 × ms_T) :=
  f_X12_frozen_J33 n σh8 v1_h8 v2_h8 (1 : Int32)
def f_X12_frozen (n : Nat) (σ : ms_T) (a1 : Int32) (a2 : Int32) : Option (Int32 × ms_T) :=
  if a1 < 0 then
    f_X12_frozen_J14 n σ a1 a2
  else
    ms_b (f_X12_isIn n a2 (0 : Int32) (4 : Int32)) fun rh10 =>
    if rh10 = 0 then
      f_X12_frozen_J14 n σ a1 a2
    else
      ms_g (3 : Int32) 1980 <|
      if a1 < (ms_E σ 40 ((3 : Int32)).toNatClampNeg) then
        f_X12_frozen_J33 n σ a1 a2 (0 : Int32)
      else
        f_X12_frozen_J33 n σ a1 a2 (5 : Int32)
set_option maxRecDepth 100000 in
set_option maxHeartbeats 4000000 in
theorem m_X12_frozen (n : Nat) (Γ : hp_G) (l : Launch) (α : hp_T) (a0 : Nat) (ρ : Nat → Nat) (σ : ms_T) (hM : hm_M α a0 ρ σ) (a1 : Int32) (a2 : Int32) (res : (Int32 × ms_T)) (hf : f_X12_frozen n σ a1 a2 = some res) : Met l yX12_frozen (hp_ws yX12_frozen cX12_frozen 3 (some .int)) (hp_rm 44 0 0) (hp_Pc Γ α [.ref a0, .int a1, .int a2]) (hp_Qi Γ (fun r β => r = res.1 ∧ mo α β ∧ hm_M β a0 ρ res.2)) 0 0 (hp_A Γ) := by
  unfold f_X12_frozen at hf
  refine hp_start (by decide) ?_
  intro p e s m below meth c C hr hlk B0 hnm
  have C : hp_C Γ p m c cX12_frozen 3 s ([.ref a0, .int a1, .int a2] : List Value).toArray RX12 := C
  have hx := C.1.1
  have hb := C.1.2.1
  have hown := C.1.2.2.2.1
  have hts := C.1.2.2.2.2
  have B : hp_B Γ mo s α α s.heap [] := ⟨B0.1, B0.2.1, mo_rf⟩
  have hl := lv_entry ([.ref a0, .int a1, .int a2]) (n := 3) (Nat.le_of_ble_eq_true rfl)
  show W p l e (hp_rm 44 0 0) s m ([.ref a0, .int a1, .int a2] : List Value).toArray below meth c s.heap [] 0 0 (MQ below (hp_Qi Γ (fun r β => r = res.1 ∧ mo α β ∧ hm_M β a0 ρ res.2)) ([.ref a0, .int a1, .int a2] : List Value).toArray s 0 0 (hp_A Γ)) (entryFrame m ([.ref a0, .int a1, .int a2] : List Value).toArray 3)
  rw [lg_entry_eq]
  generalize (lg_sl ([.ref a0, .int a1, .int a2]) ++ List.replicate (3 - (lg_sl ([.ref a0, .int a1, .int a2])).length) Slot.unset).toArray = ls at hl ⊢
  have hl : lv_has ls 3 [(0, .ref a0), (1, .int a1), (2, .int a2)] := hl
  refine lv_aload_n hx hb dX12_frozen_0 rfl (lv_at hl 0 rfl) (hp_n (n := 1) rfl ?_)
  refine lv_iload_n hx hb dX12_frozen_1 rfl (lv_at hl 1 rfl) (hp_n (n := 2) rfl ?_)
  have J33 : ∀ (αh1 : hp_T) (Hh1 : Heap) (Lh1 : List Loc) (Bh1 : hp_B Γ mo s α αh1 Hh1 Lh1) (σh1 : ms_T) (Mh1 : hm_M αh1 a0 ρ σh1) (v1_h1 : Int32) (v2_h1 : Int32) (w0_h1 : Int32) (ls : Array Slot) (hl : lv_has ls 3 [(0, .ref a0), (1, .int v1_h1), (2, .int v2_h1)]) (hf : f_X12_frozen_J33 n σh1 v1_h1 v2_h1 w0_h1 = some res), W p l e (hp_rm 44 0 0) s m ([.ref a0, .int a1, .int a2] : List Value).toArray below meth c Hh1 Lh1 0 0 (MQ below (hp_Qi Γ (fun r β => r = res.1 ∧ mo α β ∧ hm_M β a0 ρ res.2)) ([.ref a0, .int a1, .int a2] : List Value).toArray s 0 0 (hp_A Γ)) (F0 m 33 ls [.int w0_h1, .ref a0]) := by
    intro αh1 Hh1 Lh1 Bh1 σh1 Mh1 v1_h1 v2_h1 w0_h1 ls hl hf
    unfold f_X12_frozen_J33 at hf
    obtain ⟨rh2, σh2, qh2, hf⟩ := ms_cE hf
    refine m_ci (pc' := 36) (a := a0) (ρ := ρ) Bh1 (hp_runV (As := [.int w0_h1]) (rest := []) C Bh1 (m_X12_is n Γ l αh1 a0 ρ σh1 Mh1 w0_h1 (rh2, σh2) qh2) lb_X12_is lv_X12_is lk_X12_309 Mh1.1 rfl (by decide) rfl hl.1 rfl (Nat.le_of_ble_eq_true rfl) dX12_frozen_33 ⟨Nat.le_refl _, Nat.le_refl _⟩) rfl (fun αh2 Hh2 Lh2 Bh2 Mh2 => ?_)
    refine lv_if_ne (tgt := 41) hx hb dX12_frozen_36 (by decide) (fun c3 => ?_) (fun c3 => hp_n (n := 39) rfl ?_)
    ·
      replace hf := ms_iF c3 hf
      refine lv_iload_n hx hb dX12_frozen_41 rfl (lv_at hl 2 rfl) (hp_n (n := 42) rfl ?_)
      refine lv_iconst (v := 4) hx hb dX12_frozen_42 (by decide) (hp_n (n := 43) rfl ?_)
      refine lv_icmp_ge (tgt := 55) hx hb dX12_frozen_43 (by decide) (fun c4 => ?_) (fun c4 => hp_n (n := 46) rfl ?_)
      ·
        replace hf := ms_iT c4 hf
        refine lv_aload_n hx hb dX12_frozen_55 rfl (lv_at hl 0 rfl) (hp_n (n := 56) rfl ?_)
        refine lv_iload_n hx hb dX12_frozen_56 rfl (lv_at hl 1 rfl) (hp_n (n := 57) rfl ?_)
        obtain ⟨rh5, qh5, hf⟩ := ms_bE hf
        refine m_cp (pc' := 60) Bh2 (hp_runV (As := [.int v1_h1]) (rest := []) C Bh2 (m_X12_isSound n Γ l αh2 a0 ρ σh2 Mh2 v1_h1 rh5 qh5) lb_X12_isSound lv_X12_isSound lk_X12_353 Mh2.1 rfl (by decide) rfl hl.1 rfl (Nat.le_of_ble_eq_true rfl) dX12_frozen_57 ⟨Nat.le_refl _, Nat.le_refl _⟩) rfl (fun Hh5 Lh5 Bh5 => ?_)
        refine lv_if_eq (tgt := 67) hx hb dX12_frozen_60 (by decide) (fun c6 => ?_) (fun c6 => hp_n (n := 63) rfl ?_)
        ·
          replace hf := ms_iT c6 hf
          refine lv_iconst (v := 0) hx hb dX12_frozen_67 (by decide) (hp_n (n := 68) rfl ?_)
          cases hf
          exact q_iret C Bh5 hr hlk ⟨rfl, Bh5.2.2, Mh2⟩ dX12_frozen_68
        ·
          replace hf := ms_iF c6 hf
          refine lv_iconst (v := 1) hx hb dX12_frozen_63 (by decide) (hp_n (n := 64) rfl ?_)
          refine lv_goto (tgt := 68) hx hb dX12_frozen_64 (by decide) ?_
          cases hf
          exact q_iret C Bh5 hr hlk ⟨rfl, Bh5.2.2, Mh2⟩ dX12_frozen_68
      ·
        replace hf := ms_iF c4 hf
        refine lv_aload_n hx hb dX12_frozen_46 rfl (lv_at hl 0 rfl) (hp_n (n := 47) rfl ?_)
        refine lv_iload_n hx hb dX12_frozen_47 rfl (lv_at hl 1 rfl) (hp_n (n := 48) rfl ?_)
        refine lv_iload_n hx hb dX12_frozen_48 rfl (lv_at hl 2 rfl) (hp_n (n := 49) rfl ?_)
        obtain ⟨rh7, qh7, hf⟩ := ms_bE hf
        refine m_cp (pc' := 52) Bh2 (hp_runV (As := [.int v1_h1, .int v2_h1]) (rest := []) C Bh2 (m_X12_froze n Γ l αh2 a0 ρ σh2 Mh2 v1_h1 v2_h1 rh7 qh7) lb_X12_froze lv_X12_froze lk_X12_350 Mh2.1 rfl (by decide) rfl hl.1 rfl (Nat.le_of_ble_eq_true rfl) dX12_frozen_49 ⟨Nat.le_refl _, Nat.le_refl _⟩) rfl (fun Hh7 Lh7 Bh7 => ?_)
        refine lv_goto (tgt := 68) hx hb dX12_frozen_52 (by decide) ?_
        cases hf
        exact q_iret C Bh7 hr hlk ⟨rfl, Bh7.2.2, Mh2⟩ dX12_frozen_68
    ·
      replace hf := ms_iT c3 hf
      refine lv_iconst (v := (-1)) hx hb dX12_frozen_39 (by decide) (hp_n (n := 40) rfl ?_)
      cases hf
      exact q_iret C Bh2 hr hlk ⟨rfl, Bh2.2.2, Mh2⟩ dX12_frozen_40
  have J14 : ∀ (αh8 : hp_T) (Hh8 : Heap) (Lh8 : List Loc) (Bh8 : hp_B Γ mo s α αh8 Hh8 Lh8) (σh8 : ms_T) (Mh8 : hm_M αh8 a0 ρ σh8) (v1_h8 : Int32) (v2_h8 : Int32) (ls : Array Slot) (hl : lv_has ls 3 [(0, .ref a0), (1, .int v1_h8), (2, .int v2_h8)]) (hf : f_X12_frozen_J14 n σh8 v1_h8 v2_h8 = some res), W p l e (hp_rm 44 0 0) s m ([.ref a0, .int a1, .int a2] : List Value).toArray below meth c Hh8 Lh8 0 0 (MQ below (hp_Qi Γ (fun r β => r = res.1 ∧ mo α β ∧ hm_M β a0 ρ res.2)) ([.ref a0, .int a1, .int a2] : List Value).toArray s 0 0 (hp_A Γ)) (F0 m 14 ls [.ref a0]) := by
    intro αh8 Hh8 Lh8 Bh8 σh8 Mh8 v1_h8 v2_h8 ls hl hf
    unfold f_X12_frozen_J14 at hf
    refine lv_iconst (v := 1) hx hb dX12_frozen_14 (by decide) (hp_n (n := 15) rfl ?_)
    refine lv_goto (tgt := 33) hx hb dX12_frozen_15 (by decide) ?_
    exact J33 αh8 Hh8 Lh8 Bh8 σh8 Mh8 v1_h8 v2_h8 (1 : Int32) ls (lv_sub hl [0, 1, 2] rfl) hf
  refine lv_if_lt (tgt := 14) hx hb dX12_frozen_2 (by decide) (fun c9 => ?_) (fun c9 => hp_n (n := 5) rfl ?_)
  ·
    replace hf := ms_iT c9 hf
    exact J14 α s.heap [] B σ hM a1 a2 ls (lv_sub hl [0, 1, 2] rfl) hf
  ·
    replace hf := ms_iF c9 hf
    refine lv_iload_n hx hb dX12_frozen_5 rfl (lv_at hl 2 rfl) (hp_n (n := 6) rfl ?_)
    refine lv_iconst (v := 0) hx hb dX12_frozen_6 (by decide) (hp_n (n := 7) rfl ?_)
    refine lv_iconst (v := 4) hx hb dX12_frozen_7 (by decide) (hp_n (n := 8) rfl ?_)
    obtain ⟨rh10, qh10, hf⟩ := ms_bE hf
    refine m_cp (pc' := 11) B (hp_runS (As := [.int a2, .int (0 : Int32), .int (4 : Int32)]) (rest := [.ref a0]) C B (m_X12_isIn n Γ l α a2 (0 : Int32) (4 : Int32) rh10 qh10) lb_X12_isIn ls_X12_isIn lk_X12_113 rfl (by decide) rfl hl.1 rfl (Nat.le_of_ble_eq_true rfl) dX12_frozen_8 ⟨Nat.le_refl _, Nat.le_refl _⟩) rfl (fun Hh10 Lh10 Bh10 => ?_)
    refine lv_if_ne (tgt := 18) hx hb dX12_frozen_11 (by decide) (fun c11 => ?_) (fun c11 => hp_n (n := 14) rfl ?_)
    ·
      replace hf := ms_iF c11 hf
      refine lv_iload_n hx hb dX12_frozen_18 rfl (lv_at hl 1 rfl) (hp_n (n := 19) rfl ?_)
      refine lv_aload_n hx hb dX12_frozen_19 rfl (lv_at hl 0 rfl) (hp_n (n := 20) rfl ?_)
      refine m_getr (κ := 40) (k := 0) (pc' := 23) C Bh10 hM fl_X12_7 rfl (by decide) dX12_frozen_20 rfl ?_
      refine lv_iconst (v := 3) hx hb dX12_frozen_23 (by decide) (hp_n (n := 24) rfl ?_)
      obtain ⟨g12, hf⟩ := ms_gE hf
      refine m_ial (κ := 40) (φ := 650) (n := 1980) (pc' := 25) C Bh10 hM (by decide) (by decide) rfl g12 dX12_frozen_24 rfl ?_
      refine lv_icmp_lt (tgt := 32) hx hb dX12_frozen_25 (by decide) (fun c13 => ?_) (fun c13 => hp_n (n := 28) rfl ?_)
      ·
        replace hf := ms_iT c13 hf
        refine lv_iconst (v := 0) hx hb dX12_frozen_32 (by decide) (hp_n (n := 33) rfl ?_)
        exact J33 α Hh10 Lh10 Bh10 σ hM a1 a2 (0 : Int32) ls (lv_sub hl [0, 1, 2] rfl) hf
      ·
        replace hf := ms_iF c13 hf
        refine lv_iconst (v := 5) hx hb dX12_frozen_28 (by decide) (hp_n (n := 29) rfl ?_)
        refine lv_goto (tgt := 33) hx hb dX12_frozen_29 (by decide) ?_
        exact J33 α Hh10 Lh10 Bh10 σ hM a1 a2 (5 : Int32) ls (lv_sub hl [0, 1, 2] rfl) hf
    ·
      replace hf := ms_iT c11 hf
      exact J14 α Hh10 Lh10 Bh10 σ hM a1 a2 ls (lv_sub hl [0, 1, 2] rfl) hf
def f_X12_isWatcher (n : Nat) (a0 : Int32) : Option Int32 :=
  ms_b (f_X12_isIn n a0 (0 : Int32) (3 : Int32)) fun rh1 =>
  ms_z rh1 <|
  some rh1
set_option maxRecDepth 100000 in
set_option maxHeartbeats 4000000 in
theorem m_X12_isWatcher (n : Nat) (Γ : hp_G) (l : Launch) (α : hp_T) (a0 : Int32) (res : Int32) (hf : f_X12_isWatcher n a0 = some res) : Met l yX12_isWatcher (hp_ws yX12_isWatcher cX12_isWatcher 1 (some .boolean)) (hp_rm 1 0 0) (hp_Pc Γ α [.int a0]) (hp_Qi Γ (fun r β => β = α ∧ r = res)) 0 0 (hp_A Γ) := by
  unfold f_X12_isWatcher at hf
  refine hp_start (by decide) ?_
  intro p e s m below meth c C hr hlk B0 hnm
  have C : hp_C Γ p m c cX12_isWatcher 1 s ([.int a0] : List Value).toArray RX12 := C
  have hx := C.1.1
  have hb := C.1.2.1
  have hown := C.1.2.2.2.1
  have hts := C.1.2.2.2.2
  have B : hp_B Γ (fun _ _ => True) s α α s.heap [] := ⟨B0.1, B0.2.1, trivial⟩
  have hl := lv_entry ([.int a0]) (n := 1) (Nat.le_of_ble_eq_true rfl)
  show W p l e (hp_rm 1 0 0) s m ([.int a0] : List Value).toArray below meth c s.heap [] 0 0 (MQ below (hp_Qi Γ (fun r β => β = α ∧ r = res)) ([.int a0] : List Value).toArray s 0 0 (hp_A Γ)) (entryFrame m ([.int a0] : List Value).toArray 1)
  rw [lg_entry_eq]
  generalize (lg_sl ([.int a0]) ++ List.replicate (1 - (lg_sl ([.int a0])).length) Slot.unset).toArray = ls at hl ⊢
  have hl : lv_has ls 1 [(0, .int a0)] := hl
  refine lv_iload_n hx hb dX12_isWatcher_0 rfl (lv_at hl 0 rfl) (hp_n (n := 1) rfl ?_)
  refine lv_iconst (v := 0) hx hb dX12_isWatcher_1 (by decide) (hp_n (n := 2) rfl ?_)
  refine lv_iconst (v := 3) hx hb dX12_isWatcher_2 (by decide) (hp_n (n := 3) rfl ?_)
  obtain ⟨rh1, qh1, hf⟩ := ms_bE hf
  refine m_cp (pc' := 6) B (hp_runS (As := [.int a0, .int (0 : Int32), .int (3 : Int32)]) (rest := []) C B (m_X12_isIn n Γ l α a0 (0 : Int32) (3 : Int32) rh1 qh1) lb_X12_isIn ls_X12_isIn lk_X12_113 rfl (by decide) rfl hl.1 rfl (Nat.le_of_ble_eq_true rfl) dX12_isWatcher_3 ⟨Nat.le_refl _, Nat.le_refl _⟩) rfl (fun Hh1 Lh1 Bh1 => ?_)
  obtain ⟨g2, hf⟩ := ms_zE hf
  cases hf
  exact q_zret C Bh1 hr hlk (nz_z g2) ⟨rfl, rfl⟩ dX12_isWatcher_6
def f_X12_watcher_J26 (n : Nat) (σh2 : ms_T) (v1_h2 : Int32) (v2_h2 : Int32) (w0_h2 : Int32) : Option (Int32 × ms_T) :=
  ms_c (f_X12_is n σh2 w0_h2) fun rh3 σh3 =>
  if rh3 = 0 then
    some ((-1 : Int32), σh3)
  else
    ms_b (f_X12_trust n σh3 v1_h2 v2_h2) fun rh5 =>
    some (rh5, σh3)
def f_X12_watcher (n : Nat) (σ : ms_T) (a1 : Int32) (a2 : Int32) : Option (Int32 × ms_T) :=
  ms_b (f_X12_isIn n a2 (0 : Int32) (3 : Int32)) fun rh1 =>
  if rh1 = 0 then
    f_X12_watcher_J26 n σ a1 a2 (1 : Int32)
  else
    ms_b (f_X12_isWatcher n a1) fun rh7 =>
    if rh7 = 0 then
      f_X12_watcher_J26 n σ a1 a2 (2 : Int32)
    else
      f_X12_watcher_J26 n σ a1 a2 (0 : Int32)
set_option maxRecDepth 100000 in
set_option maxHeartbeats 4000000 in
theorem m_X12_watcher (n : Nat) (Γ : hp_G) (l : Launch) (α : hp_T) (a0 : Nat) (ρ : Nat → Nat) (σ : ms_T) (hM : hm_M α a0 ρ σ) (a1 : Int32) (a2 : Int32) (res : (Int32 × ms_T)) (hf : f_X12_watcher n σ a1 a2 = some res) : Met l yX12_watcher (hp_ws yX12_watcher cX12_watcher 3 (some .int)) (hp_rm 2 0 0) (hp_Pc Γ α [.ref a0, .int a1, .int a2]) (hp_Qi Γ (fun r β => r = res.1 ∧ mo α β ∧ hm_M β a0 ρ res.2)) 0 0 (hp_A Γ) := by
  unfold f_X12_watcher at hf
  refine hp_start (by decide) ?_
  intro p e s m below meth c C hr hlk B0 hnm
  have C : hp_C Γ p m c cX12_watcher 3 s ([.ref a0, .int a1, .int a2] : List Value).toArray RX12 := C
  have hx := C.1.1
  have hb := C.1.2.1
  have hown := C.1.2.2.2.1
  have hts := C.1.2.2.2.2
  have B : hp_B Γ mo s α α s.heap [] := ⟨B0.1, B0.2.1, mo_rf⟩
  have hl := lv_entry ([.ref a0, .int a1, .int a2]) (n := 3) (Nat.le_of_ble_eq_true rfl)
  show W p l e (hp_rm 2 0 0) s m ([.ref a0, .int a1, .int a2] : List Value).toArray below meth c s.heap [] 0 0 (MQ below (hp_Qi Γ (fun r β => r = res.1 ∧ mo α β ∧ hm_M β a0 ρ res.2)) ([.ref a0, .int a1, .int a2] : List Value).toArray s 0 0 (hp_A Γ)) (entryFrame m ([.ref a0, .int a1, .int a2] : List Value).toArray 3)
  rw [lg_entry_eq]
  generalize (lg_sl ([.ref a0, .int a1, .int a2]) ++ List.replicate (3 - (lg_sl ([.ref a0, .int a1, .int a2])).length) Slot.unset).toArray = ls at hl ⊢
  have hl : lv_has ls 3 [(0, .ref a0), (1, .int a1), (2, .int a2)] := hl
  refine lv_aload_n hx hb dX12_watcher_0 rfl (lv_at hl 0 rfl) (hp_n (n := 1) rfl ?_)
  refine lv_iload_n hx hb dX12_watcher_1 rfl (lv_at hl 2 rfl) (hp_n (n := 2) rfl ?_)
  refine lv_iconst (v := 0) hx hb dX12_watcher_2 (by decide) (hp_n (n := 3) rfl ?_)
  refine lv_iconst (v := 3) hx hb dX12_watcher_3 (by decide) (hp_n (n := 4) rfl ?_)
  obtain ⟨rh1, qh1, hf⟩ := ms_bE hf
  refine m_cp (pc' := 7) B (hp_runS (As := [.int a2, .int (0 : Int32), .int (3 : Int32)]) (rest := [.ref a0]) C B (m_X12_isIn n Γ l α a2 (0 : Int32) (3 : Int32) rh1 qh1) lb_X12_isIn ls_X12_isIn lk_X12_113 rfl (by decide) rfl hl.1 rfl (Nat.le_of_ble_eq_true rfl) dX12_watcher_4 ⟨Nat.le_refl _, Nat.le_refl _⟩) rfl (fun Hh1 Lh1 Bh1 => ?_)
  have J26 : ∀ (αh2 : hp_T) (Hh2 : Heap) (Lh2 : List Loc) (Bh2 : hp_B Γ mo s α αh2 Hh2 Lh2) (σh2 : ms_T) (Mh2 : hm_M αh2 a0 ρ σh2) (v1_h2 : Int32) (v2_h2 : Int32) (w0_h2 : Int32) (ls : Array Slot) (hl : lv_has ls 3 [(0, .ref a0), (1, .int v1_h2), (2, .int v2_h2)]) (hf : f_X12_watcher_J26 n σh2 v1_h2 v2_h2 w0_h2 = some res), W p l e (hp_rm 2 0 0) s m ([.ref a0, .int a1, .int a2] : List Value).toArray below meth c Hh2 Lh2 0 0 (MQ below (hp_Qi Γ (fun r β => r = res.1 ∧ mo α β ∧ hm_M β a0 ρ res.2)) ([.ref a0, .int a1, .int a2] : List Value).toArray s 0 0 (hp_A Γ)) (F0 m 26 ls [.int w0_h2, .ref a0]) := by
    intro αh2 Hh2 Lh2 Bh2 σh2 Mh2 v1_h2 v2_h2 w0_h2 ls hl hf
    unfold f_X12_watcher_J26 at hf
    obtain ⟨rh3, σh3, qh3, hf⟩ := ms_cE hf
    refine m_ci (pc' := 29) (a := a0) (ρ := ρ) Bh2 (hp_runV (As := [.int w0_h2]) (rest := []) C Bh2 (m_X12_is n Γ l αh2 a0 ρ σh2 Mh2 w0_h2 (rh3, σh3) qh3) lb_X12_is lv_X12_is lk_X12_309 Mh2.1 rfl (by decide) rfl hl.1 rfl (Nat.le_of_ble_eq_true rfl) dX12_watcher_26 ⟨Nat.le_refl _, Nat.le_refl _⟩) rfl (fun αh3 Hh3 Lh3 Bh3 Mh3 => ?_)
    refine lv_if_eq (tgt := 41) hx hb dX12_watcher_29 (by decide) (fun c4 => ?_) (fun c4 => hp_n (n := 32) rfl ?_)
    ·
      replace hf := ms_iT c4 hf
      refine lv_iconst (v := (-1)) hx hb dX12_watcher_41 (by decide) (hp_n (n := 42) rfl ?_)
      cases hf
      exact q_iret C Bh3 hr hlk ⟨rfl, Bh3.2.2, Mh3⟩ dX12_watcher_42
    ·
      replace hf := ms_iF c4 hf
      refine lv_aload_n hx hb dX12_watcher_32 rfl (lv_at hl 0 rfl) (hp_n (n := 33) rfl ?_)
      refine lv_iload_n hx hb dX12_watcher_33 rfl (lv_at hl 1 rfl) (hp_n (n := 34) rfl ?_)
      refine lv_iload_n hx hb dX12_watcher_34 rfl (lv_at hl 2 rfl) (hp_n (n := 35) rfl ?_)
      obtain ⟨rh5, qh5, hf⟩ := ms_bE hf
      refine m_cp (pc' := 38) Bh3 (hp_runV (As := [.int v1_h2, .int v2_h2]) (rest := []) C Bh3 (m_X12_trust n Γ l αh3 a0 ρ σh3 Mh3 v1_h2 v2_h2 rh5 qh5) lb_X12_trust lv_X12_trust lk_X12_221 Mh3.1 rfl (by decide) rfl hl.1 rfl (Nat.le_of_ble_eq_true rfl) dX12_watcher_35 ⟨Nat.le_refl _, Nat.le_refl _⟩) rfl (fun Hh5 Lh5 Bh5 => ?_)
      refine lv_goto (tgt := 42) hx hb dX12_watcher_38 (by decide) ?_
      cases hf
      exact q_iret C Bh5 hr hlk ⟨rfl, Bh5.2.2, Mh3⟩ dX12_watcher_42
  refine lv_if_ne (tgt := 14) hx hb dX12_watcher_7 (by decide) (fun c6 => ?_) (fun c6 => hp_n (n := 10) rfl ?_)
  ·
    replace hf := ms_iF c6 hf
    refine lv_iload_n hx hb dX12_watcher_14 rfl (lv_at hl 1 rfl) (hp_n (n := 15) rfl ?_)
    obtain ⟨rh7, qh7, hf⟩ := ms_bE hf
    refine m_cp (pc' := 18) Bh1 (hp_runS (As := [.int a1]) (rest := [.ref a0]) C Bh1 (m_X12_isWatcher n Γ l α a1 rh7 qh7) lb_X12_isWatcher ls_X12_isWatcher lk_X12_356 rfl (by decide) rfl hl.1 rfl (Nat.le_of_ble_eq_true rfl) dX12_watcher_15 ⟨Nat.le_refl _, Nat.le_refl _⟩) rfl (fun Hh7 Lh7 Bh7 => ?_)
    refine lv_if_ne (tgt := 25) hx hb dX12_watcher_18 (by decide) (fun c8 => ?_) (fun c8 => hp_n (n := 21) rfl ?_)
    ·
      replace hf := ms_iF c8 hf
      refine lv_iconst (v := 0) hx hb dX12_watcher_25 (by decide) (hp_n (n := 26) rfl ?_)
      exact J26 α Hh7 Lh7 Bh7 σ hM a1 a2 (0 : Int32) ls (lv_sub hl [0, 1, 2] rfl) hf
    ·
      replace hf := ms_iT c8 hf
      refine lv_iconst (v := 2) hx hb dX12_watcher_21 (by decide) (hp_n (n := 22) rfl ?_)
      refine lv_goto (tgt := 26) hx hb dX12_watcher_22 (by decide) ?_
      exact J26 α Hh7 Lh7 Bh7 σ hM a1 a2 (2 : Int32) ls (lv_sub hl [0, 1, 2] rfl) hf
  ·
    replace hf := ms_iT c6 hf
    refine lv_iconst (v := 1) hx hb dX12_watcher_10 (by decide) (hp_n (n := 11) rfl ?_)
    refine lv_goto (tgt := 26) hx hb dX12_watcher_11 (by decide) ?_
    exact J26 α Hh1 Lh1 Bh1 σ hM a1 a2 (1 : Int32) ls (lv_sub hl [0, 1, 2] rfl) hf
def f_X12_add_J14 (n : Nat) (σh2 : ms_T) (v1_h2 : Int32) (w0_h2 : Int32) : Option (Int32 × ms_T) :=
  ms_c (f_X12_is n σh2 w0_h2) fun rh3 σh3 =>
  if rh3 = 0 then
    some ((-1 : Int32), σh3)
  else
    ms_b (f_X12_hand n σh3) fun σh5 =>
    ms_c (f_X12_adds n σh5 v1_h2) fun rh6 σh6 =>
    some (rh6, σh6)
def f_X12_add (n : Nat) (σ : ms_T) (a1 : Int32) : Option (Int32 × ms_T) :=
  ms_b (f_X12_isRecord n σ a1) fun rh1 =>
  if rh1 = 0 then
    f_X12_add_J14 n σ a1 (2 : Int32)
  else
    f_X12_add_J14 n σ a1 (0 : Int32)
set_option maxRecDepth 100000 in
set_option maxHeartbeats 4000000 in
theorem m_X12_add (n : Nat) (Γ : hp_G) (l : Launch) (α : hp_T) (a0 : Nat) (ρ : Nat → Nat) (σ : ms_T) (hM : hm_M α a0 ρ σ) (a1 : Int32) (res : (Int32 × ms_T)) (hf : f_X12_add n σ a1 = some res) : Met l yX12_add (hp_ws yX12_add cX12_add 2 (some .int)) (hp_rm 2 0 0) (hp_Pc Γ α [.ref a0, .int a1]) (hp_Qi Γ (fun r β => r = res.1 ∧ mo α β ∧ hm_M β a0 ρ res.2)) 0 0 (hp_A Γ) := by
  unfold f_X12_add at hf
  refine hp_start (by decide) ?_
  intro p e s m below meth c C hr hlk B0 hnm
  have C : hp_C Γ p m c cX12_add 2 s ([.ref a0, .int a1] : List Value).toArray RX12 := C
  have hx := C.1.1
  have hb := C.1.2.1
  have hown := C.1.2.2.2.1
  have hts := C.1.2.2.2.2
  have B : hp_B Γ mo s α α s.heap [] := ⟨B0.1, B0.2.1, mo_rf⟩
  have hl := lv_entry ([.ref a0, .int a1]) (n := 2) (Nat.le_of_ble_eq_true rfl)
  show W p l e (hp_rm 2 0 0) s m ([.ref a0, .int a1] : List Value).toArray below meth c s.heap [] 0 0 (MQ below (hp_Qi Γ (fun r β => r = res.1 ∧ mo α β ∧ hm_M β a0 ρ res.2)) ([.ref a0, .int a1] : List Value).toArray s 0 0 (hp_A Γ)) (entryFrame m ([.ref a0, .int a1] : List Value).toArray 2)
  rw [lg_entry_eq]
  generalize (lg_sl ([.ref a0, .int a1]) ++ List.replicate (2 - (lg_sl ([.ref a0, .int a1])).length) Slot.unset).toArray = ls at hl ⊢
  have hl : lv_has ls 2 [(0, .ref a0), (1, .int a1)] := hl
  refine lv_aload_n hx hb dX12_add_0 rfl (lv_at hl 0 rfl) (hp_n (n := 1) rfl ?_)
  refine lv_aload_n hx hb dX12_add_1 rfl (lv_at hl 0 rfl) (hp_n (n := 2) rfl ?_)
  refine lv_iload_n hx hb dX12_add_2 rfl (lv_at hl 1 rfl) (hp_n (n := 3) rfl ?_)
  obtain ⟨rh1, qh1, hf⟩ := ms_bE hf
  refine m_cp (pc' := 6) B (hp_runV (As := [.int a1]) (rest := [.ref a0]) C B (m_X12_isRecord n Γ l α a0 ρ σ hM a1 rh1 qh1) lb_X12_isRecord lv_X12_isRecord lk_X12_344 hM.1 rfl (by decide) rfl hl.1 rfl (Nat.le_of_ble_eq_true rfl) dX12_add_3 ⟨Nat.le_refl _, Nat.le_refl _⟩) rfl (fun Hh1 Lh1 Bh1 => ?_)
  have J14 : ∀ (αh2 : hp_T) (Hh2 : Heap) (Lh2 : List Loc) (Bh2 : hp_B Γ mo s α αh2 Hh2 Lh2) (σh2 : ms_T) (Mh2 : hm_M αh2 a0 ρ σh2) (v1_h2 : Int32) (w0_h2 : Int32) (ls : Array Slot) (hl : lv_has ls 2 [(0, .ref a0), (1, .int v1_h2)]) (hf : f_X12_add_J14 n σh2 v1_h2 w0_h2 = some res), W p l e (hp_rm 2 0 0) s m ([.ref a0, .int a1] : List Value).toArray below meth c Hh2 Lh2 0 0 (MQ below (hp_Qi Γ (fun r β => r = res.1 ∧ mo α β ∧ hm_M β a0 ρ res.2)) ([.ref a0, .int a1] : List Value).toArray s 0 0 (hp_A Γ)) (F0 m 14 ls [.int w0_h2, .ref a0]) := by
    intro αh2 Hh2 Lh2 Bh2 σh2 Mh2 v1_h2 w0_h2 ls hl hf
    unfold f_X12_add_J14 at hf
    obtain ⟨rh3, σh3, qh3, hf⟩ := ms_cE hf
    refine m_ci (pc' := 17) (a := a0) (ρ := ρ) Bh2 (hp_runV (As := [.int w0_h2]) (rest := []) C Bh2 (m_X12_is n Γ l αh2 a0 ρ σh2 Mh2 w0_h2 (rh3, σh3) qh3) lb_X12_is lv_X12_is lk_X12_309 Mh2.1 rfl (by decide) rfl hl.1 rfl (Nat.le_of_ble_eq_true rfl) dX12_add_14 ⟨Nat.le_refl _, Nat.le_refl _⟩) rfl (fun αh3 Hh3 Lh3 Bh3 Mh3 => ?_)
    refine lv_if_ne (tgt := 22) hx hb dX12_add_17 (by decide) (fun c4 => ?_) (fun c4 => hp_n (n := 20) rfl ?_)
    ·
      replace hf := ms_iF c4 hf
      refine lv_aload_n hx hb dX12_add_22 rfl (lv_at hl 0 rfl) (hp_n (n := 23) rfl ?_)
      obtain ⟨σh5, qh5, hf⟩ := ms_bE hf
      refine m_cv (pc' := 26) (a := a0) (ρ := ρ) Bh3 (hp_runV (As := []) (rest := []) C Bh3 (m_X12_hand n Γ l αh3 a0 ρ σh3 Mh3  σh5 qh5) lb_X12_hand lv_X12_hand lk_X12_359 Mh3.1 rfl (by decide) rfl hl.1 rfl (Nat.le_of_ble_eq_true rfl) dX12_add_23 ⟨Nat.le_refl _, Nat.le_refl _⟩) rfl (fun αh5 Hh5 Lh5 Bh5 Mh5 => ?_)
      refine lv_aload_n hx hb dX12_add_26 rfl (lv_at hl 0 rfl) (hp_n (n := 27) rfl ?_)
      refine lv_iload_n hx hb dX12_add_27 rfl (lv_at hl 1 rfl) (hp_n (n := 28) rfl ?_)
      obtain ⟨rh6, σh6, qh6, hf⟩ := ms_cE hf
      refine m_ci (pc' := 31) (a := a0) (ρ := ρ) Bh5 (hp_runV (As := [.int v1_h2]) (rest := []) C Bh5 (m_X12_adds n Γ l αh5 a0 ρ σh5 Mh5 v1_h2 (rh6, σh6) qh6) lb_X12_adds lv_X12_adds lk_X12_288 Mh5.1 rfl (by decide) rfl hl.1 rfl (Nat.le_of_ble_eq_true rfl) dX12_add_28 ⟨Nat.le_refl _, Nat.le_refl _⟩) rfl (fun αh6 Hh6 Lh6 Bh6 Mh6 => ?_)
      cases hf
      exact q_iret C Bh6 hr hlk ⟨rfl, Bh6.2.2, Mh6⟩ dX12_add_31
    ·
      replace hf := ms_iT c4 hf
      refine lv_iconst (v := (-1)) hx hb dX12_add_20 (by decide) (hp_n (n := 21) rfl ?_)
      cases hf
      exact q_iret C Bh3 hr hlk ⟨rfl, Bh3.2.2, Mh3⟩ dX12_add_21
  refine lv_if_eq (tgt := 13) hx hb dX12_add_6 (by decide) (fun c7 => ?_) (fun c7 => hp_n (n := 9) rfl ?_)
  ·
    replace hf := ms_iT c7 hf
    refine lv_iconst (v := 2) hx hb dX12_add_13 (by decide) (hp_n (n := 14) rfl ?_)
    exact J14 α Hh1 Lh1 Bh1 σ hM a1 (2 : Int32) ls (lv_sub hl [0, 1] rfl) hf
  ·
    replace hf := ms_iF c7 hf
    refine lv_iconst (v := 0) hx hb dX12_add_9 (by decide) (hp_n (n := 10) rfl ?_)
    refine lv_goto (tgt := 14) hx hb dX12_add_10 (by decide) ?_
    exact J14 α Hh1 Lh1 Bh1 σ hM a1 (0 : Int32) ls (lv_sub hl [0, 1] rfl) hf
def f_X12_fork_J22 (n : Nat) (σh1 : ms_T) (v1_h1 : Int32) (v2_h1 : Int32) (w0_h1 : Int32) : Option (Int32 × ms_T) :=
  ms_c (f_X12_is n σh1 w0_h1) fun rh2 σh2 =>
  if rh2 = 0 then
    some ((-1 : Int32), σh2)
  else
    ms_c (f_X12_forks n σh2 v1_h1 v2_h1) fun rh4 σh4 =>
    some (rh4, σh4)
def f_X12_fork (n : Nat) (σ : ms_T) (a1 : Int32) (a2 : Int32) : Option (Int32 × ms_T) :=
  if 0 ≤ a2 then
    ms_b (f_X12_isRecord n σ a1) fun rh6 =>
    if rh6 = 0 then
      f_X12_fork_J22 n σ a1 a2 (2 : Int32)
    else
      f_X12_fork_J22 n σ a1 a2 (0 : Int32)
  else
    f_X12_fork_J22 n σ a1 a2 (1 : Int32)
set_option maxRecDepth 100000 in
set_option maxHeartbeats 4000000 in
theorem m_X12_fork (n : Nat) (Γ : hp_G) (l : Launch) (α : hp_T) (a0 : Nat) (ρ : Nat → Nat) (σ : ms_T) (hM : hm_M α a0 ρ σ) (a1 : Int32) (a2 : Int32) (res : (Int32 × ms_T)) (hf : f_X12_fork n σ a1 a2 = some res) : Met l yX12_fork (hp_ws yX12_fork cX12_fork 3 (some .int)) (hp_rm 2 0 0) (hp_Pc Γ α [.ref a0, .int a1, .int a2]) (hp_Qi Γ (fun r β => r = res.1 ∧ mo α β ∧ hm_M β a0 ρ res.2)) 0 0 (hp_A Γ) := by
  unfold f_X12_fork at hf
  refine hp_start (by decide) ?_
  intro p e s m below meth c C hr hlk B0 hnm
  have C : hp_C Γ p m c cX12_fork 3 s ([.ref a0, .int a1, .int a2] : List Value).toArray RX12 := C
  have hx := C.1.1
  have hb := C.1.2.1
  have hown := C.1.2.2.2.1
  have hts := C.1.2.2.2.2
  have B : hp_B Γ mo s α α s.heap [] := ⟨B0.1, B0.2.1, mo_rf⟩
  have hl := lv_entry ([.ref a0, .int a1, .int a2]) (n := 3) (Nat.le_of_ble_eq_true rfl)
  show W p l e (hp_rm 2 0 0) s m ([.ref a0, .int a1, .int a2] : List Value).toArray below meth c s.heap [] 0 0 (MQ below (hp_Qi Γ (fun r β => r = res.1 ∧ mo α β ∧ hm_M β a0 ρ res.2)) ([.ref a0, .int a1, .int a2] : List Value).toArray s 0 0 (hp_A Γ)) (entryFrame m ([.ref a0, .int a1, .int a2] : List Value).toArray 3)
  rw [lg_entry_eq]
  generalize (lg_sl ([.ref a0, .int a1, .int a2]) ++ List.replicate (3 - (lg_sl ([.ref a0, .int a1, .int a2])).length) Slot.unset).toArray = ls at hl ⊢
  have hl : lv_has ls 3 [(0, .ref a0), (1, .int a1), (2, .int a2)] := hl
  refine lv_aload_n hx hb dX12_fork_0 rfl (lv_at hl 0 rfl) (hp_n (n := 1) rfl ?_)
  refine lv_iload_n hx hb dX12_fork_1 rfl (lv_at hl 2 rfl) (hp_n (n := 2) rfl ?_)
  have J22 : ∀ (αh1 : hp_T) (Hh1 : Heap) (Lh1 : List Loc) (Bh1 : hp_B Γ mo s α αh1 Hh1 Lh1) (σh1 : ms_T) (Mh1 : hm_M αh1 a0 ρ σh1) (v1_h1 : Int32) (v2_h1 : Int32) (w0_h1 : Int32) (ls : Array Slot) (hl : lv_has ls 3 [(0, .ref a0), (1, .int v1_h1), (2, .int v2_h1)]) (hf : f_X12_fork_J22 n σh1 v1_h1 v2_h1 w0_h1 = some res), W p l e (hp_rm 2 0 0) s m ([.ref a0, .int a1, .int a2] : List Value).toArray below meth c Hh1 Lh1 0 0 (MQ below (hp_Qi Γ (fun r β => r = res.1 ∧ mo α β ∧ hm_M β a0 ρ res.2)) ([.ref a0, .int a1, .int a2] : List Value).toArray s 0 0 (hp_A Γ)) (F0 m 22 ls [.int w0_h1, .ref a0]) := by
    intro αh1 Hh1 Lh1 Bh1 σh1 Mh1 v1_h1 v2_h1 w0_h1 ls hl hf
    unfold f_X12_fork_J22 at hf
    obtain ⟨rh2, σh2, qh2, hf⟩ := ms_cE hf
    refine m_ci (pc' := 25) (a := a0) (ρ := ρ) Bh1 (hp_runV (As := [.int w0_h1]) (rest := []) C Bh1 (m_X12_is n Γ l αh1 a0 ρ σh1 Mh1 w0_h1 (rh2, σh2) qh2) lb_X12_is lv_X12_is lk_X12_309 Mh1.1 rfl (by decide) rfl hl.1 rfl (Nat.le_of_ble_eq_true rfl) dX12_fork_22 ⟨Nat.le_refl _, Nat.le_refl _⟩) rfl (fun αh2 Hh2 Lh2 Bh2 Mh2 => ?_)
    refine lv_if_eq (tgt := 37) hx hb dX12_fork_25 (by decide) (fun c3 => ?_) (fun c3 => hp_n (n := 28) rfl ?_)
    ·
      replace hf := ms_iT c3 hf
      refine lv_iconst (v := (-1)) hx hb dX12_fork_37 (by decide) (hp_n (n := 38) rfl ?_)
      cases hf
      exact q_iret C Bh2 hr hlk ⟨rfl, Bh2.2.2, Mh2⟩ dX12_fork_38
    ·
      replace hf := ms_iF c3 hf
      refine lv_aload_n hx hb dX12_fork_28 rfl (lv_at hl 0 rfl) (hp_n (n := 29) rfl ?_)
      refine lv_iload_n hx hb dX12_fork_29 rfl (lv_at hl 1 rfl) (hp_n (n := 30) rfl ?_)
      refine lv_iload_n hx hb dX12_fork_30 rfl (lv_at hl 2 rfl) (hp_n (n := 31) rfl ?_)
      obtain ⟨rh4, σh4, qh4, hf⟩ := ms_cE hf
      refine m_ci (pc' := 34) (a := a0) (ρ := ρ) Bh2 (hp_runV (As := [.int v1_h1, .int v2_h1]) (rest := []) C Bh2 (m_X12_forks n Γ l αh2 a0 ρ σh2 Mh2 v1_h1 v2_h1 (rh4, σh4) qh4) lb_X12_forks lv_X12_forks lk_X12_291 Mh2.1 rfl (by decide) rfl hl.1 rfl (Nat.le_of_ble_eq_true rfl) dX12_fork_31 ⟨Nat.le_refl _, Nat.le_refl _⟩) rfl (fun αh4 Hh4 Lh4 Bh4 Mh4 => ?_)
      refine lv_goto (tgt := 38) hx hb dX12_fork_34 (by decide) ?_
      cases hf
      exact q_iret C Bh4 hr hlk ⟨rfl, Bh4.2.2, Mh4⟩ dX12_fork_38
  refine lv_if_ge (tgt := 9) hx hb dX12_fork_2 (by decide) (fun c5 => ?_) (fun c5 => hp_n (n := 5) rfl ?_)
  ·
    replace hf := ms_iT c5 hf
    refine lv_aload_n hx hb dX12_fork_9 rfl (lv_at hl 0 rfl) (hp_n (n := 10) rfl ?_)
    refine lv_iload_n hx hb dX12_fork_10 rfl (lv_at hl 1 rfl) (hp_n (n := 11) rfl ?_)
    obtain ⟨rh6, qh6, hf⟩ := ms_bE hf
    refine m_cp (pc' := 14) B (hp_runV (As := [.int a1]) (rest := [.ref a0]) C B (m_X12_isRecord n Γ l α a0 ρ σ hM a1 rh6 qh6) lb_X12_isRecord lv_X12_isRecord lk_X12_344 hM.1 rfl (by decide) rfl hl.1 rfl (Nat.le_of_ble_eq_true rfl) dX12_fork_11 ⟨Nat.le_refl _, Nat.le_refl _⟩) rfl (fun Hh6 Lh6 Bh6 => ?_)
    refine lv_if_ne (tgt := 21) hx hb dX12_fork_14 (by decide) (fun c7 => ?_) (fun c7 => hp_n (n := 17) rfl ?_)
    ·
      replace hf := ms_iF c7 hf
      refine lv_iconst (v := 0) hx hb dX12_fork_21 (by decide) (hp_n (n := 22) rfl ?_)
      exact J22 α Hh6 Lh6 Bh6 σ hM a1 a2 (0 : Int32) ls (lv_sub hl [0, 1, 2] rfl) hf
    ·
      replace hf := ms_iT c7 hf
      refine lv_iconst (v := 2) hx hb dX12_fork_17 (by decide) (hp_n (n := 18) rfl ?_)
      refine lv_goto (tgt := 22) hx hb dX12_fork_18 (by decide) ?_
      exact J22 α Hh6 Lh6 Bh6 σ hM a1 a2 (2 : Int32) ls (lv_sub hl [0, 1, 2] rfl) hf
  ·
    replace hf := ms_iF c5 hf
    refine lv_iconst (v := 1) hx hb dX12_fork_5 (by decide) (hp_n (n := 6) rfl ?_)
    refine lv_goto (tgt := 22) hx hb dX12_fork_6 (by decide) ?_
    exact J22 α s.heap [] B σ hM a1 a2 (1 : Int32) ls (lv_sub hl [0, 1, 2] rfl) hf
def f_X12_freeze_J14 (n : Nat) (σh2 : ms_T) (v1_h2 : Int32) (w0_h2 : Int32) : Option (Int32 × ms_T) :=
  ms_c (f_X12_is n σh2 w0_h2) fun rh3 σh3 =>
  if rh3 = 0 then
    some ((-1 : Int32), σh3)
  else
    ms_c (f_X12_freezes n σh3 v1_h2) fun rh5 σh5 =>
    some (rh5, σh5)
def f_X12_freeze (n : Nat) (σ : ms_T) (a1 : Int32) : Option (Int32 × ms_T) :=
  ms_b (f_X12_isRecord n σ a1) fun rh1 =>
  if rh1 = 0 then
    f_X12_freeze_J14 n σ a1 (2 : Int32)
  else
    f_X12_freeze_J14 n σ a1 (0 : Int32)
set_option maxRecDepth 100000 in
set_option maxHeartbeats 4000000 in
theorem m_X12_freeze (n : Nat) (Γ : hp_G) (l : Launch) (α : hp_T) (a0 : Nat) (ρ : Nat → Nat) (σ : ms_T) (hM : hm_M α a0 ρ σ) (a1 : Int32) (res : (Int32 × ms_T)) (hf : f_X12_freeze n σ a1 = some res) : Met l yX12_freeze (hp_ws yX12_freeze cX12_freeze 2 (some .int)) (hp_rm 44 0 0) (hp_Pc Γ α [.ref a0, .int a1]) (hp_Qi Γ (fun r β => r = res.1 ∧ mo α β ∧ hm_M β a0 ρ res.2)) 0 0 (hp_A Γ) := by
  unfold f_X12_freeze at hf
  refine hp_start (by decide) ?_
  intro p e s m below meth c C hr hlk B0 hnm
  have C : hp_C Γ p m c cX12_freeze 2 s ([.ref a0, .int a1] : List Value).toArray RX12 := C
  have hx := C.1.1
  have hb := C.1.2.1
  have hown := C.1.2.2.2.1
  have hts := C.1.2.2.2.2
  have B : hp_B Γ mo s α α s.heap [] := ⟨B0.1, B0.2.1, mo_rf⟩
  have hl := lv_entry ([.ref a0, .int a1]) (n := 2) (Nat.le_of_ble_eq_true rfl)
  show W p l e (hp_rm 44 0 0) s m ([.ref a0, .int a1] : List Value).toArray below meth c s.heap [] 0 0 (MQ below (hp_Qi Γ (fun r β => r = res.1 ∧ mo α β ∧ hm_M β a0 ρ res.2)) ([.ref a0, .int a1] : List Value).toArray s 0 0 (hp_A Γ)) (entryFrame m ([.ref a0, .int a1] : List Value).toArray 2)
  rw [lg_entry_eq]
  generalize (lg_sl ([.ref a0, .int a1]) ++ List.replicate (2 - (lg_sl ([.ref a0, .int a1])).length) Slot.unset).toArray = ls at hl ⊢
  have hl : lv_has ls 2 [(0, .ref a0), (1, .int a1)] := hl
  refine lv_aload_n hx hb dX12_freeze_0 rfl (lv_at hl 0 rfl) (hp_n (n := 1) rfl ?_)
  refine lv_aload_n hx hb dX12_freeze_1 rfl (lv_at hl 0 rfl) (hp_n (n := 2) rfl ?_)
  refine lv_iload_n hx hb dX12_freeze_2 rfl (lv_at hl 1 rfl) (hp_n (n := 3) rfl ?_)
  obtain ⟨rh1, qh1, hf⟩ := ms_bE hf
  refine m_cp (pc' := 6) B (hp_runV (As := [.int a1]) (rest := [.ref a0]) C B (m_X12_isRecord n Γ l α a0 ρ σ hM a1 rh1 qh1) lb_X12_isRecord lv_X12_isRecord lk_X12_344 hM.1 rfl (by decide) rfl hl.1 rfl (Nat.le_of_ble_eq_true rfl) dX12_freeze_3 ⟨Nat.le_refl _, Nat.le_refl _⟩) rfl (fun Hh1 Lh1 Bh1 => ?_)
  have J14 : ∀ (αh2 : hp_T) (Hh2 : Heap) (Lh2 : List Loc) (Bh2 : hp_B Γ mo s α αh2 Hh2 Lh2) (σh2 : ms_T) (Mh2 : hm_M αh2 a0 ρ σh2) (v1_h2 : Int32) (w0_h2 : Int32) (ls : Array Slot) (hl : lv_has ls 2 [(0, .ref a0), (1, .int v1_h2)]) (hf : f_X12_freeze_J14 n σh2 v1_h2 w0_h2 = some res), W p l e (hp_rm 44 0 0) s m ([.ref a0, .int a1] : List Value).toArray below meth c Hh2 Lh2 0 0 (MQ below (hp_Qi Γ (fun r β => r = res.1 ∧ mo α β ∧ hm_M β a0 ρ res.2)) ([.ref a0, .int a1] : List Value).toArray s 0 0 (hp_A Γ)) (F0 m 14 ls [.int w0_h2, .ref a0]) := by
    intro αh2 Hh2 Lh2 Bh2 σh2 Mh2 v1_h2 w0_h2 ls hl hf
    unfold f_X12_freeze_J14 at hf
    obtain ⟨rh3, σh3, qh3, hf⟩ := ms_cE hf
    refine m_ci (pc' := 17) (a := a0) (ρ := ρ) Bh2 (hp_runV (As := [.int w0_h2]) (rest := []) C Bh2 (m_X12_is n Γ l αh2 a0 ρ σh2 Mh2 w0_h2 (rh3, σh3) qh3) lb_X12_is lv_X12_is lk_X12_309 Mh2.1 rfl (by decide) rfl hl.1 rfl (Nat.le_of_ble_eq_true rfl) dX12_freeze_14 ⟨Nat.le_refl _, Nat.le_refl _⟩) rfl (fun αh3 Hh3 Lh3 Bh3 Mh3 => ?_)
    refine lv_if_eq (tgt := 28) hx hb dX12_freeze_17 (by decide) (fun c4 => ?_) (fun c4 => hp_n (n := 20) rfl ?_)
    ·
      replace hf := ms_iT c4 hf
      refine lv_iconst (v := (-1)) hx hb dX12_freeze_28 (by decide) (hp_n (n := 29) rfl ?_)
      cases hf
      exact q_iret C Bh3 hr hlk ⟨rfl, Bh3.2.2, Mh3⟩ dX12_freeze_29
    ·
      replace hf := ms_iF c4 hf
      refine lv_aload_n hx hb dX12_freeze_20 rfl (lv_at hl 0 rfl) (hp_n (n := 21) rfl ?_)
      refine lv_iload_n hx hb dX12_freeze_21 rfl (lv_at hl 1 rfl) (hp_n (n := 22) rfl ?_)
      obtain ⟨rh5, σh5, qh5, hf⟩ := ms_cE hf
      refine m_ci (pc' := 25) (a := a0) (ρ := ρ) Bh3 (hp_runV (As := [.int v1_h2]) (rest := []) C Bh3 (m_X12_freezes n Γ l αh3 a0 ρ σh3 Mh3 v1_h2 (rh5, σh5) qh5) lb_X12_freezes lv_X12_freezes lk_X12_300 Mh3.1 rfl (by decide) rfl hl.1 rfl (Nat.le_of_ble_eq_true rfl) dX12_freeze_22 ⟨Nat.le_refl _, Nat.le_refl _⟩) rfl (fun αh5 Hh5 Lh5 Bh5 Mh5 => ?_)
      refine lv_goto (tgt := 29) hx hb dX12_freeze_25 (by decide) ?_
      cases hf
      exact q_iret C Bh5 hr hlk ⟨rfl, Bh5.2.2, Mh5⟩ dX12_freeze_29
  refine lv_if_eq (tgt := 13) hx hb dX12_freeze_6 (by decide) (fun c6 => ?_) (fun c6 => hp_n (n := 9) rfl ?_)
  ·
    replace hf := ms_iT c6 hf
    refine lv_iconst (v := 2) hx hb dX12_freeze_13 (by decide) (hp_n (n := 14) rfl ?_)
    exact J14 α Hh1 Lh1 Bh1 σ hM a1 (2 : Int32) ls (lv_sub hl [0, 1] rfl) hf
  ·
    replace hf := ms_iF c6 hf
    refine lv_iconst (v := 0) hx hb dX12_freeze_9 (by decide) (hp_n (n := 10) rfl ?_)
    refine lv_goto (tgt := 14) hx hb dX12_freeze_10 (by decide) ?_
    exact J14 α Hh1 Lh1 Bh1 σ hM a1 (0 : Int32) ls (lv_sub hl [0, 1] rfl) hf
def f_X12_show_J42 (n : Nat) (σh1 : ms_T) (v1_h1 : Int32) (v2_h1 : Int32) (v3_h1 : Int32) (w0_h1 : Int32) : Option (Int32 × ms_T) :=
  ms_c (f_X12_is n σh1 w0_h1) fun rh2 σh2 =>
  if rh2 = 0 then
    some ((-1 : Int32), σh2)
  else
    ms_c (f_X12_shows n σh2 v1_h1 v2_h1 v3_h1) fun rh4 σh4 =>
    some (rh4, σh4)
def f_X12_show_J24 (n : Nat) (σh7 : ms_T) (v1_h7 : Int32) (v2_h7 : Int32) (v3_h7 : Int32) : Option (Int32 × ms_T) :=
  f_X12_show_J42 n σh7 v1_h7 v2_h7 v3_h7 (2 : Int32)
def f_X12_show (n : Nat) (σ : ms_T) (a1 : Int32) (a2 : Int32) (a3 : Int32) : Option (Int32 × ms_T) :=
  if 0 ≤ a3 then
    ms_b (f_X12_isWatcher n a1) fun rh6 =>
    if rh6 = 0 then
      f_X12_show_J24 n σ a1 a2 a3
    else
      ms_b (f_X12_isRecord n σ a2) fun rh9 =>
      if rh9 = 0 then
        f_X12_show_J24 n σ a1 a2 a3
      else
        ms_b (f_X12_sizeOf n σ a2) fun rh11 =>
        if a3 ≤ rh11 then
          f_X12_show_J42 n σ a1 a2 a3 (0 : Int32)
        else
          f_X12_show_J42 n σ a1 a2 a3 (5 : Int32)
  else
    f_X12_show_J42 n σ a1 a2 a3 (1 : Int32)
set_option maxRecDepth 100000 in
set_option maxHeartbeats 4000000 in
theorem m_X12_show (n : Nat) (Γ : hp_G) (l : Launch) (α : hp_T) (a0 : Nat) (ρ : Nat → Nat) (σ : ms_T) (hM : hm_M α a0 ρ σ) (a1 : Int32) (a2 : Int32) (a3 : Int32) (res : (Int32 × ms_T)) (hf : f_X12_show n σ a1 a2 a3 = some res) : Met l yX12_show (hp_ws yX12_show cX12_show 4 (some .int)) (hp_rm 45 0 0) (hp_Pc Γ α [.ref a0, .int a1, .int a2, .int a3]) (hp_Qi Γ (fun r β => r = res.1 ∧ mo α β ∧ hm_M β a0 ρ res.2)) 0 0 (hp_A Γ) := by
  unfold f_X12_show at hf
  refine hp_start (by decide) ?_
  intro p e s m below meth c C hr hlk B0 hnm
  have C : hp_C Γ p m c cX12_show 4 s ([.ref a0, .int a1, .int a2, .int a3] : List Value).toArray RX12 := C
  have hx := C.1.1
  have hb := C.1.2.1
  have hown := C.1.2.2.2.1
  have hts := C.1.2.2.2.2
  have B : hp_B Γ mo s α α s.heap [] := ⟨B0.1, B0.2.1, mo_rf⟩
  have hl := lv_entry ([.ref a0, .int a1, .int a2, .int a3]) (n := 4) (Nat.le_of_ble_eq_true rfl)
  show W p l e (hp_rm 45 0 0) s m ([.ref a0, .int a1, .int a2, .int a3] : List Value).toArray below meth c s.heap [] 0 0 (MQ below (hp_Qi Γ (fun r β => r = res.1 ∧ mo α β ∧ hm_M β a0 ρ res.2)) ([.ref a0, .int a1, .int a2, .int a3] : List Value).toArray s 0 0 (hp_A Γ)) (entryFrame m ([.ref a0, .int a1, .int a2, .int a3] : List Value).toArray 4)
  rw [lg_entry_eq]
  generalize (lg_sl ([.ref a0, .int a1, .int a2, .int a3]) ++ List.replicate (4 - (lg_sl ([.ref a0, .int a1, .int a2, .int a3])).length) Slot.unset).toArray = ls at hl ⊢
  have hl : lv_has ls 4 [(0, .ref a0), (1, .int a1), (2, .int a2), (3, .int a3)] := hl
  refine lv_aload_n hx hb dX12_show_0 rfl (lv_at hl 0 rfl) (hp_n (n := 1) rfl ?_)
  refine lv_iload_n hx hb dX12_show_1 rfl (lv_at hl 3 rfl) (hp_n (n := 2) rfl ?_)
  have J42 : ∀ (αh1 : hp_T) (Hh1 : Heap) (Lh1 : List Loc) (Bh1 : hp_B Γ mo s α αh1 Hh1 Lh1) (σh1 : ms_T) (Mh1 : hm_M αh1 a0 ρ σh1) (v1_h1 : Int32) (v2_h1 : Int32) (v3_h1 : Int32) (w0_h1 : Int32) (ls : Array Slot) (hl : lv_has ls 4 [(0, .ref a0), (1, .int v1_h1), (2, .int v2_h1), (3, .int v3_h1)]) (hf : f_X12_show_J42 n σh1 v1_h1 v2_h1 v3_h1 w0_h1 = some res), W p l e (hp_rm 45 0 0) s m ([.ref a0, .int a1, .int a2, .int a3] : List Value).toArray below meth c Hh1 Lh1 0 0 (MQ below (hp_Qi Γ (fun r β => r = res.1 ∧ mo α β ∧ hm_M β a0 ρ res.2)) ([.ref a0, .int a1, .int a2, .int a3] : List Value).toArray s 0 0 (hp_A Γ)) (F0 m 42 ls [.int w0_h1, .ref a0]) := by
    intro αh1 Hh1 Lh1 Bh1 σh1 Mh1 v1_h1 v2_h1 v3_h1 w0_h1 ls hl hf
    unfold f_X12_show_J42 at hf
    obtain ⟨rh2, σh2, qh2, hf⟩ := ms_cE hf
    refine m_ci (pc' := 45) (a := a0) (ρ := ρ) Bh1 (hp_runV (As := [.int w0_h1]) (rest := []) C Bh1 (m_X12_is n Γ l αh1 a0 ρ σh1 Mh1 w0_h1 (rh2, σh2) qh2) lb_X12_is lv_X12_is lk_X12_309 Mh1.1 rfl (by decide) rfl hl.1 rfl (Nat.le_of_ble_eq_true rfl) dX12_show_42 ⟨Nat.le_refl _, Nat.le_refl _⟩) rfl (fun αh2 Hh2 Lh2 Bh2 Mh2 => ?_)
    refine lv_if_ne (tgt := 50) hx hb dX12_show_45 (by decide) (fun c3 => ?_) (fun c3 => hp_n (n := 48) rfl ?_)
    ·
      replace hf := ms_iF c3 hf
      refine lv_aload_n hx hb dX12_show_50 rfl (lv_at hl 0 rfl) (hp_n (n := 51) rfl ?_)
      refine lv_iload_n hx hb dX12_show_51 rfl (lv_at hl 1 rfl) (hp_n (n := 52) rfl ?_)
      refine lv_iload_n hx hb dX12_show_52 rfl (lv_at hl 2 rfl) (hp_n (n := 53) rfl ?_)
      refine lv_iload_n hx hb dX12_show_53 rfl (lv_at hl 3 rfl) (hp_n (n := 54) rfl ?_)
      obtain ⟨rh4, σh4, qh4, hf⟩ := ms_cE hf
      refine m_ci (pc' := 57) (a := a0) (ρ := ρ) Bh2 (hp_runV (As := [.int v1_h1, .int v2_h1, .int v3_h1]) (rest := []) C Bh2 (m_X12_shows n Γ l αh2 a0 ρ σh2 Mh2 v1_h1 v2_h1 v3_h1 (rh4, σh4) qh4) lb_X12_shows lv_X12_shows lk_X12_306 Mh2.1 rfl (by decide) rfl hl.1 rfl (Nat.le_of_ble_eq_true rfl) dX12_show_54 ⟨Nat.le_refl _, Nat.le_refl _⟩) rfl (fun αh4 Hh4 Lh4 Bh4 Mh4 => ?_)
      cases hf
      exact q_iret C Bh4 hr hlk ⟨rfl, Bh4.2.2, Mh4⟩ dX12_show_57
    ·
      replace hf := ms_iT c3 hf
      refine lv_iconst (v := (-1)) hx hb dX12_show_48 (by decide) (hp_n (n := 49) rfl ?_)
      cases hf
      exact q_iret C Bh2 hr hlk ⟨rfl, Bh2.2.2, Mh2⟩ dX12_show_49
  refine lv_if_ge (tgt := 9) hx hb dX12_show_2 (by decide) (fun c5 => ?_) (fun c5 => hp_n (n := 5) rfl ?_)
  ·
    replace hf := ms_iT c5 hf
    refine lv_iload_n hx hb dX12_show_9 rfl (lv_at hl 1 rfl) (hp_n (n := 10) rfl ?_)
    obtain ⟨rh6, qh6, hf⟩ := ms_bE hf
    refine m_cp (pc' := 13) B (hp_runS (As := [.int a1]) (rest := [.ref a0]) C B (m_X12_isWatcher n Γ l α a1 rh6 qh6) lb_X12_isWatcher ls_X12_isWatcher lk_X12_356 rfl (by decide) rfl hl.1 rfl (Nat.le_of_ble_eq_true rfl) dX12_show_10 ⟨Nat.le_refl _, Nat.le_refl _⟩) rfl (fun Hh6 Lh6 Bh6 => ?_)
    have J24 : ∀ (αh7 : hp_T) (Hh7 : Heap) (Lh7 : List Loc) (Bh7 : hp_B Γ mo s α αh7 Hh7 Lh7) (σh7 : ms_T) (Mh7 : hm_M αh7 a0 ρ σh7) (v1_h7 : Int32) (v2_h7 : Int32) (v3_h7 : Int32) (ls : Array Slot) (hl : lv_has ls 4 [(0, .ref a0), (1, .int v1_h7), (2, .int v2_h7), (3, .int v3_h7)]) (hf : f_X12_show_J24 n σh7 v1_h7 v2_h7 v3_h7 = some res), W p l e (hp_rm 45 0 0) s m ([.ref a0, .int a1, .int a2, .int a3] : List Value).toArray below meth c Hh7 Lh7 0 0 (MQ below (hp_Qi Γ (fun r β => r = res.1 ∧ mo α β ∧ hm_M β a0 ρ res.2)) ([.ref a0, .int a1, .int a2, .int a3] : List Value).toArray s 0 0 (hp_A Γ)) (F0 m 24 ls [.ref a0]) := by
      intro αh7 Hh7 Lh7 Bh7 σh7 Mh7 v1_h7 v2_h7 v3_h7 ls hl hf
      unfold f_X12_show_J24 at hf
      refine lv_iconst (v := 2) hx hb dX12_show_24 (by decide) (hp_n (n := 25) rfl ?_)
      refine lv_goto (tgt := 42) hx hb dX12_show_25 (by decide) ?_
      exact J42 αh7 Hh7 Lh7 Bh7 σh7 Mh7 v1_h7 v2_h7 v3_h7 (2 : Int32) ls (lv_sub hl [0, 1, 2, 3] rfl) hf
    refine lv_if_eq (tgt := 24) hx hb dX12_show_13 (by decide) (fun c8 => ?_) (fun c8 => hp_n (n := 16) rfl ?_)
    ·
      replace hf := ms_iT c8 hf
      exact J24 α Hh6 Lh6 Bh6 σ hM a1 a2 a3 ls (lv_sub hl [0, 1, 2, 3] rfl) hf
    ·
      replace hf := ms_iF c8 hf
      refine lv_aload_n hx hb dX12_show_16 rfl (lv_at hl 0 rfl) (hp_n (n := 17) rfl ?_)
      refine lv_iload_n hx hb dX12_show_17 rfl (lv_at hl 2 rfl) (hp_n (n := 18) rfl ?_)
      obtain ⟨rh9, qh9, hf⟩ := ms_bE hf
      refine m_cp (pc' := 21) Bh6 (hp_runV (As := [.int a2]) (rest := [.ref a0]) C Bh6 (m_X12_isRecord n Γ l α a0 ρ σ hM a2 rh9 qh9) lb_X12_isRecord lv_X12_isRecord lk_X12_344 hM.1 rfl (by decide) rfl hl.1 rfl (Nat.le_of_ble_eq_true rfl) dX12_show_18 ⟨Nat.le_refl _, Nat.le_refl _⟩) rfl (fun Hh9 Lh9 Bh9 => ?_)
      refine lv_if_ne (tgt := 28) hx hb dX12_show_21 (by decide) (fun c10 => ?_) (fun c10 => hp_n (n := 24) rfl ?_)
      ·
        replace hf := ms_iF c10 hf
        refine lv_iload_n hx hb dX12_show_28 rfl (lv_at hl 3 rfl) (hp_n (n := 29) rfl ?_)
        refine lv_aload_n hx hb dX12_show_29 rfl (lv_at hl 0 rfl) (hp_n (n := 30) rfl ?_)
        refine lv_iload_n hx hb dX12_show_30 rfl (lv_at hl 2 rfl) (hp_n (n := 31) rfl ?_)
        obtain ⟨rh11, qh11, hf⟩ := ms_bE hf
        refine m_cp (pc' := 34) Bh9 (hp_runV (As := [.int a2]) (rest := [.int a3, .ref a0]) C Bh9 (m_X12_sizeOf n Γ l α a0 ρ σ hM a2 rh11 qh11) lb_X12_sizeOf lv_X12_sizeOf lk_X12_209 hM.1 rfl (by decide) rfl hl.1 rfl (Nat.le_of_ble_eq_true rfl) dX12_show_31 ⟨Nat.le_refl _, Nat.le_refl _⟩) rfl (fun Hh11 Lh11 Bh11 => ?_)
        refine lv_icmp_le (tgt := 41) hx hb dX12_show_34 (by decide) (fun c12 => ?_) (fun c12 => hp_n (n := 37) rfl ?_)
        ·
          replace hf := ms_iT c12 hf
          refine lv_iconst (v := 0) hx hb dX12_show_41 (by decide) (hp_n (n := 42) rfl ?_)
          exact J42 α Hh11 Lh11 Bh11 σ hM a1 a2 a3 (0 : Int32) ls (lv_sub hl [0, 1, 2, 3] rfl) hf
        ·
          replace hf := ms_iF c12 hf
          refine lv_iconst (v := 5) hx hb dX12_show_37 (by decide) (hp_n (n := 38) rfl ?_)
          refine lv_goto (tgt := 42) hx hb dX12_show_38 (by decide) ?_
          exact J42 α Hh11 Lh11 Bh11 σ hM a1 a2 a3 (5 : Int32) ls (lv_sub hl [0, 1, 2, 3] rfl) hf
      ·
        replace hf := ms_iT c10 hf
        exact J24 α Hh9 Lh9 Bh9 σ hM a1 a2 a3 ls (lv_sub hl [0, 1, 2, 3] rfl) hf
  ·
    replace hf := ms_iF c5 hf
    refine lv_iconst (v := 1) hx hb dX12_show_5 (by decide) (hp_n (n := 6) rfl ?_)
    refine lv_goto (tgt := 42) hx hb dX12_show_6 (by decide) ?_
    exact J42 α s.heap [] B σ hM a1 a2 a3 (1 : Int32) ls (lv_sub hl [0, 1, 2, 3] rfl) hf
def f_X12_meet_J196 (n : Nat) (σh14 : ms_T) (v8_h14 : Int32) : Option (Int32 × ms_T) :=
  ms_g (4 : Int32) 1980 <|
  ms_g (4 : Int32) 1980 <|
  ms_l (ms_sE σh14 40 ((4 : Int32)).toNatClampNeg ((ms_E σh14 40 ((4 : Int32)).toNatClampNeg) + (1 : Int32))) fun σh17 =>
  some (v8_h14, σh17)
def f_X12_meet_J155 (n : Nat) (σh13 : ms_T) (v5_h13 : Int32) (v6_h13 : Int32) (v8_h13 : Int32) : Option (Int32 × ms_T) :=
  if v8_h13 ≤ 0 then
    f_X12_meet_J196 n σh13 v8_h13
  else
    if (5 : Int32) ≤ v8_h13 then
      f_X12_meet_J196 n σh13 v8_h13
    else
      ms_g (((76 : Int32) + ((4 : Int32) * v5_h13)) + (2 : Int32)) 1980 <|
      ms_l (ms_sE σh13 40 ((((76 : Int32) + ((4 : Int32) * v5_h13)) + (2 : Int32))).toNatClampNeg (1 : Int32)) fun σh21 =>
      ms_g (((76 : Int32) + ((4 : Int32) * v6_h13)) + (2 : Int32)) 1980 <|
      ms_l (ms_sE σh21 40 ((((76 : Int32) + ((4 : Int32) * v6_h13)) + (2 : Int32))).toNatClampNeg (1 : Int32)) fun σh23 =>
      f_X12_meet_J196 n σh23 v8_h13
def f_X12_meet_J133 (n : Nat) (σh12 : ms_T) (v5_h12 : Int32) (v6_h12 : Int32) (v7_h12 : Int32) (w0_h12 : Int32) : Option (Int32 × ms_T) :=
  if w0_h12 = 0 then
    ms_b (f_X12_trust n σh12 v6_h12 (1 : Int32)) fun rh25 =>
    ms_b (f_X12_trusts n σh12 v5_h12 v7_h12 rh25) fun σh26 =>
    f_X12_meet_J155 n σh26 v5_h12 v6_h12 w0_h12
  else
    f_X12_meet_J155 n σh12 v5_h12 v6_h12 w0_h12
def f_X12_meet_J80 (n : Nat) (σh9 : ms_T) (v3_h9 : Int32) (v5_h9 : Int32) (w0_h9 : Int32) : Option (Int32 × ms_T) :=
  ms_b (f_X12_trust n σh9 w0_h9 (0 : Int32)) fun rh10 =>
  ms_b (f_X12_sizeOf n σh9 v3_h9) fun rh11 =>
  if rh10 ≤ rh11 then
    ms_b (f_X12_trust n σh9 v5_h9 (0 : Int32)) fun rh28 =>
    ms_b (f_X12_trust n σh9 v5_h9 (1 : Int32)) fun rh29 =>
    ms_b (f_X12_trust n σh9 w0_h9 (1 : Int32)) fun rh30 =>
    ms_c (f_X12_whyByRecord n σh9 v3_h9 rh28 rh29 rh10 rh30) fun rh31 σh31 =>
    f_X12_meet_J133 n σh31 v5_h9 w0_h9 rh10 rh31
  else
    f_X12_meet_J133 n σh9 v5_h9 w0_h9 rh10 (5 : Int32)
def f_X12_meet_J68 (n : Nat) (σh8 : ms_T) (v1_h8 : Int32) (v2_h8 : Int32) (v3_h8 : Int32) (v4_h8 : Int32) (w0_h8 : Int32) : Option (Int32 × ms_T) :=
  if v4_h8 = 0 then
    f_X12_meet_J80 n σh8 v3_h8 w0_h8 v1_h8
  else
    f_X12_meet_J80 n σh8 v3_h8 w0_h8 v2_h8
def f_X12_meet_J56 (n : Nat) (σh7 : ms_T) (v1_h7 : Int32) (v2_h7 : Int32) (v3_h7 : Int32) (w0_h7 : Int32) : Option (Int32 × ms_T) :=
  if w0_h7 = 0 then
    f_X12_meet_J68 n σh7 v1_h7 v2_h7 v3_h7 w0_h7 v2_h7
  else
    f_X12_meet_J68 n σh7 v1_h7 v2_h7 v3_h7 w0_h7 v1_h7
def f_X12_meet_J28 (n : Nat) (σh2 : ms_T) (v1_h2 : Int32) (v2_h2 : Int32) (v3_h2 : Int32) (w0_h2 : Int32) : Option (Int32 × ms_T) :=
  ms_c (f_X12_is n σh2 w0_h2) fun rh3 σh3 =>
  if rh3 = 0 then
    some ((-1 : Int32), σh3)
  else
    ms_b (f_X12_trust n σh3 v1_h2 (0 : Int32)) fun rh5 =>
    ms_b (f_X12_trust n σh3 v2_h2 (0 : Int32)) fun rh6 =>
    if rh6 < rh5 then
      f_X12_meet_J56 n σh3 v1_h2 v2_h2 v3_h2 (0 : Int32)
    else
      f_X12_meet_J56 n σh3 v1_h2 v2_h2 v3_h2 (1 : Int32)
def f_X12_meet_J27 (n : Nat) (σh35 : ms_T) (v1_h35 : Int32) (v2_h35 : Int32) (v3_h35 : Int32) : Option (Int32 × ms_T) :=
  f_X12_meet_J28 n σh35 v1_h35 v2_h35 v3_h35 (2 : Int32)
def f_X12_meet (n : Nat) (σ : ms_T) (a1 : Int32) (a2 : Int32) (a3 : Int32) : Option (Int32 × ms_T) :=
  ms_b (f_X12_isWatcher n a1) fun rh1 =>
  if rh1 = 0 then
    f_X12_meet_J27 n σ a1 a2 a3
  else
    ms_b (f_X12_isWatcher n a2) fun rh37 =>
    if rh37 = 0 then
      f_X12_meet_J27 n σ a1 a2 a3
    else
      ms_b (f_X12_isRecord n σ a3) fun rh39 =>
      if rh39 = 0 then
        f_X12_meet_J27 n σ a1 a2 a3
      else
        f_X12_meet_J28 n σ a1 a2 a3 (0 : Int32)
set_option maxRecDepth 100000 in
set_option maxHeartbeats 4000000 in
theorem m_X12_meet (n : Nat) (Γ : hp_G) (l : Launch) (α : hp_T) (a0 : Nat) (ρ : Nat → Nat) (σ : ms_T) (hM : hm_M α a0 ρ σ) (a1 : Int32) (a2 : Int32) (a3 : Int32) (res : (Int32 × ms_T)) (hf : f_X12_meet n σ a1 a2 a3 = some res) : Met l yX12_meet (hp_ws yX12_meet cX12_meet 9 (some .int)) (hp_rm 44 0 0) (hp_Pc Γ α [.ref a0, .int a1, .int a2, .int a3]) (hp_Qi Γ (fun r β => r = res.1 ∧ mo α β ∧ hm_M β a0 ρ res.2)) 0 0 (hp_A Γ) := by
  unfold f_X12_meet at hf
  refine hp_start (by decide) ?_
  intro p e s m below meth c C hr hlk B0 hnm
  have C : hp_C Γ p m c cX12_meet 9 s ([.ref a0, .int a1, .int a2, .int a3] : List Value).toArray RX12 := C
  have hx := C.1.1
  have hb := C.1.2.1
  have hown := C.1.2.2.2.1
  have hts := C.1.2.2.2.2
  have B : hp_B Γ mo s α α s.heap [] := ⟨B0.1, B0.2.1, mo_rf⟩
  have hl := lv_entry ([.ref a0, .int a1, .int a2, .int a3]) (n := 9) (Nat.le_of_ble_eq_true rfl)
  show W p l e (hp_rm 44 0 0) s m ([.ref a0, .int a1, .int a2, .int a3] : List Value).toArray below meth c s.heap [] 0 0 (MQ below (hp_Qi Γ (fun r β => r = res.1 ∧ mo α β ∧ hm_M β a0 ρ res.2)) ([.ref a0, .int a1, .int a2, .int a3] : List Value).toArray s 0 0 (hp_A Γ)) (entryFrame m ([.ref a0, .int a1, .int a2, .int a3] : List Value).toArray 9)
  rw [lg_entry_eq]
  generalize (lg_sl ([.ref a0, .int a1, .int a2, .int a3]) ++ List.replicate (9 - (lg_sl ([.ref a0, .int a1, .int a2, .int a3])).length) Slot.unset).toArray = ls at hl ⊢
  have hl : lv_has ls 9 [(0, .ref a0), (1, .int a1), (2, .int a2), (3, .int a3)] := hl
  refine lv_aload_n hx hb dX12_meet_0 rfl (lv_at hl 0 rfl) (hp_n (n := 1) rfl ?_)
  refine lv_iload_n hx hb dX12_meet_1 rfl (lv_at hl 1 rfl) (hp_n (n := 2) rfl ?_)
  obtain ⟨rh1, qh1, hf⟩ := ms_bE hf
  refine m_cp (pc' := 5) B (hp_runS (As := [.int a1]) (rest := [.ref a0]) C B (m_X12_isWatcher n Γ l α a1 rh1 qh1) lb_X12_isWatcher ls_X12_isWatcher lk_X12_356 rfl (by decide) rfl hl.1 rfl (Nat.le_of_ble_eq_true rfl) dX12_meet_2 ⟨Nat.le_refl _, Nat.le_refl _⟩) rfl (fun Hh1 Lh1 Bh1 => ?_)
  have J28 : ∀ (αh2 : hp_T) (Hh2 : Heap) (Lh2 : List Loc) (Bh2 : hp_B Γ mo s α αh2 Hh2 Lh2) (σh2 : ms_T) (Mh2 : hm_M αh2 a0 ρ σh2) (v1_h2 : Int32) (v2_h2 : Int32) (v3_h2 : Int32) (w0_h2 : Int32) (ls : Array Slot) (hl : lv_has ls 9 [(0, .ref a0), (1, .int v1_h2), (2, .int v2_h2), (3, .int v3_h2)]) (hf : f_X12_meet_J28 n σh2 v1_h2 v2_h2 v3_h2 w0_h2 = some res), W p l e (hp_rm 44 0 0) s m ([.ref a0, .int a1, .int a2, .int a3] : List Value).toArray below meth c Hh2 Lh2 0 0 (MQ below (hp_Qi Γ (fun r β => r = res.1 ∧ mo α β ∧ hm_M β a0 ρ res.2)) ([.ref a0, .int a1, .int a2, .int a3] : List Value).toArray s 0 0 (hp_A Γ)) (F0 m 28 ls [.int w0_h2, .ref a0]) := by
    intro αh2 Hh2 Lh2 Bh2 σh2 Mh2 v1_h2 v2_h2 v3_h2 w0_h2 ls hl hf
    unfold f_X12_meet_J28 at hf
    obtain ⟨rh3, σh3, qh3, hf⟩ := ms_cE hf
    refine m_ci (pc' := 31) (a := a0) (ρ := ρ) Bh2 (hp_runV (As := [.int w0_h2]) (rest := []) C Bh2 (m_X12_is n Γ l αh2 a0 ρ σh2 Mh2 w0_h2 (rh3, σh3) qh3) lb_X12_is lv_X12_is lk_X12_309 Mh2.1 rfl (by decide) rfl hl.1 rfl (Nat.le_of_ble_eq_true rfl) dX12_meet_28 ⟨Nat.le_refl _, Nat.le_refl _⟩) rfl (fun αh3 Hh3 Lh3 Bh3 Mh3 => ?_)
    refine lv_if_ne (tgt := 36) hx hb dX12_meet_31 (by decide) (fun c4 => ?_) (fun c4 => hp_n (n := 34) rfl ?_)
    ·
      replace hf := ms_iF c4 hf
      refine lv_aload_n hx hb dX12_meet_36 rfl (lv_at hl 0 rfl) (hp_n (n := 37) rfl ?_)
      refine lv_iload_n hx hb dX12_meet_37 rfl (lv_at hl 1 rfl) (hp_n (n := 38) rfl ?_)
      refine lv_iconst (v := 0) hx hb dX12_meet_38 (by decide) (hp_n (n := 39) rfl ?_)
      obtain ⟨rh5, qh5, hf⟩ := ms_bE hf
      refine m_cp (pc' := 42) Bh3 (hp_runV (As := [.int v1_h2, .int (0 : Int32)]) (rest := []) C Bh3 (m_X12_trust n Γ l αh3 a0 ρ σh3 Mh3 v1_h2 (0 : Int32) rh5 qh5) lb_X12_trust lv_X12_trust lk_X12_221 Mh3.1 rfl (by decide) rfl hl.1 rfl (Nat.le_of_ble_eq_true rfl) dX12_meet_39 ⟨Nat.le_refl _, Nat.le_refl _⟩) rfl (fun Hh5 Lh5 Bh5 => ?_)
      refine lv_aload_n hx hb dX12_meet_42 rfl (lv_at hl 0 rfl) (hp_n (n := 43) rfl ?_)
      refine lv_iload_n hx hb dX12_meet_43 rfl (lv_at hl 2 rfl) (hp_n (n := 44) rfl ?_)
      refine lv_iconst (v := 0) hx hb dX12_meet_44 (by decide) (hp_n (n := 45) rfl ?_)
      obtain ⟨rh6, qh6, hf⟩ := ms_bE hf
      refine m_cp (pc' := 48) Bh5 (hp_runV (As := [.int v2_h2, .int (0 : Int32)]) (rest := [.int rh5]) C Bh5 (m_X12_trust n Γ l αh3 a0 ρ σh3 Mh3 v2_h2 (0 : Int32) rh6 qh6) lb_X12_trust lv_X12_trust lk_X12_221 Mh3.1 rfl (by decide) rfl hl.1 rfl (Nat.le_of_ble_eq_true rfl) dX12_meet_45 ⟨Nat.le_refl _, Nat.le_refl _⟩) rfl (fun Hh6 Lh6 Bh6 => ?_)
      have J56 : ∀ (αh7 : hp_T) (Hh7 : Heap) (Lh7 : List Loc) (Bh7 : hp_B Γ mo s α αh7 Hh7 Lh7) (σh7 : ms_T) (Mh7 : hm_M αh7 a0 ρ σh7) (v1_h7 : Int32) (v2_h7 : Int32) (v3_h7 : Int32) (w0_h7 : Int32) (ls : Array Slot) (hl : lv_has ls 9 [(0, .ref a0), (1, .int v1_h7), (2, .int v2_h7), (3, .int v3_h7)]) (hf : f_X12_meet_J56 n σh7 v1_h7 v2_h7 v3_h7 w0_h7 = some res), W p l e (hp_rm 44 0 0) s m ([.ref a0, .int a1, .int a2, .int a3] : List Value).toArray below meth c Hh7 Lh7 0 0 (MQ below (hp_Qi Γ (fun r β => r = res.1 ∧ mo α β ∧ hm_M β a0 ρ res.2)) ([.ref a0, .int a1, .int a2, .int a3] : List Value).toArray s 0 0 (hp_A Γ)) (F0 m 56 ls [.int w0_h7]) := by
        intro αh7 Hh7 Lh7 Bh7 σh7 Mh7 v1_h7 v2_h7 v3_h7 w0_h7 ls hl hf
        unfold f_X12_meet_J56 at hf
        refine lv_istore (lv' := [(4, .int w0_h7), (0, .ref a0), (1, .int v1_h7), (2, .int v2_h7), (3, .int v3_h7)]) hx hb dX12_meet_56 hl (by decide) rfl (fun ls hl => hp_n (n := 58) rfl ?_)
        refine lv_iload hx hb dX12_meet_58 (lv_at hl 0 rfl) (hp_n (n := 60) rfl ?_)
        have J68 : ∀ (αh8 : hp_T) (Hh8 : Heap) (Lh8 : List Loc) (Bh8 : hp_B Γ mo s α αh8 Hh8 Lh8) (σh8 : ms_T) (Mh8 : hm_M αh8 a0 ρ σh8) (v1_h8 : Int32) (v2_h8 : Int32) (v3_h8 : Int32) (v4_h8 : Int32) (w0_h8 : Int32) (ls : Array Slot) (hl : lv_has ls 9 [(0, .ref a0), (1, .int v1_h8), (2, .int v2_h8), (3, .int v3_h8), (4, .int v4_h8)]) (hf : f_X12_meet_J68 n σh8 v1_h8 v2_h8 v3_h8 v4_h8 w0_h8 = some res), W p l e (hp_rm 44 0 0) s m ([.ref a0, .int a1, .int a2, .int a3] : List Value).toArray below meth c Hh8 Lh8 0 0 (MQ below (hp_Qi Γ (fun r β => r = res.1 ∧ mo α β ∧ hm_M β a0 ρ res.2)) ([.ref a0, .int a1, .int a2, .int a3] : List Value).toArray s 0 0 (hp_A Γ)) (F0 m 68 ls [.int w0_h8]) := by
          intro αh8 Hh8 Lh8 Bh8 σh8 Mh8 v1_h8 v2_h8 v3_h8 v4_h8 w0_h8 ls hl hf
          unfold f_X12_meet_J68 at hf
          refine lv_istore (lv' := [(5, .int w0_h8), (0, .ref a0), (1, .int v1_h8), (2, .int v2_h8), (3, .int v3_h8), (4, .int v4_h8)]) hx hb dX12_meet_68 hl (by decide) rfl (fun ls hl => hp_n (n := 70) rfl ?_)
          refine lv_iload hx hb dX12_meet_70 (lv_at hl 5 rfl) (hp_n (n := 72) rfl ?_)
          have J80 : ∀ (αh9 : hp_T) (Hh9 : Heap) (Lh9 : List Loc) (Bh9 : hp_B Γ mo s α αh9 Hh9 Lh9) (σh9 : ms_T) (Mh9 : hm_M αh9 a0 ρ σh9) (v3_h9 : Int32) (v5_h9 : Int32) (w0_h9 : Int32) (ls : Array Slot) (hl : lv_has ls 9 [(0, .ref a0), (3, .int v3_h9), (5, .int v5_h9)]) (hf : f_X12_meet_J80 n σh9 v3_h9 v5_h9 w0_h9 = some res), W p l e (hp_rm 44 0 0) s m ([.ref a0, .int a1, .int a2, .int a3] : List Value).toArray below meth c Hh9 Lh9 0 0 (MQ below (hp_Qi Γ (fun r β => r = res.1 ∧ mo α β ∧ hm_M β a0 ρ res.2)) ([.ref a0, .int a1, .int a2, .int a3] : List Value).toArray s 0 0 (hp_A Γ)) (F0 m 80 ls [.int w0_h9]) := by
            intro αh9 Hh9 Lh9 Bh9 σh9 Mh9 v3_h9 v5_h9 w0_h9 ls hl hf
            unfold f_X12_meet_J80 at hf
            refine lv_istore (lv' := [(6, .int w0_h9), (0, .ref a0), (3, .int v3_h9), (5, .int v5_h9)]) hx hb dX12_meet_80 hl (by decide) rfl (fun ls hl => hp_n (n := 82) rfl ?_)
            refine lv_aload_n hx hb dX12_meet_82 rfl (lv_at hl 1 rfl) (hp_n (n := 83) rfl ?_)
            refine lv_iload hx hb dX12_meet_83 (lv_at hl 0 rfl) (hp_n (n := 85) rfl ?_)
            refine lv_iconst (v := 0) hx hb dX12_meet_85 (by decide) (hp_n (n := 86) rfl ?_)
            obtain ⟨rh10, qh10, hf⟩ := ms_bE hf
            refine m_cp (pc' := 89) Bh9 (hp_runV (As := [.int w0_h9, .int (0 : Int32)]) (rest := []) C Bh9 (m_X12_trust n Γ l αh9 a0 ρ σh9 Mh9 w0_h9 (0 : Int32) rh10 qh10) lb_X12_trust lv_X12_trust lk_X12_221 Mh9.1 rfl (by decide) rfl hl.1 rfl (Nat.le_of_ble_eq_true rfl) dX12_meet_86 ⟨Nat.le_refl _, Nat.le_refl _⟩) rfl (fun Hh10 Lh10 Bh10 => ?_)
            refine lv_istore (lv' := [(7, .int rh10), (6, .int w0_h9), (0, .ref a0), (3, .int v3_h9), (5, .int v5_h9)]) hx hb dX12_meet_89 hl (by decide) rfl (fun ls hl => hp_n (n := 91) rfl ?_)
            refine lv_iload hx hb dX12_meet_91 (lv_at hl 0 rfl) (hp_n (n := 93) rfl ?_)
            refine lv_aload_n hx hb dX12_meet_93 rfl (lv_at hl 2 rfl) (hp_n (n := 94) rfl ?_)
            refine lv_iload_n hx hb dX12_meet_94 rfl (lv_at hl 3 rfl) (hp_n (n := 95) rfl ?_)
            obtain ⟨rh11, qh11, hf⟩ := ms_bE hf
            refine m_cp (pc' := 98) Bh10 (hp_runV (As := [.int v3_h9]) (rest := [.int rh10]) C Bh10 (m_X12_sizeOf n Γ l αh9 a0 ρ σh9 Mh9 v3_h9 rh11 qh11) lb_X12_sizeOf lv_X12_sizeOf lk_X12_209 Mh9.1 rfl (by decide) rfl hl.1 rfl (Nat.le_of_ble_eq_true rfl) dX12_meet_95 ⟨Nat.le_refl _, Nat.le_refl _⟩) rfl (fun Hh11 Lh11 Bh11 => ?_)
            have J133 : ∀ (αh12 : hp_T) (Hh12 : Heap) (Lh12 : List Loc) (Bh12 : hp_B Γ mo s α αh12 Hh12 Lh12) (σh12 : ms_T) (Mh12 : hm_M αh12 a0 ρ σh12) (v5_h12 : Int32) (v6_h12 : Int32) (v7_h12 : Int32) (w0_h12 : Int32) (ls : Array Slot) (hl : lv_has ls 9 [(0, .ref a0), (5, .int v5_h12), (6, .int v6_h12), (7, .int v7_h12)]) (hf : f_X12_meet_J133 n σh12 v5_h12 v6_h12 v7_h12 w0_h12 = some res), W p l e (hp_rm 44 0 0) s m ([.ref a0, .int a1, .int a2, .int a3] : List Value).toArray below meth c Hh12 Lh12 0 0 (MQ below (hp_Qi Γ (fun r β => r = res.1 ∧ mo α β ∧ hm_M β a0 ρ res.2)) ([.ref a0, .int a1, .int a2, .int a3] : List Value).toArray s 0 0 (hp_A Γ)) (F0 m 133 ls [.int w0_h12]) := by
              intro αh12 Hh12 Lh12 Bh12 σh12 Mh12 v5_h12 v6_h12 v7_h12 w0_h12 ls hl hf
              unfold f_X12_meet_J133 at hf
              refine lv_istore (lv' := [(8, .int w0_h12), (0, .ref a0), (5, .int v5_h12), (6, .int v6_h12), (7, .int v7_h12)]) hx hb dX12_meet_133 hl (by decide) rfl (fun ls hl => hp_n (n := 135) rfl ?_)
              refine lv_iload hx hb dX12_meet_135 (lv_at hl 0 rfl) (hp_n (n := 137) rfl ?_)
              have J155 : ∀ (αh13 : hp_T) (Hh13 : Heap) (Lh13 : List Loc) (Bh13 : hp_B Γ mo s α αh13 Hh13 Lh13) (σh13 : ms_T) (Mh13 : hm_M αh13 a0 ρ σh13) (v5_h13 : Int32) (v6_h13 : Int32) (v8_h13 : Int32) (ls : Array Slot) (hl : lv_has ls 9 [(0, .ref a0), (5, .int v5_h13), (6, .int v6_h13), (8, .int v8_h13)]) (hf : f_X12_meet_J155 n σh13 v5_h13 v6_h13 v8_h13 = some res), W p l e (hp_rm 44 0 0) s m ([.ref a0, .int a1, .int a2, .int a3] : List Value).toArray below meth c Hh13 Lh13 0 0 (MQ below (hp_Qi Γ (fun r β => r = res.1 ∧ mo α β ∧ hm_M β a0 ρ res.2)) ([.ref a0, .int a1, .int a2, .int a3] : List Value).toArray s 0 0 (hp_A Γ)) (F0 m 155 ls []) := by
                intro αh13 Hh13 Lh13 Bh13 σh13 Mh13 v5_h13 v6_h13 v8_h13 ls hl hf
                unfold f_X12_meet_J155 at hf
                refine lv_iload hx hb dX12_meet_155 (lv_at hl 3 rfl) (hp_n (n := 157) rfl ?_)
                have J196 : ∀ (αh14 : hp_T) (Hh14 : Heap) (Lh14 : List Loc) (Bh14 : hp_B Γ mo s α αh14 Hh14 Lh14) (σh14 : ms_T) (Mh14 : hm_M αh14 a0 ρ σh14) (v8_h14 : Int32) (ls : Array Slot) (hl : lv_has ls 9 [(0, .ref a0), (8, .int v8_h14)]) (hf : f_X12_meet_J196 n σh14 v8_h14 = some res), W p l e (hp_rm 44 0 0) s m ([.ref a0, .int a1, .int a2, .int a3] : List Value).toArray below meth c Hh14 Lh14 0 0 (MQ below (hp_Qi Γ (fun r β => r = res.1 ∧ mo α β ∧ hm_M β a0 ρ res.2)) ([.ref a0, .int a1, .int a2, .int a3] : List Value).toArray s 0 0 (hp_A Γ)) (F0 m 196 ls []) := by
                  intro αh14 Hh14 Lh14 Bh14 σh14 Mh14 v8_h14 ls hl hf
                  unfold f_X12_meet_J196 at hf
                  refine lv_aload_n hx hb dX12_meet_196 rfl (lv_at hl 0 rfl) (hp_n (n := 197) rfl ?_)
                  refine m_getr (κ := 40) (k := 0) (pc' := 200) C Bh14 Mh14 fl_X12_7 rfl (by decide) dX12_meet_197 rfl ?_
                  refine lv_iconst (v := 4) hx hb dX12_meet_200 (by decide) (hp_n (n := 201) rfl ?_)
                  refine lv_dup2_11 hx hb dX12_meet_201 rfl rfl (hp_n (n := 202) rfl ?_)
                  obtain ⟨g15, hf⟩ := ms_gE hf
                  refine m_ial (κ := 40) (φ := 650) (n := 1980) (pc' := 203) C Bh14 Mh14 (by decide) (by decide) rfl g15 dX12_meet_202 rfl ?_
                  refine lv_iconst (v := 1) hx hb dX12_meet_203 (by decide) (hp_n (n := 204) rfl ?_)
                  refine lv_iadd hx hb dX12_meet_204 (hp_n (n := 205) rfl ?_)
                  obtain ⟨g16, hf⟩ := ms_gE hf
                  refine m_ias (κ := 40) (φ := 650) (n := 1980) (pc' := 206) C Bh14 Mh14 (by decide) (by decide) rfl g16 dX12_meet_205 rfl (fun αh17 Hh17 Lh17 σh17 eh17 Bh17 Mh17 => ?_)
                  replace hf := ms_lE eh17 hf
                  refine lv_iload hx hb dX12_meet_206 (lv_at hl 1 rfl) (hp_n (n := 208) rfl ?_)
                  cases hf
                  exact q_iret C Bh17 hr hlk ⟨rfl, Bh17.2.2, Mh17⟩ dX12_meet_208
                refine lv_if_le (tgt := 196) hx hb dX12_meet_157 (by decide) (fun c18 => ?_) (fun c18 => hp_n (n := 160) rfl ?_)
                ·
                  replace hf := ms_iT c18 hf
                  exact J196 αh13 Hh13 Lh13 Bh13 σh13 Mh13 v8_h13 ls (lv_sub hl [0, 3] rfl) hf
                ·
                  replace hf := ms_iF c18 hf
                  refine lv_iload hx hb dX12_meet_160 (lv_at hl 3 rfl) (hp_n (n := 162) rfl ?_)
                  refine lv_iconst (v := 5) hx hb dX12_meet_162 (by decide) (hp_n (n := 163) rfl ?_)
                  refine lv_icmp_ge (tgt := 196) hx hb dX12_meet_163 (by decide) (fun c19 => ?_) (fun c19 => hp_n (n := 166) rfl ?_)
                  ·
                    replace hf := ms_iT c19 hf
                    exact J196 αh13 Hh13 Lh13 Bh13 σh13 Mh13 v8_h13 ls (lv_sub hl [0, 3] rfl) hf
                  ·
                    replace hf := ms_iF c19 hf
                    refine lv_aload_n hx hb dX12_meet_166 rfl (lv_at hl 0 rfl) (hp_n (n := 167) rfl ?_)
                    refine m_getr (κ := 40) (k := 0) (pc' := 170) C Bh13 Mh13 fl_X12_7 rfl (by decide) dX12_meet_167 rfl ?_
                    refine lv_bipush (v := 76) hx hb dX12_meet_170 (by decide) (hp_n (n := 172) rfl ?_)
                    refine lv_iconst (v := 4) hx hb dX12_meet_172 (by decide) (hp_n (n := 173) rfl ?_)
                    refine lv_iload hx hb dX12_meet_173 (lv_at hl 1 rfl) (hp_n (n := 175) rfl ?_)
                    refine lv_imul hx hb dX12_meet_175 (hp_n (n := 176) rfl ?_)
                    refine lv_iadd hx hb dX12_meet_176 (hp_n (n := 177) rfl ?_)
                    refine lv_iconst (v := 2) hx hb dX12_meet_177 (by decide) (hp_n (n := 178) rfl ?_)
                    refine lv_iadd hx hb dX12_meet_178 (hp_n (n := 179) rfl ?_)
                    refine lv_iconst (v := 1) hx hb dX12_meet_179 (by decide) (hp_n (n := 180) rfl ?_)
                    obtain ⟨g20, hf⟩ := ms_gE hf
                    refine m_ias (κ := 40) (φ := 650) (n := 1980) (pc' := 181) C Bh13 Mh13 (by decide) (by decide) rfl g20 dX12_meet_180 rfl (fun αh21 Hh21 Lh21 σh21 eh21 Bh21 Mh21 => ?_)
                    replace hf := ms_lE eh21 hf
                    refine lv_aload_n hx hb dX12_meet_181 rfl (lv_at hl 0 rfl) (hp_n (n := 182) rfl ?_)
                    refine m_getr (κ := 40) (k := 0) (pc' := 185) C Bh21 Mh21 fl_X12_7 rfl (by decide) dX12_meet_182 rfl ?_
                    refine lv_bipush (v := 76) hx hb dX12_meet_185 (by decide) (hp_n (n := 187) rfl ?_)
                    refine lv_iconst (v := 4) hx hb dX12_meet_187 (by decide) (hp_n (n := 188) rfl ?_)
                    refine lv_iload hx hb dX12_meet_188 (lv_at hl 2 rfl) (hp_n (n := 190) rfl ?_)
                    refine lv_imul hx hb dX12_meet_190 (hp_n (n := 191) rfl ?_)
                    refine lv_iadd hx hb dX12_meet_191 (hp_n (n := 192) rfl ?_)
                    refine lv_iconst (v := 2) hx hb dX12_meet_192 (by decide) (hp_n (n := 193) rfl ?_)
                    refine lv_iadd hx hb dX12_meet_193 (hp_n (n := 194) rfl ?_)
                    refine lv_iconst (v := 1) hx hb dX12_meet_194 (by decide) (hp_n (n := 195) rfl ?_)
                    obtain ⟨g22, hf⟩ := ms_gE hf
                    refine m_ias (κ := 40) (φ := 650) (n := 1980) (pc' := 196) C Bh21 Mh21 (by decide) (by decide) rfl g22 dX12_meet_195 rfl (fun αh23 Hh23 Lh23 σh23 eh23 Bh23 Mh23 => ?_)
                    replace hf := ms_lE eh23 hf
                    exact J196 αh23 Hh23 Lh23 Bh23 σh23 Mh23 v8_h13 ls (lv_sub hl [0, 3] rfl) hf
              refine lv_if_ne (tgt := 155) hx hb dX12_meet_137 (by decide) (fun c24 => ?_) (fun c24 => hp_n (n := 140) rfl ?_)
              ·
                replace hf := ms_iF c24 hf
                exact J155 αh12 Hh12 Lh12 Bh12 σh12 Mh12 v5_h12 v6_h12 w0_h12 ls (lv_sub hl [1, 2, 3, 0] rfl) hf
              ·
                replace hf := ms_iT c24 hf
                refine lv_aload_n hx hb dX12_meet_140 rfl (lv_at hl 1 rfl) (hp_n (n := 141) rfl ?_)
                refine lv_iload hx hb dX12_meet_141 (lv_at hl 2 rfl) (hp_n (n := 143) rfl ?_)
                refine lv_iload hx hb dX12_meet_143 (lv_at hl 4 rfl) (hp_n (n := 145) rfl ?_)
                refine lv_aload_n hx hb dX12_meet_145 rfl (lv_at hl 1 rfl) (hp_n (n := 146) rfl ?_)
                refine lv_iload hx hb dX12_meet_146 (lv_at hl 3 rfl) (hp_n (n := 148) rfl ?_)
                refine lv_iconst (v := 1) hx hb dX12_meet_148 (by decide) (hp_n (n := 149) rfl ?_)
                obtain ⟨rh25, qh25, hf⟩ := ms_bE hf
                refine m_cp (pc' := 152) Bh12 (hp_runV (As := [.int v6_h12, .int (1 : Int32)]) (rest := [.int v7_h12, .int v5_h12, .ref a0]) C Bh12 (m_X12_trust n Γ l αh12 a0 ρ σh12 Mh12 v6_h12 (1 : Int32) rh25 qh25) lb_X12_trust lv_X12_trust lk_X12_221 Mh12.1 rfl (by decide) rfl hl.1 rfl (Nat.le_of_ble_eq_true rfl) dX12_meet_149 ⟨Nat.le_refl _, Nat.le_refl _⟩) rfl (fun Hh25 Lh25 Bh25 => ?_)
                obtain ⟨σh26, qh26, hf⟩ := ms_bE hf
                refine m_cv (pc' := 155) (a := a0) (ρ := ρ) Bh25 (hp_runV (As := [.int v5_h12, .int v7_h12, .int rh25]) (rest := []) C Bh25 (m_X12_trusts n Γ l αh12 a0 ρ σh12 Mh12 v5_h12 v7_h12 rh25 σh26 qh26) lb_X12_trusts lv_X12_trusts lk_X12_227 Mh12.1 rfl (by decide) rfl hl.1 rfl (Nat.le_of_ble_eq_true rfl) dX12_meet_152 ⟨Nat.le_refl _, Nat.le_refl _⟩) rfl (fun αh26 Hh26 Lh26 Bh26 Mh26 => ?_)
                exact J155 αh26 Hh26 Lh26 Bh26 σh26 Mh26 v5_h12 v6_h12 w0_h12 ls (lv_sub hl [1, 2, 3, 0] rfl) hf
            refine lv_icmp_le (tgt := 105) hx hb dX12_meet_98 (by decide) (fun c27 => ?_) (fun c27 => hp_n (n := 101) rfl ?_)
            ·
              replace hf := ms_iT c27 hf
              refine lv_aload_n hx hb dX12_meet_105 rfl (lv_at hl 2 rfl) (hp_n (n := 106) rfl ?_)
              refine lv_iload_n hx hb dX12_meet_106 rfl (lv_at hl 3 rfl) (hp_n (n := 107) rfl ?_)
              refine lv_aload_n hx hb dX12_meet_107 rfl (lv_at hl 2 rfl) (hp_n (n := 108) rfl ?_)
              refine lv_iload hx hb dX12_meet_108 (lv_at hl 4 rfl) (hp_n (n := 110) rfl ?_)
              refine lv_iconst (v := 0) hx hb dX12_meet_110 (by decide) (hp_n (n := 111) rfl ?_)
              obtain ⟨rh28, qh28, hf⟩ := ms_bE hf
              refine m_cp (pc' := 114) Bh11 (hp_runV (As := [.int v5_h9, .int (0 : Int32)]) (rest := [.int v3_h9, .ref a0]) C Bh11 (m_X12_trust n Γ l αh9 a0 ρ σh9 Mh9 v5_h9 (0 : Int32) rh28 qh28) lb_X12_trust lv_X12_trust lk_X12_221 Mh9.1 rfl (by decide) rfl hl.1 rfl (Nat.le_of_ble_eq_true rfl) dX12_meet_111 ⟨Nat.le_refl _, Nat.le_refl _⟩) rfl (fun Hh28 Lh28 Bh28 => ?_)
              refine lv_aload_n hx hb dX12_meet_114 rfl (lv_at hl 2 rfl) (hp_n (n := 115) rfl ?_)
              refine lv_iload hx hb dX12_meet_115 (lv_at hl 4 rfl) (hp_n (n := 117) rfl ?_)
              refine lv_iconst (v := 1) hx hb dX12_meet_117 (by decide) (hp_n (n := 118) rfl ?_)
              obtain ⟨rh29, qh29, hf⟩ := ms_bE hf
              refine m_cp (pc' := 121) Bh28 (hp_runV (As := [.int v5_h9, .int (1 : Int32)]) (rest := [.int rh28, .int v3_h9, .ref a0]) C Bh28 (m_X12_trust n Γ l αh9 a0 ρ σh9 Mh9 v5_h9 (1 : Int32) rh29 qh29) lb_X12_trust lv_X12_trust lk_X12_221 Mh9.1 rfl (by decide) rfl hl.1 rfl (Nat.le_of_ble_eq_true rfl) dX12_meet_118 ⟨Nat.le_refl _, Nat.le_refl _⟩) rfl (fun Hh29 Lh29 Bh29 => ?_)
              refine lv_iload hx hb dX12_meet_121 (lv_at hl 0 rfl) (hp_n (n := 123) rfl ?_)
              refine lv_aload_n hx hb dX12_meet_123 rfl (lv_at hl 2 rfl) (hp_n (n := 124) rfl ?_)
              refine lv_iload hx hb dX12_meet_124 (lv_at hl 1 rfl) (hp_n (n := 126) rfl ?_)
              refine lv_iconst (v := 1) hx hb dX12_meet_126 (by decide) (hp_n (n := 127) rfl ?_)
              obtain ⟨rh30, qh30, hf⟩ := ms_bE hf
              refine m_cp (pc' := 130) Bh29 (hp_runV (As := [.int w0_h9, .int (1 : Int32)]) (rest := [.int rh10, .int rh29, .int rh28, .int v3_h9, .ref a0]) C Bh29 (m_X12_trust n Γ l αh9 a0 ρ σh9 Mh9 w0_h9 (1 : Int32) rh30 qh30) lb_X12_trust lv_X12_trust lk_X12_221 Mh9.1 rfl (by decide) rfl hl.1 rfl (Nat.le_of_ble_eq_true rfl) dX12_meet_127 ⟨Nat.le_refl _, Nat.le_refl _⟩) rfl (fun Hh30 Lh30 Bh30 => ?_)
              obtain ⟨rh31, σh31, qh31, hf⟩ := ms_cE hf
              refine m_ci (pc' := 133) (a := a0) (ρ := ρ) Bh30 (hp_runV (As := [.int v3_h9, .int rh28, .int rh29, .int rh10, .int rh30]) (rest := []) C Bh30 (m_X12_whyByRecord n Γ l αh9 a0 ρ σh9 Mh9 v3_h9 rh28 rh29 rh10 rh30 (rh31, σh31) qh31) lb_X12_whyByRecord lv_X12_whyByRecord lk_X12_224 Mh9.1 rfl (by decide) rfl hl.1 rfl (Nat.le_of_ble_eq_true rfl) dX12_meet_130 ⟨Nat.le_refl _, Nat.le_refl _⟩) rfl (fun αh31 Hh31 Lh31 Bh31 Mh31 => ?_)
              exact J133 αh31 Hh31 Lh31 Bh31 σh31 Mh31 v5_h9 w0_h9 rh10 rh31 ls (lv_sub hl [2, 4, 1, 0] rfl) hf
            ·
              replace hf := ms_iF c27 hf
              refine lv_iconst (v := 5) hx hb dX12_meet_101 (by decide) (hp_n (n := 102) rfl ?_)
              refine lv_goto (tgt := 133) hx hb dX12_meet_102 (by decide) ?_
              exact J133 αh9 Hh11 Lh11 Bh11 σh9 Mh9 v5_h9 w0_h9 rh10 (5 : Int32) ls (lv_sub hl [2, 4, 1, 0] rfl) hf
          refine lv_if_eq (tgt := 79) hx hb dX12_meet_72 (by decide) (fun c32 => ?_) (fun c32 => hp_n (n := 75) rfl ?_)
          ·
            replace hf := ms_iT c32 hf
            refine lv_iload_n hx hb dX12_meet_79 rfl (lv_at hl 2 rfl) (hp_n (n := 80) rfl ?_)
            exact J80 αh8 Hh8 Lh8 Bh8 σh8 Mh8 v3_h8 w0_h8 v1_h8 ls (lv_sub hl [1, 4, 0] rfl) hf
          ·
            replace hf := ms_iF c32 hf
            refine lv_iload_n hx hb dX12_meet_75 rfl (lv_at hl 3 rfl) (hp_n (n := 76) rfl ?_)
            refine lv_goto (tgt := 80) hx hb dX12_meet_76 (by decide) ?_
            exact J80 αh8 Hh8 Lh8 Bh8 σh8 Mh8 v3_h8 w0_h8 v2_h8 ls (lv_sub hl [1, 4, 0] rfl) hf
        refine lv_if_eq (tgt := 67) hx hb dX12_meet_60 (by decide) (fun c33 => ?_) (fun c33 => hp_n (n := 63) rfl ?_)
        ·
          replace hf := ms_iT c33 hf
          refine lv_iload_n hx hb dX12_meet_67 rfl (lv_at hl 3 rfl) (hp_n (n := 68) rfl ?_)
          exact J68 αh7 Hh7 Lh7 Bh7 σh7 Mh7 v1_h7 v2_h7 v3_h7 w0_h7 v2_h7 ls (lv_sub hl [1, 2, 3, 4, 0] rfl) hf
        ·
          replace hf := ms_iF c33 hf
          refine lv_iload_n hx hb dX12_meet_63 rfl (lv_at hl 2 rfl) (hp_n (n := 64) rfl ?_)
          refine lv_goto (tgt := 68) hx hb dX12_meet_64 (by decide) ?_
          exact J68 αh7 Hh7 Lh7 Bh7 σh7 Mh7 v1_h7 v2_h7 v3_h7 w0_h7 v1_h7 ls (lv_sub hl [1, 2, 3, 4, 0] rfl) hf
      refine lv_icmp_gt (tgt := 55) hx hb dX12_meet_48 (by decide) (fun c34 => ?_) (fun c34 => hp_n (n := 51) rfl ?_)
      ·
        replace hf := ms_iT c34 hf
        refine lv_iconst (v := 0) hx hb dX12_meet_55 (by decide) (hp_n (n := 56) rfl ?_)
        exact J56 αh3 Hh6 Lh6 Bh6 σh3 Mh3 v1_h2 v2_h2 v3_h2 (0 : Int32) ls (lv_sub hl [0, 1, 2, 3] rfl) hf
      ·
        replace hf := ms_iF c34 hf
        refine lv_iconst (v := 1) hx hb dX12_meet_51 (by decide) (hp_n (n := 52) rfl ?_)
        refine lv_goto (tgt := 56) hx hb dX12_meet_52 (by decide) ?_
        exact J56 αh3 Hh6 Lh6 Bh6 σh3 Mh3 v1_h2 v2_h2 v3_h2 (1 : Int32) ls (lv_sub hl [0, 1, 2, 3] rfl) hf
    ·
      replace hf := ms_iT c4 hf
      refine lv_iconst (v := (-1)) hx hb dX12_meet_34 (by decide) (hp_n (n := 35) rfl ?_)
      cases hf
      exact q_iret C Bh3 hr hlk ⟨rfl, Bh3.2.2, Mh3⟩ dX12_meet_35
  have J27 : ∀ (αh35 : hp_T) (Hh35 : Heap) (Lh35 : List Loc) (Bh35 : hp_B Γ mo s α αh35 Hh35 Lh35) (σh35 : ms_T) (Mh35 : hm_M αh35 a0 ρ σh35) (v1_h35 : Int32) (v2_h35 : Int32) (v3_h35 : Int32) (ls : Array Slot) (hl : lv_has ls 9 [(0, .ref a0), (1, .int v1_h35), (2, .int v2_h35), (3, .int v3_h35)]) (hf : f_X12_meet_J27 n σh35 v1_h35 v2_h35 v3_h35 = some res), W p l e (hp_rm 44 0 0) s m ([.ref a0, .int a1, .int a2, .int a3] : List Value).toArray below meth c Hh35 Lh35 0 0 (MQ below (hp_Qi Γ (fun r β => r = res.1 ∧ mo α β ∧ hm_M β a0 ρ res.2)) ([.ref a0, .int a1, .int a2, .int a3] : List Value).toArray s 0 0 (hp_A Γ)) (F0 m 27 ls [.ref a0]) := by
    intro αh35 Hh35 Lh35 Bh35 σh35 Mh35 v1_h35 v2_h35 v3_h35 ls hl hf
    unfold f_X12_meet_J27 at hf
    refine lv_iconst (v := 2) hx hb dX12_meet_27 (by decide) (hp_n (n := 28) rfl ?_)
    exact J28 αh35 Hh35 Lh35 Bh35 σh35 Mh35 v1_h35 v2_h35 v3_h35 (2 : Int32) ls (lv_sub hl [0, 1, 2, 3] rfl) hf
  refine lv_if_eq (tgt := 27) hx hb dX12_meet_5 (by decide) (fun c36 => ?_) (fun c36 => hp_n (n := 8) rfl ?_)
  ·
    replace hf := ms_iT c36 hf
    exact J27 α Hh1 Lh1 Bh1 σ hM a1 a2 a3 ls (lv_sub hl [0, 1, 2, 3] rfl) hf
  ·
    replace hf := ms_iF c36 hf
    refine lv_iload_n hx hb dX12_meet_8 rfl (lv_at hl 2 rfl) (hp_n (n := 9) rfl ?_)
    obtain ⟨rh37, qh37, hf⟩ := ms_bE hf
    refine m_cp (pc' := 12) Bh1 (hp_runS (As := [.int a2]) (rest := [.ref a0]) C Bh1 (m_X12_isWatcher n Γ l α a2 rh37 qh37) lb_X12_isWatcher ls_X12_isWatcher lk_X12_356 rfl (by decide) rfl hl.1 rfl (Nat.le_of_ble_eq_true rfl) dX12_meet_9 ⟨Nat.le_refl _, Nat.le_refl _⟩) rfl (fun Hh37 Lh37 Bh37 => ?_)
    refine lv_if_eq (tgt := 27) hx hb dX12_meet_12 (by decide) (fun c38 => ?_) (fun c38 => hp_n (n := 15) rfl ?_)
    ·
      replace hf := ms_iT c38 hf
      exact J27 α Hh37 Lh37 Bh37 σ hM a1 a2 a3 ls (lv_sub hl [0, 1, 2, 3] rfl) hf
    ·
      replace hf := ms_iF c38 hf
      refine lv_aload_n hx hb dX12_meet_15 rfl (lv_at hl 0 rfl) (hp_n (n := 16) rfl ?_)
      refine lv_iload_n hx hb dX12_meet_16 rfl (lv_at hl 3 rfl) (hp_n (n := 17) rfl ?_)
      obtain ⟨rh39, qh39, hf⟩ := ms_bE hf
      refine m_cp (pc' := 20) Bh37 (hp_runV (As := [.int a3]) (rest := [.ref a0]) C Bh37 (m_X12_isRecord n Γ l α a0 ρ σ hM a3 rh39 qh39) lb_X12_isRecord lv_X12_isRecord lk_X12_344 hM.1 rfl (by decide) rfl hl.1 rfl (Nat.le_of_ble_eq_true rfl) dX12_meet_17 ⟨Nat.le_refl _, Nat.le_refl _⟩) rfl (fun Hh39 Lh39 Bh39 => ?_)
      refine lv_if_eq (tgt := 27) hx hb dX12_meet_20 (by decide) (fun c40 => ?_) (fun c40 => hp_n (n := 23) rfl ?_)
      ·
        replace hf := ms_iT c40 hf
        exact J27 α Hh39 Lh39 Bh39 σ hM a1 a2 a3 ls (lv_sub hl [0, 1, 2, 3] rfl) hf
      ·
        replace hf := ms_iF c40 hf
        refine lv_iconst (v := 0) hx hb dX12_meet_23 (by decide) (hp_n (n := 24) rfl ?_)
        refine lv_goto (tgt := 28) hx hb dX12_meet_24 (by decide) ?_
        exact J28 α Hh39 Lh39 Bh39 σ hM a1 a2 a3 (0 : Int32) ls (lv_sub hl [0, 1, 2, 3] rfl) hf
