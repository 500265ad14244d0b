def f_X12_tells (n : Nat) (σ : ms_T) (a1 : Int32) : Option ms_T :=
  ms_g (ms_I σ 697) 900 <|
  ms_l (ms_sE σ 59 ((ms_I σ 697)).toNatClampNeg a1) fun σh2 =>
  ms_l (ms_sI σh2 697 ((ms_I σh2 697) + (1 : Int32))) fun σh3 =>
  some σh3
set_option maxRecDepth 100000 in
set_option maxHeartbeats 4000000 in
theorem m_X12_tells (n : Nat) (Γ : hp_G) (l : Launch) (α : hp_T) (a0 : Nat) (ρ : Nat → Nat) (σ : ms_T) (hM : hm_M α a0 ρ σ) (a1 : Int32) (res : ms_T) (hf : f_X12_tells n σ a1 = some res) : Met l yX12_tells (hp_ws yX12_tells cX12_tells 2 none) (hp_rm 0 0 0) (hp_Pc Γ α [.ref a0, .int a1]) (hp_Qv Γ (fun β => mo α β ∧ hm_M β a0 ρ res)) 0 0 (hp_A Γ) := by
  unfold f_X12_tells at hf
  refine hp_start (by decide) ?_
  intro p e s m below meth c C hr hlk B0 hnm
  have C : hp_C Γ p m c cX12_tells 2 s ([.ref a0, .int a1] : List Value).toArray RX12 := C
  have hx := C.1.1
  have hb := C.1.2.1
  have hown := C.1.2.2.2.1
  have hts := C.1.2.2.2.2
  have B : hp_B Γ mo s α α s.heap [] := ⟨B0.1, B0.2.1, mo_rf⟩
  have hl := lv_entry ([.ref a0, .int a1]) (n := 2) (Nat.le_of_ble_eq_true rfl)
  show W p l e (hp_rm 0 0 0) s m ([.ref a0, .int a1] : List Value).toArray below meth c s.heap [] 0 0 (MQ below (hp_Qv Γ (fun β => mo α β ∧ hm_M β a0 ρ res)) ([.ref a0, .int a1] : List Value).toArray s 0 0 (hp_A Γ)) (entryFrame m ([.ref a0, .int a1] : List Value).toArray 2)
  rw [lg_entry_eq]
  generalize (lg_sl ([.ref a0, .int a1]) ++ List.replicate (2 - (lg_sl ([.ref a0, .int a1])).length) Slot.unset).toArray = ls at hl ⊢
  have hl : lv_has ls 2 [(0, .ref a0), (1, .int a1)] := hl
  refine lv_aload_n hx hb dX12_tells_0 rfl (lv_at hl 0 rfl) (hp_n (n := 1) rfl ?_)
  refine m_getr (κ := 59) (k := 46) (pc' := 4) C B hM fl_X12_100 rfl (by decide) dX12_tells_1 rfl ?_
  refine lv_aload_n hx hb dX12_tells_4 rfl (lv_at hl 0 rfl) (hp_n (n := 5) rfl ?_)
  refine m_geti (k := 47) (φ := 697) (pc' := 8) C B hM fl_X12_432 rfl rfl dX12_tells_5 rfl ?_
  refine lv_iload_n hx hb dX12_tells_8 rfl (lv_at hl 1 rfl) (hp_n (n := 9) rfl ?_)
  obtain ⟨g1, hf⟩ := ms_gE hf
  refine m_ias (κ := 59) (φ := 696) (n := 900) (pc' := 10) C B hM (by decide) (by decide) rfl g1 dX12_tells_9 rfl (fun αh2 Hh2 Lh2 σh2 eh2 Bh2 Mh2 => ?_)
  replace hf := ms_lE eh2 hf
  refine lv_aload_n hx hb dX12_tells_10 rfl (lv_at hl 0 rfl) (hp_n (n := 11) rfl ?_)
  refine lv_dup hx hb dX12_tells_11 rfl (hp_n (n := 12) rfl ?_)
  refine m_geti (k := 47) (φ := 697) (pc' := 15) C Bh2 Mh2 fl_X12_432 rfl rfl dX12_tells_12 rfl ?_
  refine lv_iconst (v := 1) hx hb dX12_tells_15 (by decide) (hp_n (n := 16) rfl ?_)
  refine lv_iadd hx hb dX12_tells_16 (hp_n (n := 17) rfl ?_)
  refine m_puti (k := 47) (φ := 697) (pc' := 20) C Bh2 Mh2 fl_X12_432 rfl rfl rfl rfl rfl dX12_tells_17 rfl (fun αh3 Hh3 Lh3 σh3 eh3 Bh3 Mh3 => ?_)
  replace hf := ms_lE eh3 hf
  cases hf
  exact q_vret C Bh3 hr hlk ⟨Bh3.2.2, Mh3⟩ dX12_tells_20
def f_X12_tellsNumber_L18 (n : Nat) : Nat → ms_T → Int32 → Int32 → Option ms_T
  | 0, _, _, _ => none
  | k18 + 1, σh3, v1_h3, v2_h3 =>
    if v2_h3 ≤ 0 then
      some σh3
    else
      ms_n v2_h3 <|
      ms_b (f_X12_tells n σh3 ((48 : Int32) + ((v1_h3 / v2_h3) - (v1_h3 / v2_h3) / (10 : Int32) * (10 : Int32)))) fun σh6 =>
      ms_l ((v2_h3 / (10 : Int32))) fun x7 =>
      (f_X12_tellsNumber_L18 n k18) σh6 v1_h3 x7
def f_X12_tellsNumber_L2 (n : Nat) : Nat → ms_T → Int32 → Int32 → Option ms_T
  | 0, _, _, _ => none
  | k2 + 1, σh1, v1_h1, v2_h1 =>
    ms_n v2_h1 <|
    if (v1_h1 / v2_h1) ≤ (9 : Int32) then
      f_X12_tellsNumber_L18 n n σh1 v1_h1 v2_h1
    else
      ms_l ((v2_h1 * (10 : Int32))) fun x9 =>
      (f_X12_tellsNumber_L2 n k2) σh1 v1_h1 x9
def f_X12_tellsNumber (n : Nat) (σ : ms_T) (a1 : Int32) : Option ms_T :=
  f_X12_tellsNumber_L2 n n σ a1 (1 : Int32)
set_option maxRecDepth 100000 in
set_option maxHeartbeats 4000000 in
theorem m_X12_tellsNumber (n : Nat) (Γ : hp_G) (l : Launch) (α : hp_T) (a0 : Nat) (ρ : Nat → Nat) (σ : ms_T) (hM : hm_M α a0 ρ σ) (a1 : Int32) (res : ms_T) (hf : f_X12_tellsNumber n σ a1 = some res) : Met l yX12_tellsNumber (hp_ws yX12_tellsNumber cX12_tellsNumber 3 none) (hp_rm 1 0 0) (hp_Pc Γ α [.ref a0, .int a1]) (hp_Qv Γ (fun β => mo α β ∧ hm_M β a0 ρ res)) 0 0 (hp_A Γ) := by
  unfold f_X12_tellsNumber at hf
  refine hp_start (by decide) ?_
  intro p e s m below meth c C hr hlk B0 hnm
  have C : hp_C Γ p m c cX12_tellsNumber 3 s ([.ref a0, .int a1] : List Value).toArray RX12 := C
  have hx := C.1.1
  have hb := C.1.2.1
  have hown := C.1.2.2.2.1
  have hts := C.1.2.2.2.2
  have B : hp_B Γ mo s α α s.heap [] := ⟨B0.1, B0.2.1, mo_rf⟩
  have hl := lv_entry ([.ref a0, .int a1]) (n := 3) (Nat.le_of_ble_eq_true rfl)
  show W p l e (hp_rm 1 0 0) s m ([.ref a0, .int a1] : List Value).toArray below meth c s.heap [] 0 0 (MQ below (hp_Qv Γ (fun β => mo α β ∧ hm_M β a0 ρ res)) ([.ref a0, .int a1] : List Value).toArray s 0 0 (hp_A Γ)) (entryFrame m ([.ref a0, .int a1] : List Value).toArray 3)
  rw [lg_entry_eq]
  generalize (lg_sl ([.ref a0, .int a1]) ++ List.replicate (3 - (lg_sl ([.ref a0, .int a1])).length) Slot.unset).toArray = ls at hl ⊢
  have hl : lv_has ls 3 [(0, .ref a0), (1, .int a1)] := hl
  refine lv_iconst (v := 1) hx hb dX12_tellsNumber_0 (by decide) (hp_n (n := 1) rfl ?_)
  have J2 : ∀ (k2 : Nat) (αh1 : hp_T) (Hh1 : Heap) (Lh1 : List Loc) (Bh1 : hp_B Γ mo s α αh1 Hh1 Lh1) (σh1 : ms_T) (Mh1 : hm_M αh1 a0 ρ σh1) (v1_h1 : Int32) (v2_h1 : Int32) (ls : Array Slot) (hl : lv_has ls 3 [(0, .ref a0), (1, .int v1_h1), (2, .int v2_h1)]) (hf : f_X12_tellsNumber_L2 n k2 σh1 v1_h1 v2_h1 = some res), W p l e (hp_rm 1 0 0) s m ([.ref a0, .int a1] : List Value).toArray below meth c Hh1 Lh1 0 0 (MQ below (hp_Qv Γ (fun β => mo α β ∧ hm_M β a0 ρ res)) ([.ref a0, .int a1] : List Value).toArray s 0 0 (hp_A Γ)) (F0 m 2 ls []) := by
    intro k2
    induction k2 with
    | zero => intro αh1 Hh1 Lh1 Bh1 σh1 Mh1 v1_h1 v2_h1 ls hl hf; rw [f_X12_tellsNumber_L2.eq_1] at hf; cases hf
    | succ k2 ih2 =>
      intro αh1 Hh1 Lh1 Bh1 σh1 Mh1 v1_h1 v2_h1 ls hl hf
      rw [f_X12_tellsNumber_L2.eq_2] at hf
      refine lv_iload_n hx hb dX12_tellsNumber_2 rfl (lv_at hl 1 rfl) (hp_n (n := 3) rfl ?_)
      refine lv_iload_n hx hb dX12_tellsNumber_3 rfl (lv_at hl 2 rfl) (hp_n (n := 4) rfl ?_)
      obtain ⟨g2, hf⟩ := ms_nE hf
      refine lv_idiv hx hb dX12_tellsNumber_4 g2 (hp_n (n := 5) rfl ?_)
      refine lv_bipush (v := 9) hx hb dX12_tellsNumber_5 (by decide) (hp_n (n := 7) rfl ?_)
      have J18 : ∀ (k18 : Nat) (αh3 : hp_T) (Hh3 : Heap) (Lh3 : List Loc) (Bh3 : hp_B Γ mo s α αh3 Hh3 Lh3) (σh3 : ms_T) (Mh3 : hm_M αh3 a0 ρ σh3) (v1_h3 : Int32) (v2_h3 : Int32) (ls : Array Slot) (hl : lv_has ls 3 [(0, .ref a0), (1, .int v1_h3), (2, .int v2_h3)]) (hf : f_X12_tellsNumber_L18 n k18 σh3 v1_h3 v2_h3 = some res), W p l e (hp_rm 1 0 0) s m ([.ref a0, .int a1] : List Value).toArray below meth c Hh3 Lh3 0 0 (MQ below (hp_Qv Γ (fun β => mo α β ∧ hm_M β a0 ρ res)) ([.ref a0, .int a1] : List Value).toArray s 0 0 (hp_A Γ)) (F0 m 18 ls []) := by
        intro k18
        induction k18 with
        | zero => intro αh3 Hh3 Lh3 Bh3 σh3 Mh3 v1_h3 v2_h3 ls hl hf; rw [f_X12_tellsNumber_L18.eq_1] at hf; cases hf
        | succ k18 ih18 =>
          intro αh3 Hh3 Lh3 Bh3 σh3 Mh3 v1_h3 v2_h3 ls hl hf
          rw [f_X12_tellsNumber_L18.eq_2] at hf
          refine lv_iload_n hx hb dX12_tellsNumber_18 rfl (lv_at hl 2 rfl) (hp_n (n := 19) rfl ?_)
          refine lv_if_le (tgt := 43) hx hb dX12_tellsNumber_19 (by decide) (fun c4 => ?_) (fun c4 => hp_n (n := 22) rfl ?_)
          ·
            replace hf := ms_iT c4 hf
            cases hf
            exact q_vret C Bh3 hr hlk ⟨Bh3.2.2, Mh3⟩ dX12_tellsNumber_43
          ·
            replace hf := ms_iF c4 hf
            refine lv_aload_n hx hb dX12_tellsNumber_22 rfl (lv_at hl 0 rfl) (hp_n (n := 23) rfl ?_)
            refine lv_bipush (v := 48) hx hb dX12_tellsNumber_23 (by decide) (hp_n (n := 25) rfl ?_)
            refine lv_iload_n hx hb dX12_tellsNumber_25 rfl (lv_at hl 1 rfl) (hp_n (n := 26) rfl ?_)
            refine lv_iload_n hx hb dX12_tellsNumber_26 rfl (lv_at hl 2 rfl) (hp_n (n := 27) rfl ?_)
            obtain ⟨g5, hf⟩ := ms_nE hf
            refine lv_idiv hx hb dX12_tellsNumber_27 g5 (hp_n (n := 28) rfl ?_)
            refine lv_bipush (v := 10) hx hb dX12_tellsNumber_28 (by decide) (hp_n (n := 30) rfl ?_)
            refine lv_irem hx hb dX12_tellsNumber_30 (by decide) (hp_n (n := 31) rfl ?_)
            refine lv_iadd hx hb dX12_tellsNumber_31 (hp_n (n := 32) rfl ?_)
            obtain ⟨σh6, qh6, hf⟩ := ms_bE hf
            refine m_cv (pc' := 35) (a := a0) (ρ := ρ) Bh3 (hp_runV (As := [.int ((48 : Int32) + ((v1_h3 / v2_h3) - (v1_h3 / v2_h3) / (10 : Int32) * (10 : Int32)))]) (rest := []) C Bh3 (m_X12_tells n Γ l αh3 a0 ρ σh3 Mh3 ((48 : Int32) + ((v1_h3 / v2_h3) - (v1_h3 / v2_h3) / (10 : Int32) * (10 : Int32))) σh6 qh6) lb_X12_tells lv_X12_tells lk_X12_429 Mh3.1 rfl (by decide) rfl hl.1 rfl (Nat.le_of_ble_eq_true rfl) dX12_tellsNumber_32 ⟨Nat.le_refl _, Nat.le_refl _⟩) rfl (fun αh6 Hh6 Lh6 Bh6 Mh6 => ?_)
            refine lv_iload_n hx hb dX12_tellsNumber_35 rfl (lv_at hl 2 rfl) (hp_n (n := 36) rfl ?_)
            refine lv_bipush (v := 10) hx hb dX12_tellsNumber_36 (by decide) (hp_n (n := 38) rfl ?_)
            refine lv_idiv hx hb dX12_tellsNumber_38 (by decide) (hp_n (n := 39) rfl ?_)
            refine lv_topi (fun x7 ex7 => ?_)
            replace hf := ms_lE ex7 hf
            refine lv_istore_n (lv' := [(2, .int x7), (0, .ref a0), (1, .int v1_h3)]) hx hb dX12_tellsNumber_39 rfl hl (by decide) rfl (fun ls hl => hp_n (n := 40) rfl ?_)
            refine lv_goto (tgt := 18) hx hb dX12_tellsNumber_40 (by decide) ?_
            exact ih18 αh6 Hh6 Lh6 Bh6 σh6 Mh6 v1_h3 x7 ls (lv_sub hl [1, 2, 0] rfl) hf
      refine lv_icmp_le (tgt := 18) hx hb dX12_tellsNumber_7 (by decide) (fun c8 => ?_) (fun c8 => hp_n (n := 10) rfl ?_)
      ·
        replace hf := ms_iT c8 hf
        exact J18 n αh1 Hh1 Lh1 Bh1 σh1 Mh1 v1_h1 v2_h1 ls (lv_sub hl [0, 1, 2] rfl) hf
      ·
        replace hf := ms_iF c8 hf
        refine lv_iload_n hx hb dX12_tellsNumber_10 rfl (lv_at hl 2 rfl) (hp_n (n := 11) rfl ?_)
        refine lv_bipush (v := 10) hx hb dX12_tellsNumber_11 (by decide) (hp_n (n := 13) rfl ?_)
        refine lv_imul hx hb dX12_tellsNumber_13 (hp_n (n := 14) rfl ?_)
        refine lv_topi (fun x9 ex9 => ?_)
        replace hf := ms_lE ex9 hf
        refine lv_istore_n (lv' := [(2, .int x9), (0, .ref a0), (1, .int v1_h1)]) hx hb dX12_tellsNumber_14 rfl hl (by decide) rfl (fun ls hl => hp_n (n := 15) rfl ?_)
        refine lv_goto (tgt := 2) hx hb dX12_tellsNumber_15 (by decide) ?_
        exact ih2 αh1 Hh1 Lh1 Bh1 σh1 Mh1 v1_h1 x9 ls (lv_sub hl [1, 2, 0] rfl) hf
  refine lv_istore_n (lv' := [(2, .int (1 : Int32)), (0, .ref a0), (1, .int a1)]) hx hb dX12_tellsNumber_1 rfl hl (by decide) rfl (fun ls hl => hp_n (n := 2) rfl ?_)
  exact J2 n α s.heap [] B σ hM a1 (1 : Int32) ls (lv_sub hl [1, 2, 0] rfl) hf
def f_X12_says_L15 (n : Nat) (i1 : Nat) : Nat → ms_T → Int32 → Int32 → Option ms_T
  | 0, _, _, _ => none
  | k15 + 1, σh2, v2_h2, v3_h2 =>
    if (hp_len i1) ≤ v3_h2 then
      ms_b (f_X12_tells n σh2 (32 : Int32)) fun σh5 =>
      ms_b (f_X12_tellsNumber n σh5 v2_h2) fun σh6 =>
      some σh6
    else
      ms_q v3_h2 (hp_len i1) <|
      ms_b (f_X12_tells n σh2 (hp_ch i1 (v3_h2).toNatClampNeg)) fun σh9 =>
      ms_l (v3_h2 + 1) fun x10 =>
      (f_X12_says_L15 n i1 k15) σh9 v2_h2 x10
def f_X12_says_J13 (n : Nat) (i1 : Nat) (σh1 : ms_T) (v2_h1 : Int32) : Option ms_T :=
  f_X12_says_L15 n i1 n σh1 v2_h1 (0 : Int32)
def f_X12_says (n : Nat) (σ : ms_T) (i1 : Nat) (a2 : Int32) : Option ms_T :=
  if (ms_I σ 697) ≤ 0 then
    f_X12_says_J13 n i1 σ a2
  else
    ms_b (f_X12_tells n σ (32 : Int32)) fun σh12 =>
    f_X12_says_J13 n i1 σh12 a2
set_option maxRecDepth 100000 in
set_option maxHeartbeats 4000000 in
theorem m_X12_says (n : Nat) (Γ : hp_G) (l : Launch) (α : hp_T) (a0 : Nat) (ρ : Nat → Nat) (σ : ms_T) (hM : hm_M α a0 ρ σ) (i1 : Nat) (h1 : i1 < 21) (a2 : Int32) (res : ms_T) (hf : f_X12_says n σ i1 a2 = some res) : Met l yX12_says (hp_ws yX12_says cX12_says 4 none) (hp_rm 4 0 0) (hp_Pc Γ α [.ref a0, .ref (Γ.2.2.2.2.1 i1), .int a2]) (hp_Qv Γ (fun β => mo α β ∧ hm_M β a0 ρ res)) 0 0 (hp_A Γ) := by
  unfold f_X12_says at hf
  refine hp_start (by decide) ?_
  intro p e s m below meth c C hr hlk B0 hnm
  have C : hp_C Γ p m c cX12_says 4 s ([.ref a0, .ref (Γ.2.2.2.2.1 i1), .int a2] : List Value).toArray RX12 := C
  have hx := C.1.1
  have hb := C.1.2.1
  have hown := C.1.2.2.2.1
  have hts := C.1.2.2.2.2
  have B : hp_B Γ mo s α α s.heap [] := ⟨B0.1, B0.2.1, mo_rf⟩
  have hl := lv_entry ([.ref a0, .ref (Γ.2.2.2.2.1 i1), .int a2]) (n := 4) (Nat.le_of_ble_eq_true rfl)
  show W p l e (hp_rm 4 0 0) s m ([.ref a0, .ref (Γ.2.2.2.2.1 i1), .int a2] : List Value).toArray below meth c s.heap [] 0 0 (MQ below (hp_Qv Γ (fun β => mo α β ∧ hm_M β a0 ρ res)) ([.ref a0, .ref (Γ.2.2.2.2.1 i1), .int a2] : List Value).toArray s 0 0 (hp_A Γ)) (entryFrame m ([.ref a0, .ref (Γ.2.2.2.2.1 i1), .int a2] : List Value).toArray 4)
  rw [lg_entry_eq]
  generalize (lg_sl ([.ref a0, .ref (Γ.2.2.2.2.1 i1), .int a2]) ++ List.replicate (4 - (lg_sl ([.ref a0, .ref (Γ.2.2.2.2.1 i1), .int a2])).length) Slot.unset).toArray = ls at hl ⊢
  have hl : lv_has ls 4 [(0, .ref a0), (1, .ref (Γ.2.2.2.2.1 i1)), (2, .int a2)] := hl
  refine lv_aload_n hx hb dX12_says_0 rfl (lv_at hl 0 rfl) (hp_n (n := 1) rfl ?_)
  refine m_geti (k := 47) (φ := 697) (pc' := 4) C B hM fl_X12_432 rfl rfl dX12_says_1 rfl ?_
  have J13 : ∀ (αh1 : hp_T) (Hh1 : Heap) (Lh1 : List Loc) (Bh1 : hp_B Γ mo s α αh1 Hh1 Lh1) (σh1 : ms_T) (Mh1 : hm_M αh1 a0 ρ σh1) (v2_h1 : Int32) (ls : Array Slot) (hl : lv_has ls 4 [(0, .ref a0), (1, .ref (Γ.2.2.2.2.1 i1)), (2, .int v2_h1)]) (hf : f_X12_says_J13 n i1 σh1 v2_h1 = some res), W p l e (hp_rm 4 0 0) s m ([.ref a0, .ref (Γ.2.2.2.2.1 i1), .int a2] : List Value).toArray below meth c Hh1 Lh1 0 0 (MQ below (hp_Qv Γ (fun β => mo α β ∧ hm_M β a0 ρ res)) ([.ref a0, .ref (Γ.2.2.2.2.1 i1), .int a2] : List Value).toArray s 0 0 (hp_A Γ)) (F0 m 13 ls []) := by
    intro αh1 Hh1 Lh1 Bh1 σh1 Mh1 v2_h1 ls hl hf
    unfold f_X12_says_J13 at hf
    refine lv_iconst (v := 0) hx hb dX12_says_13 (by decide) (hp_n (n := 14) rfl ?_)
    have J15 : ∀ (k15 : Nat) (αh2 : hp_T) (Hh2 : Heap) (Lh2 : List Loc) (Bh2 : hp_B Γ mo s α αh2 Hh2 Lh2) (σh2 : ms_T) (Mh2 : hm_M αh2 a0 ρ σh2) (v2_h2 : Int32) (v3_h2 : Int32) (ls : Array Slot) (hl : lv_has ls 4 [(0, .ref a0), (1, .ref (Γ.2.2.2.2.1 i1)), (2, .int v2_h2), (3, .int v3_h2)]) (hf : f_X12_says_L15 n i1 k15 σh2 v2_h2 v3_h2 = some res), W p l e (hp_rm 4 0 0) s m ([.ref a0, .ref (Γ.2.2.2.2.1 i1), .int a2] : List Value).toArray below meth c Hh2 Lh2 0 0 (MQ below (hp_Qv Γ (fun β => mo α β ∧ hm_M β a0 ρ res)) ([.ref a0, .ref (Γ.2.2.2.2.1 i1), .int a2] : List Value).toArray s 0 0 (hp_A Γ)) (F0 m 15 ls []) := by
      intro k15
      induction k15 with
      | zero => intro αh2 Hh2 Lh2 Bh2 σh2 Mh2 v2_h2 v3_h2 ls hl hf; rw [f_X12_says_L15.eq_1] at hf; cases hf
      | succ k15 ih15 =>
        intro αh2 Hh2 Lh2 Bh2 σh2 Mh2 v2_h2 v3_h2 ls hl hf
        rw [f_X12_says_L15.eq_2] at hf
        refine lv_iload_n hx hb dX12_says_15 rfl (lv_at hl 3 rfl) (hp_n (n := 16) rfl ?_)
        refine lv_aload_n hx hb dX12_says_16 rfl (lv_at hl 1 rfl) (hp_n (n := 17) rfl ?_)
        refine m_cp (pc' := 20) Bh2 (hp_runT (i := i1) (As := []) (rest := [.int v3_h2]) C B0.1 Bh2 h1 (t_J0_length_8abf5 Γ l αh2 i1 h1) lb_J0_length_8abf5 li_J0_length_8abf5 sx_J0_length_8abf5 rfl lk_X12_435 rfl (by decide) rfl hl.1 rfl (Nat.le_of_ble_eq_true rfl) dX12_says_17 ⟨Nat.le_refl _, Nat.le_refl _⟩) rfl (fun Hh3 Lh3 Bh3 => ?_)
        refine lv_icmp_ge (tgt := 38) hx hb dX12_says_20 (by decide) (fun c4 => ?_) (fun c4 => hp_n (n := 23) rfl ?_)
        ·
          replace hf := ms_iT c4 hf
          refine lv_aload_n hx hb dX12_says_38 rfl (lv_at hl 0 rfl) (hp_n (n := 39) rfl ?_)
          refine lv_bipush (v := 32) hx hb dX12_says_39 (by decide) (hp_n (n := 41) rfl ?_)
          obtain ⟨σh5, qh5, hf⟩ := ms_bE hf
          refine m_cv (pc' := 44) (a := a0) (ρ := ρ) Bh3 (hp_runV (As := [.int (32 : Int32)]) (rest := []) C Bh3 (m_X12_tells n Γ l αh2 a0 ρ σh2 Mh2 (32 : Int32) σh5 qh5) lb_X12_tells lv_X12_tells lk_X12_429 Mh2.1 rfl (by decide) rfl hl.1 rfl (Nat.le_of_ble_eq_true rfl) dX12_says_41 ⟨Nat.le_refl _, Nat.le_refl _⟩) rfl (fun αh5 Hh5 Lh5 Bh5 Mh5 => ?_)
          refine lv_aload_n hx hb dX12_says_44 rfl (lv_at hl 0 rfl) (hp_n (n := 45) rfl ?_)
          refine lv_iload_n hx hb dX12_says_45 rfl (lv_at hl 2 rfl) (hp_n (n := 46) rfl ?_)
          obtain ⟨σh6, qh6, hf⟩ := ms_bE hf
          refine m_cv (pc' := 49) (a := a0) (ρ := ρ) Bh5 (hp_runV (As := [.int v2_h2]) (rest := []) C Bh5 (m_X12_tellsNumber n Γ l αh5 a0 ρ σh5 Mh5 v2_h2 σh6 qh6) lb_X12_tellsNumber lv_X12_tellsNumber lk_X12_444 Mh5.1 rfl (by decide) rfl hl.1 rfl (Nat.le_of_ble_eq_true rfl) dX12_says_46 ⟨Nat.le_refl _, Nat.le_refl _⟩) rfl (fun αh6 Hh6 Lh6 Bh6 Mh6 => ?_)
          cases hf
          exact q_vret C Bh6 hr hlk ⟨Bh6.2.2, Mh6⟩ dX12_says_49
        ·
          replace hf := ms_iF c4 hf
          refine lv_aload_n hx hb dX12_says_23 rfl (lv_at hl 0 rfl) (hp_n (n := 24) rfl ?_)
          refine lv_aload_n hx hb dX12_says_24 rfl (lv_at hl 1 rfl) (hp_n (n := 25) rfl ?_)
          refine lv_iload_n hx hb dX12_says_25 rfl (lv_at hl 3 rfl) (hp_n (n := 26) rfl ?_)
          obtain ⟨g8, hf⟩ := ms_qE hf
          refine m_cp (pc' := 29) Bh3 (hp_runT (i := i1) (As := [.int v3_h2]) (rest := [.ref a0]) C B0.1 Bh3 h1 (t_J0_charAt_5068e Γ l αh2 i1 h1 v3_h2 g8.1 g8.2) lb_J0_charAt_5068e li_J0_charAt_5068e sx_J0_charAt_5068e rfl lk_X12_440 rfl (by decide) rfl hl.1 rfl (Nat.le_of_ble_eq_true rfl) dX12_says_26 ⟨Nat.le_refl _, Nat.le_refl _⟩) rfl (fun Hh7 Lh7 Bh7 => ?_)
          obtain ⟨σh9, qh9, hf⟩ := ms_bE hf
          refine m_cv (pc' := 32) (a := a0) (ρ := ρ) Bh7 (hp_runV (As := [.int (hp_ch i1 (v3_h2).toNatClampNeg)]) (rest := []) C Bh7 (m_X12_tells n Γ l αh2 a0 ρ σh2 Mh2 (hp_ch i1 (v3_h2).toNatClampNeg) σh9 qh9) lb_X12_tells lv_X12_tells lk_X12_429 Mh2.1 rfl (by decide) rfl hl.1 rfl (Nat.le_of_ble_eq_true rfl) dX12_says_29 ⟨Nat.le_refl _, Nat.le_refl _⟩) rfl (fun αh9 Hh9 Lh9 Bh9 Mh9 => ?_)
          obtain ⟨x10, ex10⟩ : ∃ y : Int32, y = v3_h2 + 1 := ⟨_, rfl⟩
          replace hf := ms_lE ex10 hf
          refine lv_iinc (v := x10) (lv' := [(3, .int x10), (0, .ref a0), (1, .ref (Γ.2.2.2.2.1 i1)), (2, .int v2_h2)]) hx hb dX12_says_32 hl (k := 3) rfl (by rw [ex10]; rfl) (by decide) rfl (fun ls hl => hp_n (n := 35) rfl ?_)
          refine lv_goto (tgt := 15) hx hb dX12_says_35 (by decide) ?_
          exact ih15 αh9 Hh9 Lh9 Bh9 σh9 Mh9 v2_h2 x10 ls (lv_sub hl [1, 2, 3, 0] rfl) hf
    refine lv_istore_n (lv' := [(3, .int (0 : Int32)), (0, .ref a0), (1, .ref (Γ.2.2.2.2.1 i1)), (2, .int v2_h1)]) hx hb dX12_says_14 rfl hl (by decide) rfl (fun ls hl => hp_n (n := 15) rfl ?_)
    exact J15 n αh1 Hh1 Lh1 Bh1 σh1 Mh1 v2_h1 (0 : Int32) ls (lv_sub hl [1, 2, 3, 0] rfl) hf
  refine lv_if_le (tgt := 13) hx hb dX12_says_4 (by decide) (fun c11 => ?_) (fun c11 => hp_n (n := 7) rfl ?_)
  ·
    replace hf := ms_iT c11 hf
    exact J13 α s.heap [] B σ hM a2 ls (lv_sub hl [0, 1, 2] rfl) hf
  ·
    replace hf := ms_iF c11 hf
    refine lv_aload_n hx hb dX12_says_7 rfl (lv_at hl 0 rfl) (hp_n (n := 8) rfl ?_)
    refine lv_bipush (v := 32) hx hb dX12_says_8 (by decide) (hp_n (n := 10) rfl ?_)
    obtain ⟨σh12, qh12, hf⟩ := ms_bE hf
    refine m_cv (pc' := 13) (a := a0) (ρ := ρ) B (hp_runV (As := [.int (32 : Int32)]) (rest := []) C B (m_X12_tells n Γ l α a0 ρ σ hM (32 : Int32) σh12 qh12) lb_X12_tells lv_X12_tells lk_X12_429 hM.1 rfl (by decide) rfl hl.1 rfl (Nat.le_of_ble_eq_true rfl) dX12_says_10 ⟨Nat.le_refl _, Nat.le_refl _⟩) rfl (fun αh12 Hh12 Lh12 Bh12 Mh12 => ?_)
    exact J13 αh12 Hh12 Lh12 Bh12 σh12 Mh12 a2 ls (lv_sub hl [0, 1, 2] rfl) hf
def f_X12_tellsMarks_L25 (n : Nat) : Nat → ms_T → Int32 → Option (Int32 × ms_T)
  | 0, _, _ => none
  | k25 + 1, σh5, v2_h5 =>
    if (ms_I σh5 657) ≤ v2_h5 then
      ms_b (f_X12_tells n σh5 (59 : Int32)) fun σh7 =>
      some ((ms_I σh7 697), σh7)
    else
      ms_b (f_X12_tells n σh5 (32 : Int32)) fun σh8 =>
      ms_g v2_h5 128 <|
      ms_b (f_X12_tellsNumber n σh8 (ms_E σh8 44 (v2_h5).toNatClampNeg)) fun σh10 =>
      ms_l (v2_h5 + 1) fun x11 =>
      (f_X12_tellsMarks_L25 n k25) σh10 x11
def f_X12_tellsMarks (n : Nat) (σ : ms_T) (a1 : Int32) : Option (Int32 × ms_T) :=
  ms_b (f_X12_fetches n σ a1) fun σh1 =>
  ms_b (f_X12_tells n σh1 (32 : Int32)) fun σh2 =>
  ms_b (f_X12_tells n σh2 (98 : Int32)) fun σh3 =>
  ms_b (f_X12_tells n σh3 (121 : Int32)) fun σh4 =>
  f_X12_tellsMarks_L25 n n σh4 (0 : Int32)
set_option maxRecDepth 100000 in
set_option maxHeartbeats 4000000 in
theorem m_X12_tellsMarks (n : Nat) (Γ : hp_G) (l : Launch) (α : hp_T) (a0 : Nat) (ρ : Nat → Nat) (σ : ms_T) (hM : hm_M α a0 ρ σ) (a1 : Int32) (res : (Int32 × ms_T)) (hf : f_X12_tellsMarks n σ a1 = some res) : Met l yX12_tellsMarks (hp_ws yX12_tellsMarks cX12_tellsMarks 3 (some .int)) (hp_rm 43 0 0) (hp_Pc Γ α [.ref a0, .int a1]) (hp_Qi Γ (fun r β => r = res.1 ∧ mo α β ∧ hm_M β a0 ρ res.2)) 0 0 (hp_A Γ) := by
  unfold f_X12_tellsMarks at hf
  refine hp_start (by decide) ?_
  intro p e s m below meth c C hr hlk B0 hnm
  have C : hp_C Γ p m c cX12_tellsMarks 3 s ([.ref a0, .int a1] : List Value).toArray RX12 := C
  have hx := C.1.1
  have hb := C.1.2.1
  have hown := C.1.2.2.2.1
  have hts := C.1.2.2.2.2
  have B : hp_B Γ mo s α α s.heap [] := ⟨B0.1, B0.2.1, mo_rf⟩
  have hl := lv_entry ([.ref a0, .int a1]) (n := 3) (Nat.le_of_ble_eq_true rfl)
  show W p l e (hp_rm 43 0 0) s m ([.ref a0, .int a1] : List Value).toArray below meth c s.heap [] 0 0 (MQ below (hp_Qi Γ (fun r β => r = res.1 ∧ mo α β ∧ hm_M β a0 ρ res.2)) ([.ref a0, .int a1] : List Value).toArray s 0 0 (hp_A Γ)) (entryFrame m ([.ref a0, .int a1] : List Value).toArray 3)
  rw [lg_entry_eq]
  generalize (lg_sl ([.ref a0, .int a1]) ++ List.replicate (3 - (lg_sl ([.ref a0, .int a1])).length) Slot.unset).toArray = ls at hl ⊢
  have hl : lv_has ls 3 [(0, .ref a0), (1, .int a1)] := hl
  refine lv_aload_n hx hb dX12_tellsMarks_0 rfl (lv_at hl 0 rfl) (hp_n (n := 1) rfl ?_)
  refine lv_iload_n hx hb dX12_tellsMarks_1 rfl (lv_at hl 1 rfl) (hp_n (n := 2) rfl ?_)
  obtain ⟨σh1, qh1, hf⟩ := ms_bE hf
  refine m_cv (pc' := 5) (a := a0) (ρ := ρ) B (hp_runV (As := [.int a1]) (rest := []) C B (m_X12_fetches n Γ l α a0 ρ σ hM a1 σh1 qh1) lb_X12_fetches lv_X12_fetches lk_X12_161 hM.1 rfl (by decide) rfl hl.1 rfl (Nat.le_of_ble_eq_true rfl) dX12_tellsMarks_2 ⟨Nat.le_refl _, Nat.le_refl _⟩) rfl (fun αh1 Hh1 Lh1 Bh1 Mh1 => ?_)
  refine lv_aload_n hx hb dX12_tellsMarks_5 rfl (lv_at hl 0 rfl) (hp_n (n := 6) rfl ?_)
  refine lv_bipush (v := 32) hx hb dX12_tellsMarks_6 (by decide) (hp_n (n := 8) rfl ?_)
  obtain ⟨σh2, qh2, hf⟩ := ms_bE hf
  refine m_cv (pc' := 11) (a := a0) (ρ := ρ) Bh1 (hp_runV (As := [.int (32 : Int32)]) (rest := []) C Bh1 (m_X12_tells n Γ l αh1 a0 ρ σh1 Mh1 (32 : Int32) σh2 qh2) lb_X12_tells lv_X12_tells lk_X12_429 Mh1.1 rfl (by decide) rfl hl.1 rfl (Nat.le_of_ble_eq_true rfl) dX12_tellsMarks_8 ⟨Nat.le_refl _, Nat.le_refl _⟩) rfl (fun αh2 Hh2 Lh2 Bh2 Mh2 => ?_)
  refine lv_aload_n hx hb dX12_tellsMarks_11 rfl (lv_at hl 0 rfl) (hp_n (n := 12) rfl ?_)
  refine lv_bipush (v := 98) hx hb dX12_tellsMarks_12 (by decide) (hp_n (n := 14) rfl ?_)
  obtain ⟨σh3, qh3, hf⟩ := ms_bE hf
  refine m_cv (pc' := 17) (a := a0) (ρ := ρ) Bh2 (hp_runV (As := [.int (98 : Int32)]) (rest := []) C Bh2 (m_X12_tells n Γ l αh2 a0 ρ σh2 Mh2 (98 : Int32) σh3 qh3) lb_X12_tells lv_X12_tells lk_X12_429 Mh2.1 rfl (by decide) rfl hl.1 rfl (Nat.le_of_ble_eq_true rfl) dX12_tellsMarks_14 ⟨Nat.le_refl _, Nat.le_refl _⟩) rfl (fun αh3 Hh3 Lh3 Bh3 Mh3 => ?_)
  refine lv_aload_n hx hb dX12_tellsMarks_17 rfl (lv_at hl 0 rfl) (hp_n (n := 18) rfl ?_)
  refine lv_bipush (v := 121) hx hb dX12_tellsMarks_18 (by decide) (hp_n (n := 20) rfl ?_)
  obtain ⟨σh4, qh4, hf⟩ := ms_bE hf
  refine m_cv (pc' := 23) (a := a0) (ρ := ρ) Bh3 (hp_runV (As := [.int (121 : Int32)]) (rest := []) C Bh3 (m_X12_tells n Γ l αh3 a0 ρ σh3 Mh3 (121 : Int32) σh4 qh4) lb_X12_tells lv_X12_tells lk_X12_429 Mh3.1 rfl (by decide) rfl hl.1 rfl (Nat.le_of_ble_eq_true rfl) dX12_tellsMarks_20 ⟨Nat.le_refl _, Nat.le_refl _⟩) rfl (fun αh4 Hh4 Lh4 Bh4 Mh4 => ?_)
  refine lv_iconst (v := 0) hx hb dX12_tellsMarks_23 (by decide) (hp_n (n := 24) rfl ?_)
  have J25 : ∀ (k25 : Nat) (αh5 : hp_T) (Hh5 : Heap) (Lh5 : List Loc) (Bh5 : hp_B Γ mo s α αh5 Hh5 Lh5) (σh5 : ms_T) (Mh5 : hm_M αh5 a0 ρ σh5) (v2_h5 : Int32) (ls : Array Slot) (hl : lv_has ls 3 [(0, .ref a0), (2, .int v2_h5)]) (hf : f_X12_tellsMarks_L25 n k25 σh5 v2_h5 = some res), W p l e (hp_rm 43 0 0) s m ([.ref a0, .int a1] : List Value).toArray below meth c Hh5 Lh5 0 0 (MQ below (hp_Qi Γ (fun r β => r = res.1 ∧ mo α β ∧ hm_M β a0 ρ res.2)) ([.ref a0, .int a1] : List Value).toArray s 0 0 (hp_A Γ)) (F0 m 25 ls []) := by
    intro k25
    induction k25 with
    | zero => intro αh5 Hh5 Lh5 Bh5 σh5 Mh5 v2_h5 ls hl hf; rw [f_X12_tellsMarks_L25.eq_1] at hf; cases hf
    | succ k25 ih25 =>
      intro αh5 Hh5 Lh5 Bh5 σh5 Mh5 v2_h5 ls hl hf
      rw [f_X12_tellsMarks_L25.eq_2] at hf
      refine lv_iload_n hx hb dX12_tellsMarks_25 rfl (lv_at hl 1 rfl) (hp_n (n := 26) rfl ?_)
      refine lv_aload_n hx hb dX12_tellsMarks_26 rfl (lv_at hl 0 rfl) (hp_n (n := 27) rfl ?_)
      refine m_geti (k := 7) (φ := 657) (pc' := 30) C Bh5 Mh5 fl_X12_139 rfl rfl dX12_tellsMarks_27 rfl ?_
      refine lv_icmp_ge (tgt := 55) hx hb dX12_tellsMarks_30 (by decide) (fun c6 => ?_) (fun c6 => hp_n (n := 33) rfl ?_)
      ·
        replace hf := ms_iT c6 hf
        refine lv_aload_n hx hb dX12_tellsMarks_55 rfl (lv_at hl 0 rfl) (hp_n (n := 56) rfl ?_)
        refine lv_bipush (v := 59) hx hb dX12_tellsMarks_56 (by decide) (hp_n (n := 58) rfl ?_)
        obtain ⟨σh7, qh7, hf⟩ := ms_bE hf
        refine m_cv (pc' := 61) (a := a0) (ρ := ρ) Bh5 (hp_runV (As := [.int (59 : Int32)]) (rest := []) C Bh5 (m_X12_tells n Γ l αh5 a0 ρ σh5 Mh5 (59 : Int32) σh7 qh7) lb_X12_tells lv_X12_tells lk_X12_429 Mh5.1 rfl (by decide) rfl hl.1 rfl (Nat.le_of_ble_eq_true rfl) dX12_tellsMarks_58 ⟨Nat.le_refl _, Nat.le_refl _⟩) rfl (fun αh7 Hh7 Lh7 Bh7 Mh7 => ?_)
        refine lv_aload_n hx hb dX12_tellsMarks_61 rfl (lv_at hl 0 rfl) (hp_n (n := 62) rfl ?_)
        refine m_geti (k := 47) (φ := 697) (pc' := 65) C Bh7 Mh7 fl_X12_432 rfl rfl dX12_tellsMarks_62 rfl ?_
        cases hf
        exact q_iret C Bh7 hr hlk ⟨rfl, Bh7.2.2, Mh7⟩ dX12_tellsMarks_65
      ·
        replace hf := ms_iF c6 hf
        refine lv_aload_n hx hb dX12_tellsMarks_33 rfl (lv_at hl 0 rfl) (hp_n (n := 34) rfl ?_)
        refine lv_bipush (v := 32) hx hb dX12_tellsMarks_34 (by decide) (hp_n (n := 36) rfl ?_)
        obtain ⟨σh8, qh8, hf⟩ := ms_bE hf
        refine m_cv (pc' := 39) (a := a0) (ρ := ρ) Bh5 (hp_runV (As := [.int (32 : Int32)]) (rest := []) C Bh5 (m_X12_tells n Γ l αh5 a0 ρ σh5 Mh5 (32 : Int32) σh8 qh8) lb_X12_tells lv_X12_tells lk_X12_429 Mh5.1 rfl (by decide) rfl hl.1 rfl (Nat.le_of_ble_eq_true rfl) dX12_tellsMarks_36 ⟨Nat.le_refl _, Nat.le_refl _⟩) rfl (fun αh8 Hh8 Lh8 Bh8 Mh8 => ?_)
        refine lv_aload_n hx hb dX12_tellsMarks_39 rfl (lv_at hl 0 rfl) (hp_n (n := 40) rfl ?_)
        refine lv_aload_n hx hb dX12_tellsMarks_40 rfl (lv_at hl 0 rfl) (hp_n (n := 41) rfl ?_)
        refine m_getr (κ := 44) (k := 6) (pc' := 44) C Bh8 Mh8 fl_X12_22 rfl (by decide) dX12_tellsMarks_41 rfl ?_
        refine lv_iload_n hx hb dX12_tellsMarks_44 rfl (lv_at hl 1 rfl) (hp_n (n := 45) rfl ?_)
        obtain ⟨g9, hf⟩ := ms_gE hf
        refine m_ial (κ := 44) (φ := 656) (n := 128) (pc' := 46) C Bh8 Mh8 (by decide) (by decide) rfl g9 dX12_tellsMarks_45 rfl ?_
        obtain ⟨σh10, qh10, hf⟩ := ms_bE hf
        refine m_cv (pc' := 49) (a := a0) (ρ := ρ) Bh8 (hp_runV (As := [.int (ms_E σh8 44 (v2_h5).toNatClampNeg)]) (rest := []) C Bh8 (m_X12_tellsNumber n Γ l αh8 a0 ρ σh8 Mh8 (ms_E σh8 44 (v2_h5).toNatClampNeg) σh10 qh10) lb_X12_tellsNumber lv_X12_tellsNumber lk_X12_444 Mh8.1 rfl (by decide) rfl hl.1 rfl (Nat.le_of_ble_eq_true rfl) dX12_tellsMarks_46 ⟨Nat.le_refl _, Nat.le_refl _⟩) rfl (fun αh10 Hh10 Lh10 Bh10 Mh10 => ?_)
        obtain ⟨x11, ex11⟩ : ∃ y : Int32, y = v2_h5 + 1 := ⟨_, rfl⟩
        replace hf := ms_lE ex11 hf
        refine lv_iinc (v := x11) (lv' := [(2, .int x11), (0, .ref a0)]) hx hb dX12_tellsMarks_49 hl (k := 1) rfl (by rw [ex11]; rfl) (by decide) rfl (fun ls hl => hp_n (n := 52) rfl ?_)
        refine lv_goto (tgt := 25) hx hb dX12_tellsMarks_52 (by decide) ?_
        exact ih25 αh10 Hh10 Lh10 Bh10 σh10 Mh10 x11 ls (lv_sub hl [1, 0] rfl) hf
  refine lv_istore_n (lv' := [(2, .int (0 : Int32)), (0, .ref a0), (1, .int a1)]) hx hb dX12_tellsMarks_24 rfl hl (by decide) rfl (fun ls hl => hp_n (n := 25) rfl ?_)
  exact J25 n αh4 Hh4 Lh4 Bh4 σh4 Mh4 (0 : Int32) ls (lv_sub hl [1, 0] rfl) hf
def f_X12_tell (n : Nat) (σ : ms_T) (a1 : Int32) (a2 : Int32) (a3 : Int32) : Option (Int32 × ms_T) :=
  ms_b (f_X12_noEntry n σ a1 a2 a3) fun rh1 =>
  ms_c (f_X12_is n σ rh1) fun rh2 σh2 =>
  if rh2 = 0 then
    some ((-1 : Int32), σh2)
  else
    ms_l (ms_sI σh2 697 (0 : Int32)) fun σh4 =>
    ms_b (f_X12_says n σh4 14 a2) fun σh5 =>
    ms_b (f_X12_says n σh5 18 a3) fun σh6 =>
    ms_b (f_X12_entryMark n σh6 a1 a2) fun rh7 =>
    ms_b (f_X12_says n σh6 16 rh7) fun σh8 =>
    ms_b (f_X12_headOf n σh8 a1 a3) fun rh9 =>
    ms_b (f_X12_says n σh8 13 rh9) fun σh10 =>
    ms_b (f_X12_inclusion n σh10 a2 a3) fun σh11 =>
    ms_c (f_X12_tellsMarks n σh11 a1) fun rh12 σh12 =>
    some (rh12, σh12)
set_option maxRecDepth 100000 in
set_option maxHeartbeats 4000000 in
theorem m_X12_tell (n : Nat) (Γ : hp_G) (l : Launch) (α : hp_T) (a0 : Nat) (ρ : Nat → Nat) (σ : ms_T) (hM : hm_M α a0 ρ σ) (a1 : Int32) (a2 : Int32) (a3 : Int32) (res : (Int32 × ms_T)) (hf : f_X12_tell n σ a1 a2 a3 = some res) : Met l yX12_tell (hp_ws yX12_tell cX12_tell 4 (some .int)) (hp_rm 44 0 0) (hp_Pc Γ α [.ref a0, .int a1, .int a2, .int a3]) (hp_Qi Γ (fun r β => r = res.1 ∧ mo α β ∧ hm_M β a0 ρ res.2)) 0 0 (hp_A Γ) := by
  unfold f_X12_tell at hf
  refine hp_start (by decide) ?_
  intro p e s m below meth c C hr hlk B0 hnm
  have C : hp_C Γ p m c cX12_tell 4 s ([.ref a0, .int a1, .int a2, .int a3] : List Value).toArray RX12 := C
  have hx := C.1.1
  have hb := C.1.2.1
  have hown := C.1.2.2.2.1
  have hts := C.1.2.2.2.2
  have B : hp_B Γ mo s α α s.heap [] := ⟨B0.1, B0.2.1, mo_rf⟩
  have hl := lv_entry ([.ref a0, .int a1, .int a2, .int a3]) (n := 4) (Nat.le_of_ble_eq_true rfl)
  show W p l e (hp_rm 44 0 0) s m ([.ref a0, .int a1, .int a2, .int a3] : List Value).toArray below meth c s.heap [] 0 0 (MQ below (hp_Qi Γ (fun r β => r = res.1 ∧ mo α β ∧ hm_M β a0 ρ res.2)) ([.ref a0, .int a1, .int a2, .int a3] : List Value).toArray s 0 0 (hp_A Γ)) (entryFrame m ([.ref a0, .int a1, .int a2, .int a3] : List Value).toArray 4)
  rw [lg_entry_eq]
  generalize (lg_sl ([.ref a0, .int a1, .int a2, .int a3]) ++ List.replicate (4 - (lg_sl ([.ref a0, .int a1, .int a2, .int a3])).length) Slot.unset).toArray = ls at hl ⊢
  have hl : lv_has ls 4 [(0, .ref a0), (1, .int a1), (2, .int a2), (3, .int a3)] := hl
  refine lv_aload_n hx hb dX12_tell_0 rfl (lv_at hl 0 rfl) (hp_n (n := 1) rfl ?_)
  refine lv_aload_n hx hb dX12_tell_1 rfl (lv_at hl 0 rfl) (hp_n (n := 2) rfl ?_)
  refine lv_iload_n hx hb dX12_tell_2 rfl (lv_at hl 1 rfl) (hp_n (n := 3) rfl ?_)
  refine lv_iload_n hx hb dX12_tell_3 rfl (lv_at hl 2 rfl) (hp_n (n := 4) rfl ?_)
  refine lv_iload_n hx hb dX12_tell_4 rfl (lv_at hl 3 rfl) (hp_n (n := 5) rfl ?_)
  obtain ⟨rh1, qh1, hf⟩ := ms_bE hf
  refine m_cp (pc' := 8) B (hp_runV (As := [.int a1, .int a2, .int a3]) (rest := [.ref a0]) C B (m_X12_noEntry n Γ l α a0 ρ σ hM a1 a2 a3 rh1 qh1) lb_X12_noEntry lv_X12_noEntry lk_X12_362 hM.1 rfl (by decide) rfl hl.1 rfl (Nat.le_of_ble_eq_true rfl) dX12_tell_5 ⟨Nat.le_refl _, Nat.le_refl _⟩) rfl (fun Hh1 Lh1 Bh1 => ?_)
  obtain ⟨rh2, σh2, qh2, hf⟩ := ms_cE hf
  refine m_ci (pc' := 11) (a := a0) (ρ := ρ) Bh1 (hp_runV (As := [.int rh1]) (rest := []) C Bh1 (m_X12_is n Γ l α a0 ρ σ hM rh1 (rh2, σh2) qh2) lb_X12_is lv_X12_is lk_X12_309 hM.1 rfl (by decide) rfl hl.1 rfl (Nat.le_of_ble_eq_true rfl) dX12_tell_8 ⟨Nat.le_refl _, Nat.le_refl _⟩) rfl (fun αh2 Hh2 Lh2 Bh2 Mh2 => ?_)
  refine lv_if_ne (tgt := 16) hx hb dX12_tell_11 (by decide) (fun c3 => ?_) (fun c3 => hp_n (n := 14) rfl ?_)
  ·
    replace hf := ms_iF c3 hf
    refine lv_aload_n hx hb dX12_tell_16 rfl (lv_at hl 0 rfl) (hp_n (n := 17) rfl ?_)
    refine lv_iconst (v := 0) hx hb dX12_tell_17 (by decide) (hp_n (n := 18) rfl ?_)
    refine m_puti (k := 47) (φ := 697) (pc' := 21) C Bh2 Mh2 fl_X12_432 rfl rfl rfl rfl rfl dX12_tell_18 rfl (fun αh4 Hh4 Lh4 σh4 eh4 Bh4 Mh4 => ?_)
    replace hf := ms_lE eh4 hf
    refine lv_aload_n hx hb dX12_tell_21 rfl (lv_at hl 0 rfl) (hp_n (n := 22) rfl ?_)
    refine st_ldcw hx hb hown (sr_X12_447 C.2) dX12_tell_22 (hp_n (n := 25) rfl ?_)
    refine lv_iload_n hx hb dX12_tell_25 rfl (lv_at hl 2 rfl) (hp_n (n := 26) rfl ?_)
    obtain ⟨σh5, qh5, hf⟩ := ms_bE hf
    refine m_cv (pc' := 29) (a := a0) (ρ := ρ) Bh4 (hp_runV (As := [.ref (Γ.2.2.2.2.1 14), .int a2]) (rest := []) C Bh4 (m_X12_says n Γ l αh4 a0 ρ σh4 Mh4 14 (by decide) a2 σh5 qh5) lb_X12_says lv_X12_says lk_X12_449 Mh4.1 rfl (by decide) rfl hl.1 rfl (Nat.le_of_ble_eq_true rfl) dX12_tell_26 ⟨Nat.le_refl _, Nat.le_refl _⟩) rfl (fun αh5 Hh5 Lh5 Bh5 Mh5 => ?_)
    refine lv_aload_n hx hb dX12_tell_29 rfl (lv_at hl 0 rfl) (hp_n (n := 30) rfl ?_)
    refine st_ldcw hx hb hown (sr_X12_453 C.2) dX12_tell_30 (hp_n (n := 33) rfl ?_)
    refine lv_iload_n hx hb dX12_tell_33 rfl (lv_at hl 3 rfl) (hp_n (n := 34) rfl ?_)
    obtain ⟨σh6, qh6, hf⟩ := ms_bE hf
    refine m_cv (pc' := 37) (a := a0) (ρ := ρ) Bh5 (hp_runV (As := [.ref (Γ.2.2.2.2.1 18), .int a3]) (rest := []) C Bh5 (m_X12_says n Γ l αh5 a0 ρ σh5 Mh5 18 (by decide) a3 σh6 qh6) lb_X12_says lv_X12_says lk_X12_449 Mh5.1 rfl (by decide) rfl hl.1 rfl (Nat.le_of_ble_eq_true rfl) dX12_tell_34 ⟨Nat.le_refl _, Nat.le_refl _⟩) rfl (fun αh6 Hh6 Lh6 Bh6 Mh6 => ?_)
    refine lv_aload_n hx hb dX12_tell_37 rfl (lv_at hl 0 rfl) (hp_n (n := 38) rfl ?_)
    refine st_ldcw hx hb hown (sr_X12_455 C.2) dX12_tell_38 (hp_n (n := 41) rfl ?_)
    refine lv_aload_n hx hb dX12_tell_41 rfl (lv_at hl 0 rfl) (hp_n (n := 42) rfl ?_)
    refine lv_iload_n hx hb dX12_tell_42 rfl (lv_at hl 1 rfl) (hp_n (n := 43) rfl ?_)
    refine lv_iload_n hx hb dX12_tell_43 rfl (lv_at hl 2 rfl) (hp_n (n := 44) rfl ?_)
    obtain ⟨rh7, qh7, hf⟩ := ms_bE hf
    refine m_cp (pc' := 47) Bh6 (hp_runV (As := [.int a1, .int a2]) (rest := [.ref (Γ.2.2.2.2.1 16), .ref a0]) C Bh6 (m_X12_entryMark n Γ l αh6 a0 ρ σh6 Mh6 a1 a2 rh7 qh7) lb_X12_entryMark lv_X12_entryMark lk_X12_125 Mh6.1 rfl (by decide) rfl hl.1 rfl (Nat.le_of_ble_eq_true rfl) dX12_tell_44 ⟨Nat.le_refl _, Nat.le_refl _⟩) rfl (fun Hh7 Lh7 Bh7 => ?_)
    obtain ⟨σh8, qh8, hf⟩ := ms_bE hf
    refine m_cv (pc' := 50) (a := a0) (ρ := ρ) Bh7 (hp_runV (As := [.ref (Γ.2.2.2.2.1 16), .int rh7]) (rest := []) C Bh7 (m_X12_says n Γ l αh6 a0 ρ σh6 Mh6 16 (by decide) rh7 σh8 qh8) lb_X12_says lv_X12_says lk_X12_449 Mh6.1 rfl (by decide) rfl hl.1 rfl (Nat.le_of_ble_eq_true rfl) dX12_tell_47 ⟨Nat.le_refl _, Nat.le_refl _⟩) rfl (fun αh8 Hh8 Lh8 Bh8 Mh8 => ?_)
    refine lv_aload_n hx hb dX12_tell_50 rfl (lv_at hl 0 rfl) (hp_n (n := 51) rfl ?_)
    refine st_ldcw hx hb hown (sr_X12_457 C.2) dX12_tell_51 (hp_n (n := 54) rfl ?_)
    refine lv_aload_n hx hb dX12_tell_54 rfl (lv_at hl 0 rfl) (hp_n (n := 55) rfl ?_)
    refine lv_iload_n hx hb dX12_tell_55 rfl (lv_at hl 1 rfl) (hp_n (n := 56) rfl ?_)
    refine lv_iload_n hx hb dX12_tell_56 rfl (lv_at hl 3 rfl) (hp_n (n := 57) rfl ?_)
    obtain ⟨rh9, qh9, hf⟩ := ms_bE hf
    refine m_cp (pc' := 60) Bh8 (hp_runV (As := [.int a1, .int a3]) (rest := [.ref (Γ.2.2.2.2.1 13), .ref a0]) C Bh8 (m_X12_headOf n Γ l αh8 a0 ρ σh8 Mh8 a1 a3 rh9 qh9) lb_X12_headOf lv_X12_headOf lk_X12_215 Mh8.1 rfl (by decide) rfl hl.1 rfl (Nat.le_of_ble_eq_true rfl) dX12_tell_57 ⟨Nat.le_refl _, Nat.le_refl _⟩) rfl (fun Hh9 Lh9 Bh9 => ?_)
    obtain ⟨σh10, qh10, hf⟩ := ms_bE hf
    refine m_cv (pc' := 63) (a := a0) (ρ := ρ) Bh9 (hp_runV (As := [.ref (Γ.2.2.2.2.1 13), .int rh9]) (rest := []) C Bh9 (m_X12_says n Γ l αh8 a0 ρ σh8 Mh8 13 (by decide) rh9 σh10 qh10) lb_X12_says lv_X12_says lk_X12_449 Mh8.1 rfl (by decide) rfl hl.1 rfl (Nat.le_of_ble_eq_true rfl) dX12_tell_60 ⟨Nat.le_refl _, Nat.le_refl _⟩) rfl (fun αh10 Hh10 Lh10 Bh10 Mh10 => ?_)
    refine lv_aload_n hx hb dX12_tell_63 rfl (lv_at hl 0 rfl) (hp_n (n := 64) rfl ?_)
    refine lv_iload_n hx hb dX12_tell_64 rfl (lv_at hl 2 rfl) (hp_n (n := 65) rfl ?_)
    refine lv_iload_n hx hb dX12_tell_65 rfl (lv_at hl 3 rfl) (hp_n (n := 66) rfl ?_)
    obtain ⟨σh11, qh11, hf⟩ := ms_bE hf
    refine m_cv (pc' := 69) (a := a0) (ρ := ρ) Bh10 (hp_runV (As := [.int a2, .int a3]) (rest := []) C Bh10 (m_X12_inclusion n Γ l αh10 a0 ρ σh10 Mh10 a2 a3 σh11 qh11) lb_X12_inclusion lv_X12_inclusion lk_X12_171 Mh10.1 rfl (by decide) rfl hl.1 rfl (Nat.le_of_ble_eq_true rfl) dX12_tell_66 ⟨Nat.le_refl _, Nat.le_refl _⟩) rfl (fun αh11 Hh11 Lh11 Bh11 Mh11 => ?_)
    refine lv_aload_n hx hb dX12_tell_69 rfl (lv_at hl 0 rfl) (hp_n (n := 70) rfl ?_)
    refine lv_iload_n hx hb dX12_tell_70 rfl (lv_at hl 1 rfl) (hp_n (n := 71) rfl ?_)
    obtain ⟨rh12, σh12, qh12, hf⟩ := ms_cE hf
    refine m_ci (pc' := 74) (a := a0) (ρ := ρ) Bh11 (hp_runV (As := [.int a1]) (rest := []) C Bh11 (m_X12_tellsMarks n Γ l αh11 a0 ρ σh11 Mh11 a1 (rh12, σh12) qh12) lb_X12_tellsMarks lv_X12_tellsMarks lk_X12_459 Mh11.1 rfl (by decide) rfl hl.1 rfl (Nat.le_of_ble_eq_true rfl) dX12_tell_71 ⟨Nat.le_refl _, Nat.le_refl _⟩) rfl (fun αh12 Hh12 Lh12 Bh12 Mh12 => ?_)
    cases hf
    exact q_iret C Bh12 hr hlk ⟨rfl, Bh12.2.2, Mh12⟩ dX12_tell_74
  ·
    replace hf := ms_iT c3 hf
    refine lv_iconst (v := (-1)) hx hb dX12_tell_14 (by decide) (hp_n (n := 15) rfl ?_)
    cases hf
    exact q_iret C Bh2 hr hlk ⟨rfl, Bh2.2.2, Mh2⟩ dX12_tell_15
def f_X12_tellGrowth_J20 (n : Nat) (σh1 : ms_T) (v1_h1 : Int32) (v2_h1 : Int32) (v3_h1 : Int32) (w0_h1 : Int32) : Option (Int32 × ms_T) :=
  ms_c (f_X12_is n σh1 w0_h1) fun rh2 σh2 =>
  if rh2 = 0 then
    some ((-1 : Int32), σh2)
  else
    ms_l (ms_sI σh2 697 (0 : Int32)) fun σh4 =>
    ms_b (f_X12_says n σh4 11 v2_h1) fun σh5 =>
    ms_b (f_X12_headOf n σh5 v1_h1 v2_h1) fun rh6 =>
    ms_b (f_X12_says n σh5 16 rh6) fun σh7 =>
    ms_b (f_X12_says n σh7 20 v3_h1) fun σh8 =>
    ms_b (f_X12_headOf n σh8 v1_h1 v3_h1) fun rh9 =>
    ms_b (f_X12_says n σh8 13 rh9) fun σh10 =>
    ms_b (f_X12_growth n σh10 v2_h1 v3_h1) fun σh11 =>
    ms_c (f_X12_tellsMarks n σh11 v1_h1) fun rh12 σh12 =>
    some (rh12, σh12)
def f_X12_tellGrowth_J10 (n : Nat) (σh13 : ms_T) (v1_h13 : Int32) (v2_h13 : Int32) (v3_h13 : Int32) : Option (Int32 × ms_T) :=
  f_X12_tellGrowth_J20 n σh13 v1_h13 v2_h13 v3_h13 (1 : Int32)
def f_X12_tellGrowth (n : Nat) (σ : ms_T) (a1 : Int32) (a2 : Int32) (a3 : Int32) : Option (Int32 × ms_T) :=
  if a2 < 0 then
    f_X12_tellGrowth_J10 n σ a1 a2 a3
  else
    if a2 ≤ a3 then
      ms_b (f_X12_noSize n σ a1 a3) fun rh16 =>
      f_X12_tellGrowth_J20 n σ a1 a2 a3 rh16
    else
      f_X12_tellGrowth_J10 n σ a1 a2 a3
set_option maxRecDepth 100000 in
set_option maxHeartbeats 4000000 in
theorem m_X12_tellGrowth (n : Nat) (Γ : hp_G) (l : Launch) (α : hp_T) (a0 : Nat) (ρ : Nat → Nat) (σ : ms_T) (hM : hm_M α a0 ρ σ) (a1 : Int32) (a2 : Int32) (a3 : Int32) (res : (Int32 × ms_T)) (hf : f_X12_tellGrowth n σ a1 a2 a3 = some res) : Met l yX12_tellGrowth (hp_ws yX12_tellGrowth cX12_tellGrowth 4 (some .int)) (hp_rm 44 0 0) (hp_Pc Γ α [.ref a0, .int a1, .int a2, .int a3]) (hp_Qi Γ (fun r β => r = res.1 ∧ mo α β ∧ hm_M β a0 ρ res.2)) 0 0 (hp_A Γ) := by
  unfold f_X12_tellGrowth at hf
  refine hp_start (by decide) ?_
  intro p e s m below meth c C hr hlk B0 hnm
  have C : hp_C Γ p m c cX12_tellGrowth 4 s ([.ref a0, .int a1, .int a2, .int a3] : List Value).toArray RX12 := C
  have hx := C.1.1
  have hb := C.1.2.1
  have hown := C.1.2.2.2.1
  have hts := C.1.2.2.2.2
  have B : hp_B Γ mo s α α s.heap [] := ⟨B0.1, B0.2.1, mo_rf⟩
  have hl := lv_entry ([.ref a0, .int a1, .int a2, .int a3]) (n := 4) (Nat.le_of_ble_eq_true rfl)
  show W p l e (hp_rm 44 0 0) s m ([.ref a0, .int a1, .int a2, .int a3] : List Value).toArray below meth c s.heap [] 0 0 (MQ below (hp_Qi Γ (fun r β => r = res.1 ∧ mo α β ∧ hm_M β a0 ρ res.2)) ([.ref a0, .int a1, .int a2, .int a3] : List Value).toArray s 0 0 (hp_A Γ)) (entryFrame m ([.ref a0, .int a1, .int a2, .int a3] : List Value).toArray 4)
  rw [lg_entry_eq]
  generalize (lg_sl ([.ref a0, .int a1, .int a2, .int a3]) ++ List.replicate (4 - (lg_sl ([.ref a0, .int a1, .int a2, .int a3])).length) Slot.unset).toArray = ls at hl ⊢
  have hl : lv_has ls 4 [(0, .ref a0), (1, .int a1), (2, .int a2), (3, .int a3)] := hl
  refine lv_aload_n hx hb dX12_tellGrowth_0 rfl (lv_at hl 0 rfl) (hp_n (n := 1) rfl ?_)
  refine lv_iload_n hx hb dX12_tellGrowth_1 rfl (lv_at hl 2 rfl) (hp_n (n := 2) rfl ?_)
  have J20 : ∀ (αh1 : hp_T) (Hh1 : Heap) (Lh1 : List Loc) (Bh1 : hp_B Γ mo s α αh1 Hh1 Lh1) (σh1 : ms_T) (Mh1 : hm_M αh1 a0 ρ σh1) (v1_h1 : Int32) (v2_h1 : Int32) (v3_h1 : Int32) (w0_h1 : Int32) (ls : Array Slot) (hl : lv_has ls 4 [(0, .ref a0), (1, .int v1_h1), (2, .int v2_h1), (3, .int v3_h1)]) (hf : f_X12_tellGrowth_J20 n σh1 v1_h1 v2_h1 v3_h1 w0_h1 = some res), W p l e (hp_rm 44 0 0) s m ([.ref a0, .int a1, .int a2, .int a3] : List Value).toArray below meth c Hh1 Lh1 0 0 (MQ below (hp_Qi Γ (fun r β => r = res.1 ∧ mo α β ∧ hm_M β a0 ρ res.2)) ([.ref a0, .int a1, .int a2, .int a3] : List Value).toArray s 0 0 (hp_A Γ)) (F0 m 20 ls [.int w0_h1, .ref a0]) := by
    intro αh1 Hh1 Lh1 Bh1 σh1 Mh1 v1_h1 v2_h1 v3_h1 w0_h1 ls hl hf
    unfold f_X12_tellGrowth_J20 at hf
    obtain ⟨rh2, σh2, qh2, hf⟩ := ms_cE hf
    refine m_ci (pc' := 23) (a := a0) (ρ := ρ) Bh1 (hp_runV (As := [.int w0_h1]) (rest := []) C Bh1 (m_X12_is n Γ l αh1 a0 ρ σh1 Mh1 w0_h1 (rh2, σh2) qh2) lb_X12_is lv_X12_is lk_X12_309 Mh1.1 rfl (by decide) rfl hl.1 rfl (Nat.le_of_ble_eq_true rfl) dX12_tellGrowth_20 ⟨Nat.le_refl _, Nat.le_refl _⟩) rfl (fun αh2 Hh2 Lh2 Bh2 Mh2 => ?_)
    refine lv_if_ne (tgt := 28) hx hb dX12_tellGrowth_23 (by decide) (fun c3 => ?_) (fun c3 => hp_n (n := 26) rfl ?_)
    ·
      replace hf := ms_iF c3 hf
      refine lv_aload_n hx hb dX12_tellGrowth_28 rfl (lv_at hl 0 rfl) (hp_n (n := 29) rfl ?_)
      refine lv_iconst (v := 0) hx hb dX12_tellGrowth_29 (by decide) (hp_n (n := 30) rfl ?_)
      refine m_puti (k := 47) (φ := 697) (pc' := 33) C Bh2 Mh2 fl_X12_432 rfl rfl rfl rfl rfl dX12_tellGrowth_30 rfl (fun αh4 Hh4 Lh4 σh4 eh4 Bh4 Mh4 => ?_)
      replace hf := ms_lE eh4 hf
      refine lv_aload_n hx hb dX12_tellGrowth_33 rfl (lv_at hl 0 rfl) (hp_n (n := 34) rfl ?_)
      refine st_ldcw hx hb hown (sr_X12_462 C.2) dX12_tellGrowth_34 (hp_n (n := 37) rfl ?_)
      refine lv_iload_n hx hb dX12_tellGrowth_37 rfl (lv_at hl 2 rfl) (hp_n (n := 38) rfl ?_)
      obtain ⟨σh5, qh5, hf⟩ := ms_bE hf
      refine m_cv (pc' := 41) (a := a0) (ρ := ρ) Bh4 (hp_runV (As := [.ref (Γ.2.2.2.2.1 11), .int v2_h1]) (rest := []) C Bh4 (m_X12_says n Γ l αh4 a0 ρ σh4 Mh4 11 (by decide) v2_h1 σh5 qh5) lb_X12_says lv_X12_says lk_X12_449 Mh4.1 rfl (by decide) rfl hl.1 rfl (Nat.le_of_ble_eq_true rfl) dX12_tellGrowth_38 ⟨Nat.le_refl _, Nat.le_refl _⟩) rfl (fun αh5 Hh5 Lh5 Bh5 Mh5 => ?_)
      refine lv_aload_n hx hb dX12_tellGrowth_41 rfl (lv_at hl 0 rfl) (hp_n (n := 42) rfl ?_)
      refine st_ldcw hx hb hown (sr_X12_455 C.2) dX12_tellGrowth_42 (hp_n (n := 45) rfl ?_)
      refine lv_aload_n hx hb dX12_tellGrowth_45 rfl (lv_at hl 0 rfl) (hp_n (n := 46) rfl ?_)
      refine lv_iload_n hx hb dX12_tellGrowth_46 rfl (lv_at hl 1 rfl) (hp_n (n := 47) rfl ?_)
      refine lv_iload_n hx hb dX12_tellGrowth_47 rfl (lv_at hl 2 rfl) (hp_n (n := 48) rfl ?_)
      obtain ⟨rh6, qh6, hf⟩ := ms_bE hf
      refine m_cp (pc' := 51) Bh5 (hp_runV (As := [.int v1_h1, .int v2_h1]) (rest := [.ref (Γ.2.2.2.2.1 16), .ref a0]) C Bh5 (m_X12_headOf n Γ l αh5 a0 ρ σh5 Mh5 v1_h1 v2_h1 rh6 qh6) lb_X12_headOf lv_X12_headOf lk_X12_215 Mh5.1 rfl (by decide) rfl hl.1 rfl (Nat.le_of_ble_eq_true rfl) dX12_tellGrowth_48 ⟨Nat.le_refl _, Nat.le_refl _⟩) rfl (fun Hh6 Lh6 Bh6 => ?_)
      obtain ⟨σh7, qh7, hf⟩ := ms_bE hf
      refine m_cv (pc' := 54) (a := a0) (ρ := ρ) Bh6 (hp_runV (As := [.ref (Γ.2.2.2.2.1 16), .int rh6]) (rest := []) C Bh6 (m_X12_says n Γ l αh5 a0 ρ σh5 Mh5 16 (by decide) rh6 σh7 qh7) lb_X12_says lv_X12_says lk_X12_449 Mh5.1 rfl (by decide) rfl hl.1 rfl (Nat.le_of_ble_eq_true rfl) dX12_tellGrowth_51 ⟨Nat.le_refl _, Nat.le_refl _⟩) rfl (fun αh7 Hh7 Lh7 Bh7 Mh7 => ?_)
      refine lv_aload_n hx hb dX12_tellGrowth_54 rfl (lv_at hl 0 rfl) (hp_n (n := 55) rfl ?_)
      refine st_ldcw hx hb hown (sr_X12_464 C.2) dX12_tellGrowth_55 (hp_n (n := 58) rfl ?_)
      refine lv_iload_n hx hb dX12_tellGrowth_58 rfl (lv_at hl 3 rfl) (hp_n (n := 59) rfl ?_)
      obtain ⟨σh8, qh8, hf⟩ := ms_bE hf
      refine m_cv (pc' := 62) (a := a0) (ρ := ρ) Bh7 (hp_runV (As := [.ref (Γ.2.2.2.2.1 20), .int v3_h1]) (rest := []) C Bh7 (m_X12_says n Γ l αh7 a0 ρ σh7 Mh7 20 (by decide) v3_h1 σh8 qh8) lb_X12_says lv_X12_says lk_X12_449 Mh7.1 rfl (by decide) rfl hl.1 rfl (Nat.le_of_ble_eq_true rfl) dX12_tellGrowth_59 ⟨Nat.le_refl _, Nat.le_refl _⟩) rfl (fun αh8 Hh8 Lh8 Bh8 Mh8 => ?_)
      refine lv_aload_n hx hb dX12_tellGrowth_62 rfl (lv_at hl 0 rfl) (hp_n (n := 63) rfl ?_)
      refine st_ldcw hx hb hown (sr_X12_457 C.2) dX12_tellGrowth_63 (hp_n (n := 66) rfl ?_)
      refine lv_aload_n hx hb dX12_tellGrowth_66 rfl (lv_at hl 0 rfl) (hp_n (n := 67) rfl ?_)
      refine lv_iload_n hx hb dX12_tellGrowth_67 rfl (lv_at hl 1 rfl) (hp_n (n := 68) rfl ?_)
      refine lv_iload_n hx hb dX12_tellGrowth_68 rfl (lv_at hl 3 rfl) (hp_n (n := 69) rfl ?_)
      obtain ⟨rh9, qh9, hf⟩ := ms_bE hf
      refine m_cp (pc' := 72) Bh8 (hp_runV (As := [.int v1_h1, .int v3_h1]) (rest := [.ref (Γ.2.2.2.2.1 13), .ref a0]) C Bh8 (m_X12_headOf n Γ l αh8 a0 ρ σh8 Mh8 v1_h1 v3_h1 rh9 qh9) lb_X12_headOf lv_X12_headOf lk_X12_215 Mh8.1 rfl (by decide) rfl hl.1 rfl (Nat.le_of_ble_eq_true rfl) dX12_tellGrowth_69 ⟨Nat.le_refl _, Nat.le_refl _⟩) rfl (fun Hh9 Lh9 Bh9 => ?_)
      obtain ⟨σh10, qh10, hf⟩ := ms_bE hf
      refine m_cv (pc' := 75) (a := a0) (ρ := ρ) Bh9 (hp_runV (As := [.ref (Γ.2.2.2.2.1 13), .int rh9]) (rest := []) C Bh9 (m_X12_says n Γ l αh8 a0 ρ σh8 Mh8 13 (by decide) rh9 σh10 qh10) lb_X12_says lv_X12_says lk_X12_449 Mh8.1 rfl (by decide) rfl hl.1 rfl (Nat.le_of_ble_eq_true rfl) dX12_tellGrowth_72 ⟨Nat.le_refl _, Nat.le_refl _⟩) rfl (fun αh10 Hh10 Lh10 Bh10 Mh10 => ?_)
      refine lv_aload_n hx hb dX12_tellGrowth_75 rfl (lv_at hl 0 rfl) (hp_n (n := 76) rfl ?_)
      refine lv_iload_n hx hb dX12_tellGrowth_76 rfl (lv_at hl 2 rfl) (hp_n (n := 77) rfl ?_)
      refine lv_iload_n hx hb dX12_tellGrowth_77 rfl (lv_at hl 3 rfl) (hp_n (n := 78) rfl ?_)
      obtain ⟨σh11, qh11, hf⟩ := ms_bE hf
      refine m_cv (pc' := 81) (a := a0) (ρ := ρ) Bh10 (hp_runV (As := [.int v2_h1, .int v3_h1]) (rest := []) C Bh10 (m_X12_growth n Γ l αh10 a0 ρ σh10 Mh10 v2_h1 v3_h1 σh11 qh11) lb_X12_growth lv_X12_growth lk_X12_190 Mh10.1 rfl (by decide) rfl hl.1 rfl (Nat.le_of_ble_eq_true rfl) dX12_tellGrowth_78 ⟨Nat.le_refl _, Nat.le_refl _⟩) rfl (fun αh11 Hh11 Lh11 Bh11 Mh11 => ?_)
      refine lv_aload_n hx hb dX12_tellGrowth_81 rfl (lv_at hl 0 rfl) (hp_n (n := 82) rfl ?_)
      refine lv_iload_n hx hb dX12_tellGrowth_82 rfl (lv_at hl 1 rfl) (hp_n (n := 83) rfl ?_)
      obtain ⟨rh12, σh12, qh12, hf⟩ := ms_cE hf
      refine m_ci (pc' := 86) (a := a0) (ρ := ρ) Bh11 (hp_runV (As := [.int v1_h1]) (rest := []) C Bh11 (m_X12_tellsMarks n Γ l αh11 a0 ρ σh11 Mh11 v1_h1 (rh12, σh12) qh12) lb_X12_tellsMarks lv_X12_tellsMarks lk_X12_459 Mh11.1 rfl (by decide) rfl hl.1 rfl (Nat.le_of_ble_eq_true rfl) dX12_tellGrowth_83 ⟨Nat.le_refl _, Nat.le_refl _⟩) rfl (fun αh12 Hh12 Lh12 Bh12 Mh12 => ?_)
      cases hf
      exact q_iret C Bh12 hr hlk ⟨rfl, Bh12.2.2, Mh12⟩ dX12_tellGrowth_86
    ·
      replace hf := ms_iT c3 hf
      refine lv_iconst (v := (-1)) hx hb dX12_tellGrowth_26 (by decide) (hp_n (n := 27) rfl ?_)
      cases hf
      exact q_iret C Bh2 hr hlk ⟨rfl, Bh2.2.2, Mh2⟩ dX12_tellGrowth_27
  have J10 : ∀ (αh13 : hp_T) (Hh13 : Heap) (Lh13 : List Loc) (Bh13 : hp_B Γ mo s α αh13 Hh13 Lh13) (σh13 : ms_T) (Mh13 : hm_M αh13 a0 ρ σh13) (v1_h13 : Int32) (v2_h13 : Int32) (v3_h13 : Int32) (ls : Array Slot) (hl : lv_has ls 4 [(0, .ref a0), (1, .int v1_h13), (2, .int v2_h13), (3, .int v3_h13)]) (hf : f_X12_tellGrowth_J10 n σh13 v1_h13 v2_h13 v3_h13 = some res), W p l e (hp_rm 44 0 0) s m ([.ref a0, .int a1, .int a2, .int a3] : List Value).toArray below meth c Hh13 Lh13 0 0 (MQ below (hp_Qi Γ (fun r β => r = res.1 ∧ mo α β ∧ hm_M β a0 ρ res.2)) ([.ref a0, .int a1, .int a2, .int a3] : List Value).toArray s 0 0 (hp_A Γ)) (F0 m 10 ls [.ref a0]) := by
    intro αh13 Hh13 Lh13 Bh13 σh13 Mh13 v1_h13 v2_h13 v3_h13 ls hl hf
    unfold f_X12_tellGrowth_J10 at hf
    refine lv_iconst (v := 1) hx hb dX12_tellGrowth_10 (by decide) (hp_n (n := 11) rfl ?_)
    refine lv_goto (tgt := 20) hx hb dX12_tellGrowth_11 (by decide) ?_
    exact J20 αh13 Hh13 Lh13 Bh13 σh13 Mh13 v1_h13 v2_h13 v3_h13 (1 : Int32) ls (lv_sub hl [0, 1, 2, 3] rfl) hf
  refine lv_if_lt (tgt := 10) hx hb dX12_tellGrowth_2 (by decide) (fun c14 => ?_) (fun c14 => hp_n (n := 5) rfl ?_)
  ·
    replace hf := ms_iT c14 hf
    exact J10 α s.heap [] B σ hM a1 a2 a3 ls (lv_sub hl [0, 1, 2, 3] rfl) hf
  ·
    replace hf := ms_iF c14 hf
    refine lv_iload_n hx hb dX12_tellGrowth_5 rfl (lv_at hl 2 rfl) (hp_n (n := 6) rfl ?_)
    refine lv_iload_n hx hb dX12_tellGrowth_6 rfl (lv_at hl 3 rfl) (hp_n (n := 7) rfl ?_)
    refine lv_icmp_le (tgt := 14) hx hb dX12_tellGrowth_7 (by decide) (fun c15 => ?_) (fun c15 => hp_n (n := 10) rfl ?_)
    ·
      replace hf := ms_iT c15 hf
      refine lv_aload_n hx hb dX12_tellGrowth_14 rfl (lv_at hl 0 rfl) (hp_n (n := 15) rfl ?_)
      refine lv_iload_n hx hb dX12_tellGrowth_15 rfl (lv_at hl 1 rfl) (hp_n (n := 16) rfl ?_)
      refine lv_iload_n hx hb dX12_tellGrowth_16 rfl (lv_at hl 3 rfl) (hp_n (n := 17) rfl ?_)
      obtain ⟨rh16, qh16, hf⟩ := ms_bE hf
      refine m_cp (pc' := 20) B (hp_runV (As := [.int a1, .int a3]) (rest := [.ref a0]) C B (m_X12_noSize n Γ l α a0 ρ σ hM a1 a3 rh16 qh16) lb_X12_noSize lv_X12_noSize lk_X12_347 hM.1 rfl (by decide) rfl hl.1 rfl (Nat.le_of_ble_eq_true rfl) dX12_tellGrowth_17 ⟨Nat.le_refl _, Nat.le_refl _⟩) rfl (fun Hh16 Lh16 Bh16 => ?_)
      exact J20 α Hh16 Lh16 Bh16 σ hM a1 a2 a3 rh16 ls (lv_sub hl [0, 1, 2, 3] rfl) hf
    ·
      replace hf := ms_iF c15 hf
      exact J10 α s.heap [] B σ hM a1 a2 a3 ls (lv_sub hl [0, 1, 2, 3] rfl) hf
def f_X12_out_J22 (n : Nat) (σh1 : ms_T) (v1_h1 : Int32) (w0_h1 : Int32) : Option (Int32 × ms_T) :=
  ms_c (f_X12_is n σh1 w0_h1) fun rh2 σh2 =>
  if rh2 = 0 then
    some ((-1 : Int32), σh2)
  else
    ms_g v1_h1 900 <|
    some ((ms_E σh2 59 (v1_h1).toNatClampNeg), σh2)
def f_X12_out (n : Nat) (σ : ms_T) (a1 : Int32) : Option (Int32 × ms_T) :=
  if 0 ≤ a1 then
    if a1 < (ms_I σ 697) then
      f_X12_out_J22 n σ a1 (0 : Int32)
    else
      f_X12_out_J22 n σ a1 (5 : Int32)
  else
    f_X12_out_J22 n σ a1 (1 : Int32)
set_option maxRecDepth 100000 in
set_option maxHeartbeats 4000000 in
theorem m_X12_out (n : Nat) (Γ : hp_G) (l : Launch) (α : hp_T) (a0 : Nat) (ρ : Nat → Nat) (σ : ms_T) (hM : hm_M α a0 ρ σ) (a1 : Int32) (res : (Int32 × ms_T)) (hf : f_X12_out n σ a1 = some res) : Met l yX12_out (hp_ws yX12_out cX12_out 2 (some .int)) (hp_rm 1 0 0) (hp_Pc Γ α [.ref a0, .int a1]) (hp_Qi Γ (fun r β => r = res.1 ∧ mo α β ∧ hm_M β a0 ρ res.2)) 0 0 (hp_A Γ) := by
  unfold f_X12_out at hf
  refine hp_start (by decide) ?_
  intro p e s m below meth c C hr hlk B0 hnm
  have C : hp_C Γ p m c cX12_out 2 s ([.ref a0, .int a1] : List Value).toArray RX12 := C
  have hx := C.1.1
  have hb := C.1.2.1
  have hown := C.1.2.2.2.1
  have hts := C.1.2.2.2.2
  have B : hp_B Γ mo s α α s.heap [] := ⟨B0.1, B0.2.1, mo_rf⟩
  have hl := lv_entry ([.ref a0, .int a1]) (n := 2) (Nat.le_of_ble_eq_true rfl)
  show W p l e (hp_rm 1 0 0) s m ([.ref a0, .int a1] : List Value).toArray below meth c s.heap [] 0 0 (MQ below (hp_Qi Γ (fun r β => r = res.1 ∧ mo α β ∧ hm_M β a0 ρ res.2)) ([.ref a0, .int a1] : List Value).toArray s 0 0 (hp_A Γ)) (entryFrame m ([.ref a0, .int a1] : List Value).toArray 2)
  rw [lg_entry_eq]
  generalize (lg_sl ([.ref a0, .int a1]) ++ List.replicate (2 - (lg_sl ([.ref a0, .int a1])).length) Slot.unset).toArray = ls at hl ⊢
  have hl : lv_has ls 2 [(0, .ref a0), (1, .int a1)] := hl
  refine lv_aload_n hx hb dX12_out_0 rfl (lv_at hl 0 rfl) (hp_n (n := 1) rfl ?_)
  refine lv_iload_n hx hb dX12_out_1 rfl (lv_at hl 1 rfl) (hp_n (n := 2) rfl ?_)
  have J22 : ∀ (αh1 : hp_T) (Hh1 : Heap) (Lh1 : List Loc) (Bh1 : hp_B Γ mo s α αh1 Hh1 Lh1) (σh1 : ms_T) (Mh1 : hm_M αh1 a0 ρ σh1) (v1_h1 : Int32) (w0_h1 : Int32) (ls : Array Slot) (hl : lv_has ls 2 [(0, .ref a0), (1, .int v1_h1)]) (hf : f_X12_out_J22 n σh1 v1_h1 w0_h1 = some res), W p l e (hp_rm 1 0 0) s m ([.ref a0, .int a1] : List Value).toArray below meth c Hh1 Lh1 0 0 (MQ below (hp_Qi Γ (fun r β => r = res.1 ∧ mo α β ∧ hm_M β a0 ρ res.2)) ([.ref a0, .int a1] : List Value).toArray s 0 0 (hp_A Γ)) (F0 m 22 ls [.int w0_h1, .ref a0]) := by
    intro αh1 Hh1 Lh1 Bh1 σh1 Mh1 v1_h1 w0_h1 ls hl hf
    unfold f_X12_out_J22 at hf
    obtain ⟨rh2, σh2, qh2, hf⟩ := ms_cE hf
    refine m_ci (pc' := 25) (a := a0) (ρ := ρ) Bh1 (hp_runV (As := [.int w0_h1]) (rest := []) C Bh1 (m_X12_is n Γ l αh1 a0 ρ σh1 Mh1 w0_h1 (rh2, σh2) qh2) lb_X12_is lv_X12_is lk_X12_309 Mh1.1 rfl (by decide) rfl hl.1 rfl (Nat.le_of_ble_eq_true rfl) dX12_out_22 ⟨Nat.le_refl _, Nat.le_refl _⟩) rfl (fun αh2 Hh2 Lh2 Bh2 Mh2 => ?_)
    refine lv_if_eq (tgt := 37) hx hb dX12_out_25 (by decide) (fun c3 => ?_) (fun c3 => hp_n (n := 28) rfl ?_)
    ·
      replace hf := ms_iT c3 hf
      refine lv_iconst (v := (-1)) hx hb dX12_out_37 (by decide) (hp_n (n := 38) rfl ?_)
      cases hf
      exact q_iret C Bh2 hr hlk ⟨rfl, Bh2.2.2, Mh2⟩ dX12_out_38
    ·
      replace hf := ms_iF c3 hf
      refine lv_aload_n hx hb dX12_out_28 rfl (lv_at hl 0 rfl) (hp_n (n := 29) rfl ?_)
      refine m_getr (κ := 59) (k := 46) (pc' := 32) C Bh2 Mh2 fl_X12_100 rfl (by decide) dX12_out_29 rfl ?_
      refine lv_iload_n hx hb dX12_out_32 rfl (lv_at hl 1 rfl) (hp_n (n := 33) rfl ?_)
      obtain ⟨g4, hf⟩ := ms_gE hf
      refine m_ial (κ := 59) (φ := 696) (n := 900) (pc' := 34) C Bh2 Mh2 (by decide) (by decide) rfl g4 dX12_out_33 rfl ?_
      refine lv_goto (tgt := 38) hx hb dX12_out_34 (by decide) ?_
      cases hf
      exact q_iret C Bh2 hr hlk ⟨rfl, Bh2.2.2, Mh2⟩ dX12_out_38
  refine lv_if_ge (tgt := 9) hx hb dX12_out_2 (by decide) (fun c5 => ?_) (fun c5 => hp_n (n := 5) rfl ?_)
  ·
    replace hf := ms_iT c5 hf
    refine lv_iload_n hx hb dX12_out_9 rfl (lv_at hl 1 rfl) (hp_n (n := 10) rfl ?_)
    refine lv_aload_n hx hb dX12_out_10 rfl (lv_at hl 0 rfl) (hp_n (n := 11) rfl ?_)
    refine m_geti (k := 47) (φ := 697) (pc' := 14) C B hM fl_X12_432 rfl rfl dX12_out_11 rfl ?_
    refine lv_icmp_lt (tgt := 21) hx hb dX12_out_14 (by decide) (fun c6 => ?_) (fun c6 => hp_n (n := 17) rfl ?_)
    ·
      replace hf := ms_iT c6 hf
      refine lv_iconst (v := 0) hx hb dX12_out_21 (by decide) (hp_n (n := 22) rfl ?_)
      exact J22 α s.heap [] B σ hM a1 (0 : Int32) ls (lv_sub hl [0, 1] rfl) hf
    ·
      replace hf := ms_iF c6 hf
      refine lv_iconst (v := 5) hx hb dX12_out_17 (by decide) (hp_n (n := 18) rfl ?_)
      refine lv_goto (tgt := 22) hx hb dX12_out_18 (by decide) ?_
      exact J22 α s.heap [] B σ hM a1 (5 : Int32) ls (lv_sub hl [0, 1] rfl) hf
  ·
    replace hf := ms_iF c5 hf
    refine lv_iconst (v := 1) hx hb dX12_out_5 (by decide) (hp_n (n := 6) rfl ?_)
    refine lv_goto (tgt := 22) hx hb dX12_out_6 (by decide) ?_
    exact J22 α s.heap [] B σ hM a1 (1 : Int32) ls (lv_sub hl [0, 1] rfl) hf
def f_X12_trusted_J65 (n : Nat) (rec31 : ms_T → Int32 → Int32 → Int32 → Int32 → Option (Int32 × ms_T)) (σh7 : ms_T) (v1_h7 : Int32) (v2_h7 : Int32) (v4_h7 : Int32) (w0_h7 : Int32) (w1_h7 : Int32) : Option (Int32 × ms_T) :=
  ms_l ((w1_h7 + w0_h7)) fun x8 =>
  ms_l (v4_h7 + 1) fun x9 =>
  rec31 σh7 v1_h7 v2_h7 x8 x9
def f_X12_trusted_J64 (n : Nat) (rec31 : ms_T → Int32 → Int32 → Int32 → Int32 → Option (Int32 × ms_T)) (σh10 : ms_T) (v1_h10 : Int32) (v2_h10 : Int32) (v4_h10 : Int32) (w0_h10 : Int32) : Option (Int32 × ms_T) :=
  f_X12_trusted_J65 n rec31 σh10 v1_h10 v2_h10 v4_h10 (0 : Int32) w0_h10
def f_X12_trusted_L31 (n : Nat) : Nat → ms_T → Int32 → Int32 → Int32 → Int32 → Option (Int32 × ms_T)
  | 0, _, _, _, _, _ => none
  | k31 + 1, σh4, v1_h4, v2_h4, v3_h4, v4_h4 =>
    if (4 : Int32) ≤ v4_h4 then
      some (v3_h4, σh4)
    else
      ms_b (f_X12_trust n σh4 v4_h4 (0 : Int32)) fun rh6 =>
      if rh6 = v1_h4 then
        ms_b (f_X12_trust n σh4 v4_h4 (1 : Int32)) fun rh12 =>
        if rh12 = v2_h4 then
          f_X12_trusted_J65 n (f_X12_trusted_L31 n k31) σh4 v1_h4 v2_h4 v4_h4 (1 : Int32) v3_h4
        else
          f_X12_trusted_J64 n (f_X12_trusted_L31 n k31) σh4 v1_h4 v2_h4 v4_h4 v3_h4
      else
        f_X12_trusted_J64 n (f_X12_trusted_L31 n k31) σh4 v1_h4 v2_h4 v4_h4 v3_h4
def f_X12_trusted_J18 (n : Nat) (σh1 : ms_T) (v1_h1 : Int32) (v2_h1 : Int32) (w0_h1 : Int32) : Option (Int32 × ms_T) :=
  ms_c (f_X12_is n σh1 w0_h1) fun rh2 σh2 =>
  if rh2 = 0 then
    some ((-1 : Int32), σh2)
  else
    f_X12_trusted_L31 n n σh2 v1_h1 v2_h1 (0 : Int32) (0 : Int32)
def f_X12_trusted_J13 (n : Nat) (σh14 : ms_T) (v1_h14 : Int32) (v2_h14 : Int32) : Option (Int32 × ms_T) :=
  f_X12_trusted_J18 n σh14 v1_h14 v2_h14 (1 : Int32)
def f_X12_trusted (n : Nat) (σ : ms_T) (a1 : Int32) (a2 : Int32) : Option (Int32 × ms_T) :=
  if a1 < 0 then
    f_X12_trusted_J13 n σ a1 a2
  else
    ms_b (f_X12_isMark n σ a2) fun rh16 =>
    if rh16 = 0 then
      f_X12_trusted_J13 n σ a1 a2
    else
      f_X12_trusted_J18 n σ a1 a2 (0 : Int32)
set_option maxRecDepth 100000 in
set_option maxHeartbeats 4000000 in
theorem m_X12_trusted (n : Nat) (Γ : hp_G) (l : Launch) (α : hp_T) (a0 : Nat) (ρ : Nat → Nat) (σ : ms_T) (hM : hm_M α a0 ρ σ) (a1 : Int32) (a2 : Int32) (res : (Int32 × ms_T)) (hf : f_X12_trusted n σ a1 a2 = some res) : Met l yX12_trusted (hp_ws yX12_trusted cX12_trusted 5 (some .int)) (hp_rm 2 0 0) (hp_Pc Γ α [.ref a0, .int a1, .int a2]) (hp_Qi Γ (fun r β => r = res.1 ∧ mo α β ∧ hm_M β a0 ρ res.2)) 0 0 (hp_A Γ) := by
  unfold f_X12_trusted at hf
  refine hp_start (by decide) ?_
  intro p e s m below meth c C hr hlk B0 hnm
  have C : hp_C Γ p m c cX12_trusted 5 s ([.ref a0, .int a1, .int a2] : List Value).toArray RX12 := C
  have hx := C.1.1
  have hb := C.1.2.1
  have hown := C.1.2.2.2.1
  have hts := C.1.2.2.2.2
  have B : hp_B Γ mo s α α s.heap [] := ⟨B0.1, B0.2.1, mo_rf⟩
  have hl := lv_entry ([.ref a0, .int a1, .int a2]) (n := 5) (Nat.le_of_ble_eq_true rfl)
  show W p l e (hp_rm 2 0 0) s m ([.ref a0, .int a1, .int a2] : List Value).toArray below meth c s.heap [] 0 0 (MQ below (hp_Qi Γ (fun r β => r = res.1 ∧ mo α β ∧ hm_M β a0 ρ res.2)) ([.ref a0, .int a1, .int a2] : List Value).toArray s 0 0 (hp_A Γ)) (entryFrame m ([.ref a0, .int a1, .int a2] : List Value).toArray 5)
  rw [lg_entry_eq]
  generalize (lg_sl ([.ref a0, .int a1, .int a2]) ++ List.replicate (5 - (lg_sl ([.ref a0, .int a1, .int a2])).length) Slot.unset).toArray = ls at hl ⊢
  have hl : lv_has ls 5 [(0, .ref a0), (1, .int a1), (2, .int a2)] := hl
  refine lv_aload_n hx hb dX12_trusted_0 rfl (lv_at hl 0 rfl) (hp_n (n := 1) rfl ?_)
  refine lv_iload_n hx hb dX12_trusted_1 rfl (lv_at hl 1 rfl) (hp_n (n := 2) rfl ?_)
  have J18 : ∀ (αh1 : hp_T) (Hh1 : Heap) (Lh1 : List Loc) (Bh1 : hp_B Γ mo s α αh1 Hh1 Lh1) (σh1 : ms_T) (Mh1 : hm_M αh1 a0 ρ σh1) (v1_h1 : Int32) (v2_h1 : Int32) (w0_h1 : Int32) (ls : Array Slot) (hl : lv_has ls 5 [(0, .ref a0), (1, .int v1_h1), (2, .int v2_h1)]) (hf : f_X12_trusted_J18 n σh1 v1_h1 v2_h1 w0_h1 = some res), W p l e (hp_rm 2 0 0) s m ([.ref a0, .int a1, .int a2] : List Value).toArray below meth c Hh1 Lh1 0 0 (MQ below (hp_Qi Γ (fun r β => r = res.1 ∧ mo α β ∧ hm_M β a0 ρ res.2)) ([.ref a0, .int a1, .int a2] : List Value).toArray s 0 0 (hp_A Γ)) (F0 m 18 ls [.int w0_h1, .ref a0]) := by
    intro αh1 Hh1 Lh1 Bh1 σh1 Mh1 v1_h1 v2_h1 w0_h1 ls hl hf
    unfold f_X12_trusted_J18 at hf
    obtain ⟨rh2, σh2, qh2, hf⟩ := ms_cE hf
    refine m_ci (pc' := 21) (a := a0) (ρ := ρ) Bh1 (hp_runV (As := [.int w0_h1]) (rest := []) C Bh1 (m_X12_is n Γ l αh1 a0 ρ σh1 Mh1 w0_h1 (rh2, σh2) qh2) lb_X12_is lv_X12_is lk_X12_309 Mh1.1 rfl (by decide) rfl hl.1 rfl (Nat.le_of_ble_eq_true rfl) dX12_trusted_18 ⟨Nat.le_refl _, Nat.le_refl _⟩) rfl (fun αh2 Hh2 Lh2 Bh2 Mh2 => ?_)
    refine lv_if_ne (tgt := 26) hx hb dX12_trusted_21 (by decide) (fun c3 => ?_) (fun c3 => hp_n (n := 24) rfl ?_)
    ·
      replace hf := ms_iF c3 hf
      refine lv_iconst (v := 0) hx hb dX12_trusted_26 (by decide) (hp_n (n := 27) rfl ?_)
      refine lv_istore_n (lv' := [(3, .int (0 : Int32)), (0, .ref a0), (1, .int v1_h1), (2, .int v2_h1)]) hx hb dX12_trusted_27 rfl hl (by decide) rfl (fun ls hl => hp_n (n := 28) rfl ?_)
      refine lv_iconst (v := 0) hx hb dX12_trusted_28 (by decide) (hp_n (n := 29) rfl ?_)
      have J31 : ∀ (k31 : Nat) (αh4 : hp_T) (Hh4 : Heap) (Lh4 : List Loc) (Bh4 : hp_B Γ mo s α αh4 Hh4 Lh4) (σh4 : ms_T) (Mh4 : hm_M αh4 a0 ρ σh4) (v1_h4 : Int32) (v2_h4 : Int32) (v3_h4 : Int32) (v4_h4 : Int32) (ls : Array Slot) (hl : lv_has ls 5 [(0, .ref a0), (1, .int v1_h4), (2, .int v2_h4), (3, .int v3_h4), (4, .int v4_h4)]) (hf : f_X12_trusted_L31 n k31 σh4 v1_h4 v2_h4 v3_h4 v4_h4 = some res), W p l e (hp_rm 2 0 0) s m ([.ref a0, .int a1, .int a2] : List Value).toArray below meth c Hh4 Lh4 0 0 (MQ below (hp_Qi Γ (fun r β => r = res.1 ∧ mo α β ∧ hm_M β a0 ρ res.2)) ([.ref a0, .int a1, .int a2] : List Value).toArray s 0 0 (hp_A Γ)) (F0 m 31 ls []) := by
        intro k31
        induction k31 with
        | zero => intro αh4 Hh4 Lh4 Bh4 σh4 Mh4 v1_h4 v2_h4 v3_h4 v4_h4 ls hl hf; rw [f_X12_trusted_L31.eq_1] at hf; cases hf
        | succ k31 ih31 =>
          intro αh4 Hh4 Lh4 Bh4 σh4 Mh4 v1_h4 v2_h4 v3_h4 v4_h4 ls hl hf
          rw [f_X12_trusted_L31.eq_2] at hf
          refine lv_iload hx hb dX12_trusted_31 (lv_at hl 4 rfl) (hp_n (n := 33) rfl ?_)
          refine lv_iconst (v := 4) hx hb dX12_trusted_33 (by decide) (hp_n (n := 34) rfl ?_)
          refine lv_icmp_ge (tgt := 73) hx hb dX12_trusted_34 (by decide) (fun c5 => ?_) (fun c5 => hp_n (n := 37) rfl ?_)
          ·
            replace hf := ms_iT c5 hf
            refine lv_iload_n hx hb dX12_trusted_73 rfl (lv_at hl 3 rfl) (hp_n (n := 74) rfl ?_)
            cases hf
            exact q_iret C Bh4 hr hlk ⟨rfl, Bh4.2.2, Mh4⟩ dX12_trusted_74
          ·
            replace hf := ms_iF c5 hf
            refine lv_iload_n hx hb dX12_trusted_37 rfl (lv_at hl 3 rfl) (hp_n (n := 38) rfl ?_)
            refine lv_aload_n hx hb dX12_trusted_38 rfl (lv_at hl 0 rfl) (hp_n (n := 39) rfl ?_)
            refine lv_iload hx hb dX12_trusted_39 (lv_at hl 4 rfl) (hp_n (n := 41) rfl ?_)
            refine lv_iconst (v := 0) hx hb dX12_trusted_41 (by decide) (hp_n (n := 42) rfl ?_)
            obtain ⟨rh6, qh6, hf⟩ := ms_bE hf
            refine m_cp (pc' := 45) Bh4 (hp_runV (As := [.int v4_h4, .int (0 : Int32)]) (rest := [.int v3_h4]) C Bh4 (m_X12_trust n Γ l αh4 a0 ρ σh4 Mh4 v4_h4 (0 : Int32) rh6 qh6) lb_X12_trust lv_X12_trust lk_X12_221 Mh4.1 rfl (by decide) rfl hl.1 rfl (Nat.le_of_ble_eq_true rfl) dX12_trusted_42 ⟨Nat.le_refl _, Nat.le_refl _⟩) rfl (fun Hh6 Lh6 Bh6 => ?_)
            refine lv_iload_n hx hb dX12_trusted_45 rfl (lv_at hl 1 rfl) (hp_n (n := 46) rfl ?_)
            have J65 : ∀ (αh7 : hp_T) (Hh7 : Heap) (Lh7 : List Loc) (Bh7 : hp_B Γ mo s α αh7 Hh7 Lh7) (σh7 : ms_T) (Mh7 : hm_M αh7 a0 ρ σh7) (v1_h7 : Int32) (v2_h7 : Int32) (v4_h7 : Int32) (w0_h7 : Int32) (w1_h7 : Int32) (ls : Array Slot) (hl : lv_has ls 5 [(0, .ref a0), (1, .int v1_h7), (2, .int v2_h7), (4, .int v4_h7)]) (hf : f_X12_trusted_J65 n (f_X12_trusted_L31 n k31) σh7 v1_h7 v2_h7 v4_h7 w0_h7 w1_h7 = some res), W p l e (hp_rm 2 0 0) s m ([.ref a0, .int a1, .int a2] : List Value).toArray below meth c Hh7 Lh7 0 0 (MQ below (hp_Qi Γ (fun r β => r = res.1 ∧ mo α β ∧ hm_M β a0 ρ res.2)) ([.ref a0, .int a1, .int a2] : List Value).toArray s 0 0 (hp_A Γ)) (F0 m 65 ls [.int w0_h7, .int w1_h7]) := by
              intro αh7 Hh7 Lh7 Bh7 σh7 Mh7 v1_h7 v2_h7 v4_h7 w0_h7 w1_h7 ls hl hf
              unfold f_X12_trusted_J65 at hf
              refine lv_iadd hx hb dX12_trusted_65 (hp_n (n := 66) rfl ?_)
              refine lv_topi (fun x8 ex8 => ?_)
              replace hf := ms_lE ex8 hf
              refine lv_istore_n (lv' := [(3, .int x8), (0, .ref a0), (1, .int v1_h7), (2, .int v2_h7), (4, .int v4_h7)]) hx hb dX12_trusted_66 rfl hl (by decide) rfl (fun ls hl => hp_n (n := 67) rfl ?_)
              obtain ⟨x9, ex9⟩ : ∃ y : Int32, y = v4_h7 + 1 := ⟨_, rfl⟩
              replace hf := ms_lE ex9 hf
              refine lv_iinc (v := x9) (lv' := [(4, .int x9), (3, .int x8), (0, .ref a0), (1, .int v1_h7), (2, .int v2_h7)]) hx hb dX12_trusted_67 hl (k := 4) rfl (by rw [ex9]; rfl) (by decide) rfl (fun ls hl => hp_n (n := 70) rfl ?_)
              refine lv_goto (tgt := 31) hx hb dX12_trusted_70 (by decide) ?_
              exact ih31 αh7 Hh7 Lh7 Bh7 σh7 Mh7 v1_h7 v2_h7 x8 x9 ls (lv_sub hl [2, 3, 4, 1, 0] rfl) hf
            have J64 : ∀ (αh10 : hp_T) (Hh10 : Heap) (Lh10 : List Loc) (Bh10 : hp_B Γ mo s α αh10 Hh10 Lh10) (σh10 : ms_T) (Mh10 : hm_M αh10 a0 ρ σh10) (v1_h10 : Int32) (v2_h10 : Int32) (v4_h10 : Int32) (w0_h10 : Int32) (ls : Array Slot) (hl : lv_has ls 5 [(0, .ref a0), (1, .int v1_h10), (2, .int v2_h10), (4, .int v4_h10)]) (hf : f_X12_trusted_J64 n (f_X12_trusted_L31 n k31) σh10 v1_h10 v2_h10 v4_h10 w0_h10 = some res), W p l e (hp_rm 2 0 0) s m ([.ref a0, .int a1, .int a2] : List Value).toArray below meth c Hh10 Lh10 0 0 (MQ below (hp_Qi Γ (fun r β => r = res.1 ∧ mo α β ∧ hm_M β a0 ρ res.2)) ([.ref a0, .int a1, .int a2] : List Value).toArray s 0 0 (hp_A Γ)) (F0 m 64 ls [.int w0_h10]) := by
              intro αh10 Hh10 Lh10 Bh10 σh10 Mh10 v1_h10 v2_h10 v4_h10 w0_h10 ls hl hf
              unfold f_X12_trusted_J64 at hf
              refine lv_iconst (v := 0) hx hb dX12_trusted_64 (by decide) (hp_n (n := 65) rfl ?_)
              exact J65 αh10 Hh10 Lh10 Bh10 σh10 Mh10 v1_h10 v2_h10 v4_h10 (0 : Int32) w0_h10 ls (lv_sub hl [0, 1, 2, 3] rfl) hf
            refine lv_icmp_ne (tgt := 64) hx hb dX12_trusted_46 (by decide) (fun c11 => ?_) (fun c11 => hp_n (n := 49) rfl ?_)
            ·
              replace hf := ms_iF c11 hf
              exact J64 αh4 Hh6 Lh6 Bh6 σh4 Mh4 v1_h4 v2_h4 v4_h4 v3_h4 ls (lv_sub hl [0, 1, 2, 4] rfl) hf
            ·
              replace hf := ms_iT c11 hf
              refine lv_aload_n hx hb dX12_trusted_49 rfl (lv_at hl 0 rfl) (hp_n (n := 50) rfl ?_)
              refine lv_iload hx hb dX12_trusted_50 (lv_at hl 4 rfl) (hp_n (n := 52) rfl ?_)
              refine lv_iconst (v := 1) hx hb dX12_trusted_52 (by decide) (hp_n (n := 53) rfl ?_)
              obtain ⟨rh12, qh12, hf⟩ := ms_bE hf
              refine m_cp (pc' := 56) Bh6 (hp_runV (As := [.int v4_h4, .int (1 : Int32)]) (rest := [.int v3_h4]) C Bh6 (m_X12_trust n Γ l αh4 a0 ρ σh4 Mh4 v4_h4 (1 : Int32) rh12 qh12) lb_X12_trust lv_X12_trust lk_X12_221 Mh4.1 rfl (by decide) rfl hl.1 rfl (Nat.le_of_ble_eq_true rfl) dX12_trusted_53 ⟨Nat.le_refl _, Nat.le_refl _⟩) rfl (fun Hh12 Lh12 Bh12 => ?_)
              refine lv_iload_n hx hb dX12_trusted_56 rfl (lv_at hl 2 rfl) (hp_n (n := 57) rfl ?_)
              refine lv_icmp_ne (tgt := 64) hx hb dX12_trusted_57 (by decide) (fun c13 => ?_) (fun c13 => hp_n (n := 60) rfl ?_)
              ·
                replace hf := ms_iF c13 hf
                exact J64 αh4 Hh12 Lh12 Bh12 σh4 Mh4 v1_h4 v2_h4 v4_h4 v3_h4 ls (lv_sub hl [0, 1, 2, 4] rfl) hf
              ·
                replace hf := ms_iT c13 hf
                refine lv_iconst (v := 1) hx hb dX12_trusted_60 (by decide) (hp_n (n := 61) rfl ?_)
                refine lv_goto (tgt := 65) hx hb dX12_trusted_61 (by decide) ?_
                exact J65 αh4 Hh12 Lh12 Bh12 σh4 Mh4 v1_h4 v2_h4 v4_h4 (1 : Int32) v3_h4 ls (lv_sub hl [0, 1, 2, 4] rfl) hf
      refine lv_istore (lv' := [(4, .int (0 : Int32)), (3, .int (0 : Int32)), (0, .ref a0), (1, .int v1_h1), (2, .int v2_h1)]) hx hb dX12_trusted_29 hl (by decide) rfl (fun ls hl => hp_n (n := 31) rfl ?_)
      exact J31 n αh2 Hh2 Lh2 Bh2 σh2 Mh2 v1_h1 v2_h1 (0 : Int32) (0 : Int32) ls (lv_sub hl [2, 3, 4, 1, 0] rfl) hf
    ·
      replace hf := ms_iT c3 hf
      refine lv_iconst (v := (-1)) hx hb dX12_trusted_24 (by decide) (hp_n (n := 25) rfl ?_)
      cases hf
      exact q_iret C Bh2 hr hlk ⟨rfl, Bh2.2.2, Mh2⟩ dX12_trusted_25
  have J13 : ∀ (αh14 : hp_T) (Hh14 : Heap) (Lh14 : List Loc) (Bh14 : hp_B Γ mo s α αh14 Hh14 Lh14) (σh14 : ms_T) (Mh14 : hm_M αh14 a0 ρ σh14) (v1_h14 : Int32) (v2_h14 : Int32) (ls : Array Slot) (hl : lv_has ls 5 [(0, .ref a0), (1, .int v1_h14), (2, .int v2_h14)]) (hf : f_X12_trusted_J13 n σh14 v1_h14 v2_h14 = some res), W p l e (hp_rm 2 0 0) s m ([.ref a0, .int a1, .int a2] : List Value).toArray below meth c Hh14 Lh14 0 0 (MQ below (hp_Qi Γ (fun r β => r = res.1 ∧ mo α β ∧ hm_M β a0 ρ res.2)) ([.ref a0, .int a1, .int a2] : List Value).toArray s 0 0 (hp_A Γ)) (F0 m 13 ls [.ref a0]) := by
    intro αh14 Hh14 Lh14 Bh14 σh14 Mh14 v1_h14 v2_h14 ls hl hf
    unfold f_X12_trusted_J13 at hf
    refine lv_iconst (v := 1) hx hb dX12_trusted_13 (by decide) (hp_n (n := 14) rfl ?_)
    refine lv_goto (tgt := 18) hx hb dX12_trusted_14 (by decide) ?_
    exact J18 αh14 Hh14 Lh14 Bh14 σh14 Mh14 v1_h14 v2_h14 (1 : Int32) ls (lv_sub hl [0, 1, 2] rfl) hf
  refine lv_if_lt (tgt := 13) hx hb dX12_trusted_2 (by decide) (fun c15 => ?_) (fun c15 => hp_n (n := 5) rfl ?_)
  ·
    replace hf := ms_iT c15 hf
    exact J13 α s.heap [] B σ hM a1 a2 ls (lv_sub hl [0, 1, 2] rfl) hf
  ·
    replace hf := ms_iF c15 hf
    refine lv_aload_n hx hb dX12_trusted_5 rfl (lv_at hl 0 rfl) (hp_n (n := 6) rfl ?_)
    refine lv_iload_n hx hb dX12_trusted_6 rfl (lv_at hl 2 rfl) (hp_n (n := 7) rfl ?_)
    obtain ⟨rh16, qh16, hf⟩ := ms_bE hf
    refine m_cp (pc' := 10) B (hp_runV (As := [.int a2]) (rest := [.ref a0]) C B (m_X12_isMark n Γ l α a0 ρ σ hM a2 rh16 qh16) lb_X12_isMark lv_X12_isMark lk_X12_321 hM.1 rfl (by decide) rfl hl.1 rfl (Nat.le_of_ble_eq_true rfl) dX12_trusted_7 ⟨Nat.le_refl _, Nat.le_refl _⟩) rfl (fun Hh16 Lh16 Bh16 => ?_)
    refine lv_if_ne (tgt := 17) hx hb dX12_trusted_10 (by decide) (fun c17 => ?_) (fun c17 => hp_n (n := 13) rfl ?_)
    ·
      replace hf := ms_iF c17 hf
      refine lv_iconst (v := 0) hx hb dX12_trusted_17 (by decide) (hp_n (n := 18) rfl ?_)
      exact J18 α Hh16 Lh16 Bh16 σ hM a1 a2 (0 : Int32) ls (lv_sub hl [0, 1, 2] rfl) hf
    ·
      replace hf := ms_iT c17 hf
      exact J13 α Hh16 Lh16 Bh16 σ hM a1 a2 ls (lv_sub hl [0, 1, 2] rfl) hf
def f_X12_saves_J64 (n : Nat) (rec31 : ms_T → Int32 → Int32 → Int32 → Int32 → Option (Int32 × ms_T)) (σh7 : ms_T) (v1_h7 : Int32) (v2_h7 : Int32) (v3_h7 : Int32) (v4_h7 : Int32) : Option (Int32 × ms_T) :=
  ms_l (v4_h7 + 1) fun x8 =>
  rec31 σh7 v1_h7 v2_h7 v3_h7 x8
def f_X12_saves_L31 (n : Nat) : Nat → ms_T → Int32 → Int32 → Int32 → Int32 → Option (Int32 × ms_T)
  | 0, _, _, _, _, _ => none
  | k31 + 1, σh4, v1_h4, v2_h4, v3_h4, v4_h4 =>
    if (30 : Int32) ≤ v4_h4 then
      ms_b (f_X12_bundleOf n σh4 v1_h4 v2_h4) fun σh6 =>
      some ((v3_h4 - (ms_I σh6 657)), σh6)
    else
      if ((v1_h4 >>> (v4_h4 &&& 31)) &&& (1 : Int32)) = 0 then
        f_X12_saves_J64 n (f_X12_saves_L31 n k31) σh4 v1_h4 v2_h4 v3_h4 v4_h4
      else
        ms_b (f_X12_inclusion n σh4 v4_h4 v2_h4) fun σh10 =>
        ms_l ((v3_h4 + (ms_I σh10 657))) fun x11 =>
        f_X12_saves_J64 n (f_X12_saves_L31 n k31) σh10 v1_h4 v2_h4 x11 v4_h4
def f_X12_saves_J18 (n : Nat) (σh1 : ms_T) (v1_h1 : Int32) (v2_h1 : Int32) (w0_h1 : Int32) : Option (Int32 × ms_T) :=
  ms_c (f_X12_is n σh1 w0_h1) fun rh2 σh2 =>
  if rh2 = 0 then
    some ((-1 : Int32), σh2)
  else
    f_X12_saves_L31 n n σh2 v1_h1 v2_h1 (0 : Int32) (0 : Int32)
def f_X12_saves_J13 (n : Nat) (σh12 : ms_T) (v1_h12 : Int32) (v2_h12 : Int32) : Option (Int32 × ms_T) :=
  f_X12_saves_J18 n σh12 v1_h12 v2_h12 (1 : Int32)
def f_X12_saves (n : Nat) (σ : ms_T) (a1 : Int32) (a2 : Int32) : Option (Int32 × ms_T) :=
  if a1 ≤ 0 then
    f_X12_saves_J13 n σ a1 a2
  else
    ms_b (f_X12_isBeyond n a1 a2) fun rh14 =>
    if rh14 = 0 then
      f_X12_saves_J18 n σ a1 a2 (0 : Int32)
    else
      f_X12_saves_J13 n σ a1 a2
set_option maxRecDepth 100000 in
set_option maxHeartbeats 4000000 in
theorem m_X12_saves (n : Nat) (Γ : hp_G) (l : Launch) (α : hp_T) (a0 : Nat) (ρ : Nat → Nat) (σ : ms_T) (hM : hm_M α a0 ρ σ) (a1 : Int32) (a2 : Int32) (res : (Int32 × ms_T)) (hf : f_X12_saves n σ a1 a2 = some res) : Met l yX12_saves (hp_ws yX12_saves cX12_saves 5 (some .int)) (hp_rm 42 0 0) (hp_Pc Γ α [.ref a0, .int a1, .int a2]) (hp_Qi Γ (fun r β => r = res.1 ∧ mo α β ∧ hm_M β a0 ρ res.2)) 0 0 (hp_A Γ) := by
  unfold f_X12_saves at hf
  refine hp_start (by decide) ?_
  intro p e s m below meth c C hr hlk B0 hnm
  have C : hp_C Γ p m c cX12_saves 5 s ([.ref a0, .int a1, .int a2] : List Value).toArray RX12 := C
  have hx := C.1.1
  have hb := C.1.2.1
  have hown := C.1.2.2.2.1
  have hts := C.1.2.2.2.2
  have B : hp_B Γ mo s α α s.heap [] := ⟨B0.1, B0.2.1, mo_rf⟩
  have hl := lv_entry ([.ref a0, .int a1, .int a2]) (n := 5) (Nat.le_of_ble_eq_true rfl)
  show W p l e (hp_rm 42 0 0) s m ([.ref a0, .int a1, .int a2] : List Value).toArray below meth c s.heap [] 0 0 (MQ below (hp_Qi Γ (fun r β => r = res.1 ∧ mo α β ∧ hm_M β a0 ρ res.2)) ([.ref a0, .int a1, .int a2] : List Value).toArray s 0 0 (hp_A Γ)) (entryFrame m ([.ref a0, .int a1, .int a2] : List Value).toArray 5)
  rw [lg_entry_eq]
  generalize (lg_sl ([.ref a0, .int a1, .int a2]) ++ List.replicate (5 - (lg_sl ([.ref a0, .int a1, .int a2])).length) Slot.unset).toArray = ls at hl ⊢
  have hl : lv_has ls 5 [(0, .ref a0), (1, .int a1), (2, .int a2)] := hl
  refine lv_aload_n hx hb dX12_saves_0 rfl (lv_at hl 0 rfl) (hp_n (n := 1) rfl ?_)
  refine lv_iload_n hx hb dX12_saves_1 rfl (lv_at hl 1 rfl) (hp_n (n := 2) rfl ?_)
  have J18 : ∀ (αh1 : hp_T) (Hh1 : Heap) (Lh1 : List Loc) (Bh1 : hp_B Γ mo s α αh1 Hh1 Lh1) (σh1 : ms_T) (Mh1 : hm_M αh1 a0 ρ σh1) (v1_h1 : Int32) (v2_h1 : Int32) (w0_h1 : Int32) (ls : Array Slot) (hl : lv_has ls 5 [(0, .ref a0), (1, .int v1_h1), (2, .int v2_h1)]) (hf : f_X12_saves_J18 n σh1 v1_h1 v2_h1 w0_h1 = some res), W p l e (hp_rm 42 0 0) s m ([.ref a0, .int a1, .int a2] : List Value).toArray below meth c Hh1 Lh1 0 0 (MQ below (hp_Qi Γ (fun r β => r = res.1 ∧ mo α β ∧ hm_M β a0 ρ res.2)) ([.ref a0, .int a1, .int a2] : List Value).toArray s 0 0 (hp_A Γ)) (F0 m 18 ls [.int w0_h1, .ref a0]) := by
    intro αh1 Hh1 Lh1 Bh1 σh1 Mh1 v1_h1 v2_h1 w0_h1 ls hl hf
    unfold f_X12_saves_J18 at hf
    obtain ⟨rh2, σh2, qh2, hf⟩ := ms_cE hf
    refine m_ci (pc' := 21) (a := a0) (ρ := ρ) Bh1 (hp_runV (As := [.int w0_h1]) (rest := []) C Bh1 (m_X12_is n Γ l αh1 a0 ρ σh1 Mh1 w0_h1 (rh2, σh2) qh2) lb_X12_is lv_X12_is lk_X12_309 Mh1.1 rfl (by decide) rfl hl.1 rfl (Nat.le_of_ble_eq_true rfl) dX12_saves_18 ⟨Nat.le_refl _, Nat.le_refl _⟩) rfl (fun αh2 Hh2 Lh2 Bh2 Mh2 => ?_)
    refine lv_if_ne (tgt := 26) hx hb dX12_saves_21 (by decide) (fun c3 => ?_) (fun c3 => hp_n (n := 24) rfl ?_)
    ·
      replace hf := ms_iF c3 hf
      refine lv_iconst (v := 0) hx hb dX12_saves_26 (by decide) (hp_n (n := 27) rfl ?_)
      refine lv_istore_n (lv' := [(3, .int (0 : Int32)), (0, .ref a0), (1, .int v1_h1), (2, .int v2_h1)]) hx hb dX12_saves_27 rfl hl (by decide) rfl (fun ls hl => hp_n (n := 28) rfl ?_)
      refine lv_iconst (v := 0) hx hb dX12_saves_28 (by decide) (hp_n (n := 29) rfl ?_)
      have J31 : ∀ (k31 : Nat) (αh4 : hp_T) (Hh4 : Heap) (Lh4 : List Loc) (Bh4 : hp_B Γ mo s α αh4 Hh4 Lh4) (σh4 : ms_T) (Mh4 : hm_M αh4 a0 ρ σh4) (v1_h4 : Int32) (v2_h4 : Int32) (v3_h4 : Int32) (v4_h4 : Int32) (ls : Array Slot) (hl : lv_has ls 5 [(0, .ref a0), (1, .int v1_h4), (2, .int v2_h4), (3, .int v3_h4), (4, .int v4_h4)]) (hf : f_X12_saves_L31 n k31 σh4 v1_h4 v2_h4 v3_h4 v4_h4 = some res), W p l e (hp_rm 42 0 0) s m ([.ref a0, .int a1, .int a2] : List Value).toArray below meth c Hh4 Lh4 0 0 (MQ below (hp_Qi Γ (fun r β => r = res.1 ∧ mo α β ∧ hm_M β a0 ρ res.2)) ([.ref a0, .int a1, .int a2] : List Value).toArray s 0 0 (hp_A Γ)) (F0 m 31 ls []) := by
        intro k31
        induction k31 with
        | zero => intro αh4 Hh4 Lh4 Bh4 σh4 Mh4 v1_h4 v2_h4 v3_h4 v4_h4 ls hl hf; rw [f_X12_saves_L31.eq_1] at hf; cases hf
        | succ k31 ih31 =>
          intro αh4 Hh4 Lh4 Bh4 σh4 Mh4 v1_h4 v2_h4 v3_h4 v4_h4 ls hl hf
          rw [f_X12_saves_L31.eq_2] at hf
          refine lv_iload hx hb dX12_saves_31 (lv_at hl 4 rfl) (hp_n (n := 33) rfl ?_)
          refine lv_bipush (v := 30) hx hb dX12_saves_33 (by decide) (hp_n (n := 35) rfl ?_)
          refine lv_icmp_ge (tgt := 70) hx hb dX12_saves_35 (by decide) (fun c5 => ?_) (fun c5 => hp_n (n := 38) rfl ?_)
          ·
            replace hf := ms_iT c5 hf
            refine lv_aload_n hx hb dX12_saves_70 rfl (lv_at hl 0 rfl) (hp_n (n := 71) rfl ?_)
            refine lv_iload_n hx hb dX12_saves_71 rfl (lv_at hl 1 rfl) (hp_n (n := 72) rfl ?_)
            refine lv_iload_n hx hb dX12_saves_72 rfl (lv_at hl 2 rfl) (hp_n (n := 73) rfl ?_)
            obtain ⟨σh6, qh6, hf⟩ := ms_bE hf
            refine m_cv (pc' := 76) (a := a0) (ρ := ρ) Bh4 (hp_runV (As := [.int v1_h4, .int v2_h4]) (rest := []) C Bh4 (m_X12_bundleOf n Γ l αh4 a0 ρ σh4 Mh4 v1_h4 v2_h4 σh6 qh6) lb_X12_bundleOf lv_X12_bundleOf lk_X12_372 Mh4.1 rfl (by decide) rfl hl.1 rfl (Nat.le_of_ble_eq_true rfl) dX12_saves_73 ⟨Nat.le_refl _, Nat.le_refl _⟩) rfl (fun αh6 Hh6 Lh6 Bh6 Mh6 => ?_)
            refine lv_iload_n hx hb dX12_saves_76 rfl (lv_at hl 3 rfl) (hp_n (n := 77) rfl ?_)
            refine lv_aload_n hx hb dX12_saves_77 rfl (lv_at hl 0 rfl) (hp_n (n := 78) rfl ?_)
            refine m_geti (k := 7) (φ := 657) (pc' := 81) C Bh6 Mh6 fl_X12_139 rfl rfl dX12_saves_78 rfl ?_
            refine lv_isub hx hb dX12_saves_81 (hp_n (n := 82) rfl ?_)
            cases hf
            exact q_iret C Bh6 hr hlk ⟨rfl, Bh6.2.2, Mh6⟩ dX12_saves_82
          ·
            replace hf := ms_iF c5 hf
            refine lv_iload_n hx hb dX12_saves_38 rfl (lv_at hl 1 rfl) (hp_n (n := 39) rfl ?_)
            refine lv_iload hx hb dX12_saves_39 (lv_at hl 4 rfl) (hp_n (n := 41) rfl ?_)
            refine lv_ishr hx hb dX12_saves_41 (hp_n (n := 42) rfl ?_)
            refine lv_iconst (v := 1) hx hb dX12_saves_42 (by decide) (hp_n (n := 43) rfl ?_)
            refine lv_iand hx hb dX12_saves_43 (hp_n (n := 44) rfl ?_)
            have J64 : ∀ (αh7 : hp_T) (Hh7 : Heap) (Lh7 : List Loc) (Bh7 : hp_B Γ mo s α αh7 Hh7 Lh7) (σh7 : ms_T) (Mh7 : hm_M αh7 a0 ρ σh7) (v1_h7 : Int32) (v2_h7 : Int32) (v3_h7 : Int32) (v4_h7 : Int32) (ls : Array Slot) (hl : lv_has ls 5 [(0, .ref a0), (1, .int v1_h7), (2, .int v2_h7), (3, .int v3_h7), (4, .int v4_h7)]) (hf : f_X12_saves_J64 n (f_X12_saves_L31 n k31) σh7 v1_h7 v2_h7 v3_h7 v4_h7 = some res), W p l e (hp_rm 42 0 0) s m ([.ref a0, .int a1, .int a2] : List Value).toArray below meth c Hh7 Lh7 0 0 (MQ below (hp_Qi Γ (fun r β => r = res.1 ∧ mo α β ∧ hm_M β a0 ρ res.2)) ([.ref a0, .int a1, .int a2] : List Value).toArray s 0 0 (hp_A Γ)) (F0 m 64 ls []) := by
              intro αh7 Hh7 Lh7 Bh7 σh7 Mh7 v1_h7 v2_h7 v3_h7 v4_h7 ls hl hf
              unfold f_X12_saves_J64 at hf
              obtain ⟨x8, ex8⟩ : ∃ y : Int32, y = v4_h7 + 1 := ⟨_, rfl⟩
              replace hf := ms_lE ex8 hf
              refine lv_iinc (v := x8) (lv' := [(4, .int x8), (0, .ref a0), (1, .int v1_h7), (2, .int v2_h7), (3, .int v3_h7)]) hx hb dX12_saves_64 hl (k := 4) rfl (by rw [ex8]; rfl) (by decide) rfl (fun ls hl => hp_n (n := 67) rfl ?_)
              refine lv_goto (tgt := 31) hx hb dX12_saves_67 (by decide) ?_
              exact ih31 αh7 Hh7 Lh7 Bh7 σh7 Mh7 v1_h7 v2_h7 v3_h7 x8 ls (lv_sub hl [1, 2, 3, 4, 0] rfl) hf
            refine lv_if_ne (tgt := 50) hx hb dX12_saves_44 (by decide) (fun c9 => ?_) (fun c9 => hp_n (n := 47) rfl ?_)
            ·
              replace hf := ms_iF c9 hf
              refine lv_aload_n hx hb dX12_saves_50 rfl (lv_at hl 0 rfl) (hp_n (n := 51) rfl ?_)
              refine lv_iload hx hb dX12_saves_51 (lv_at hl 4 rfl) (hp_n (n := 53) rfl ?_)
              refine lv_iload_n hx hb dX12_saves_53 rfl (lv_at hl 2 rfl) (hp_n (n := 54) rfl ?_)
              obtain ⟨σh10, qh10, hf⟩ := ms_bE hf
              refine m_cv (pc' := 57) (a := a0) (ρ := ρ) Bh4 (hp_runV (As := [.int v4_h4, .int v2_h4]) (rest := []) C Bh4 (m_X12_inclusion n Γ l αh4 a0 ρ σh4 Mh4 v4_h4 v2_h4 σh10 qh10) lb_X12_inclusion lv_X12_inclusion lk_X12_171 Mh4.1 rfl (by decide) rfl hl.1 rfl (Nat.le_of_ble_eq_true rfl) dX12_saves_54 ⟨Nat.le_refl _, Nat.le_refl _⟩) rfl (fun αh10 Hh10 Lh10 Bh10 Mh10 => ?_)
              refine lv_iload_n hx hb dX12_saves_57 rfl (lv_at hl 3 rfl) (hp_n (n := 58) rfl ?_)
              refine lv_aload_n hx hb dX12_saves_58 rfl (lv_at hl 0 rfl) (hp_n (n := 59) rfl ?_)
              refine m_geti (k := 7) (φ := 657) (pc' := 62) C Bh10 Mh10 fl_X12_139 rfl rfl dX12_saves_59 rfl ?_
              refine lv_iadd hx hb dX12_saves_62 (hp_n (n := 63) rfl ?_)
              refine lv_topi (fun x11 ex11 => ?_)
              replace hf := ms_lE ex11 hf
              refine lv_istore_n (lv' := [(3, .int x11), (0, .ref a0), (1, .int v1_h4), (2, .int v2_h4), (4, .int v4_h4)]) hx hb dX12_saves_63 rfl hl (by decide) rfl (fun ls hl => hp_n (n := 64) rfl ?_)
              exact J64 αh10 Hh10 Lh10 Bh10 σh10 Mh10 v1_h4 v2_h4 x11 v4_h4 ls (lv_sub hl [1, 2, 3, 0, 4] rfl) hf
            ·
              replace hf := ms_iT c9 hf
              refine lv_goto (tgt := 64) hx hb dX12_saves_47 (by decide) ?_
              exact J64 αh4 Hh4 Lh4 Bh4 σh4 Mh4 v1_h4 v2_h4 v3_h4 v4_h4 ls (lv_sub hl [0, 1, 2, 3, 4] rfl) hf
      refine lv_istore (lv' := [(4, .int (0 : Int32)), (3, .int (0 : Int32)), (0, .ref a0), (1, .int v1_h1), (2, .int v2_h1)]) hx hb dX12_saves_29 hl (by decide) rfl (fun ls hl => hp_n (n := 31) rfl ?_)
      exact J31 n αh2 Hh2 Lh2 Bh2 σh2 Mh2 v1_h1 v2_h1 (0 : Int32) (0 : Int32) ls (lv_sub hl [2, 3, 4, 1, 0] rfl) hf
    ·
      replace hf := ms_iT c3 hf
      refine lv_iconst (v := (-1)) hx hb dX12_saves_24 (by decide) (hp_n (n := 25) rfl ?_)
      cases hf
      exact q_iret C Bh2 hr hlk ⟨rfl, Bh2.2.2, Mh2⟩ dX12_saves_25
  have J13 : ∀ (αh12 : hp_T) (Hh12 : Heap) (Lh12 : List Loc) (Bh12 : hp_B Γ mo s α αh12 Hh12 Lh12) (σh12 : ms_T) (Mh12 : hm_M αh12 a0 ρ σh12) (v1_h12 : Int32) (v2_h12 : Int32) (ls : Array Slot) (hl : lv_has ls 5 [(0, .ref a0), (1, .int v1_h12), (2, .int v2_h12)]) (hf : f_X12_saves_J13 n σh12 v1_h12 v2_h12 = some res), W p l e (hp_rm 42 0 0) s m ([.ref a0, .int a1, .int a2] : List Value).toArray below meth c Hh12 Lh12 0 0 (MQ below (hp_Qi Γ (fun r β => r = res.1 ∧ mo α β ∧ hm_M β a0 ρ res.2)) ([.ref a0, .int a1, .int a2] : List Value).toArray s 0 0 (hp_A Γ)) (F0 m 13 ls [.ref a0]) := by
    intro αh12 Hh12 Lh12 Bh12 σh12 Mh12 v1_h12 v2_h12 ls hl hf
    unfold f_X12_saves_J13 at hf
    refine lv_iconst (v := 1) hx hb dX12_saves_13 (by decide) (hp_n (n := 14) rfl ?_)
    refine lv_goto (tgt := 18) hx hb dX12_saves_14 (by decide) ?_
    exact J18 αh12 Hh12 Lh12 Bh12 σh12 Mh12 v1_h12 v2_h12 (1 : Int32) ls (lv_sub hl [0, 1, 2] rfl) hf
  refine lv_if_le (tgt := 13) hx hb dX12_saves_2 (by decide) (fun c13 => ?_) (fun c13 => hp_n (n := 5) rfl ?_)
  ·
    replace hf := ms_iT c13 hf
    exact J13 α s.heap [] B σ hM a1 a2 ls (lv_sub hl [0, 1, 2] rfl) hf
  ·
    replace hf := ms_iF c13 hf
    refine lv_iload_n hx hb dX12_saves_5 rfl (lv_at hl 1 rfl) (hp_n (n := 6) rfl ?_)
    refine lv_iload_n hx hb dX12_saves_6 rfl (lv_at hl 2 rfl) (hp_n (n := 7) rfl ?_)
    obtain ⟨rh14, qh14, hf⟩ := ms_bE hf
    refine m_cp (pc' := 10) B (hp_runS (As := [.int a1, .int a2]) (rest := [.ref a0]) C B (m_X12_isBeyond n Γ l α a1 a2 rh14 qh14) lb_X12_isBeyond ls_X12_isBeyond lk_X12_368 rfl (by decide) rfl hl.1 rfl (Nat.le_of_ble_eq_true rfl) dX12_saves_7 ⟨Nat.le_refl _, Nat.le_refl _⟩) rfl (fun Hh14 Lh14 Bh14 => ?_)
    refine lv_if_eq (tgt := 17) hx hb dX12_saves_10 (by decide) (fun c15 => ?_) (fun c15 => hp_n (n := 13) rfl ?_)
    ·
      replace hf := ms_iT c15 hf
      refine lv_iconst (v := 0) hx hb dX12_saves_17 (by decide) (hp_n (n := 18) rfl ?_)
      exact J18 α Hh14 Lh14 Bh14 σ hM a1 a2 (0 : Int32) ls (lv_sub hl [0, 1, 2] rfl) hf
    ·
      replace hf := ms_iF c15 hf
      exact J13 α Hh14 Lh14 Bh14 σ hM a1 a2 ls (lv_sub hl [0, 1, 2] rfl) hf
def f_X12_who_J62 (n : Nat) (rec31 : ms_T → Int32 → Int32 → Int32 → Int32 → Option (Int32 × ms_T)) (σh8 : ms_T) (v1_h8 : Int32) (v2_h8 : Int32) (v4_h8 : Int32) (w0_h8 : Int32) (w1_h8 : Int32) : Option (Int32 × ms_T) :=
  ms_l ((w1_h8 ||| w0_h8)) fun x9 =>
  ms_l (v4_h8 + 1) fun x10 =>
  rec31 σh8 v1_h8 v2_h8 x9 x10
def f_X12_who_L31 (n : Nat) : Nat → ms_T → Int32 → Int32 → Int32 → Int32 → Option (Int32 × ms_T)
  | 0, _, _, _, _, _ => none
  | k31 + 1, σh4, v1_h4, v2_h4, v3_h4, v4_h4 =>
    ms_g (0 : Int32) 1980 <|
    if (ms_E σh4 40 ((0 : Int32)).toNatClampNeg) ≤ v4_h4 then
      some (v3_h4, σh4)
    else
      ms_b (f_X12_isHead n σh4 v4_h4 v1_h4 v2_h4) fun rh7 =>
      if rh7 = 0 then
        f_X12_who_J62 n (f_X12_who_L31 n k31) σh4 v1_h4 v2_h4 v4_h4 (0 : Int32) v3_h4
      else
        f_X12_who_J62 n (f_X12_who_L31 n k31) σh4 v1_h4 v2_h4 v4_h4 ((1 : Int32) <<< (v4_h4 &&& 31)) v3_h4
def f_X12_who_J18 (n : Nat) (σh1 : ms_T) (v1_h1 : Int32) (v2_h1 : Int32) (w0_h1 : Int32) : Option (Int32 × ms_T) :=
  ms_c (f_X12_is n σh1 w0_h1) fun rh2 σh2 =>
  if rh2 = 0 then
    some ((-1 : Int32), σh2)
  else
    f_X12_who_L31 n n σh2 v1_h1 v2_h1 (0 : Int32) (0 : Int32)
def f_X12_who_J13 (n : Nat) (σh12 : ms_T) (v1_h12 : Int32) (v2_h12 : Int32) : Option (Int32 × ms_T) :=
  f_X12_who_J18 n σh12 v1_h12 v2_h12 (1 : Int32)
def f_X12_who (n : Nat) (σ : ms_T) (a1 : Int32) (a2 : Int32) : Option (Int32 × ms_T) :=
  if a1 < 0 then
    f_X12_who_J13 n σ a1 a2
  else
    ms_b (f_X12_isMark n σ a2) fun rh14 =>
    if rh14 = 0 then
      f_X12_who_J13 n σ a1 a2
    else
      f_X12_who_J18 n σ a1 a2 (0 : Int32)
set_option maxRecDepth 100000 in
set_option maxHeartbeats 4000000 in
theorem m_X12_who (n : Nat) (Γ : hp_G) (l : Launch) (α : hp_T) (a0 : Nat) (ρ : Nat → Nat) (σ : ms_T) (hM : hm_M α a0 ρ σ) (a1 : Int32) (a2 : Int32) (res : (Int32 × ms_T)) (hf : f_X12_who n σ a1 a2 = some res) : Met l yX12_who (hp_ws yX12_who cX12_who 5 (some .int)) (hp_rm 44 0 0) (hp_Pc Γ α [.ref a0, .int a1, .int a2]) (hp_Qi Γ (fun r β => r = res.1 ∧ mo α β ∧ hm_M β a0 ρ res.2)) 0 0 (hp_A Γ) := by
  unfold f_X12_who at hf
  refine hp_start (by decide) ?_
  intro p e s m below meth c C hr hlk B0 hnm
  have C : hp_C Γ p m c cX12_who 5 s ([.ref a0, .int a1, .int a2] : List Value).toArray RX12 := C
  have hx := C.1.1
  have hb := C.1.2.1
  have hown := C.1.2.2.2.1
  have hts := C.1.2.2.2.2
  have B : hp_B Γ mo s α α s.heap [] := ⟨B0.1, B0.2.1, mo_rf⟩
  have hl := lv_entry ([.ref a0, .int a1, .int a2]) (n := 5) (Nat.le_of_ble_eq_true rfl)
  show W p l e (hp_rm 44 0 0) s m ([.ref a0, .int a1, .int a2] : List Value).toArray below meth c s.heap [] 0 0 (MQ below (hp_Qi Γ (fun r β => r = res.1 ∧ mo α β ∧ hm_M β a0 ρ res.2)) ([.ref a0, .int a1, .int a2] : List Value).toArray s 0 0 (hp_A Γ)) (entryFrame m ([.ref a0, .int a1, .int a2] : List Value).toArray 5)
  rw [lg_entry_eq]
  generalize (lg_sl ([.ref a0, .int a1, .int a2]) ++ List.replicate (5 - (lg_sl ([.ref a0, .int a1, .int a2])).length) Slot.unset).toArray = ls at hl ⊢
  have hl : lv_has ls 5 [(0, .ref a0), (1, .int a1), (2, .int a2)] := hl
  refine lv_aload_n hx hb dX12_who_0 rfl (lv_at hl 0 rfl) (hp_n (n := 1) rfl ?_)
  refine lv_iload_n hx hb dX12_who_1 rfl (lv_at hl 1 rfl) (hp_n (n := 2) rfl ?_)
  have J18 : ∀ (αh1 : hp_T) (Hh1 : Heap) (Lh1 : List Loc) (Bh1 : hp_B Γ mo s α αh1 Hh1 Lh1) (σh1 : ms_T) (Mh1 : hm_M αh1 a0 ρ σh1) (v1_h1 : Int32) (v2_h1 : Int32) (w0_h1 : Int32) (ls : Array Slot) (hl : lv_has ls 5 [(0, .ref a0), (1, .int v1_h1), (2, .int v2_h1)]) (hf : f_X12_who_J18 n σh1 v1_h1 v2_h1 w0_h1 = some res), W p l e (hp_rm 44 0 0) s m ([.ref a0, .int a1, .int a2] : List Value).toArray below meth c Hh1 Lh1 0 0 (MQ below (hp_Qi Γ (fun r β => r = res.1 ∧ mo α β ∧ hm_M β a0 ρ res.2)) ([.ref a0, .int a1, .int a2] : List Value).toArray s 0 0 (hp_A Γ)) (F0 m 18 ls [.int w0_h1, .ref a0]) := by
    intro αh1 Hh1 Lh1 Bh1 σh1 Mh1 v1_h1 v2_h1 w0_h1 ls hl hf
    unfold f_X12_who_J18 at hf
    obtain ⟨rh2, σh2, qh2, hf⟩ := ms_cE hf
    refine m_ci (pc' := 21) (a := a0) (ρ := ρ) Bh1 (hp_runV (As := [.int w0_h1]) (rest := []) C Bh1 (m_X12_is n Γ l αh1 a0 ρ σh1 Mh1 w0_h1 (rh2, σh2) qh2) lb_X12_is lv_X12_is lk_X12_309 Mh1.1 rfl (by decide) rfl hl.1 rfl (Nat.le_of_ble_eq_true rfl) dX12_who_18 ⟨Nat.le_refl _, Nat.le_refl _⟩) rfl (fun αh2 Hh2 Lh2 Bh2 Mh2 => ?_)
    refine lv_if_ne (tgt := 26) hx hb dX12_who_21 (by decide) (fun c3 => ?_) (fun c3 => hp_n (n := 24) rfl ?_)
    ·
      replace hf := ms_iF c3 hf
      refine lv_iconst (v := 0) hx hb dX12_who_26 (by decide) (hp_n (n := 27) rfl ?_)
      refine lv_istore_n (lv' := [(3, .int (0 : Int32)), (0, .ref a0), (1, .int v1_h1), (2, .int v2_h1)]) hx hb dX12_who_27 rfl hl (by decide) rfl (fun ls hl => hp_n (n := 28) rfl ?_)
      refine lv_iconst (v := 0) hx hb dX12_who_28 (by decide) (hp_n (n := 29) rfl ?_)
      have J31 : ∀ (k31 : Nat) (αh4 : hp_T) (Hh4 : Heap) (Lh4 : List Loc) (Bh4 : hp_B Γ mo s α αh4 Hh4 Lh4) (σh4 : ms_T) (Mh4 : hm_M αh4 a0 ρ σh4) (v1_h4 : Int32) (v2_h4 : Int32) (v3_h4 : Int32) (v4_h4 : Int32) (ls : Array Slot) (hl : lv_has ls 5 [(0, .ref a0), (1, .int v1_h4), (2, .int v2_h4), (3, .int v3_h4), (4, .int v4_h4)]) (hf : f_X12_who_L31 n k31 σh4 v1_h4 v2_h4 v3_h4 v4_h4 = some res), W p l e (hp_rm 44 0 0) s m ([.ref a0, .int a1, .int a2] : List Value).toArray below meth c Hh4 Lh4 0 0 (MQ below (hp_Qi Γ (fun r β => r = res.1 ∧ mo α β ∧ hm_M β a0 ρ res.2)) ([.ref a0, .int a1, .int a2] : List Value).toArray s 0 0 (hp_A Γ)) (F0 m 31 ls []) := by
        intro k31
        induction k31 with
        | zero => intro αh4 Hh4 Lh4 Bh4 σh4 Mh4 v1_h4 v2_h4 v3_h4 v4_h4 ls hl hf; rw [f_X12_who_L31.eq_1] at hf; cases hf
        | succ k31 ih31 =>
          intro αh4 Hh4 Lh4 Bh4 σh4 Mh4 v1_h4 v2_h4 v3_h4 v4_h4 ls hl hf
          rw [f_X12_who_L31.eq_2] at hf
          refine lv_iload hx hb dX12_who_31 (lv_at hl 4 rfl) (hp_n (n := 33) rfl ?_)
          refine lv_aload_n hx hb dX12_who_33 rfl (lv_at hl 0 rfl) (hp_n (n := 34) rfl ?_)
          refine m_getr (κ := 40) (k := 0) (pc' := 37) C Bh4 Mh4 fl_X12_7 rfl (by decide) dX12_who_34 rfl ?_
          refine lv_iconst (v := 0) hx hb dX12_who_37 (by decide) (hp_n (n := 38) rfl ?_)
          obtain ⟨g5, hf⟩ := ms_gE hf
          refine m_ial (κ := 40) (φ := 650) (n := 1980) (pc' := 39) C Bh4 Mh4 (by decide) (by decide) rfl g5 dX12_who_38 rfl ?_
          refine lv_icmp_ge (tgt := 70) hx hb dX12_who_39 (by decide) (fun c6 => ?_) (fun c6 => hp_n (n := 42) rfl ?_)
          ·
            replace hf := ms_iT c6 hf
            refine lv_iload_n hx hb dX12_who_70 rfl (lv_at hl 3 rfl) (hp_n (n := 71) rfl ?_)
            cases hf
            exact q_iret C Bh4 hr hlk ⟨rfl, Bh4.2.2, Mh4⟩ dX12_who_71
          ·
            replace hf := ms_iF c6 hf
            refine lv_iload_n hx hb dX12_who_42 rfl (lv_at hl 3 rfl) (hp_n (n := 43) rfl ?_)
            refine lv_aload_n hx hb dX12_who_43 rfl (lv_at hl 0 rfl) (hp_n (n := 44) rfl ?_)
            refine lv_iload hx hb dX12_who_44 (lv_at hl 4 rfl) (hp_n (n := 46) rfl ?_)
            refine lv_iload_n hx hb dX12_who_46 rfl (lv_at hl 1 rfl) (hp_n (n := 47) rfl ?_)
            refine lv_iload_n hx hb dX12_who_47 rfl (lv_at hl 2 rfl) (hp_n (n := 48) rfl ?_)
            obtain ⟨rh7, qh7, hf⟩ := ms_bE hf
            refine m_cp (pc' := 51) Bh4 (hp_runV (As := [.int v4_h4, .int v1_h4, .int v2_h4]) (rest := [.int v3_h4]) C Bh4 (m_X12_isHead n Γ l αh4 a0 ρ σh4 Mh4 v4_h4 v1_h4 v2_h4 rh7 qh7) lb_X12_isHead lv_X12_isHead lk_X12_387 Mh4.1 rfl (by decide) rfl hl.1 rfl (Nat.le_of_ble_eq_true rfl) dX12_who_48 ⟨Nat.le_refl _, Nat.le_refl _⟩) rfl (fun Hh7 Lh7 Bh7 => ?_)
            have J62 : ∀ (αh8 : hp_T) (Hh8 : Heap) (Lh8 : List Loc) (Bh8 : hp_B Γ mo s α αh8 Hh8 Lh8) (σh8 : ms_T) (Mh8 : hm_M αh8 a0 ρ σh8) (v1_h8 : Int32) (v2_h8 : Int32) (v4_h8 : Int32) (w0_h8 : Int32) (w1_h8 : Int32) (ls : Array Slot) (hl : lv_has ls 5 [(0, .ref a0), (1, .int v1_h8), (2, .int v2_h8), (4, .int v4_h8)]) (hf : f_X12_who_J62 n (f_X12_who_L31 n k31) σh8 v1_h8 v2_h8 v4_h8 w0_h8 w1_h8 = some res), W p l e (hp_rm 44 0 0) s m ([.ref a0, .int a1, .int a2] : List Value).toArray below meth c Hh8 Lh8 0 0 (MQ below (hp_Qi Γ (fun r β => r = res.1 ∧ mo α β ∧ hm_M β a0 ρ res.2)) ([.ref a0, .int a1, .int a2] : List Value).toArray s 0 0 (hp_A Γ)) (F0 m 62 ls [.int w0_h8, .int w1_h8]) := by
              intro αh8 Hh8 Lh8 Bh8 σh8 Mh8 v1_h8 v2_h8 v4_h8 w0_h8 w1_h8 ls hl hf
              unfold f_X12_who_J62 at hf
              refine lv_ior hx hb dX12_who_62 (hp_n (n := 63) rfl ?_)
              refine lv_topi (fun x9 ex9 => ?_)
              replace hf := ms_lE ex9 hf
              refine lv_istore_n (lv' := [(3, .int x9), (0, .ref a0), (1, .int v1_h8), (2, .int v2_h8), (4, .int v4_h8)]) hx hb dX12_who_63 rfl hl (by decide) rfl (fun ls hl => hp_n (n := 64) rfl ?_)
              obtain ⟨x10, ex10⟩ : ∃ y : Int32, y = v4_h8 + 1 := ⟨_, rfl⟩
              replace hf := ms_lE ex10 hf
              refine lv_iinc (v := x10) (lv' := [(4, .int x10), (3, .int x9), (0, .ref a0), (1, .int v1_h8), (2, .int v2_h8)]) hx hb dX12_who_64 hl (k := 4) rfl (by rw [ex10]; rfl) (by decide) rfl (fun ls hl => hp_n (n := 67) rfl ?_)
              refine lv_goto (tgt := 31) hx hb dX12_who_67 (by decide) ?_
              exact ih31 αh8 Hh8 Lh8 Bh8 σh8 Mh8 v1_h8 v2_h8 x9 x10 ls (lv_sub hl [2, 3, 4, 1, 0] rfl) hf
            refine lv_if_eq (tgt := 61) hx hb dX12_who_51 (by decide) (fun c11 => ?_) (fun c11 => hp_n (n := 54) rfl ?_)
            ·
              replace hf := ms_iT c11 hf
              refine lv_iconst (v := 0) hx hb dX12_who_61 (by decide) (hp_n (n := 62) rfl ?_)
              exact J62 αh4 Hh7 Lh7 Bh7 σh4 Mh4 v1_h4 v2_h4 v4_h4 (0 : Int32) v3_h4 ls (lv_sub hl [0, 1, 2, 4] rfl) hf
            ·
              replace hf := ms_iF c11 hf
              refine lv_iconst (v := 1) hx hb dX12_who_54 (by decide) (hp_n (n := 55) rfl ?_)
              refine lv_iload hx hb dX12_who_55 (lv_at hl 4 rfl) (hp_n (n := 57) rfl ?_)
              refine lv_ishl hx hb dX12_who_57 (hp_n (n := 58) rfl ?_)
              refine lv_goto (tgt := 62) hx hb dX12_who_58 (by decide) ?_
              exact J62 αh4 Hh7 Lh7 Bh7 σh4 Mh4 v1_h4 v2_h4 v4_h4 ((1 : Int32) <<< (v4_h4 &&& 31)) v3_h4 ls (lv_sub hl [0, 1, 2, 4] rfl) hf
      refine lv_istore (lv' := [(4, .int (0 : Int32)), (3, .int (0 : Int32)), (0, .ref a0), (1, .int v1_h1), (2, .int v2_h1)]) hx hb dX12_who_29 hl (by decide) rfl (fun ls hl => hp_n (n := 31) rfl ?_)
      exact J31 n αh2 Hh2 Lh2 Bh2 σh2 Mh2 v1_h1 v2_h1 (0 : Int32) (0 : Int32) ls (lv_sub hl [2, 3, 4, 1, 0] rfl) hf
    ·
      replace hf := ms_iT c3 hf
      refine lv_iconst (v := (-1)) hx hb dX12_who_24 (by decide) (hp_n (n := 25) rfl ?_)
      cases hf
      exact q_iret C Bh2 hr hlk ⟨rfl, Bh2.2.2, Mh2⟩ dX12_who_25
  have J13 : ∀ (αh12 : hp_T) (Hh12 : Heap) (Lh12 : List Loc) (Bh12 : hp_B Γ mo s α αh12 Hh12 Lh12) (σh12 : ms_T) (Mh12 : hm_M αh12 a0 ρ σh12) (v1_h12 : Int32) (v2_h12 : Int32) (ls : Array Slot) (hl : lv_has ls 5 [(0, .ref a0), (1, .int v1_h12), (2, .int v2_h12)]) (hf : f_X12_who_J13 n σh12 v1_h12 v2_h12 = some res), W p l e (hp_rm 44 0 0) s m ([.ref a0, .int a1, .int a2] : List Value).toArray below meth c Hh12 Lh12 0 0 (MQ below (hp_Qi Γ (fun r β => r = res.1 ∧ mo α β ∧ hm_M β a0 ρ res.2)) ([.ref a0, .int a1, .int a2] : List Value).toArray s 0 0 (hp_A Γ)) (F0 m 13 ls [.ref a0]) := by
    intro αh12 Hh12 Lh12 Bh12 σh12 Mh12 v1_h12 v2_h12 ls hl hf
    unfold f_X12_who_J13 at hf
    refine lv_iconst (v := 1) hx hb dX12_who_13 (by decide) (hp_n (n := 14) rfl ?_)
    refine lv_goto (tgt := 18) hx hb dX12_who_14 (by decide) ?_
    exact J18 αh12 Hh12 Lh12 Bh12 σh12 Mh12 v1_h12 v2_h12 (1 : Int32) ls (lv_sub hl [0, 1, 2] rfl) hf
  refine lv_if_lt (tgt := 13) hx hb dX12_who_2 (by decide) (fun c13 => ?_) (fun c13 => hp_n (n := 5) rfl ?_)
  ·
    replace hf := ms_iT c13 hf
    exact J13 α s.heap [] B σ hM a1 a2 ls (lv_sub hl [0, 1, 2] rfl) hf
  ·
    replace hf := ms_iF c13 hf
    refine lv_aload_n hx hb dX12_who_5 rfl (lv_at hl 0 rfl) (hp_n (n := 6) rfl ?_)
    refine lv_iload_n hx hb dX12_who_6 rfl (lv_at hl 2 rfl) (hp_n (n := 7) rfl ?_)
    obtain ⟨rh14, qh14, hf⟩ := ms_bE hf
    refine m_cp (pc' := 10) B (hp_runV (As := [.int a2]) (rest := [.ref a0]) C B (m_X12_isMark n Γ l α a0 ρ σ hM a2 rh14 qh14) lb_X12_isMark lv_X12_isMark lk_X12_321 hM.1 rfl (by decide) rfl hl.1 rfl (Nat.le_of_ble_eq_true rfl) dX12_who_7 ⟨Nat.le_refl _, Nat.le_refl _⟩) rfl (fun Hh14 Lh14 Bh14 => ?_)
    refine lv_if_ne (tgt := 17) hx hb dX12_who_10 (by decide) (fun c15 => ?_) (fun c15 => hp_n (n := 13) rfl ?_)
    ·
      replace hf := ms_iF c15 hf
      refine lv_iconst (v := 0) hx hb dX12_who_17 (by decide) (hp_n (n := 18) rfl ?_)
      exact J18 α Hh14 Lh14 Bh14 σ hM a1 a2 (0 : Int32) ls (lv_sub hl [0, 1, 2] rfl) hf
    ·
      replace hf := ms_iT c15 hf
      exact J13 α Hh14 Lh14 Bh14 σ hM a1 a2 ls (lv_sub hl [0, 1, 2] rfl) hf
