def f_X12_status (n : Nat) (σ : ms_T) : Option (Int32 × ms_T) :=
  ms_l (ms_sI σ 653 (0 : Int32)) fun σh1 =>
  some ((ms_I σh1 652), σh1)
set_option maxRecDepth 100000 in
set_option maxHeartbeats 4000000 in
theorem m_X12_status (n : Nat) (Γ : hp_G) (l : Launch) (α : hp_T) (a0 : Nat) (ρ : Nat → Nat) (σ : ms_T) (hM : hm_M α a0 ρ σ)  (res : (Int32 × ms_T)) (hf : f_X12_status n σ = some res) : Met l yX12_status (hp_ws yX12_status cX12_status 1 (some .int)) (hp_rm 0 0 0) (hp_Pc Γ α [.ref a0]) (hp_Qi Γ (fun r β => r = res.1 ∧ mo α β ∧ hm_M β a0 ρ res.2)) 0 0 (hp_A Γ) := by
  unfold f_X12_status at hf
  refine hp_start (by decide) ?_
  intro p e s m below meth c C hr hlk B0 hnm
  have C : hp_C Γ p m c cX12_status 1 s ([.ref a0] : List Value).toArray RX12 := C
  have hx := C.1.1
  have hb := C.1.2.1
  have hown := C.1.2.2.2.1
  have hts := C.1.2.2.2.2
  have B : hp_B Γ mo s α α s.heap [] := ⟨B0.1, B0.2.1, mo_rf⟩
  have hl := lv_entry ([.ref a0]) (n := 1) (Nat.le_of_ble_eq_true rfl)
  show W p l e (hp_rm 0 0 0) s m ([.ref a0] : List Value).toArray below meth c s.heap [] 0 0 (MQ below (hp_Qi Γ (fun r β => r = res.1 ∧ mo α β ∧ hm_M β a0 ρ res.2)) ([.ref a0] : List Value).toArray s 0 0 (hp_A Γ)) (entryFrame m ([.ref a0] : List Value).toArray 1)
  rw [lg_entry_eq]
  generalize (lg_sl ([.ref a0]) ++ List.replicate (1 - (lg_sl ([.ref a0])).length) Slot.unset).toArray = ls at hl ⊢
  have hl : lv_has ls 1 [(0, .ref a0)] := hl
  refine lv_aload_n hx hb dX12_status_0 rfl (lv_at hl 0 rfl) (hp_n (n := 1) rfl ?_)
  refine lv_iconst (v := 0) hx hb dX12_status_1 (by decide) (hp_n (n := 2) rfl ?_)
  refine m_puti (k := 3) (φ := 653) (pc' := 5) C B hM fl_X12_106 rfl rfl rfl rfl rfl dX12_status_2 rfl (fun αh1 Hh1 Lh1 σh1 eh1 Bh1 Mh1 => ?_)
  replace hf := ms_lE eh1 hf
  refine lv_aload_n hx hb dX12_status_5 rfl (lv_at hl 0 rfl) (hp_n (n := 6) rfl ?_)
  refine m_geti (k := 2) (φ := 652) (pc' := 9) C Bh1 Mh1 fl_X12_109 rfl rfl dX12_status_6 rfl ?_
  cases hf
  exact q_iret C Bh1 hr hlk ⟨rfl, Bh1.2.2, Mh1⟩ dX12_status_9
def f_X12_refuse (n : Nat) (σ : ms_T) (a1 : Int32) : Option (Int32 × ms_T) :=
  ms_l (ms_sI σ 652 a1) fun σh1 =>
  some ((-1 : Int32), σh1)
set_option maxRecDepth 100000 in
set_option maxHeartbeats 4000000 in
theorem m_X12_refuse (n : Nat) (Γ : hp_G) (l : Launch) (α : hp_T) (a0 : Nat) (ρ : Nat → Nat) (σ : ms_T) (hM : hm_M α a0 ρ σ) (a1 : Int32) (res : (Int32 × ms_T)) (hf : f_X12_refuse n σ a1 = some res) : Met l yX12_refuse (hp_ws yX12_refuse cX12_refuse 2 (some .int)) (hp_rm 0 0 0) (hp_Pc Γ α [.ref a0, .int a1]) (hp_Qi Γ (fun r β => r = res.1 ∧ mo α β ∧ hm_M β a0 ρ res.2)) 0 0 (hp_A Γ) := by
  unfold f_X12_refuse at hf
  refine hp_start (by decide) ?_
  intro p e s m below meth c C hr hlk B0 hnm
  have C : hp_C Γ p m c cX12_refuse 2 s ([.ref a0, .int a1] : List Value).toArray RX12 := C
  have hx := C.1.1
  have hb := C.1.2.1
  have hown := C.1.2.2.2.1
  have hts := C.1.2.2.2.2
  have B : hp_B Γ mo s α α s.heap [] := ⟨B0.1, B0.2.1, mo_rf⟩
  have hl := lv_entry ([.ref a0, .int a1]) (n := 2) (Nat.le_of_ble_eq_true rfl)
  show W p l e (hp_rm 0 0 0) s m ([.ref a0, .int a1] : List Value).toArray below meth c s.heap [] 0 0 (MQ below (hp_Qi Γ (fun r β => r = res.1 ∧ mo α β ∧ hm_M β a0 ρ res.2)) ([.ref a0, .int a1] : List Value).toArray s 0 0 (hp_A Γ)) (entryFrame m ([.ref a0, .int a1] : List Value).toArray 2)
  rw [lg_entry_eq]
  generalize (lg_sl ([.ref a0, .int a1]) ++ List.replicate (2 - (lg_sl ([.ref a0, .int a1])).length) Slot.unset).toArray = ls at hl ⊢
  have hl : lv_has ls 2 [(0, .ref a0), (1, .int a1)] := hl
  refine lv_aload_n hx hb dX12_refuse_0 rfl (lv_at hl 0 rfl) (hp_n (n := 1) rfl ?_)
  refine lv_iload_n hx hb dX12_refuse_1 rfl (lv_at hl 1 rfl) (hp_n (n := 2) rfl ?_)
  refine m_puti (k := 2) (φ := 652) (pc' := 5) C B hM fl_X12_109 rfl rfl rfl rfl rfl dX12_refuse_2 rfl (fun αh1 Hh1 Lh1 σh1 eh1 Bh1 Mh1 => ?_)
  replace hf := ms_lE eh1 hf
  refine lv_iconst (v := (-1)) hx hb dX12_refuse_5 (by decide) (hp_n (n := 6) rfl ?_)
  cases hf
  exact q_iret C Bh1 hr hlk ⟨rfl, Bh1.2.2, Mh1⟩ dX12_refuse_6
def f_X12_is (n : Nat) (σ : ms_T) (a1 : Int32) : Option (Int32 × ms_T) :=
  ms_l (ms_sI σ 653 (0 : Int32)) fun σh1 =>
  ms_l (ms_sI σh1 652 a1) fun σh2 =>
  if a1 = 0 then
    some ((1 : Int32), σh2)
  else
    some ((0 : Int32), σh2)
set_option maxRecDepth 100000 in
set_option maxHeartbeats 4000000 in
theorem m_X12_is (n : Nat) (Γ : hp_G) (l : Launch) (α : hp_T) (a0 : Nat) (ρ : Nat → Nat) (σ : ms_T) (hM : hm_M α a0 ρ σ) (a1 : Int32) (res : (Int32 × ms_T)) (hf : f_X12_is n σ a1 = some res) : Met l yX12_is (hp_ws yX12_is cX12_is 2 (some .boolean)) (hp_rm 0 0 0) (hp_Pc Γ α [.ref a0, .int a1]) (hp_Qi Γ (fun r β => r = res.1 ∧ mo α β ∧ hm_M β a0 ρ res.2)) 0 0 (hp_A Γ) := by
  unfold f_X12_is at hf
  refine hp_start (by decide) ?_
  intro p e s m below meth c C hr hlk B0 hnm
  have C : hp_C Γ p m c cX12_is 2 s ([.ref a0, .int a1] : List Value).toArray RX12 := C
  have hx := C.1.1
  have hb := C.1.2.1
  have hown := C.1.2.2.2.1
  have hts := C.1.2.2.2.2
  have B : hp_B Γ mo s α α s.heap [] := ⟨B0.1, B0.2.1, mo_rf⟩
  have hl := lv_entry ([.ref a0, .int a1]) (n := 2) (Nat.le_of_ble_eq_true rfl)
  show W p l e (hp_rm 0 0 0) s m ([.ref a0, .int a1] : List Value).toArray below meth c s.heap [] 0 0 (MQ below (hp_Qi Γ (fun r β => r = res.1 ∧ mo α β ∧ hm_M β a0 ρ res.2)) ([.ref a0, .int a1] : List Value).toArray s 0 0 (hp_A Γ)) (entryFrame m ([.ref a0, .int a1] : List Value).toArray 2)
  rw [lg_entry_eq]
  generalize (lg_sl ([.ref a0, .int a1]) ++ List.replicate (2 - (lg_sl ([.ref a0, .int a1])).length) Slot.unset).toArray = ls at hl ⊢
  have hl : lv_has ls 2 [(0, .ref a0), (1, .int a1)] := hl
  refine lv_aload_n hx hb dX12_is_0 rfl (lv_at hl 0 rfl) (hp_n (n := 1) rfl ?_)
  refine lv_iconst (v := 0) hx hb dX12_is_1 (by decide) (hp_n (n := 2) rfl ?_)
  refine m_puti (k := 3) (φ := 653) (pc' := 5) C B hM fl_X12_106 rfl rfl rfl rfl rfl dX12_is_2 rfl (fun αh1 Hh1 Lh1 σh1 eh1 Bh1 Mh1 => ?_)
  replace hf := ms_lE eh1 hf
  refine lv_aload_n hx hb dX12_is_5 rfl (lv_at hl 0 rfl) (hp_n (n := 6) rfl ?_)
  refine lv_iload_n hx hb dX12_is_6 rfl (lv_at hl 1 rfl) (hp_n (n := 7) rfl ?_)
  refine m_puti (k := 2) (φ := 652) (pc' := 10) C Bh1 Mh1 fl_X12_109 rfl rfl rfl rfl rfl dX12_is_7 rfl (fun αh2 Hh2 Lh2 σh2 eh2 Bh2 Mh2 => ?_)
  replace hf := ms_lE eh2 hf
  refine lv_iload_n hx hb dX12_is_10 rfl (lv_at hl 1 rfl) (hp_n (n := 11) rfl ?_)
  refine lv_if_ne (tgt := 18) hx hb dX12_is_11 (by decide) (fun c3 => ?_) (fun c3 => hp_n (n := 14) rfl ?_)
  ·
    replace hf := ms_iF c3 hf
    refine lv_iconst (v := 0) hx hb dX12_is_18 (by decide) (hp_n (n := 19) rfl ?_)
    cases hf
    exact q_zret C Bh2 hr hlk (by decide) ⟨rfl, Bh2.2.2, Mh2⟩ dX12_is_19
  ·
    replace hf := ms_iT c3 hf
    refine lv_iconst (v := 1) hx hb dX12_is_14 (by decide) (hp_n (n := 15) rfl ?_)
    refine lv_goto (tgt := 19) hx hb dX12_is_15 (by decide) ?_
    cases hf
    exact q_zret C Bh2 hr hlk (by decide) ⟨rfl, Bh2.2.2, Mh2⟩ dX12_is_19
def f_X12_isIn (n : Nat) (a0 : Int32) (a1 : Int32) (a2 : Int32) : Option Int32 :=
  if a0 < a1 then
    some (0 : Int32)
  else
    if a2 < a0 then
      some (0 : Int32)
    else
      some (1 : Int32)
set_option maxRecDepth 100000 in
set_option maxHeartbeats 4000000 in
theorem m_X12_isIn (n : Nat) (Γ : hp_G) (l : Launch) (α : hp_T) (a0 : Int32) (a1 : Int32) (a2 : Int32) (res : Int32) (hf : f_X12_isIn n a0 a1 a2 = some res) : Met l yX12_isIn (hp_ws yX12_isIn cX12_isIn 3 (some .boolean)) (hp_rm 0 0 0) (hp_Pc Γ α [.int a0, .int a1, .int a2]) (hp_Qi Γ (fun r β => β = α ∧ r = res)) 0 0 (hp_A Γ) := by
  unfold f_X12_isIn at hf
  refine hp_start (by decide) ?_
  intro p e s m below meth c C hr hlk B0 hnm
  have C : hp_C Γ p m c cX12_isIn 3 s ([.int a0, .int a1, .int a2] : List Value).toArray RX12 := C
  have hx := C.1.1
  have hb := C.1.2.1
  have hown := C.1.2.2.2.1
  have hts := C.1.2.2.2.2
  have B : hp_B Γ (fun _ _ => True) s α α s.heap [] := ⟨B0.1, B0.2.1, trivial⟩
  have hl := lv_entry ([.int a0, .int a1, .int a2]) (n := 3) (Nat.le_of_ble_eq_true rfl)
  show W p l e (hp_rm 0 0 0) s m ([.int a0, .int a1, .int a2] : List Value).toArray below meth c s.heap [] 0 0 (MQ below (hp_Qi Γ (fun r β => β = α ∧ r = res)) ([.int a0, .int a1, .int a2] : List Value).toArray s 0 0 (hp_A Γ)) (entryFrame m ([.int a0, .int a1, .int a2] : List Value).toArray 3)
  rw [lg_entry_eq]
  generalize (lg_sl ([.int a0, .int a1, .int a2]) ++ List.replicate (3 - (lg_sl ([.int a0, .int a1, .int a2])).length) Slot.unset).toArray = ls at hl ⊢
  have hl : lv_has ls 3 [(0, .int a0), (1, .int a1), (2, .int a2)] := hl
  refine lv_iload_n hx hb dX12_isIn_0 rfl (lv_at hl 0 rfl) (hp_n (n := 1) rfl ?_)
  refine lv_iload_n hx hb dX12_isIn_1 rfl (lv_at hl 1 rfl) (hp_n (n := 2) rfl ?_)
  refine lv_icmp_lt (tgt := 14) hx hb dX12_isIn_2 (by decide) (fun c1 => ?_) (fun c1 => hp_n (n := 5) rfl ?_)
  ·
    replace hf := ms_iT c1 hf
    refine lv_iconst (v := 0) hx hb dX12_isIn_14 (by decide) (hp_n (n := 15) rfl ?_)
    cases hf
    exact q_zret C B hr hlk (by decide) ⟨rfl, rfl⟩ dX12_isIn_15
  ·
    replace hf := ms_iF c1 hf
    refine lv_iload_n hx hb dX12_isIn_5 rfl (lv_at hl 0 rfl) (hp_n (n := 6) rfl ?_)
    refine lv_iload_n hx hb dX12_isIn_6 rfl (lv_at hl 2 rfl) (hp_n (n := 7) rfl ?_)
    refine lv_icmp_gt (tgt := 14) hx hb dX12_isIn_7 (by decide) (fun c2 => ?_) (fun c2 => hp_n (n := 10) rfl ?_)
    ·
      replace hf := ms_iT c2 hf
      refine lv_iconst (v := 0) hx hb dX12_isIn_14 (by decide) (hp_n (n := 15) rfl ?_)
      cases hf
      exact q_zret C B hr hlk (by decide) ⟨rfl, rfl⟩ dX12_isIn_15
    ·
      replace hf := ms_iF c2 hf
      refine lv_iconst (v := 1) hx hb dX12_isIn_10 (by decide) (hp_n (n := 11) rfl ?_)
      refine lv_goto (tgt := 15) hx hb dX12_isIn_11 (by decide) ?_
      cases hf
      exact q_zret C B hr hlk (by decide) ⟨rfl, rfl⟩ dX12_isIn_15
def f_X12_clears_L2 (n : Nat) : Nat → ms_T → Int32 → Option ms_T
  | 0, _, _ => none
  | k2 + 1, σh1, v1_h1 =>
    if (1980 : Int32) ≤ v1_h1 then
      ms_g (0 : Int32) 1980 <|
      ms_l (ms_sE σh1 40 ((0 : Int32)).toNatClampNeg (1 : Int32)) fun σh4 =>
      ms_g (1 : Int32) 1980 <|
      ms_l (ms_sE σh4 40 ((1 : Int32)).toNatClampNeg (65521 : Int32)) fun σh6 =>
      some σh6
    else
      ms_g v1_h1 1980 <|
      ms_l (ms_sE σh1 40 (v1_h1).toNatClampNeg (0 : Int32)) fun σh8 =>
      ms_l (v1_h1 + 1) fun x9 =>
      (f_X12_clears_L2 n k2) σh8 x9
def f_X12_clears (n : Nat) (σ : ms_T) : Option ms_T :=
  f_X12_clears_L2 n n σ (0 : Int32)
set_option maxRecDepth 100000 in
set_option maxHeartbeats 4000000 in
theorem m_X12_clears (n : Nat) (Γ : hp_G) (l : Launch) (α : hp_T) (a0 : Nat) (ρ : Nat → Nat) (σ : ms_T) (hM : hm_M α a0 ρ σ)  (res : ms_T) (hf : f_X12_clears n σ = some res) : Met l yX12_clears (hp_ws yX12_clears cX12_clears 2 none) (hp_rm 0 0 0) (hp_Pc Γ α [.ref a0]) (hp_Qv Γ (fun β => mo α β ∧ hm_M β a0 ρ res)) 0 0 (hp_A Γ) := by
  unfold f_X12_clears at hf
  refine hp_start (by decide) ?_
  intro p e s m below meth c C hr hlk B0 hnm
  have C : hp_C Γ p m c cX12_clears 2 s ([.ref a0] : List Value).toArray RX12 := C
  have hx := C.1.1
  have hb := C.1.2.1
  have hown := C.1.2.2.2.1
  have hts := C.1.2.2.2.2
  have B : hp_B Γ mo s α α s.heap [] := ⟨B0.1, B0.2.1, mo_rf⟩
  have hl := lv_entry ([.ref a0]) (n := 2) (Nat.le_of_ble_eq_true rfl)
  show W p l e (hp_rm 0 0 0) s m ([.ref a0] : List Value).toArray below meth c s.heap [] 0 0 (MQ below (hp_Qv Γ (fun β => mo α β ∧ hm_M β a0 ρ res)) ([.ref a0] : List Value).toArray s 0 0 (hp_A Γ)) (entryFrame m ([.ref a0] : List Value).toArray 2)
  rw [lg_entry_eq]
  generalize (lg_sl ([.ref a0]) ++ List.replicate (2 - (lg_sl ([.ref a0])).length) Slot.unset).toArray = ls at hl ⊢
  have hl : lv_has ls 2 [(0, .ref a0)] := hl
  refine lv_iconst (v := 0) hx hb dX12_clears_0 (by decide) (hp_n (n := 1) rfl ?_)
  have J2 : ∀ (k2 : Nat) (αh1 : hp_T) (Hh1 : Heap) (Lh1 : List Loc) (Bh1 : hp_B Γ mo s α αh1 Hh1 Lh1) (σh1 : ms_T) (Mh1 : hm_M αh1 a0 ρ σh1) (v1_h1 : Int32) (ls : Array Slot) (hl : lv_has ls 2 [(0, .ref a0), (1, .int v1_h1)]) (hf : f_X12_clears_L2 n k2 σh1 v1_h1 = some res), W p l e (hp_rm 0 0 0) s m ([.ref a0] : List Value).toArray below meth c Hh1 Lh1 0 0 (MQ below (hp_Qv Γ (fun β => mo α β ∧ hm_M β a0 ρ res)) ([.ref a0] : List Value).toArray s 0 0 (hp_A Γ)) (F0 m 2 ls []) := by
    intro k2
    induction k2 with
    | zero => intro αh1 Hh1 Lh1 Bh1 σh1 Mh1 v1_h1 ls hl hf; rw [f_X12_clears_L2.eq_1] at hf; cases hf
    | succ k2 ih2 =>
      intro αh1 Hh1 Lh1 Bh1 σh1 Mh1 v1_h1 ls hl hf
      rw [f_X12_clears_L2.eq_2] at hf
      refine lv_iload_n hx hb dX12_clears_2 rfl (lv_at hl 1 rfl) (hp_n (n := 3) rfl ?_)
      refine lv_sipush (v := 1980) hx hb dX12_clears_3 (by decide) (hp_n (n := 6) rfl ?_)
      refine lv_icmp_ge (tgt := 22) hx hb dX12_clears_6 (by decide) (fun c2 => ?_) (fun c2 => hp_n (n := 9) rfl ?_)
      ·
        replace hf := ms_iT c2 hf
        refine lv_aload_n hx hb dX12_clears_22 rfl (lv_at hl 0 rfl) (hp_n (n := 23) rfl ?_)
        refine m_getr (κ := 40) (k := 0) (pc' := 26) C Bh1 Mh1 fl_X12_7 rfl (by decide) dX12_clears_23 rfl ?_
        refine lv_iconst (v := 0) hx hb dX12_clears_26 (by decide) (hp_n (n := 27) rfl ?_)
        refine lv_iconst (v := 1) hx hb dX12_clears_27 (by decide) (hp_n (n := 28) rfl ?_)
        obtain ⟨g3, hf⟩ := ms_gE hf
        refine m_ias (κ := 40) (φ := 650) (n := 1980) (pc' := 29) C Bh1 Mh1 (by decide) (by decide) rfl g3 dX12_clears_28 rfl (fun αh4 Hh4 Lh4 σh4 eh4 Bh4 Mh4 => ?_)
        replace hf := ms_lE eh4 hf
        refine lv_aload_n hx hb dX12_clears_29 rfl (lv_at hl 0 rfl) (hp_n (n := 30) rfl ?_)
        refine m_getr (κ := 40) (k := 0) (pc' := 33) C Bh4 Mh4 fl_X12_7 rfl (by decide) dX12_clears_30 rfl ?_
        refine lv_iconst (v := 1) hx hb dX12_clears_33 (by decide) (hp_n (n := 34) rfl ?_)
        refine lv_ldc hx hb hown (hts _ kc_X12_112) dX12_clears_34 (hp_n (n := 36) rfl ?_)
        obtain ⟨g5, hf⟩ := ms_gE hf
        refine m_ias (κ := 40) (φ := 650) (n := 1980) (pc' := 37) C Bh4 Mh4 (by decide) (by decide) rfl g5 dX12_clears_36 rfl (fun αh6 Hh6 Lh6 σh6 eh6 Bh6 Mh6 => ?_)
        replace hf := ms_lE eh6 hf
        cases hf
        exact q_vret C Bh6 hr hlk ⟨Bh6.2.2, Mh6⟩ dX12_clears_37
      ·
        replace hf := ms_iF c2 hf
        refine lv_aload_n hx hb dX12_clears_9 rfl (lv_at hl 0 rfl) (hp_n (n := 10) rfl ?_)
        refine m_getr (κ := 40) (k := 0) (pc' := 13) C Bh1 Mh1 fl_X12_7 rfl (by decide) dX12_clears_10 rfl ?_
        refine lv_iload_n hx hb dX12_clears_13 rfl (lv_at hl 1 rfl) (hp_n (n := 14) rfl ?_)
        refine lv_iconst (v := 0) hx hb dX12_clears_14 (by decide) (hp_n (n := 15) rfl ?_)
        obtain ⟨g7, hf⟩ := ms_gE hf
        refine m_ias (κ := 40) (φ := 650) (n := 1980) (pc' := 16) C Bh1 Mh1 (by decide) (by decide) rfl g7 dX12_clears_15 rfl (fun αh8 Hh8 Lh8 σh8 eh8 Bh8 Mh8 => ?_)
        replace hf := ms_lE eh8 hf
        obtain ⟨x9, ex9⟩ : ∃ y : Int32, y = v1_h1 + 1 := ⟨_, rfl⟩
        replace hf := ms_lE ex9 hf
        refine lv_iinc (v := x9) (lv' := [(1, .int x9), (0, .ref a0)]) hx hb dX12_clears_16 hl (k := 1) rfl (by rw [ex9]; rfl) (by decide) rfl (fun ls hl => hp_n (n := 19) rfl ?_)
        refine lv_goto (tgt := 2) hx hb dX12_clears_19 (by decide) ?_
        exact ih2 αh8 Hh8 Lh8 Bh8 σh8 Mh8 x9 ls (lv_sub hl [1, 0] rfl) hf
  refine lv_istore_n (lv' := [(1, .int (0 : Int32)), (0, .ref a0)]) hx hb dX12_clears_1 rfl hl (by decide) rfl (fun ls hl => hp_n (n := 2) rfl ?_)
  exact J2 n α s.heap [] B σ hM (0 : Int32) ls (lv_sub hl [1, 0] rfl) hf
def f_X12_isRecord (n : Nat) (σ : ms_T) (a1 : Int32) : Option Int32 :=
  ms_g (0 : Int32) 1980 <|
  ms_b (f_X12_isIn n a1 (0 : Int32) ((ms_E σ 40 ((0 : Int32)).toNatClampNeg) - (1 : Int32))) fun rh2 =>
  ms_z rh2 <|
  some rh2
set_option maxRecDepth 100000 in
set_option maxHeartbeats 4000000 in
theorem m_X12_isRecord (n : Nat) (Γ : hp_G) (l : Launch) (α : hp_T) (a0 : Nat) (ρ : Nat → Nat) (σ : ms_T) (hM : hm_M α a0 ρ σ) (a1 : Int32) (res : Int32) (hf : f_X12_isRecord n σ a1 = some res) : Met l yX12_isRecord (hp_ws yX12_isRecord cX12_isRecord 2 (some .boolean)) (hp_rm 1 0 0) (hp_Pc Γ α [.ref a0, .int a1]) (hp_Qi Γ (fun r β => β = α ∧ r = res)) 0 0 (hp_A Γ) := by
  unfold f_X12_isRecord at hf
  refine hp_start (by decide) ?_
  intro p e s m below meth c C hr hlk B0 hnm
  have C : hp_C Γ p m c cX12_isRecord 2 s ([.ref a0, .int a1] : List Value).toArray RX12 := C
  have hx := C.1.1
  have hb := C.1.2.1
  have hown := C.1.2.2.2.1
  have hts := C.1.2.2.2.2
  have B : hp_B Γ (fun _ _ => True) s α α s.heap [] := ⟨B0.1, B0.2.1, trivial⟩
  have hl := lv_entry ([.ref a0, .int a1]) (n := 2) (Nat.le_of_ble_eq_true rfl)
  show W p l e (hp_rm 1 0 0) s m ([.ref a0, .int a1] : List Value).toArray below meth c s.heap [] 0 0 (MQ below (hp_Qi Γ (fun r β => β = α ∧ r = res)) ([.ref a0, .int a1] : List Value).toArray s 0 0 (hp_A Γ)) (entryFrame m ([.ref a0, .int a1] : List Value).toArray 2)
  rw [lg_entry_eq]
  generalize (lg_sl ([.ref a0, .int a1]) ++ List.replicate (2 - (lg_sl ([.ref a0, .int a1])).length) Slot.unset).toArray = ls at hl ⊢
  have hl : lv_has ls 2 [(0, .ref a0), (1, .int a1)] := hl
  refine lv_iload_n hx hb dX12_isRecord_0 rfl (lv_at hl 1 rfl) (hp_n (n := 1) rfl ?_)
  refine lv_iconst (v := 0) hx hb dX12_isRecord_1 (by decide) (hp_n (n := 2) rfl ?_)
  refine lv_aload_n hx hb dX12_isRecord_2 rfl (lv_at hl 0 rfl) (hp_n (n := 3) rfl ?_)
  refine m_getr (κ := 40) (k := 0) (pc' := 6) C B hM fl_X12_7 rfl (by decide) dX12_isRecord_3 rfl ?_
  refine lv_iconst (v := 0) hx hb dX12_isRecord_6 (by decide) (hp_n (n := 7) rfl ?_)
  obtain ⟨g1, hf⟩ := ms_gE hf
  refine m_ial (κ := 40) (φ := 650) (n := 1980) (pc' := 8) C B hM (by decide) (by decide) rfl g1 dX12_isRecord_7 rfl ?_
  refine lv_iconst (v := 1) hx hb dX12_isRecord_8 (by decide) (hp_n (n := 9) rfl ?_)
  refine lv_isub hx hb dX12_isRecord_9 (hp_n (n := 10) rfl ?_)
  obtain ⟨rh2, qh2, hf⟩ := ms_bE hf
  refine m_cp (pc' := 13) B (hp_runS (As := [.int a1, .int (0 : Int32), .int ((ms_E σ 40 ((0 : Int32)).toNatClampNeg) - (1 : Int32))]) (rest := []) C B (m_X12_isIn n Γ l α a1 (0 : Int32) ((ms_E σ 40 ((0 : Int32)).toNatClampNeg) - (1 : Int32)) rh2 qh2) lb_X12_isIn ls_X12_isIn lk_X12_113 rfl (by decide) rfl hl.1 rfl (Nat.le_of_ble_eq_true rfl) dX12_isRecord_10 ⟨Nat.le_refl _, Nat.le_refl _⟩) rfl (fun Hh2 Lh2 Bh2 => ?_)
  obtain ⟨g3, hf⟩ := ms_zE hf
  cases hf
  exact q_zret C Bh2 hr hlk (nz_z g3) ⟨rfl, rfl⟩ dX12_isRecord_13
def f_X12_sizeOf (n : Nat) (σ : ms_T) (a1 : Int32) : Option Int32 :=
  ms_g ((72 : Int32) + a1) 1980 <|
  some (ms_E σ 40 (((72 : Int32) + a1)).toNatClampNeg)
set_option maxRecDepth 100000 in
set_option maxHeartbeats 4000000 in
theorem m_X12_sizeOf (n : Nat) (Γ : hp_G) (l : Launch) (α : hp_T) (a0 : Nat) (ρ : Nat → Nat) (σ : ms_T) (hM : hm_M α a0 ρ σ) (a1 : Int32) (res : Int32) (hf : f_X12_sizeOf n σ a1 = some res) : Met l yX12_sizeOf (hp_ws yX12_sizeOf cX12_sizeOf 2 (some .int)) (hp_rm 0 0 0) (hp_Pc Γ α [.ref a0, .int a1]) (hp_Qi Γ (fun r β => β = α ∧ r = res)) 0 0 (hp_A Γ) := by
  unfold f_X12_sizeOf at hf
  refine hp_start (by decide) ?_
  intro p e s m below meth c C hr hlk B0 hnm
  have C : hp_C Γ p m c cX12_sizeOf 2 s ([.ref a0, .int a1] : List Value).toArray RX12 := C
  have hx := C.1.1
  have hb := C.1.2.1
  have hown := C.1.2.2.2.1
  have hts := C.1.2.2.2.2
  have B : hp_B Γ (fun _ _ => True) s α α s.heap [] := ⟨B0.1, B0.2.1, trivial⟩
  have hl := lv_entry ([.ref a0, .int a1]) (n := 2) (Nat.le_of_ble_eq_true rfl)
  show W p l e (hp_rm 0 0 0) s m ([.ref a0, .int a1] : List Value).toArray below meth c s.heap [] 0 0 (MQ below (hp_Qi Γ (fun r β => β = α ∧ r = res)) ([.ref a0, .int a1] : List Value).toArray s 0 0 (hp_A Γ)) (entryFrame m ([.ref a0, .int a1] : List Value).toArray 2)
  rw [lg_entry_eq]
  generalize (lg_sl ([.ref a0, .int a1]) ++ List.replicate (2 - (lg_sl ([.ref a0, .int a1])).length) Slot.unset).toArray = ls at hl ⊢
  have hl : lv_has ls 2 [(0, .ref a0), (1, .int a1)] := hl
  refine lv_aload_n hx hb dX12_sizeOf_0 rfl (lv_at hl 0 rfl) (hp_n (n := 1) rfl ?_)
  refine m_getr (κ := 40) (k := 0) (pc' := 4) C B hM fl_X12_7 rfl (by decide) dX12_sizeOf_1 rfl ?_
  refine lv_bipush (v := 72) hx hb dX12_sizeOf_4 (by decide) (hp_n (n := 6) rfl ?_)
  refine lv_iload_n hx hb dX12_sizeOf_6 rfl (lv_at hl 1 rfl) (hp_n (n := 7) rfl ?_)
  refine lv_iadd hx hb dX12_sizeOf_7 (hp_n (n := 8) rfl ?_)
  obtain ⟨g1, hf⟩ := ms_gE hf
  refine m_ial (κ := 40) (φ := 650) (n := 1980) (pc' := 9) C B hM (by decide) (by decide) rfl g1 dX12_sizeOf_8 rfl ?_
  cases hf
  exact q_iret C B hr hlk ⟨rfl, rfl⟩ dX12_sizeOf_9
def f_X12_isMark (n : Nat) (σ : ms_T) (a1 : Int32) : Option Int32 :=
  ms_g (1 : Int32) 1980 <|
  ms_b (f_X12_isIn n a1 (0 : Int32) ((ms_E σ 40 ((1 : Int32)).toNatClampNeg) - (1 : Int32))) fun rh2 =>
  ms_z rh2 <|
  some rh2
set_option maxRecDepth 100000 in
set_option maxHeartbeats 4000000 in
theorem m_X12_isMark (n : Nat) (Γ : hp_G) (l : Launch) (α : hp_T) (a0 : Nat) (ρ : Nat → Nat) (σ : ms_T) (hM : hm_M α a0 ρ σ) (a1 : Int32) (res : Int32) (hf : f_X12_isMark n σ a1 = some res) : Met l yX12_isMark (hp_ws yX12_isMark cX12_isMark 2 (some .boolean)) (hp_rm 1 0 0) (hp_Pc Γ α [.ref a0, .int a1]) (hp_Qi Γ (fun r β => β = α ∧ r = res)) 0 0 (hp_A Γ) := by
  unfold f_X12_isMark at hf
  refine hp_start (by decide) ?_
  intro p e s m below meth c C hr hlk B0 hnm
  have C : hp_C Γ p m c cX12_isMark 2 s ([.ref a0, .int a1] : List Value).toArray RX12 := C
  have hx := C.1.1
  have hb := C.1.2.1
  have hown := C.1.2.2.2.1
  have hts := C.1.2.2.2.2
  have B : hp_B Γ (fun _ _ => True) s α α s.heap [] := ⟨B0.1, B0.2.1, trivial⟩
  have hl := lv_entry ([.ref a0, .int a1]) (n := 2) (Nat.le_of_ble_eq_true rfl)
  show W p l e (hp_rm 1 0 0) s m ([.ref a0, .int a1] : List Value).toArray below meth c s.heap [] 0 0 (MQ below (hp_Qi Γ (fun r β => β = α ∧ r = res)) ([.ref a0, .int a1] : List Value).toArray s 0 0 (hp_A Γ)) (entryFrame m ([.ref a0, .int a1] : List Value).toArray 2)
  rw [lg_entry_eq]
  generalize (lg_sl ([.ref a0, .int a1]) ++ List.replicate (2 - (lg_sl ([.ref a0, .int a1])).length) Slot.unset).toArray = ls at hl ⊢
  have hl : lv_has ls 2 [(0, .ref a0), (1, .int a1)] := hl
  refine lv_iload_n hx hb dX12_isMark_0 rfl (lv_at hl 1 rfl) (hp_n (n := 1) rfl ?_)
  refine lv_iconst (v := 0) hx hb dX12_isMark_1 (by decide) (hp_n (n := 2) rfl ?_)
  refine lv_aload_n hx hb dX12_isMark_2 rfl (lv_at hl 0 rfl) (hp_n (n := 3) rfl ?_)
  refine m_getr (κ := 40) (k := 0) (pc' := 6) C B hM fl_X12_7 rfl (by decide) dX12_isMark_3 rfl ?_
  refine lv_iconst (v := 1) hx hb dX12_isMark_6 (by decide) (hp_n (n := 7) rfl ?_)
  obtain ⟨g1, hf⟩ := ms_gE hf
  refine m_ial (κ := 40) (φ := 650) (n := 1980) (pc' := 8) C B hM (by decide) (by decide) rfl g1 dX12_isMark_7 rfl ?_
  refine lv_iconst (v := 1) hx hb dX12_isMark_8 (by decide) (hp_n (n := 9) rfl ?_)
  refine lv_isub hx hb dX12_isMark_9 (hp_n (n := 10) rfl ?_)
  obtain ⟨rh2, qh2, hf⟩ := ms_bE hf
  refine m_cp (pc' := 13) B (hp_runS (As := [.int a1, .int (0 : Int32), .int ((ms_E σ 40 ((1 : Int32)).toNatClampNeg) - (1 : Int32))]) (rest := []) C B (m_X12_isIn n Γ l α a1 (0 : Int32) ((ms_E σ 40 ((1 : Int32)).toNatClampNeg) - (1 : Int32)) rh2 qh2) lb_X12_isIn ls_X12_isIn lk_X12_113 rfl (by decide) rfl hl.1 rfl (Nat.le_of_ble_eq_true rfl) dX12_isMark_10 ⟨Nat.le_refl _, Nat.le_refl _⟩) rfl (fun Hh2 Lh2 Bh2 => ?_)
  obtain ⟨g3, hf⟩ := ms_zE hf
  cases hf
  exact q_zret C Bh2 hr hlk (nz_z g3) ⟨rfl, rfl⟩ dX12_isMark_13
def f_X12_mixed (n : Nat) (σ : ms_T) (a1 : Int32) (a2 : Int32) : Option Int32 :=
  ms_g (1 : Int32) 1980 <|
  ms_nl ((ms_E σ 40 ((1 : Int32)).toNatClampNeg)).toInt64 <|
  some (((((((a1).toInt64 * (a1).toInt64) + ((3 : Int64) * (a1).toInt64)) + (a2).toInt64) + (7 : Int64)) - (((((a1).toInt64 * (a1).toInt64) + ((3 : Int64) * (a1).toInt64)) + (a2).toInt64) + (7 : Int64)) / ((ms_E σ 40 ((1 : Int32)).toNatClampNeg)).toInt64 * ((ms_E σ 40 ((1 : Int32)).toNatClampNeg)).toInt64)).toInt32
set_option maxRecDepth 100000 in
set_option maxHeartbeats 4000000 in
theorem m_X12_mixed (n : Nat) (Γ : hp_G) (l : Launch) (α : hp_T) (a0 : Nat) (ρ : Nat → Nat) (σ : ms_T) (hM : hm_M α a0 ρ σ) (a1 : Int32) (a2 : Int32) (res : Int32) (hf : f_X12_mixed n σ a1 a2 = some res) : Met l yX12_mixed (hp_ws yX12_mixed cX12_mixed 3 (some .int)) (hp_rm 0 0 0) (hp_Pc Γ α [.ref a0, .int a1, .int a2]) (hp_Qi Γ (fun r β => β = α ∧ r = res)) 0 0 (hp_A Γ) := by
  unfold f_X12_mixed at hf
  refine hp_start (by decide) ?_
  intro p e s m below meth c C hr hlk B0 hnm
  have C : hp_C Γ p m c cX12_mixed 3 s ([.ref a0, .int a1, .int a2] : List Value).toArray RX12 := C
  have hx := C.1.1
  have hb := C.1.2.1
  have hown := C.1.2.2.2.1
  have hts := C.1.2.2.2.2
  have B : hp_B Γ (fun _ _ => True) s α α s.heap [] := ⟨B0.1, B0.2.1, trivial⟩
  have hl := lv_entry ([.ref a0, .int a1, .int a2]) (n := 3) (Nat.le_of_ble_eq_true rfl)
  show W p l e (hp_rm 0 0 0) s m ([.ref a0, .int a1, .int a2] : List Value).toArray below meth c s.heap [] 0 0 (MQ below (hp_Qi Γ (fun r β => β = α ∧ r = res)) ([.ref a0, .int a1, .int a2] : List Value).toArray s 0 0 (hp_A Γ)) (entryFrame m ([.ref a0, .int a1, .int a2] : List Value).toArray 3)
  rw [lg_entry_eq]
  generalize (lg_sl ([.ref a0, .int a1, .int a2]) ++ List.replicate (3 - (lg_sl ([.ref a0, .int a1, .int a2])).length) Slot.unset).toArray = ls at hl ⊢
  have hl : lv_has ls 3 [(0, .ref a0), (1, .int a1), (2, .int a2)] := hl
  refine lv_iload_n hx hb dX12_mixed_0 rfl (lv_at hl 1 rfl) (hp_n (n := 1) rfl ?_)
  refine lv_i2l hx hb dX12_mixed_1 rfl (hp_n (n := 2) rfl ?_)
  refine lv_iload_n hx hb dX12_mixed_2 rfl (lv_at hl 1 rfl) (hp_n (n := 3) rfl ?_)
  refine lv_i2l hx hb dX12_mixed_3 rfl (hp_n (n := 4) rfl ?_)
  refine lv_lmul hx hb dX12_mixed_4 (hp_n (n := 5) rfl ?_)
  refine lv_ldc2 hx hb hown (hts _ kc_X12_117) dX12_mixed_5 (hp_n (n := 8) rfl ?_)
  refine lv_iload_n hx hb dX12_mixed_8 rfl (lv_at hl 1 rfl) (hp_n (n := 9) rfl ?_)
  refine lv_i2l hx hb dX12_mixed_9 rfl (hp_n (n := 10) rfl ?_)
  refine lv_lmul hx hb dX12_mixed_10 (hp_n (n := 11) rfl ?_)
  refine lv_ladd hx hb dX12_mixed_11 (hp_n (n := 12) rfl ?_)
  refine lv_iload_n hx hb dX12_mixed_12 rfl (lv_at hl 2 rfl) (hp_n (n := 13) rfl ?_)
  refine lv_i2l hx hb dX12_mixed_13 rfl (hp_n (n := 14) rfl ?_)
  refine lv_ladd hx hb dX12_mixed_14 (hp_n (n := 15) rfl ?_)
  refine lv_ldc2 hx hb hown (hts _ kc_X12_119) dX12_mixed_15 (hp_n (n := 18) rfl ?_)
  refine lv_ladd hx hb dX12_mixed_18 (hp_n (n := 19) rfl ?_)
  refine lv_aload_n hx hb dX12_mixed_19 rfl (lv_at hl 0 rfl) (hp_n (n := 20) rfl ?_)
  refine m_getr (κ := 40) (k := 0) (pc' := 23) C B hM fl_X12_7 rfl (by decide) dX12_mixed_20 rfl ?_
  refine lv_iconst (v := 1) hx hb dX12_mixed_23 (by decide) (hp_n (n := 24) rfl ?_)
  obtain ⟨g1, hf⟩ := ms_gE hf
  refine m_ial (κ := 40) (φ := 650) (n := 1980) (pc' := 25) C B hM (by decide) (by decide) rfl g1 dX12_mixed_24 rfl ?_
  refine lv_i2l hx hb dX12_mixed_25 rfl (hp_n (n := 26) rfl ?_)
  obtain ⟨g2, hf⟩ := ms_nlE hf
  refine lv_lrem hx hb dX12_mixed_26 g2 (hp_n (n := 27) rfl ?_)
  refine lv_l2i hx hb dX12_mixed_27 rfl (hp_n (n := 28) rfl ?_)
  cases hf
  exact q_iret C B hr hlk ⟨rfl, rfl⟩ dX12_mixed_28
def f_X12_both (n : Nat) (σ : ms_T) (a1 : Int32) (a2 : Int32) : Option Int32 :=
  ms_b (f_X12_mixed n σ (2 : Int32) a1) fun rh1 =>
  ms_b (f_X12_mixed n σ rh1 a2) fun rh2 =>
  some rh2
set_option maxRecDepth 100000 in
set_option maxHeartbeats 4000000 in
theorem m_X12_both (n : Nat) (Γ : hp_G) (l : Launch) (α : hp_T) (a0 : Nat) (ρ : Nat → Nat) (σ : ms_T) (hM : hm_M α a0 ρ σ) (a1 : Int32) (a2 : Int32) (res : Int32) (hf : f_X12_both n σ a1 a2 = some res) : Met l yX12_both (hp_ws yX12_both cX12_both 3 (some .int)) (hp_rm 1 0 0) (hp_Pc Γ α [.ref a0, .int a1, .int a2]) (hp_Qi Γ (fun r β => β = α ∧ r = res)) 0 0 (hp_A Γ) := by
  unfold f_X12_both at hf
  refine hp_start (by decide) ?_
  intro p e s m below meth c C hr hlk B0 hnm
  have C : hp_C Γ p m c cX12_both 3 s ([.ref a0, .int a1, .int a2] : List Value).toArray RX12 := C
  have hx := C.1.1
  have hb := C.1.2.1
  have hown := C.1.2.2.2.1
  have hts := C.1.2.2.2.2
  have B : hp_B Γ (fun _ _ => True) s α α s.heap [] := ⟨B0.1, B0.2.1, trivial⟩
  have hl := lv_entry ([.ref a0, .int a1, .int a2]) (n := 3) (Nat.le_of_ble_eq_true rfl)
  show W p l e (hp_rm 1 0 0) s m ([.ref a0, .int a1, .int a2] : List Value).toArray below meth c s.heap [] 0 0 (MQ below (hp_Qi Γ (fun r β => β = α ∧ r = res)) ([.ref a0, .int a1, .int a2] : List Value).toArray s 0 0 (hp_A Γ)) (entryFrame m ([.ref a0, .int a1, .int a2] : List Value).toArray 3)
  rw [lg_entry_eq]
  generalize (lg_sl ([.ref a0, .int a1, .int a2]) ++ List.replicate (3 - (lg_sl ([.ref a0, .int a1, .int a2])).length) Slot.unset).toArray = ls at hl ⊢
  have hl : lv_has ls 3 [(0, .ref a0), (1, .int a1), (2, .int a2)] := hl
  refine lv_aload_n hx hb dX12_both_0 rfl (lv_at hl 0 rfl) (hp_n (n := 1) rfl ?_)
  refine lv_aload_n hx hb dX12_both_1 rfl (lv_at hl 0 rfl) (hp_n (n := 2) rfl ?_)
  refine lv_iconst (v := 2) hx hb dX12_both_2 (by decide) (hp_n (n := 3) rfl ?_)
  refine lv_iload_n hx hb dX12_both_3 rfl (lv_at hl 1 rfl) (hp_n (n := 4) rfl ?_)
  obtain ⟨rh1, qh1, hf⟩ := ms_bE hf
  refine m_cp (pc' := 7) B (hp_runV (As := [.int (2 : Int32), .int a1]) (rest := [.ref a0]) C B (m_X12_mixed n Γ l α a0 ρ σ hM (2 : Int32) a1 rh1 qh1) lb_X12_mixed lv_X12_mixed lk_X12_121 hM.1 rfl (by decide) rfl hl.1 rfl (Nat.le_of_ble_eq_true rfl) dX12_both_4 ⟨Nat.le_refl _, Nat.le_refl _⟩) rfl (fun Hh1 Lh1 Bh1 => ?_)
  refine lv_iload_n hx hb dX12_both_7 rfl (lv_at hl 2 rfl) (hp_n (n := 8) rfl ?_)
  obtain ⟨rh2, qh2, hf⟩ := ms_bE hf
  refine m_cp (pc' := 11) Bh1 (hp_runV (As := [.int rh1, .int a2]) (rest := []) C Bh1 (m_X12_mixed n Γ l α a0 ρ σ hM rh1 a2 rh2 qh2) lb_X12_mixed lv_X12_mixed lk_X12_121 hM.1 rfl (by decide) rfl hl.1 rfl (Nat.le_of_ble_eq_true rfl) dX12_both_8 ⟨Nat.le_refl _, Nat.le_refl _⟩) rfl (fun Hh2 Lh2 Bh2 => ?_)
  cases hf
  exact q_iret C Bh2 hr hlk ⟨rfl, rfl⟩ dX12_both_11
def f_X12_entryMark_L13 (n : Nat) (σ : ms_T) : Nat → Int32 → Int32 → Int32 → Option Int32
  | 0, _, _, _ => none
  | k13 + 1, v3_h2, v4_h2, v5_h2 =>
    ms_g ((252 : Int32) + v4_h2) 1980 <|
    if (ms_E σ 40 (((252 : Int32) + v4_h2)).toNatClampNeg) ≤ v5_h2 then
      some v3_h2
    else
      ms_g (((444 : Int32) + ((8 : Int32) * v4_h2)) + v5_h2) 1980 <|
      ms_b (f_X12_mixed n σ v3_h2 (ms_E σ 40 ((((444 : Int32) + ((8 : Int32) * v4_h2)) + v5_h2)).toNatClampNeg)) fun rh6 =>
      ms_l (v5_h2 + 1) fun x7 =>
      (f_X12_entryMark_L13 n σ k13) rh6 v4_h2 x7
def f_X12_entryMark (n : Nat) (σ : ms_T) (a1 : Int32) (a2 : Int32) : Option Int32 :=
  ms_l ((((48 : Int32) * a1) + a2)) fun x1 =>
  f_X12_entryMark_L13 n σ n (1 : Int32) x1 (0 : Int32)
set_option maxRecDepth 100000 in
set_option maxHeartbeats 4000000 in
theorem m_X12_entryMark (n : Nat) (Γ : hp_G) (l : Launch) (α : hp_T) (a0 : Nat) (ρ : Nat → Nat) (σ : ms_T) (hM : hm_M α a0 ρ σ) (a1 : Int32) (a2 : Int32) (res : Int32) (hf : f_X12_entryMark n σ a1 a2 = some res) : Met l yX12_entryMark (hp_ws yX12_entryMark cX12_entryMark 6 (some .int)) (hp_rm 1 0 0) (hp_Pc Γ α [.ref a0, .int a1, .int a2]) (hp_Qi Γ (fun r β => β = α ∧ r = res)) 0 0 (hp_A Γ) := by
  unfold f_X12_entryMark at hf
  refine hp_start (by decide) ?_
  intro p e s m below meth c C hr hlk B0 hnm
  have C : hp_C Γ p m c cX12_entryMark 6 s ([.ref a0, .int a1, .int a2] : List Value).toArray RX12 := C
  have hx := C.1.1
  have hb := C.1.2.1
  have hown := C.1.2.2.2.1
  have hts := C.1.2.2.2.2
  have B : hp_B Γ (fun _ _ => True) s α α s.heap [] := ⟨B0.1, B0.2.1, trivial⟩
  have hl := lv_entry ([.ref a0, .int a1, .int a2]) (n := 6) (Nat.le_of_ble_eq_true rfl)
  show W p l e (hp_rm 1 0 0) s m ([.ref a0, .int a1, .int a2] : List Value).toArray below meth c s.heap [] 0 0 (MQ below (hp_Qi Γ (fun r β => β = α ∧ r = res)) ([.ref a0, .int a1, .int a2] : List Value).toArray s 0 0 (hp_A Γ)) (entryFrame m ([.ref a0, .int a1, .int a2] : List Value).toArray 6)
  rw [lg_entry_eq]
  generalize (lg_sl ([.ref a0, .int a1, .int a2]) ++ List.replicate (6 - (lg_sl ([.ref a0, .int a1, .int a2])).length) Slot.unset).toArray = ls at hl ⊢
  have hl : lv_has ls 6 [(0, .ref a0), (1, .int a1), (2, .int a2)] := hl
  refine lv_iconst (v := 1) hx hb dX12_entryMark_0 (by decide) (hp_n (n := 1) rfl ?_)
  refine lv_istore_n (lv' := [(3, .int (1 : Int32)), (0, .ref a0), (1, .int a1), (2, .int a2)]) hx hb dX12_entryMark_1 rfl hl (by decide) rfl (fun ls hl => hp_n (n := 2) rfl ?_)
  refine lv_bipush (v := 48) hx hb dX12_entryMark_2 (by decide) (hp_n (n := 4) rfl ?_)
  refine lv_iload_n hx hb dX12_entryMark_4 rfl (lv_at hl 2 rfl) (hp_n (n := 5) rfl ?_)
  refine lv_imul hx hb dX12_entryMark_5 (hp_n (n := 6) rfl ?_)
  refine lv_iload_n hx hb dX12_entryMark_6 rfl (lv_at hl 3 rfl) (hp_n (n := 7) rfl ?_)
  refine lv_iadd hx hb dX12_entryMark_7 (hp_n (n := 8) rfl ?_)
  refine lv_topi (fun x1 ex1 => ?_)
  replace hf := ms_lE ex1 hf
  refine lv_istore (lv' := [(4, .int x1), (3, .int (1 : Int32)), (0, .ref a0), (1, .int a1), (2, .int a2)]) hx hb dX12_entryMark_8 hl (by decide) rfl (fun ls hl => hp_n (n := 10) rfl ?_)
  refine lv_iconst (v := 0) hx hb dX12_entryMark_10 (by decide) (hp_n (n := 11) rfl ?_)
  have J13 : ∀ (k13 : Nat) (Hh2 : Heap) (Lh2 : List Loc) (Bh2 : hp_B Γ (fun _ _ => True) s α α Hh2 Lh2) (v3_h2 : Int32) (v4_h2 : Int32) (v5_h2 : Int32) (ls : Array Slot) (hl : lv_has ls 6 [(0, .ref a0), (3, .int v3_h2), (4, .int v4_h2), (5, .int v5_h2)]) (hf : f_X12_entryMark_L13 n σ k13 v3_h2 v4_h2 v5_h2 = some res), W p l e (hp_rm 1 0 0) s m ([.ref a0, .int a1, .int a2] : List Value).toArray below meth c Hh2 Lh2 0 0 (MQ below (hp_Qi Γ (fun r β => β = α ∧ r = res)) ([.ref a0, .int a1, .int a2] : List Value).toArray s 0 0 (hp_A Γ)) (F0 m 13 ls []) := by
    intro k13
    induction k13 with
    | zero => intro Hh2 Lh2 Bh2 v3_h2 v4_h2 v5_h2 ls hl hf; rw [f_X12_entryMark_L13.eq_1] at hf; cases hf
    | succ k13 ih13 =>
      intro Hh2 Lh2 Bh2 v3_h2 v4_h2 v5_h2 ls hl hf
      rw [f_X12_entryMark_L13.eq_2] at hf
      refine lv_iload hx hb dX12_entryMark_13 (lv_at hl 3 rfl) (hp_n (n := 15) rfl ?_)
      refine lv_aload_n hx hb dX12_entryMark_15 rfl (lv_at hl 0 rfl) (hp_n (n := 16) rfl ?_)
      refine m_getr (κ := 40) (k := 0) (pc' := 19) C Bh2 hM fl_X12_7 rfl (by decide) dX12_entryMark_16 rfl ?_
      refine lv_sipush (v := 252) hx hb dX12_entryMark_19 (by decide) (hp_n (n := 22) rfl ?_)
      refine lv_iload hx hb dX12_entryMark_22 (lv_at hl 2 rfl) (hp_n (n := 24) rfl ?_)
      refine lv_iadd hx hb dX12_entryMark_24 (hp_n (n := 25) rfl ?_)
      obtain ⟨g3, hf⟩ := ms_gE hf
      refine m_ial (κ := 40) (φ := 650) (n := 1980) (pc' := 26) C Bh2 hM (by decide) (by decide) rfl g3 dX12_entryMark_25 rfl ?_
      refine lv_icmp_ge (tgt := 58) hx hb dX12_entryMark_26 (by decide) (fun c4 => ?_) (fun c4 => hp_n (n := 29) rfl ?_)
      ·
        replace hf := ms_iT c4 hf
        refine lv_iload_n hx hb dX12_entryMark_58 rfl (lv_at hl 1 rfl) (hp_n (n := 59) rfl ?_)
        cases hf
        exact q_iret C Bh2 hr hlk ⟨rfl, rfl⟩ dX12_entryMark_59
      ·
        replace hf := ms_iF c4 hf
        refine lv_aload_n hx hb dX12_entryMark_29 rfl (lv_at hl 0 rfl) (hp_n (n := 30) rfl ?_)
        refine lv_iload_n hx hb dX12_entryMark_30 rfl (lv_at hl 1 rfl) (hp_n (n := 31) rfl ?_)
        refine lv_aload_n hx hb dX12_entryMark_31 rfl (lv_at hl 0 rfl) (hp_n (n := 32) rfl ?_)
        refine m_getr (κ := 40) (k := 0) (pc' := 35) C Bh2 hM fl_X12_7 rfl (by decide) dX12_entryMark_32 rfl ?_
        refine lv_sipush (v := 444) hx hb dX12_entryMark_35 (by decide) (hp_n (n := 38) rfl ?_)
        refine lv_bipush (v := 8) hx hb dX12_entryMark_38 (by decide) (hp_n (n := 40) rfl ?_)
        refine lv_iload hx hb dX12_entryMark_40 (lv_at hl 2 rfl) (hp_n (n := 42) rfl ?_)
        refine lv_imul hx hb dX12_entryMark_42 (hp_n (n := 43) rfl ?_)
        refine lv_iadd hx hb dX12_entryMark_43 (hp_n (n := 44) rfl ?_)
        refine lv_iload hx hb dX12_entryMark_44 (lv_at hl 3 rfl) (hp_n (n := 46) rfl ?_)
        refine lv_iadd hx hb dX12_entryMark_46 (hp_n (n := 47) rfl ?_)
        obtain ⟨g5, hf⟩ := ms_gE hf
        refine m_ial (κ := 40) (φ := 650) (n := 1980) (pc' := 48) C Bh2 hM (by decide) (by decide) rfl g5 dX12_entryMark_47 rfl ?_
        obtain ⟨rh6, qh6, hf⟩ := ms_bE hf
        refine m_cp (pc' := 51) Bh2 (hp_runV (As := [.int v3_h2, .int (ms_E σ 40 ((((444 : Int32) + ((8 : Int32) * v4_h2)) + v5_h2)).toNatClampNeg)]) (rest := []) C Bh2 (m_X12_mixed n Γ l α a0 ρ σ hM v3_h2 (ms_E σ 40 ((((444 : Int32) + ((8 : Int32) * v4_h2)) + v5_h2)).toNatClampNeg) rh6 qh6) lb_X12_mixed lv_X12_mixed lk_X12_121 hM.1 rfl (by decide) rfl hl.1 rfl (Nat.le_of_ble_eq_true rfl) dX12_entryMark_48 ⟨Nat.le_refl _, Nat.le_refl _⟩) rfl (fun Hh6 Lh6 Bh6 => ?_)
        refine lv_istore_n (lv' := [(3, .int rh6), (0, .ref a0), (4, .int v4_h2), (5, .int v5_h2)]) hx hb dX12_entryMark_51 rfl hl (by decide) rfl (fun ls hl => hp_n (n := 52) rfl ?_)
        obtain ⟨x7, ex7⟩ : ∃ y : Int32, y = v5_h2 + 1 := ⟨_, rfl⟩
        replace hf := ms_lE ex7 hf
        refine lv_iinc (v := x7) (lv' := [(5, .int x7), (3, .int rh6), (0, .ref a0), (4, .int v4_h2)]) hx hb dX12_entryMark_52 hl (k := 3) rfl (by rw [ex7]; rfl) (by decide) rfl (fun ls hl => hp_n (n := 55) rfl ?_)
        refine lv_goto (tgt := 13) hx hb dX12_entryMark_55 (by decide) ?_
        exact ih13 Hh6 Lh6 Bh6 rh6 v4_h2 x7 ls (lv_sub hl [2, 1, 3, 0] rfl) hf
  refine lv_istore (lv' := [(5, .int (0 : Int32)), (4, .int x1), (3, .int (1 : Int32)), (0, .ref a0), (1, .int a1), (2, .int a2)]) hx hb dX12_entryMark_11 hl (by decide) rfl (fun ls hl => hp_n (n := 13) rfl ?_)
  exact J13 n s.heap [] B (1 : Int32) x1 (0 : Int32) ls (lv_sub hl [3, 2, 1, 0] rfl) hf
def f_X12_part0_L2 (n : Nat) : Nat → Int32 → Int32 → Option Int32
  | 0, _, _ => none
  | k2 + 1, v0_h1, v1_h1 =>
    if (v0_h1 - v1_h1) ≤ v1_h1 then
      some v1_h1
    else
      ms_l ((v1_h1 + v1_h1)) fun x3 =>
      (f_X12_part0_L2 n k2) v0_h1 x3
def f_X12_part0 (n : Nat) (a0 : Int32) : Option Int32 :=
  f_X12_part0_L2 n n a0 (1 : Int32)
set_option maxRecDepth 100000 in
set_option maxHeartbeats 4000000 in
theorem m_X12_part0 (n : Nat) (Γ : hp_G) (l : Launch) (α : hp_T) (a0 : Int32) (res : Int32) (hf : f_X12_part0 n a0 = some res) : Met l yX12_part0 (hp_ws yX12_part0 cX12_part0 2 (some .int)) (hp_rm 0 0 0) (hp_Pc Γ α [.int a0]) (hp_Qi Γ (fun r β => β = α ∧ r = res)) 0 0 (hp_A Γ) := by
  unfold f_X12_part0 at hf
  refine hp_start (by decide) ?_
  intro p e s m below meth c C hr hlk B0 hnm
  have C : hp_C Γ p m c cX12_part0 2 s ([.int a0] : List Value).toArray RX12 := C
  have hx := C.1.1
  have hb := C.1.2.1
  have hown := C.1.2.2.2.1
  have hts := C.1.2.2.2.2
  have B : hp_B Γ (fun _ _ => True) s α α s.heap [] := ⟨B0.1, B0.2.1, trivial⟩
  have hl := lv_entry ([.int a0]) (n := 2) (Nat.le_of_ble_eq_true rfl)
  show W p l e (hp_rm 0 0 0) s m ([.int a0] : List Value).toArray below meth c s.heap [] 0 0 (MQ below (hp_Qi Γ (fun r β => β = α ∧ r = res)) ([.int a0] : List Value).toArray s 0 0 (hp_A Γ)) (entryFrame m ([.int a0] : List Value).toArray 2)
  rw [lg_entry_eq]
  generalize (lg_sl ([.int a0]) ++ List.replicate (2 - (lg_sl ([.int a0])).length) Slot.unset).toArray = ls at hl ⊢
  have hl : lv_has ls 2 [(0, .int a0)] := hl
  refine lv_iconst (v := 1) hx hb dX12_part0_0 (by decide) (hp_n (n := 1) rfl ?_)
  have J2 : ∀ (k2 : Nat) (Hh1 : Heap) (Lh1 : List Loc) (Bh1 : hp_B Γ (fun _ _ => True) s α α Hh1 Lh1) (v0_h1 : Int32) (v1_h1 : Int32) (ls : Array Slot) (hl : lv_has ls 2 [(0, .int v0_h1), (1, .int v1_h1)]) (hf : f_X12_part0_L2 n k2 v0_h1 v1_h1 = some res), W p l e (hp_rm 0 0 0) s m ([.int a0] : List Value).toArray below meth c Hh1 Lh1 0 0 (MQ below (hp_Qi Γ (fun r β => β = α ∧ r = res)) ([.int a0] : List Value).toArray s 0 0 (hp_A Γ)) (F0 m 2 ls []) := by
    intro k2
    induction k2 with
    | zero => intro Hh1 Lh1 Bh1 v0_h1 v1_h1 ls hl hf; rw [f_X12_part0_L2.eq_1] at hf; cases hf
    | succ k2 ih2 =>
      intro Hh1 Lh1 Bh1 v0_h1 v1_h1 ls hl hf
      rw [f_X12_part0_L2.eq_2] at hf
      refine lv_iload_n hx hb dX12_part0_2 rfl (lv_at hl 1 rfl) (hp_n (n := 3) rfl ?_)
      refine lv_iload_n hx hb dX12_part0_3 rfl (lv_at hl 0 rfl) (hp_n (n := 4) rfl ?_)
      refine lv_iload_n hx hb dX12_part0_4 rfl (lv_at hl 1 rfl) (hp_n (n := 5) rfl ?_)
      refine lv_isub hx hb dX12_part0_5 (hp_n (n := 6) rfl ?_)
      refine lv_icmp_ge (tgt := 16) hx hb dX12_part0_6 (by decide) (fun c2 => ?_) (fun c2 => hp_n (n := 9) rfl ?_)
      ·
        replace hf := ms_iT c2 hf
        refine lv_iload_n hx hb dX12_part0_16 rfl (lv_at hl 1 rfl) (hp_n (n := 17) rfl ?_)
        cases hf
        exact q_iret C Bh1 hr hlk ⟨rfl, rfl⟩ dX12_part0_17
      ·
        replace hf := ms_iF c2 hf
        refine lv_iload_n hx hb dX12_part0_9 rfl (lv_at hl 1 rfl) (hp_n (n := 10) rfl ?_)
        refine lv_iload_n hx hb dX12_part0_10 rfl (lv_at hl 1 rfl) (hp_n (n := 11) rfl ?_)
        refine lv_iadd hx hb dX12_part0_11 (hp_n (n := 12) rfl ?_)
        refine lv_topi (fun x3 ex3 => ?_)
        replace hf := ms_lE ex3 hf
        refine lv_istore_n (lv' := [(1, .int x3), (0, .int v0_h1)]) hx hb dX12_part0_12 rfl hl (by decide) rfl (fun ls hl => hp_n (n := 13) rfl ?_)
        refine lv_goto (tgt := 2) hx hb dX12_part0_13 (by decide) ?_
        exact ih2 Hh1 Lh1 Bh1 v0_h1 x3 ls (lv_sub hl [1, 0] rfl) hf
  refine lv_istore_n (lv' := [(1, .int (1 : Int32)), (0, .int a0)]) hx hb dX12_part0_1 rfl hl (by decide) rfl (fun ls hl => hp_n (n := 2) rfl ?_)
  exact J2 n s.heap [] B a0 (1 : Int32) ls (lv_sub hl [1, 0] rfl) hf
def f_X12_treeMark (n : Nat) : Nat → ms_T → Int32 → Int32 → Int32 → Option Int32
  | 0, _, _, _, _ => none
  | d + 1, σ, a1, a2, a3 =>
    if a3 = 0 then
      some (0 : Int32)
    else
      if a3 = (1 : Int32) then
        ms_b (f_X12_entryMark n σ a1 a2) fun rh7 =>
        some rh7
      else
        ms_b (f_X12_part0 n a3) fun rh3 =>
        ms_b ((f_X12_treeMark n d σ) a1 a2 rh3) fun rh4 =>
        ms_b ((f_X12_treeMark n d σ) a1 (a2 + rh3) (a3 - rh3)) fun rh5 =>
        ms_b (f_X12_both n σ rh4 rh5) fun rh6 =>
        some rh6
set_option maxRecDepth 100000 in
set_option maxHeartbeats 4000000 in
theorem m_X12_treeMark (n : Nat) : ∀ (d : Nat) (Γ : hp_G) (l : Launch) (α : hp_T) (a0 : Nat) (ρ : Nat → Nat) (σ : ms_T) (hM : hm_M α a0 ρ σ) (a1 : Int32) (a2 : Int32) (a3 : Int32) (res : Int32) (hf : f_X12_treeMark n d σ a1 a2 a3 = some res), Met l yX12_treeMark (hp_ws yX12_treeMark cX12_treeMark 5 (some .int)) (hp_rm (d + 1) 0 0) (hp_Pc Γ α [.ref a0, .int a1, .int a2, .int a3]) (hp_Qi Γ (fun r β => β = α ∧ r = res)) 0 0 (hp_A Γ) := by
  intro d
  induction d with
  | zero => intro Γ l α a0 ρ σ hM a1 a2 a3 res hf; rw [f_X12_treeMark.eq_1] at hf; cases hf
  | succ d ihM =>
    intro Γ l α a0 ρ σ hM a1 a2 a3 res hf
    rw [f_X12_treeMark.eq_2] at hf
    refine hp_start (by decide) ?_
    intro p e s m below meth c C hr hlk B0 hnm
    have C : hp_C Γ p m c cX12_treeMark 5 s ([.ref a0, .int a1, .int a2, .int a3] : List Value).toArray RX12 := C
    have hx := C.1.1
    have hb := C.1.2.1
    have hown := C.1.2.2.2.1
    have hts := C.1.2.2.2.2
    have B : hp_B Γ (fun _ _ => True) s α α s.heap [] := ⟨B0.1, B0.2.1, trivial⟩
    have hl := lv_entry ([.ref a0, .int a1, .int a2, .int a3]) (n := 5) (Nat.le_of_ble_eq_true rfl)
    show W p l e (hp_rm (d + 1 + 1) 0 0) s m ([.ref a0, .int a1, .int a2, .int a3] : List Value).toArray below meth c s.heap [] 0 0 (MQ below (hp_Qi Γ (fun r β => β = α ∧ r = res)) ([.ref a0, .int a1, .int a2, .int a3] : List Value).toArray s 0 0 (hp_A Γ)) (entryFrame m ([.ref a0, .int a1, .int a2, .int a3] : List Value).toArray 5)
    rw [lg_entry_eq]
    generalize (lg_sl ([.ref a0, .int a1, .int a2, .int a3]) ++ List.replicate (5 - (lg_sl ([.ref a0, .int a1, .int a2, .int a3])).length) Slot.unset).toArray = ls at hl ⊢
    have hl : lv_has ls 5 [(0, .ref a0), (1, .int a1), (2, .int a2), (3, .int a3)] := hl
    refine lv_iload_n hx hb dX12_treeMark_0 rfl (lv_at hl 3 rfl) (hp_n (n := 1) rfl ?_)
    refine lv_if_ne (tgt := 6) hx hb dX12_treeMark_1 (by decide) (fun c1 => ?_) (fun c1 => hp_n (n := 4) rfl ?_)
    ·
      replace hf := ms_iF c1 hf
      refine lv_iload_n hx hb dX12_treeMark_6 rfl (lv_at hl 3 rfl) (hp_n (n := 7) rfl ?_)
      refine lv_iconst (v := 1) hx hb dX12_treeMark_7 (by decide) (hp_n (n := 8) rfl ?_)
      refine lv_icmp_ne (tgt := 18) hx hb dX12_treeMark_8 (by decide) (fun c2 => ?_) (fun c2 => hp_n (n := 11) rfl ?_)
      ·
        replace hf := ms_iF c2 hf
        refine lv_iload_n hx hb dX12_treeMark_18 rfl (lv_at hl 3 rfl) (hp_n (n := 19) rfl ?_)
        obtain ⟨rh3, qh3, hf⟩ := ms_bE hf
        refine m_cp (pc' := 22) B (hp_runS (As := [.int a3]) (rest := []) C B (m_X12_part0 n Γ l α a3 rh3 qh3) lb_X12_part0 ls_X12_part0 lk_X12_128 rfl (by omega) rfl hl.1 rfl (Nat.le_of_ble_eq_true rfl) dX12_treeMark_19 ⟨Nat.le_refl _, Nat.le_refl _⟩) rfl (fun Hh3 Lh3 Bh3 => ?_)
        refine lv_istore (lv' := [(4, .int rh3), (0, .ref a0), (1, .int a1), (2, .int a2), (3, .int a3)]) hx hb dX12_treeMark_22 hl (by decide) rfl (fun ls hl => hp_n (n := 24) rfl ?_)
        refine lv_aload_n hx hb dX12_treeMark_24 rfl (lv_at hl 1 rfl) (hp_n (n := 25) rfl ?_)
        refine lv_aload_n hx hb dX12_treeMark_25 rfl (lv_at hl 1 rfl) (hp_n (n := 26) rfl ?_)
        refine lv_iload_n hx hb dX12_treeMark_26 rfl (lv_at hl 2 rfl) (hp_n (n := 27) rfl ?_)
        refine lv_iload_n hx hb dX12_treeMark_27 rfl (lv_at hl 3 rfl) (hp_n (n := 28) rfl ?_)
        refine lv_iload hx hb dX12_treeMark_28 (lv_at hl 0 rfl) (hp_n (n := 30) rfl ?_)
        obtain ⟨rh4, qh4, hf⟩ := ms_bE hf
        refine m_cp (pc' := 33) Bh3 (hp_runV (As := [.int a1, .int a2, .int rh3]) (rest := [.ref a0]) C Bh3 (ihM Γ l α a0 ρ σ hM a1 a2 rh3 rh4 qh4) lb_X12_treeMark lv_X12_treeMark lk_X12_132 hM.1 rfl (by omega) rfl hl.1 rfl (Nat.le_of_ble_eq_true rfl) dX12_treeMark_30 ⟨Nat.le_refl _, Nat.le_refl _⟩) rfl (fun Hh4 Lh4 Bh4 => ?_)
        refine lv_aload_n hx hb dX12_treeMark_33 rfl (lv_at hl 1 rfl) (hp_n (n := 34) rfl ?_)
        refine lv_iload_n hx hb dX12_treeMark_34 rfl (lv_at hl 2 rfl) (hp_n (n := 35) rfl ?_)
        refine lv_iload_n hx hb dX12_treeMark_35 rfl (lv_at hl 3 rfl) (hp_n (n := 36) rfl ?_)
        refine lv_iload hx hb dX12_treeMark_36 (lv_at hl 0 rfl) (hp_n (n := 38) rfl ?_)
        refine lv_iadd hx hb dX12_treeMark_38 (hp_n (n := 39) rfl ?_)
        refine lv_iload_n hx hb dX12_treeMark_39 rfl (lv_at hl 4 rfl) (hp_n (n := 40) rfl ?_)
        refine lv_iload hx hb dX12_treeMark_40 (lv_at hl 0 rfl) (hp_n (n := 42) rfl ?_)
        refine lv_isub hx hb dX12_treeMark_42 (hp_n (n := 43) rfl ?_)
        obtain ⟨rh5, qh5, hf⟩ := ms_bE hf
        refine m_cp (pc' := 46) Bh4 (hp_runV (As := [.int a1, .int (a2 + rh3), .int (a3 - rh3)]) (rest := [.int rh4, .ref a0]) C Bh4 (ihM Γ l α a0 ρ σ hM a1 (a2 + rh3) (a3 - rh3) rh5 qh5) lb_X12_treeMark lv_X12_treeMark lk_X12_132 hM.1 rfl (by omega) rfl hl.1 rfl (Nat.le_of_ble_eq_true rfl) dX12_treeMark_43 ⟨Nat.le_refl _, Nat.le_refl _⟩) rfl (fun Hh5 Lh5 Bh5 => ?_)
        obtain ⟨rh6, qh6, hf⟩ := ms_bE hf
        refine m_cp (pc' := 49) Bh5 (hp_runV (As := [.int rh4, .int rh5]) (rest := []) C Bh5 (m_X12_both n Γ l α a0 ρ σ hM rh4 rh5 rh6 qh6) lb_X12_both lv_X12_both lk_X12_136 hM.1 rfl (by omega) rfl hl.1 rfl (Nat.le_of_ble_eq_true rfl) dX12_treeMark_46 ⟨Nat.le_refl _, Nat.le_refl _⟩) rfl (fun Hh6 Lh6 Bh6 => ?_)
        cases hf
        exact q_iret C Bh6 hr hlk ⟨rfl, rfl⟩ dX12_treeMark_49
      ·
        replace hf := ms_iT c2 hf
        refine lv_aload_n hx hb dX12_treeMark_11 rfl (lv_at hl 0 rfl) (hp_n (n := 12) rfl ?_)
        refine lv_iload_n hx hb dX12_treeMark_12 rfl (lv_at hl 1 rfl) (hp_n (n := 13) rfl ?_)
        refine lv_iload_n hx hb dX12_treeMark_13 rfl (lv_at hl 2 rfl) (hp_n (n := 14) rfl ?_)
        obtain ⟨rh7, qh7, hf⟩ := ms_bE hf
        refine m_cp (pc' := 17) B (hp_runV (As := [.int a1, .int a2]) (rest := []) C B (m_X12_entryMark n Γ l α a0 ρ σ hM a1 a2 rh7 qh7) lb_X12_entryMark lv_X12_entryMark lk_X12_125 hM.1 rfl (by omega) rfl hl.1 rfl (Nat.le_of_ble_eq_true rfl) dX12_treeMark_14 ⟨Nat.le_refl _, Nat.le_refl _⟩) rfl (fun Hh7 Lh7 Bh7 => ?_)
        cases hf
        exact q_iret C Bh7 hr hlk ⟨rfl, rfl⟩ dX12_treeMark_17
    ·
      replace hf := ms_iT c1 hf
      refine lv_iconst (v := 0) hx hb dX12_treeMark_4 (by decide) (hp_n (n := 5) rfl ?_)
      cases hf
      exact q_iret C B hr hlk ⟨rfl, rfl⟩ dX12_treeMark_5
def f_X12_headOf (n : Nat) (σ : ms_T) (a1 : Int32) (a2 : Int32) : Option Int32 :=
  ms_b (f_X12_treeMark n 40 σ a1 (0 : Int32) a2) fun rh1 =>
  some rh1
set_option maxRecDepth 100000 in
set_option maxHeartbeats 4000000 in
theorem m_X12_headOf (n : Nat) (Γ : hp_G) (l : Launch) (α : hp_T) (a0 : Nat) (ρ : Nat → Nat) (σ : ms_T) (hM : hm_M α a0 ρ σ) (a1 : Int32) (a2 : Int32) (res : Int32) (hf : f_X12_headOf n σ a1 a2 = some res) : Met l yX12_headOf (hp_ws yX12_headOf cX12_headOf 3 (some .int)) (hp_rm 42 0 0) (hp_Pc Γ α [.ref a0, .int a1, .int a2]) (hp_Qi Γ (fun r β => β = α ∧ r = res)) 0 0 (hp_A Γ) := by
  unfold f_X12_headOf at hf
  refine hp_start (by decide) ?_
  intro p e s m below meth c C hr hlk B0 hnm
  have C : hp_C Γ p m c cX12_headOf 3 s ([.ref a0, .int a1, .int a2] : List Value).toArray RX12 := C
  have hx := C.1.1
  have hb := C.1.2.1
  have hown := C.1.2.2.2.1
  have hts := C.1.2.2.2.2
  have B : hp_B Γ (fun _ _ => True) s α α s.heap [] := ⟨B0.1, B0.2.1, trivial⟩
  have hl := lv_entry ([.ref a0, .int a1, .int a2]) (n := 3) (Nat.le_of_ble_eq_true rfl)
  show W p l e (hp_rm 42 0 0) s m ([.ref a0, .int a1, .int a2] : List Value).toArray below meth c s.heap [] 0 0 (MQ below (hp_Qi Γ (fun r β => β = α ∧ r = res)) ([.ref a0, .int a1, .int a2] : List Value).toArray s 0 0 (hp_A Γ)) (entryFrame m ([.ref a0, .int a1, .int a2] : List Value).toArray 3)
  rw [lg_entry_eq]
  generalize (lg_sl ([.ref a0, .int a1, .int a2]) ++ List.replicate (3 - (lg_sl ([.ref a0, .int a1, .int a2])).length) Slot.unset).toArray = ls at hl ⊢
  have hl : lv_has ls 3 [(0, .ref a0), (1, .int a1), (2, .int a2)] := hl
  refine lv_aload_n hx hb dX12_headOf_0 rfl (lv_at hl 0 rfl) (hp_n (n := 1) rfl ?_)
  refine lv_iload_n hx hb dX12_headOf_1 rfl (lv_at hl 1 rfl) (hp_n (n := 2) rfl ?_)
  refine lv_iconst (v := 0) hx hb dX12_headOf_2 (by decide) (hp_n (n := 3) rfl ?_)
  refine lv_iload_n hx hb dX12_headOf_3 rfl (lv_at hl 2 rfl) (hp_n (n := 4) rfl ?_)
  obtain ⟨rh1, qh1, hf⟩ := ms_bE hf
  refine m_cp (pc' := 7) B (hp_runV (As := [.int a1, .int (0 : Int32), .int a2]) (rest := []) C B (m_X12_treeMark n 40 Γ l α a0 ρ σ hM a1 (0 : Int32) a2 rh1 qh1) lb_X12_treeMark lv_X12_treeMark lk_X12_132 hM.1 rfl (by decide) rfl hl.1 rfl (Nat.le_of_ble_eq_true rfl) dX12_headOf_4 ⟨Nat.le_refl _, Nat.le_refl _⟩) rfl (fun Hh1 Lh1 Bh1 => ?_)
  cases hf
  exact q_iret C Bh1 hr hlk ⟨rfl, rfl⟩ dX12_headOf_7
def f_X12_asks (n : Nat) (σ : ms_T) (a1 : Int32) (a2 : Int32) : Option ms_T :=
  ms_g (ms_I σ 657) 128 <|
  ms_l (ms_sE σ 42 ((ms_I σ 657)).toNatClampNeg a1) fun σh2 =>
  ms_g (ms_I σh2 657) 128 <|
  ms_l (ms_sE σh2 43 ((ms_I σh2 657)).toNatClampNeg a2) fun σh4 =>
  ms_l (ms_sI σh4 657 ((ms_I σh4 657) + (1 : Int32))) fun σh5 =>
  some σh5
set_option maxRecDepth 100000 in
set_option maxHeartbeats 4000000 in
theorem m_X12_asks (n : Nat) (Γ : hp_G) (l : Launch) (α : hp_T) (a0 : Nat) (ρ : Nat → Nat) (σ : ms_T) (hM : hm_M α a0 ρ σ) (a1 : Int32) (a2 : Int32) (res : ms_T) (hf : f_X12_asks n σ a1 a2 = some res) : Met l yX12_asks (hp_ws yX12_asks cX12_asks 3 none) (hp_rm 0 0 0) (hp_Pc Γ α [.ref a0, .int a1, .int a2]) (hp_Qv Γ (fun β => mo α β ∧ hm_M β a0 ρ res)) 0 0 (hp_A Γ) := by
  unfold f_X12_asks at hf
  refine hp_start (by decide) ?_
  intro p e s m below meth c C hr hlk B0 hnm
  have C : hp_C Γ p m c cX12_asks 3 s ([.ref a0, .int a1, .int a2] : List Value).toArray RX12 := C
  have hx := C.1.1
  have hb := C.1.2.1
  have hown := C.1.2.2.2.1
  have hts := C.1.2.2.2.2
  have B : hp_B Γ mo s α α s.heap [] := ⟨B0.1, B0.2.1, mo_rf⟩
  have hl := lv_entry ([.ref a0, .int a1, .int a2]) (n := 3) (Nat.le_of_ble_eq_true rfl)
  show W p l e (hp_rm 0 0 0) s m ([.ref a0, .int a1, .int a2] : List Value).toArray below meth c s.heap [] 0 0 (MQ below (hp_Qv Γ (fun β => mo α β ∧ hm_M β a0 ρ res)) ([.ref a0, .int a1, .int a2] : List Value).toArray s 0 0 (hp_A Γ)) (entryFrame m ([.ref a0, .int a1, .int a2] : List Value).toArray 3)
  rw [lg_entry_eq]
  generalize (lg_sl ([.ref a0, .int a1, .int a2]) ++ List.replicate (3 - (lg_sl ([.ref a0, .int a1, .int a2])).length) Slot.unset).toArray = ls at hl ⊢
  have hl : lv_has ls 3 [(0, .ref a0), (1, .int a1), (2, .int a2)] := hl
  refine lv_aload_n hx hb dX12_asks_0 rfl (lv_at hl 0 rfl) (hp_n (n := 1) rfl ?_)
  refine m_getr (κ := 42) (k := 4) (pc' := 4) C B hM fl_X12_16 rfl (by decide) dX12_asks_1 rfl ?_
  refine lv_aload_n hx hb dX12_asks_4 rfl (lv_at hl 0 rfl) (hp_n (n := 5) rfl ?_)
  refine m_geti (k := 7) (φ := 657) (pc' := 8) C B hM fl_X12_139 rfl rfl dX12_asks_5 rfl ?_
  refine lv_iload_n hx hb dX12_asks_8 rfl (lv_at hl 1 rfl) (hp_n (n := 9) rfl ?_)
  obtain ⟨g1, hf⟩ := ms_gE hf
  refine m_ias (κ := 42) (φ := 654) (n := 128) (pc' := 10) C B hM (by decide) (by decide) rfl g1 dX12_asks_9 rfl (fun αh2 Hh2 Lh2 σh2 eh2 Bh2 Mh2 => ?_)
  replace hf := ms_lE eh2 hf
  refine lv_aload_n hx hb dX12_asks_10 rfl (lv_at hl 0 rfl) (hp_n (n := 11) rfl ?_)
  refine m_getr (κ := 43) (k := 5) (pc' := 14) C Bh2 Mh2 fl_X12_19 rfl (by decide) dX12_asks_11 rfl ?_
  refine lv_aload_n hx hb dX12_asks_14 rfl (lv_at hl 0 rfl) (hp_n (n := 15) rfl ?_)
  refine m_geti (k := 7) (φ := 657) (pc' := 18) C Bh2 Mh2 fl_X12_139 rfl rfl dX12_asks_15 rfl ?_
  refine lv_iload_n hx hb dX12_asks_18 rfl (lv_at hl 2 rfl) (hp_n (n := 19) rfl ?_)
  obtain ⟨g3, hf⟩ := ms_gE hf
  refine m_ias (κ := 43) (φ := 655) (n := 128) (pc' := 20) C Bh2 Mh2 (by decide) (by decide) rfl g3 dX12_asks_19 rfl (fun αh4 Hh4 Lh4 σh4 eh4 Bh4 Mh4 => ?_)
  replace hf := ms_lE eh4 hf
  refine lv_aload_n hx hb dX12_asks_20 rfl (lv_at hl 0 rfl) (hp_n (n := 21) rfl ?_)
  refine lv_dup hx hb dX12_asks_21 rfl (hp_n (n := 22) rfl ?_)
  refine m_geti (k := 7) (φ := 657) (pc' := 25) C Bh4 Mh4 fl_X12_139 rfl rfl dX12_asks_22 rfl ?_
  refine lv_iconst (v := 1) hx hb dX12_asks_25 (by decide) (hp_n (n := 26) rfl ?_)
  refine lv_iadd hx hb dX12_asks_26 (hp_n (n := 27) rfl ?_)
  refine m_puti (k := 7) (φ := 657) (pc' := 30) C Bh4 Mh4 fl_X12_139 rfl rfl rfl rfl rfl dX12_asks_27 rfl (fun αh5 Hh5 Lh5 σh5 eh5 Bh5 Mh5 => ?_)
  replace hf := ms_lE eh5 hf
  cases hf
  exact q_vret C Bh5 hr hlk ⟨Bh5.2.2, Mh5⟩ dX12_asks_30
def f_X12_waysIn (n : Nat) : Nat → ms_T → Int32 → Int32 → Int32 → Option ms_T
  | 0, _, _, _, _ => none
  | d + 1, σ, a1, a2, a3 =>
    if a3 = (1 : Int32) then
      some σ
    else
      ms_b (f_X12_part0 n a3) fun rh2 =>
      if rh2 ≤ a2 then
        ms_b ((f_X12_waysIn n d) σ (a1 + rh2) (a2 - rh2) (a3 - rh2)) fun σh4 =>
        ms_b (f_X12_asks n σh4 a1 rh2) fun σh5 =>
        some σh5
      else
        ms_b ((f_X12_waysIn n d) σ a1 a2 rh2) fun σh6 =>
        ms_b (f_X12_asks n σh6 (a1 + rh2) (a3 - rh2)) fun σh7 =>
        some σh7
set_option maxRecDepth 100000 in
set_option maxHeartbeats 4000000 in
theorem m_X12_waysIn (n : Nat) : ∀ (d : Nat) (Γ : hp_G) (l : Launch) (α : hp_T) (a0 : Nat) (ρ : Nat → Nat) (σ : ms_T) (hM : hm_M α a0 ρ σ) (a1 : Int32) (a2 : Int32) (a3 : Int32) (res : ms_T) (hf : f_X12_waysIn n d σ a1 a2 a3 = some res), Met l yX12_waysIn (hp_ws yX12_waysIn cX12_waysIn 5 none) (hp_rm (d + 0) 0 0) (hp_Pc Γ α [.ref a0, .int a1, .int a2, .int a3]) (hp_Qv Γ (fun β => mo α β ∧ hm_M β a0 ρ res)) 0 0 (hp_A Γ) := by
  intro d
  induction d with
  | zero => intro Γ l α a0 ρ σ hM a1 a2 a3 res hf; rw [f_X12_waysIn.eq_1] at hf; cases hf
  | succ d ihM =>
    intro Γ l α a0 ρ σ hM a1 a2 a3 res hf
    rw [f_X12_waysIn.eq_2] at hf
    refine hp_start (by decide) ?_
    intro p e s m below meth c C hr hlk B0 hnm
    have C : hp_C Γ p m c cX12_waysIn 5 s ([.ref a0, .int a1, .int a2, .int a3] : List Value).toArray RX12 := C
    have hx := C.1.1
    have hb := C.1.2.1
    have hown := C.1.2.2.2.1
    have hts := C.1.2.2.2.2
    have B : hp_B Γ mo s α α s.heap [] := ⟨B0.1, B0.2.1, mo_rf⟩
    have hl := lv_entry ([.ref a0, .int a1, .int a2, .int a3]) (n := 5) (Nat.le_of_ble_eq_true rfl)
    show W p l e (hp_rm (d + 1 + 0) 0 0) s m ([.ref a0, .int a1, .int a2, .int a3] : List Value).toArray below meth c s.heap [] 0 0 (MQ below (hp_Qv Γ (fun β => mo α β ∧ hm_M β a0 ρ res)) ([.ref a0, .int a1, .int a2, .int a3] : List Value).toArray s 0 0 (hp_A Γ)) (entryFrame m ([.ref a0, .int a1, .int a2, .int a3] : List Value).toArray 5)
    rw [lg_entry_eq]
    generalize (lg_sl ([.ref a0, .int a1, .int a2, .int a3]) ++ List.replicate (5 - (lg_sl ([.ref a0, .int a1, .int a2, .int a3])).length) Slot.unset).toArray = ls at hl ⊢
    have hl : lv_has ls 5 [(0, .ref a0), (1, .int a1), (2, .int a2), (3, .int a3)] := hl
    refine lv_iload_n hx hb dX12_waysIn_0 rfl (lv_at hl 3 rfl) (hp_n (n := 1) rfl ?_)
    refine lv_iconst (v := 1) hx hb dX12_waysIn_1 (by decide) (hp_n (n := 2) rfl ?_)
    refine lv_icmp_ne (tgt := 6) hx hb dX12_waysIn_2 (by decide) (fun c1 => ?_) (fun c1 => hp_n (n := 5) rfl ?_)
    ·
      replace hf := ms_iF c1 hf
      refine lv_iload_n hx hb dX12_waysIn_6 rfl (lv_at hl 3 rfl) (hp_n (n := 7) rfl ?_)
      obtain ⟨rh2, qh2, hf⟩ := ms_bE hf
      refine m_cp (pc' := 10) B (hp_runS (As := [.int a3]) (rest := []) C B (m_X12_part0 n Γ l α a3 rh2 qh2) lb_X12_part0 ls_X12_part0 lk_X12_128 rfl (by omega) rfl hl.1 rfl (Nat.le_of_ble_eq_true rfl) dX12_waysIn_7 ⟨Nat.le_refl _, Nat.le_refl _⟩) rfl (fun Hh2 Lh2 Bh2 => ?_)
      refine lv_istore (lv' := [(4, .int rh2), (0, .ref a0), (1, .int a1), (2, .int a2), (3, .int a3)]) hx hb dX12_waysIn_10 hl (by decide) rfl (fun ls hl => hp_n (n := 12) rfl ?_)
      refine lv_iload_n hx hb dX12_waysIn_12 rfl (lv_at hl 3 rfl) (hp_n (n := 13) rfl ?_)
      refine lv_iload hx hb dX12_waysIn_13 (lv_at hl 0 rfl) (hp_n (n := 15) rfl ?_)
      refine lv_icmp_ge (tgt := 41) hx hb dX12_waysIn_15 (by decide) (fun c3 => ?_) (fun c3 => hp_n (n := 18) rfl ?_)
      ·
        replace hf := ms_iT c3 hf
        refine lv_aload_n hx hb dX12_waysIn_41 rfl (lv_at hl 1 rfl) (hp_n (n := 42) rfl ?_)
        refine lv_iload_n hx hb dX12_waysIn_42 rfl (lv_at hl 2 rfl) (hp_n (n := 43) rfl ?_)
        refine lv_iload hx hb dX12_waysIn_43 (lv_at hl 0 rfl) (hp_n (n := 45) rfl ?_)
        refine lv_iadd hx hb dX12_waysIn_45 (hp_n (n := 46) rfl ?_)
        refine lv_iload_n hx hb dX12_waysIn_46 rfl (lv_at hl 3 rfl) (hp_n (n := 47) rfl ?_)
        refine lv_iload hx hb dX12_waysIn_47 (lv_at hl 0 rfl) (hp_n (n := 49) rfl ?_)
        refine lv_isub hx hb dX12_waysIn_49 (hp_n (n := 50) rfl ?_)
        refine lv_iload_n hx hb dX12_waysIn_50 rfl (lv_at hl 4 rfl) (hp_n (n := 51) rfl ?_)
        refine lv_iload hx hb dX12_waysIn_51 (lv_at hl 0 rfl) (hp_n (n := 53) rfl ?_)
        refine lv_isub hx hb dX12_waysIn_53 (hp_n (n := 54) rfl ?_)
        obtain ⟨σh4, qh4, hf⟩ := ms_bE hf
        refine m_cv (pc' := 57) (a := a0) (ρ := ρ) Bh2 (hp_runV (As := [.int (a1 + rh2), .int (a2 - rh2), .int (a3 - rh2)]) (rest := []) C Bh2 (ihM Γ l α a0 ρ σ hM (a1 + rh2) (a2 - rh2) (a3 - rh2) σh4 qh4) lb_X12_waysIn lv_X12_waysIn lk_X12_142 hM.1 rfl (by omega) rfl hl.1 rfl (Nat.le_of_ble_eq_true rfl) dX12_waysIn_54 ⟨Nat.le_refl _, Nat.le_refl _⟩) rfl (fun αh4 Hh4 Lh4 Bh4 Mh4 => ?_)
        refine lv_aload_n hx hb dX12_waysIn_57 rfl (lv_at hl 1 rfl) (hp_n (n := 58) rfl ?_)
        refine lv_iload_n hx hb dX12_waysIn_58 rfl (lv_at hl 2 rfl) (hp_n (n := 59) rfl ?_)
        refine lv_iload hx hb dX12_waysIn_59 (lv_at hl 0 rfl) (hp_n (n := 61) rfl ?_)
        obtain ⟨σh5, qh5, hf⟩ := ms_bE hf
        refine m_cv (pc' := 64) (a := a0) (ρ := ρ) Bh4 (hp_runV (As := [.int a1, .int rh2]) (rest := []) C Bh4 (m_X12_asks n Γ l αh4 a0 ρ σh4 Mh4 a1 rh2 σh5 qh5) lb_X12_asks lv_X12_asks lk_X12_146 Mh4.1 rfl (by omega) rfl hl.1 rfl (Nat.le_of_ble_eq_true rfl) dX12_waysIn_61 ⟨Nat.le_refl _, Nat.le_refl _⟩) rfl (fun αh5 Hh5 Lh5 Bh5 Mh5 => ?_)
        cases hf
        exact q_vret C Bh5 hr hlk ⟨Bh5.2.2, Mh5⟩ dX12_waysIn_64
      ·
        replace hf := ms_iF c3 hf
        refine lv_aload_n hx hb dX12_waysIn_18 rfl (lv_at hl 1 rfl) (hp_n (n := 19) rfl ?_)
        refine lv_iload_n hx hb dX12_waysIn_19 rfl (lv_at hl 2 rfl) (hp_n (n := 20) rfl ?_)
        refine lv_iload_n hx hb dX12_waysIn_20 rfl (lv_at hl 3 rfl) (hp_n (n := 21) rfl ?_)
        refine lv_iload hx hb dX12_waysIn_21 (lv_at hl 0 rfl) (hp_n (n := 23) rfl ?_)
        obtain ⟨σh6, qh6, hf⟩ := ms_bE hf
        refine m_cv (pc' := 26) (a := a0) (ρ := ρ) Bh2 (hp_runV (As := [.int a1, .int a2, .int rh2]) (rest := []) C Bh2 (ihM Γ l α a0 ρ σ hM a1 a2 rh2 σh6 qh6) lb_X12_waysIn lv_X12_waysIn lk_X12_142 hM.1 rfl (by omega) rfl hl.1 rfl (Nat.le_of_ble_eq_true rfl) dX12_waysIn_23 ⟨Nat.le_refl _, Nat.le_refl _⟩) rfl (fun αh6 Hh6 Lh6 Bh6 Mh6 => ?_)
        refine lv_aload_n hx hb dX12_waysIn_26 rfl (lv_at hl 1 rfl) (hp_n (n := 27) rfl ?_)
        refine lv_iload_n hx hb dX12_waysIn_27 rfl (lv_at hl 2 rfl) (hp_n (n := 28) rfl ?_)
        refine lv_iload hx hb dX12_waysIn_28 (lv_at hl 0 rfl) (hp_n (n := 30) rfl ?_)
        refine lv_iadd hx hb dX12_waysIn_30 (hp_n (n := 31) rfl ?_)
        refine lv_iload_n hx hb dX12_waysIn_31 rfl (lv_at hl 4 rfl) (hp_n (n := 32) rfl ?_)
        refine lv_iload hx hb dX12_waysIn_32 (lv_at hl 0 rfl) (hp_n (n := 34) rfl ?_)
        refine lv_isub hx hb dX12_waysIn_34 (hp_n (n := 35) rfl ?_)
        obtain ⟨σh7, qh7, hf⟩ := ms_bE hf
        refine m_cv (pc' := 38) (a := a0) (ρ := ρ) Bh6 (hp_runV (As := [.int (a1 + rh2), .int (a3 - rh2)]) (rest := []) C Bh6 (m_X12_asks n Γ l αh6 a0 ρ σh6 Mh6 (a1 + rh2) (a3 - rh2) σh7 qh7) lb_X12_asks lv_X12_asks lk_X12_146 Mh6.1 rfl (by omega) rfl hl.1 rfl (Nat.le_of_ble_eq_true rfl) dX12_waysIn_35 ⟨Nat.le_refl _, Nat.le_refl _⟩) rfl (fun αh7 Hh7 Lh7 Bh7 Mh7 => ?_)
        refine lv_goto (tgt := 64) hx hb dX12_waysIn_38 (by decide) ?_
        cases hf
        exact q_vret C Bh7 hr hlk ⟨Bh7.2.2, Mh7⟩ dX12_waysIn_64
    ·
      replace hf := ms_iT c1 hf
      cases hf
      exact q_vret C B hr hlk ⟨B.2.2, hM⟩ dX12_waysIn_5
def f_X12_inclusion (n : Nat) (σ : ms_T) (a1 : Int32) (a2 : Int32) : Option ms_T :=
  ms_l (ms_sI σ 657 (0 : Int32)) fun σh1 =>
  ms_b (f_X12_waysIn n 40 σh1 (0 : Int32) a1 a2) fun σh2 =>
  some σh2
set_option maxRecDepth 100000 in
set_option maxHeartbeats 4000000 in
theorem m_X12_inclusion (n : Nat) (Γ : hp_G) (l : Launch) (α : hp_T) (a0 : Nat) (ρ : Nat → Nat) (σ : ms_T) (hM : hm_M α a0 ρ σ) (a1 : Int32) (a2 : Int32) (res : ms_T) (hf : f_X12_inclusion n σ a1 a2 = some res) : Met l yX12_inclusion (hp_ws yX12_inclusion cX12_inclusion 3 none) (hp_rm 41 0 0) (hp_Pc Γ α [.ref a0, .int a1, .int a2]) (hp_Qv Γ (fun β => mo α β ∧ hm_M β a0 ρ res)) 0 0 (hp_A Γ) := by
  unfold f_X12_inclusion at hf
  refine hp_start (by decide) ?_
  intro p e s m below meth c C hr hlk B0 hnm
  have C : hp_C Γ p m c cX12_inclusion 3 s ([.ref a0, .int a1, .int a2] : List Value).toArray RX12 := C
  have hx := C.1.1
  have hb := C.1.2.1
  have hown := C.1.2.2.2.1
  have hts := C.1.2.2.2.2
  have B : hp_B Γ mo s α α s.heap [] := ⟨B0.1, B0.2.1, mo_rf⟩
  have hl := lv_entry ([.ref a0, .int a1, .int a2]) (n := 3) (Nat.le_of_ble_eq_true rfl)
  show W p l e (hp_rm 41 0 0) s m ([.ref a0, .int a1, .int a2] : List Value).toArray below meth c s.heap [] 0 0 (MQ below (hp_Qv Γ (fun β => mo α β ∧ hm_M β a0 ρ res)) ([.ref a0, .int a1, .int a2] : List Value).toArray s 0 0 (hp_A Γ)) (entryFrame m ([.ref a0, .int a1, .int a2] : List Value).toArray 3)
  rw [lg_entry_eq]
  generalize (lg_sl ([.ref a0, .int a1, .int a2]) ++ List.replicate (3 - (lg_sl ([.ref a0, .int a1, .int a2])).length) Slot.unset).toArray = ls at hl ⊢
  have hl : lv_has ls 3 [(0, .ref a0), (1, .int a1), (2, .int a2)] := hl
  refine lv_aload_n hx hb dX12_inclusion_0 rfl (lv_at hl 0 rfl) (hp_n (n := 1) rfl ?_)
  refine lv_iconst (v := 0) hx hb dX12_inclusion_1 (by decide) (hp_n (n := 2) rfl ?_)
  refine m_puti (k := 7) (φ := 657) (pc' := 5) C B hM fl_X12_139 rfl rfl rfl rfl rfl dX12_inclusion_2 rfl (fun αh1 Hh1 Lh1 σh1 eh1 Bh1 Mh1 => ?_)
  replace hf := ms_lE eh1 hf
  refine lv_aload_n hx hb dX12_inclusion_5 rfl (lv_at hl 0 rfl) (hp_n (n := 6) rfl ?_)
  refine lv_iconst (v := 0) hx hb dX12_inclusion_6 (by decide) (hp_n (n := 7) rfl ?_)
  refine lv_iload_n hx hb dX12_inclusion_7 rfl (lv_at hl 1 rfl) (hp_n (n := 8) rfl ?_)
  refine lv_iload_n hx hb dX12_inclusion_8 rfl (lv_at hl 2 rfl) (hp_n (n := 9) rfl ?_)
  obtain ⟨σh2, qh2, hf⟩ := ms_bE hf
  refine m_cv (pc' := 12) (a := a0) (ρ := ρ) Bh1 (hp_runV (As := [.int (0 : Int32), .int a1, .int a2]) (rest := []) C Bh1 (m_X12_waysIn n 40 Γ l αh1 a0 ρ σh1 Mh1 (0 : Int32) a1 a2 σh2 qh2) lb_X12_waysIn lv_X12_waysIn lk_X12_142 Mh1.1 rfl (by decide) rfl hl.1 rfl (Nat.le_of_ble_eq_true rfl) dX12_inclusion_9 ⟨Nat.le_refl _, Nat.le_refl _⟩) rfl (fun αh2 Hh2 Lh2 Bh2 Mh2 => ?_)
  cases hf
  exact q_vret C Bh2 hr hlk ⟨Bh2.2.2, Mh2⟩ dX12_inclusion_12
def f_X12_growsIn (n : Nat) : Nat → ms_T → Int32 → Int32 → Int32 → Int32 → Option ms_T
  | 0, _, _, _, _, _ => none
  | d + 1, σ, a1, a2, a3, a4 =>
    if a2 = a3 then
      if a4 = 0 then
        ms_b (f_X12_asks n σ a1 a3) fun σh9 =>
        some σh9
      else
        some σ
    else
      ms_b (f_X12_part0 n a3) fun rh2 =>
      if rh2 < a2 then
        ms_b ((f_X12_growsIn n d) σ (a1 + rh2) (a2 - rh2) (a3 - rh2) (0 : Int32)) fun σh4 =>
        ms_b (f_X12_asks n σh4 a1 rh2) fun σh5 =>
        some σh5
      else
        ms_b ((f_X12_growsIn n d) σ a1 a2 rh2 a4) fun σh6 =>
        ms_b (f_X12_asks n σh6 (a1 + rh2) (a3 - rh2)) fun σh7 =>
        some σh7
set_option maxRecDepth 100000 in
set_option maxHeartbeats 4000000 in
theorem m_X12_growsIn (n : Nat) : ∀ (d : Nat) (Γ : hp_G) (l : Launch) (α : hp_T) (a0 : Nat) (ρ : Nat → Nat) (σ : ms_T) (hM : hm_M α a0 ρ σ) (a1 : Int32) (a2 : Int32) (a3 : Int32) (a4 : Int32) (res : ms_T) (hf : f_X12_growsIn n d σ a1 a2 a3 a4 = some res), Met l yX12_growsIn (hp_ws yX12_growsIn cX12_growsIn 6 none) (hp_rm (d + 0) 0 0) (hp_Pc Γ α [.ref a0, .int a1, .int a2, .int a3, .int a4]) (hp_Qv Γ (fun β => mo α β ∧ hm_M β a0 ρ res)) 0 0 (hp_A Γ) := by
  intro d
  induction d with
  | zero => intro Γ l α a0 ρ σ hM a1 a2 a3 a4 res hf; rw [f_X12_growsIn.eq_1] at hf; cases hf
  | succ d ihM =>
    intro Γ l α a0 ρ σ hM a1 a2 a3 a4 res hf
    rw [f_X12_growsIn.eq_2] at hf
    refine hp_start (by decide) ?_
    intro p e s m below meth c C hr hlk B0 hnm
    have C : hp_C Γ p m c cX12_growsIn 6 s ([.ref a0, .int a1, .int a2, .int a3, .int a4] : List Value).toArray RX12 := C
    have hx := C.1.1
    have hb := C.1.2.1
    have hown := C.1.2.2.2.1
    have hts := C.1.2.2.2.2
    have B : hp_B Γ mo s α α s.heap [] := ⟨B0.1, B0.2.1, mo_rf⟩
    have hl := lv_entry ([.ref a0, .int a1, .int a2, .int a3, .int a4]) (n := 6) (Nat.le_of_ble_eq_true rfl)
    show W p l e (hp_rm (d + 1 + 0) 0 0) s m ([.ref a0, .int a1, .int a2, .int a3, .int a4] : List Value).toArray below meth c s.heap [] 0 0 (MQ below (hp_Qv Γ (fun β => mo α β ∧ hm_M β a0 ρ res)) ([.ref a0, .int a1, .int a2, .int a3, .int a4] : List Value).toArray s 0 0 (hp_A Γ)) (entryFrame m ([.ref a0, .int a1, .int a2, .int a3, .int a4] : List Value).toArray 6)
    rw [lg_entry_eq]
    generalize (lg_sl ([.ref a0, .int a1, .int a2, .int a3, .int a4]) ++ List.replicate (6 - (lg_sl ([.ref a0, .int a1, .int a2, .int a3, .int a4])).length) Slot.unset).toArray = ls at hl ⊢
    have hl : lv_has ls 6 [(0, .ref a0), (1, .int a1), (2, .int a2), (3, .int a3), (4, .int a4)] := hl
    refine lv_iload_n hx hb dX12_growsIn_0 rfl (lv_at hl 2 rfl) (hp_n (n := 1) rfl ?_)
    refine lv_iload_n hx hb dX12_growsIn_1 rfl (lv_at hl 3 rfl) (hp_n (n := 2) rfl ?_)
    refine lv_icmp_ne (tgt := 17) hx hb dX12_growsIn_2 (by decide) (fun c1 => ?_) (fun c1 => hp_n (n := 5) rfl ?_)
    ·
      replace hf := ms_iF c1 hf
      refine lv_iload_n hx hb dX12_growsIn_17 rfl (lv_at hl 3 rfl) (hp_n (n := 18) rfl ?_)
      obtain ⟨rh2, qh2, hf⟩ := ms_bE hf
      refine m_cp (pc' := 21) B (hp_runS (As := [.int a3]) (rest := []) C B (m_X12_part0 n Γ l α a3 rh2 qh2) lb_X12_part0 ls_X12_part0 lk_X12_128 rfl (by omega) rfl hl.1 rfl (Nat.le_of_ble_eq_true rfl) dX12_growsIn_18 ⟨Nat.le_refl _, Nat.le_refl _⟩) rfl (fun Hh2 Lh2 Bh2 => ?_)
      refine lv_istore (lv' := [(5, .int rh2), (0, .ref a0), (1, .int a1), (2, .int a2), (3, .int a3), (4, .int a4)]) hx hb dX12_growsIn_21 hl (by decide) rfl (fun ls hl => hp_n (n := 23) rfl ?_)
      refine lv_iload_n hx hb dX12_growsIn_23 rfl (lv_at hl 3 rfl) (hp_n (n := 24) rfl ?_)
      refine lv_iload hx hb dX12_growsIn_24 (lv_at hl 0 rfl) (hp_n (n := 26) rfl ?_)
      refine lv_icmp_gt (tgt := 54) hx hb dX12_growsIn_26 (by decide) (fun c3 => ?_) (fun c3 => hp_n (n := 29) rfl ?_)
      ·
        replace hf := ms_iT c3 hf
        refine lv_aload_n hx hb dX12_growsIn_54 rfl (lv_at hl 1 rfl) (hp_n (n := 55) rfl ?_)
        refine lv_iload_n hx hb dX12_growsIn_55 rfl (lv_at hl 2 rfl) (hp_n (n := 56) rfl ?_)
        refine lv_iload hx hb dX12_growsIn_56 (lv_at hl 0 rfl) (hp_n (n := 58) rfl ?_)
        refine lv_iadd hx hb dX12_growsIn_58 (hp_n (n := 59) rfl ?_)
        refine lv_iload_n hx hb dX12_growsIn_59 rfl (lv_at hl 3 rfl) (hp_n (n := 60) rfl ?_)
        refine lv_iload hx hb dX12_growsIn_60 (lv_at hl 0 rfl) (hp_n (n := 62) rfl ?_)
        refine lv_isub hx hb dX12_growsIn_62 (hp_n (n := 63) rfl ?_)
        refine lv_iload_n hx hb dX12_growsIn_63 rfl (lv_at hl 4 rfl) (hp_n (n := 64) rfl ?_)
        refine lv_iload hx hb dX12_growsIn_64 (lv_at hl 0 rfl) (hp_n (n := 66) rfl ?_)
        refine lv_isub hx hb dX12_growsIn_66 (hp_n (n := 67) rfl ?_)
        refine lv_iconst (v := 0) hx hb dX12_growsIn_67 (by decide) (hp_n (n := 68) rfl ?_)
        obtain ⟨σh4, qh4, hf⟩ := ms_bE hf
        refine m_cv (pc' := 71) (a := a0) (ρ := ρ) Bh2 (hp_runV (As := [.int (a1 + rh2), .int (a2 - rh2), .int (a3 - rh2), .int (0 : Int32)]) (rest := []) C Bh2 (ihM Γ l α a0 ρ σ hM (a1 + rh2) (a2 - rh2) (a3 - rh2) (0 : Int32) σh4 qh4) lb_X12_growsIn lv_X12_growsIn lk_X12_150 hM.1 rfl (by omega) rfl hl.1 rfl (Nat.le_of_ble_eq_true rfl) dX12_growsIn_68 ⟨Nat.le_refl _, Nat.le_refl _⟩) rfl (fun αh4 Hh4 Lh4 Bh4 Mh4 => ?_)
        refine lv_aload_n hx hb dX12_growsIn_71 rfl (lv_at hl 1 rfl) (hp_n (n := 72) rfl ?_)
        refine lv_iload_n hx hb dX12_growsIn_72 rfl (lv_at hl 2 rfl) (hp_n (n := 73) rfl ?_)
        refine lv_iload hx hb dX12_growsIn_73 (lv_at hl 0 rfl) (hp_n (n := 75) rfl ?_)
        obtain ⟨σh5, qh5, hf⟩ := ms_bE hf
        refine m_cv (pc' := 78) (a := a0) (ρ := ρ) Bh4 (hp_runV (As := [.int a1, .int rh2]) (rest := []) C Bh4 (m_X12_asks n Γ l αh4 a0 ρ σh4 Mh4 a1 rh2 σh5 qh5) lb_X12_asks lv_X12_asks lk_X12_146 Mh4.1 rfl (by omega) rfl hl.1 rfl (Nat.le_of_ble_eq_true rfl) dX12_growsIn_75 ⟨Nat.le_refl _, Nat.le_refl _⟩) rfl (fun αh5 Hh5 Lh5 Bh5 Mh5 => ?_)
        cases hf
        exact q_vret C Bh5 hr hlk ⟨Bh5.2.2, Mh5⟩ dX12_growsIn_78
      ·
        replace hf := ms_iF c3 hf
        refine lv_aload_n hx hb dX12_growsIn_29 rfl (lv_at hl 1 rfl) (hp_n (n := 30) rfl ?_)
        refine lv_iload_n hx hb dX12_growsIn_30 rfl (lv_at hl 2 rfl) (hp_n (n := 31) rfl ?_)
        refine lv_iload_n hx hb dX12_growsIn_31 rfl (lv_at hl 3 rfl) (hp_n (n := 32) rfl ?_)
        refine lv_iload hx hb dX12_growsIn_32 (lv_at hl 0 rfl) (hp_n (n := 34) rfl ?_)
        refine lv_iload hx hb dX12_growsIn_34 (lv_at hl 5 rfl) (hp_n (n := 36) rfl ?_)
        obtain ⟨σh6, qh6, hf⟩ := ms_bE hf
        refine m_cv (pc' := 39) (a := a0) (ρ := ρ) Bh2 (hp_runV (As := [.int a1, .int a2, .int rh2, .int a4]) (rest := []) C Bh2 (ihM Γ l α a0 ρ σ hM a1 a2 rh2 a4 σh6 qh6) lb_X12_growsIn lv_X12_growsIn lk_X12_150 hM.1 rfl (by omega) rfl hl.1 rfl (Nat.le_of_ble_eq_true rfl) dX12_growsIn_36 ⟨Nat.le_refl _, Nat.le_refl _⟩) rfl (fun αh6 Hh6 Lh6 Bh6 Mh6 => ?_)
        refine lv_aload_n hx hb dX12_growsIn_39 rfl (lv_at hl 1 rfl) (hp_n (n := 40) rfl ?_)
        refine lv_iload_n hx hb dX12_growsIn_40 rfl (lv_at hl 2 rfl) (hp_n (n := 41) rfl ?_)
        refine lv_iload hx hb dX12_growsIn_41 (lv_at hl 0 rfl) (hp_n (n := 43) rfl ?_)
        refine lv_iadd hx hb dX12_growsIn_43 (hp_n (n := 44) rfl ?_)
        refine lv_iload_n hx hb dX12_growsIn_44 rfl (lv_at hl 4 rfl) (hp_n (n := 45) rfl ?_)
        refine lv_iload hx hb dX12_growsIn_45 (lv_at hl 0 rfl) (hp_n (n := 47) rfl ?_)
        refine lv_isub hx hb dX12_growsIn_47 (hp_n (n := 48) rfl ?_)
        obtain ⟨σh7, qh7, hf⟩ := ms_bE hf
        refine m_cv (pc' := 51) (a := a0) (ρ := ρ) Bh6 (hp_runV (As := [.int (a1 + rh2), .int (a3 - rh2)]) (rest := []) C Bh6 (m_X12_asks n Γ l αh6 a0 ρ σh6 Mh6 (a1 + rh2) (a3 - rh2) σh7 qh7) lb_X12_asks lv_X12_asks lk_X12_146 Mh6.1 rfl (by omega) rfl hl.1 rfl (Nat.le_of_ble_eq_true rfl) dX12_growsIn_48 ⟨Nat.le_refl _, Nat.le_refl _⟩) rfl (fun αh7 Hh7 Lh7 Bh7 Mh7 => ?_)
        refine lv_goto (tgt := 78) hx hb dX12_growsIn_51 (by decide) ?_
        cases hf
        exact q_vret C Bh7 hr hlk ⟨Bh7.2.2, Mh7⟩ dX12_growsIn_78
    ·
      replace hf := ms_iT c1 hf
      refine lv_iload hx hb dX12_growsIn_5 (lv_at hl 4 rfl) (hp_n (n := 7) rfl ?_)
      refine lv_if_ne (tgt := 16) hx hb dX12_growsIn_7 (by decide) (fun c8 => ?_) (fun c8 => hp_n (n := 10) rfl ?_)
      ·
        replace hf := ms_iF c8 hf
        cases hf
        exact q_vret C B hr hlk ⟨B.2.2, hM⟩ dX12_growsIn_16
      ·
        replace hf := ms_iT c8 hf
        refine lv_aload_n hx hb dX12_growsIn_10 rfl (lv_at hl 0 rfl) (hp_n (n := 11) rfl ?_)
        refine lv_iload_n hx hb dX12_growsIn_11 rfl (lv_at hl 1 rfl) (hp_n (n := 12) rfl ?_)
        refine lv_iload_n hx hb dX12_growsIn_12 rfl (lv_at hl 3 rfl) (hp_n (n := 13) rfl ?_)
        obtain ⟨σh9, qh9, hf⟩ := ms_bE hf
        refine m_cv (pc' := 16) (a := a0) (ρ := ρ) B (hp_runV (As := [.int a1, .int a3]) (rest := []) C B (m_X12_asks n Γ l α a0 ρ σ hM a1 a3 σh9 qh9) lb_X12_asks lv_X12_asks lk_X12_146 hM.1 rfl (by omega) rfl hl.1 rfl (Nat.le_of_ble_eq_true rfl) dX12_growsIn_13 ⟨Nat.le_refl _, Nat.le_refl _⟩) rfl (fun αh9 Hh9 Lh9 Bh9 Mh9 => ?_)
        cases hf
        exact q_vret C Bh9 hr hlk ⟨Bh9.2.2, Mh9⟩ dX12_growsIn_16
def f_X12_growth (n : Nat) (σ : ms_T) (a1 : Int32) (a2 : Int32) : Option ms_T :=
  ms_l (ms_sI σ 657 (0 : Int32)) fun σh1 =>
  if a1 ≤ 0 then
    some σh1
  else
    if a2 ≤ a1 then
      some σh1
    else
      ms_b (f_X12_growsIn n 40 σh1 (0 : Int32) a1 a2 (1 : Int32)) fun σh4 =>
      some σh4
set_option maxRecDepth 100000 in
set_option maxHeartbeats 4000000 in
theorem m_X12_growth (n : Nat) (Γ : hp_G) (l : Launch) (α : hp_T) (a0 : Nat) (ρ : Nat → Nat) (σ : ms_T) (hM : hm_M α a0 ρ σ) (a1 : Int32) (a2 : Int32) (res : ms_T) (hf : f_X12_growth n σ a1 a2 = some res) : Met l yX12_growth (hp_ws yX12_growth cX12_growth 3 none) (hp_rm 41 0 0) (hp_Pc Γ α [.ref a0, .int a1, .int a2]) (hp_Qv Γ (fun β => mo α β ∧ hm_M β a0 ρ res)) 0 0 (hp_A Γ) := by
  unfold f_X12_growth at hf
  refine hp_start (by decide) ?_
  intro p e s m below meth c C hr hlk B0 hnm
  have C : hp_C Γ p m c cX12_growth 3 s ([.ref a0, .int a1, .int a2] : List Value).toArray RX12 := C
  have hx := C.1.1
  have hb := C.1.2.1
  have hown := C.1.2.2.2.1
  have hts := C.1.2.2.2.2
  have B : hp_B Γ mo s α α s.heap [] := ⟨B0.1, B0.2.1, mo_rf⟩
  have hl := lv_entry ([.ref a0, .int a1, .int a2]) (n := 3) (Nat.le_of_ble_eq_true rfl)
  show W p l e (hp_rm 41 0 0) s m ([.ref a0, .int a1, .int a2] : List Value).toArray below meth c s.heap [] 0 0 (MQ below (hp_Qv Γ (fun β => mo α β ∧ hm_M β a0 ρ res)) ([.ref a0, .int a1, .int a2] : List Value).toArray s 0 0 (hp_A Γ)) (entryFrame m ([.ref a0, .int a1, .int a2] : List Value).toArray 3)
  rw [lg_entry_eq]
  generalize (lg_sl ([.ref a0, .int a1, .int a2]) ++ List.replicate (3 - (lg_sl ([.ref a0, .int a1, .int a2])).length) Slot.unset).toArray = ls at hl ⊢
  have hl : lv_has ls 3 [(0, .ref a0), (1, .int a1), (2, .int a2)] := hl
  refine lv_aload_n hx hb dX12_growth_0 rfl (lv_at hl 0 rfl) (hp_n (n := 1) rfl ?_)
  refine lv_iconst (v := 0) hx hb dX12_growth_1 (by decide) (hp_n (n := 2) rfl ?_)
  refine m_puti (k := 7) (φ := 657) (pc' := 5) C B hM fl_X12_139 rfl rfl rfl rfl rfl dX12_growth_2 rfl (fun αh1 Hh1 Lh1 σh1 eh1 Bh1 Mh1 => ?_)
  replace hf := ms_lE eh1 hf
  refine lv_iload_n hx hb dX12_growth_5 rfl (lv_at hl 1 rfl) (hp_n (n := 6) rfl ?_)
  refine lv_if_le (tgt := 22) hx hb dX12_growth_6 (by decide) (fun c2 => ?_) (fun c2 => hp_n (n := 9) rfl ?_)
  ·
    replace hf := ms_iT c2 hf
    cases hf
    exact q_vret C Bh1 hr hlk ⟨Bh1.2.2, Mh1⟩ dX12_growth_22
  ·
    replace hf := ms_iF c2 hf
    refine lv_iload_n hx hb dX12_growth_9 rfl (lv_at hl 1 rfl) (hp_n (n := 10) rfl ?_)
    refine lv_iload_n hx hb dX12_growth_10 rfl (lv_at hl 2 rfl) (hp_n (n := 11) rfl ?_)
    refine lv_icmp_ge (tgt := 22) hx hb dX12_growth_11 (by decide) (fun c3 => ?_) (fun c3 => hp_n (n := 14) rfl ?_)
    ·
      replace hf := ms_iT c3 hf
      cases hf
      exact q_vret C Bh1 hr hlk ⟨Bh1.2.2, Mh1⟩ dX12_growth_22
    ·
      replace hf := ms_iF c3 hf
      refine lv_aload_n hx hb dX12_growth_14 rfl (lv_at hl 0 rfl) (hp_n (n := 15) rfl ?_)
      refine lv_iconst (v := 0) hx hb dX12_growth_15 (by decide) (hp_n (n := 16) rfl ?_)
      refine lv_iload_n hx hb dX12_growth_16 rfl (lv_at hl 1 rfl) (hp_n (n := 17) rfl ?_)
      refine lv_iload_n hx hb dX12_growth_17 rfl (lv_at hl 2 rfl) (hp_n (n := 18) rfl ?_)
      refine lv_iconst (v := 1) hx hb dX12_growth_18 (by decide) (hp_n (n := 19) rfl ?_)
      obtain ⟨σh4, qh4, hf⟩ := ms_bE hf
      refine m_cv (pc' := 22) (a := a0) (ρ := ρ) Bh1 (hp_runV (As := [.int (0 : Int32), .int a1, .int a2, .int (1 : Int32)]) (rest := []) C Bh1 (m_X12_growsIn n 40 Γ l αh1 a0 ρ σh1 Mh1 (0 : Int32) a1 a2 (1 : Int32) σh4 qh4) lb_X12_growsIn lv_X12_growsIn lk_X12_150 Mh1.1 rfl (by decide) rfl hl.1 rfl (Nat.le_of_ble_eq_true rfl) dX12_growth_19 ⟨Nat.le_refl _, Nat.le_refl _⟩) rfl (fun αh4 Hh4 Lh4 Bh4 Mh4 => ?_)
      cases hf
      exact q_vret C Bh4 hr hlk ⟨Bh4.2.2, Mh4⟩ dX12_growth_22
def f_X12_hasAny_J31 (n : Nat) (rec2 : Int32 → Int32 → Int32 → Int32 → Option Int32) (v0_h3 : Int32) (v1_h3 : Int32) (v2_h3 : Int32) (v3_h3 : Int32) : Option Int32 :=
  ms_l (v3_h3 + 1) fun x4 =>
  rec2 v0_h3 v1_h3 v2_h3 x4
def f_X12_hasAny_L2 (n : Nat) : Nat → Int32 → Int32 → Int32 → Int32 → Option Int32
  | 0, _, _, _, _ => none
  | k2 + 1, v0_h1, v1_h1, v2_h1, v3_h1 =>
    if (30 : Int32) ≤ v3_h1 then
      some (0 : Int32)
    else
      if ((v0_h1 >>> (v3_h1 &&& 31)) &&& (1 : Int32)) = (1 : Int32) then
        if v3_h1 < v1_h1 then
          f_X12_hasAny_J31 n (f_X12_hasAny_L2 n k2) v0_h1 v1_h1 v2_h1 v3_h1
        else
          if v2_h1 ≤ (v3_h1 - v1_h1) then
            f_X12_hasAny_J31 n (f_X12_hasAny_L2 n k2) v0_h1 v1_h1 v2_h1 v3_h1
          else
            some (1 : Int32)
      else
        f_X12_hasAny_J31 n (f_X12_hasAny_L2 n k2) v0_h1 v1_h1 v2_h1 v3_h1
def f_X12_hasAny (n : Nat) (a0 : Int32) (a1 : Int32) (a2 : Int32) : Option Int32 :=
  f_X12_hasAny_L2 n n a0 a1 a2 (0 : Int32)
set_option maxRecDepth 100000 in
set_option maxHeartbeats 4000000 in
theorem m_X12_hasAny (n : Nat) (Γ : hp_G) (l : Launch) (α : hp_T) (a0 : Int32) (a1 : Int32) (a2 : Int32) (res : Int32) (hf : f_X12_hasAny n a0 a1 a2 = some res) : Met l yX12_hasAny (hp_ws yX12_hasAny cX12_hasAny 4 (some .boolean)) (hp_rm 0 0 0) (hp_Pc Γ α [.int a0, .int a1, .int a2]) (hp_Qi Γ (fun r β => β = α ∧ r = res)) 0 0 (hp_A Γ) := by
  unfold f_X12_hasAny at hf
  refine hp_start (by decide) ?_
  intro p e s m below meth c C hr hlk B0 hnm
  have C : hp_C Γ p m c cX12_hasAny 4 s ([.int a0, .int a1, .int a2] : List Value).toArray RX12 := C
  have hx := C.1.1
  have hb := C.1.2.1
  have hown := C.1.2.2.2.1
  have hts := C.1.2.2.2.2
  have B : hp_B Γ (fun _ _ => True) s α α s.heap [] := ⟨B0.1, B0.2.1, trivial⟩
  have hl := lv_entry ([.int a0, .int a1, .int a2]) (n := 4) (Nat.le_of_ble_eq_true rfl)
  show W p l e (hp_rm 0 0 0) s m ([.int a0, .int a1, .int a2] : List Value).toArray below meth c s.heap [] 0 0 (MQ below (hp_Qi Γ (fun r β => β = α ∧ r = res)) ([.int a0, .int a1, .int a2] : List Value).toArray s 0 0 (hp_A Γ)) (entryFrame m ([.int a0, .int a1, .int a2] : List Value).toArray 4)
  rw [lg_entry_eq]
  generalize (lg_sl ([.int a0, .int a1, .int a2]) ++ List.replicate (4 - (lg_sl ([.int a0, .int a1, .int a2])).length) Slot.unset).toArray = ls at hl ⊢
  have hl : lv_has ls 4 [(0, .int a0), (1, .int a1), (2, .int a2)] := hl
  refine lv_iconst (v := 0) hx hb dX12_hasAny_0 (by decide) (hp_n (n := 1) rfl ?_)
  have J2 : ∀ (k2 : Nat) (Hh1 : Heap) (Lh1 : List Loc) (Bh1 : hp_B Γ (fun _ _ => True) s α α Hh1 Lh1) (v0_h1 : Int32) (v1_h1 : Int32) (v2_h1 : Int32) (v3_h1 : Int32) (ls : Array Slot) (hl : lv_has ls 4 [(0, .int v0_h1), (1, .int v1_h1), (2, .int v2_h1), (3, .int v3_h1)]) (hf : f_X12_hasAny_L2 n k2 v0_h1 v1_h1 v2_h1 v3_h1 = some res), W p l e (hp_rm 0 0 0) s m ([.int a0, .int a1, .int a2] : List Value).toArray below meth c Hh1 Lh1 0 0 (MQ below (hp_Qi Γ (fun r β => β = α ∧ r = res)) ([.int a0, .int a1, .int a2] : List Value).toArray s 0 0 (hp_A Γ)) (F0 m 2 ls []) := by
    intro k2
    induction k2 with
    | zero => intro Hh1 Lh1 Bh1 v0_h1 v1_h1 v2_h1 v3_h1 ls hl hf; rw [f_X12_hasAny_L2.eq_1] at hf; cases hf
    | succ k2 ih2 =>
      intro Hh1 Lh1 Bh1 v0_h1 v1_h1 v2_h1 v3_h1 ls hl hf
      rw [f_X12_hasAny_L2.eq_2] at hf
      refine lv_iload_n hx hb dX12_hasAny_2 rfl (lv_at hl 3 rfl) (hp_n (n := 3) rfl ?_)
      refine lv_bipush (v := 30) hx hb dX12_hasAny_3 (by decide) (hp_n (n := 5) rfl ?_)
      refine lv_icmp_ge (tgt := 37) hx hb dX12_hasAny_5 (by decide) (fun c2 => ?_) (fun c2 => hp_n (n := 8) rfl ?_)
      ·
        replace hf := ms_iT c2 hf
        refine lv_iconst (v := 0) hx hb dX12_hasAny_37 (by decide) (hp_n (n := 38) rfl ?_)
        cases hf
        exact q_zret C Bh1 hr hlk (by decide) ⟨rfl, rfl⟩ dX12_hasAny_38
      ·
        replace hf := ms_iF c2 hf
        refine lv_iload_n hx hb dX12_hasAny_8 rfl (lv_at hl 0 rfl) (hp_n (n := 9) rfl ?_)
        refine lv_iload_n hx hb dX12_hasAny_9 rfl (lv_at hl 3 rfl) (hp_n (n := 10) rfl ?_)
        refine lv_ishr hx hb dX12_hasAny_10 (hp_n (n := 11) rfl ?_)
        refine lv_iconst (v := 1) hx hb dX12_hasAny_11 (by decide) (hp_n (n := 12) rfl ?_)
        refine lv_iand hx hb dX12_hasAny_12 (hp_n (n := 13) rfl ?_)
        refine lv_iconst (v := 1) hx hb dX12_hasAny_13 (by decide) (hp_n (n := 14) rfl ?_)
        have J31 : ∀ (Hh3 : Heap) (Lh3 : List Loc) (Bh3 : hp_B Γ (fun _ _ => True) s α α Hh3 Lh3) (v0_h3 : Int32) (v1_h3 : Int32) (v2_h3 : Int32) (v3_h3 : Int32) (ls : Array Slot) (hl : lv_has ls 4 [(0, .int v0_h3), (1, .int v1_h3), (2, .int v2_h3), (3, .int v3_h3)]) (hf : f_X12_hasAny_J31 n (f_X12_hasAny_L2 n k2) v0_h3 v1_h3 v2_h3 v3_h3 = some res), W p l e (hp_rm 0 0 0) s m ([.int a0, .int a1, .int a2] : List Value).toArray below meth c Hh3 Lh3 0 0 (MQ below (hp_Qi Γ (fun r β => β = α ∧ r = res)) ([.int a0, .int a1, .int a2] : List Value).toArray s 0 0 (hp_A Γ)) (F0 m 31 ls []) := by
          intro Hh3 Lh3 Bh3 v0_h3 v1_h3 v2_h3 v3_h3 ls hl hf
          unfold f_X12_hasAny_J31 at hf
          obtain ⟨x4, ex4⟩ : ∃ y : Int32, y = v3_h3 + 1 := ⟨_, rfl⟩
          replace hf := ms_lE ex4 hf
          refine lv_iinc (v := x4) (lv' := [(3, .int x4), (0, .int v0_h3), (1, .int v1_h3), (2, .int v2_h3)]) hx hb dX12_hasAny_31 hl (k := 3) rfl (by rw [ex4]; rfl) (by decide) rfl (fun ls hl => hp_n (n := 34) rfl ?_)
          refine lv_goto (tgt := 2) hx hb dX12_hasAny_34 (by decide) ?_
          exact ih2 Hh3 Lh3 Bh3 v0_h3 v1_h3 v2_h3 x4 ls (lv_sub hl [1, 2, 3, 0] rfl) hf
        refine lv_icmp_ne (tgt := 31) hx hb dX12_hasAny_14 (by decide) (fun c5 => ?_) (fun c5 => hp_n (n := 17) rfl ?_)
        ·
          replace hf := ms_iF c5 hf
          exact J31 Hh1 Lh1 Bh1 v0_h1 v1_h1 v2_h1 v3_h1 ls (lv_sub hl [0, 1, 2, 3] rfl) hf
        ·
          replace hf := ms_iT c5 hf
          refine lv_iload_n hx hb dX12_hasAny_17 rfl (lv_at hl 3 rfl) (hp_n (n := 18) rfl ?_)
          refine lv_iload_n hx hb dX12_hasAny_18 rfl (lv_at hl 1 rfl) (hp_n (n := 19) rfl ?_)
          refine lv_icmp_lt (tgt := 31) hx hb dX12_hasAny_19 (by decide) (fun c6 => ?_) (fun c6 => hp_n (n := 22) rfl ?_)
          ·
            replace hf := ms_iT c6 hf
            exact J31 Hh1 Lh1 Bh1 v0_h1 v1_h1 v2_h1 v3_h1 ls (lv_sub hl [0, 1, 2, 3] rfl) hf
          ·
            replace hf := ms_iF c6 hf
            refine lv_iload_n hx hb dX12_hasAny_22 rfl (lv_at hl 3 rfl) (hp_n (n := 23) rfl ?_)
            refine lv_iload_n hx hb dX12_hasAny_23 rfl (lv_at hl 1 rfl) (hp_n (n := 24) rfl ?_)
            refine lv_isub hx hb dX12_hasAny_24 (hp_n (n := 25) rfl ?_)
            refine lv_iload_n hx hb dX12_hasAny_25 rfl (lv_at hl 2 rfl) (hp_n (n := 26) rfl ?_)
            refine lv_icmp_ge (tgt := 31) hx hb dX12_hasAny_26 (by decide) (fun c7 => ?_) (fun c7 => hp_n (n := 29) rfl ?_)
            ·
              replace hf := ms_iT c7 hf
              exact J31 Hh1 Lh1 Bh1 v0_h1 v1_h1 v2_h1 v3_h1 ls (lv_sub hl [0, 1, 2, 3] rfl) hf
            ·
              replace hf := ms_iF c7 hf
              refine lv_iconst (v := 1) hx hb dX12_hasAny_29 (by decide) (hp_n (n := 30) rfl ?_)
              cases hf
              exact q_zret C Bh1 hr hlk (by decide) ⟨rfl, rfl⟩ dX12_hasAny_30
  refine lv_istore_n (lv' := [(3, .int (0 : Int32)), (0, .int a0), (1, .int a1), (2, .int a2)]) hx hb dX12_hasAny_1 rfl hl (by decide) rfl (fun ls hl => hp_n (n := 2) rfl ?_)
  exact J2 n s.heap [] B a0 a1 a2 (0 : Int32) ls (lv_sub hl [1, 2, 3, 0] rfl) hf
def f_X12_bundlesIn (n : Nat) : Nat → ms_T → Int32 → Int32 → Int32 → Option ms_T
  | 0, _, _, _, _ => none
  | d + 1, σ, a1, a2, a3 =>
    ms_b (f_X12_hasAny n a1 a2 a3) fun rh1 =>
    if rh1 = 0 then
      ms_b (f_X12_asks n σ a2 a3) fun σh7 =>
      some σh7
    else
      if a3 = (1 : Int32) then
        some σ
      else
        ms_b (f_X12_part0 n a3) fun rh4 =>
        ms_b ((f_X12_bundlesIn n d) σ a1 a2 rh4) fun σh5 =>
        ms_b ((f_X12_bundlesIn n d) σh5 a1 (a2 + rh4) (a3 - rh4)) fun σh6 =>
        some σh6
set_option maxRecDepth 100000 in
set_option maxHeartbeats 4000000 in
theorem m_X12_bundlesIn (n : Nat) : ∀ (d : Nat) (Γ : hp_G) (l : Launch) (α : hp_T) (a0 : Nat) (ρ : Nat → Nat) (σ : ms_T) (hM : hm_M α a0 ρ σ) (a1 : Int32) (a2 : Int32) (a3 : Int32) (res : ms_T) (hf : f_X12_bundlesIn n d σ a1 a2 a3 = some res), Met l yX12_bundlesIn (hp_ws yX12_bundlesIn cX12_bundlesIn 5 none) (hp_rm (d + 0) 0 0) (hp_Pc Γ α [.ref a0, .int a1, .int a2, .int a3]) (hp_Qv Γ (fun β => mo α β ∧ hm_M β a0 ρ res)) 0 0 (hp_A Γ) := by
  intro d
  induction d with
  | zero => intro Γ l α a0 ρ σ hM a1 a2 a3 res hf; rw [f_X12_bundlesIn.eq_1] at hf; cases hf
  | succ d ihM =>
    intro Γ l α a0 ρ σ hM a1 a2 a3 res hf
    rw [f_X12_bundlesIn.eq_2] at hf
    refine hp_start (by decide) ?_
    intro p e s m below meth c C hr hlk B0 hnm
    have C : hp_C Γ p m c cX12_bundlesIn 5 s ([.ref a0, .int a1, .int a2, .int a3] : List Value).toArray RX12 := C
    have hx := C.1.1
    have hb := C.1.2.1
    have hown := C.1.2.2.2.1
    have hts := C.1.2.2.2.2
    have B : hp_B Γ mo s α α s.heap [] := ⟨B0.1, B0.2.1, mo_rf⟩
    have hl := lv_entry ([.ref a0, .int a1, .int a2, .int a3]) (n := 5) (Nat.le_of_ble_eq_true rfl)
    show W p l e (hp_rm (d + 1 + 0) 0 0) s m ([.ref a0, .int a1, .int a2, .int a3] : List Value).toArray below meth c s.heap [] 0 0 (MQ below (hp_Qv Γ (fun β => mo α β ∧ hm_M β a0 ρ res)) ([.ref a0, .int a1, .int a2, .int a3] : List Value).toArray s 0 0 (hp_A Γ)) (entryFrame m ([.ref a0, .int a1, .int a2, .int a3] : List Value).toArray 5)
    rw [lg_entry_eq]
    generalize (lg_sl ([.ref a0, .int a1, .int a2, .int a3]) ++ List.replicate (5 - (lg_sl ([.ref a0, .int a1, .int a2, .int a3])).length) Slot.unset).toArray = ls at hl ⊢
    have hl : lv_has ls 5 [(0, .ref a0), (1, .int a1), (2, .int a2), (3, .int a3)] := hl
    refine lv_iload_n hx hb dX12_bundlesIn_0 rfl (lv_at hl 1 rfl) (hp_n (n := 1) rfl ?_)
    refine lv_iload_n hx hb dX12_bundlesIn_1 rfl (lv_at hl 2 rfl) (hp_n (n := 2) rfl ?_)
    refine lv_iload_n hx hb dX12_bundlesIn_2 rfl (lv_at hl 3 rfl) (hp_n (n := 3) rfl ?_)
    obtain ⟨rh1, qh1, hf⟩ := ms_bE hf
    refine m_cp (pc' := 6) B (hp_runS (As := [.int a1, .int a2, .int a3]) (rest := []) C B (m_X12_hasAny n Γ l α a1 a2 a3 rh1 qh1) lb_X12_hasAny ls_X12_hasAny lk_X12_154 rfl (by omega) rfl hl.1 rfl (Nat.le_of_ble_eq_true rfl) dX12_bundlesIn_3 ⟨Nat.le_refl _, Nat.le_refl _⟩) rfl (fun Hh1 Lh1 Bh1 => ?_)
    refine lv_if_ne (tgt := 16) hx hb dX12_bundlesIn_6 (by decide) (fun c2 => ?_) (fun c2 => hp_n (n := 9) rfl ?_)
    ·
      replace hf := ms_iF c2 hf
      refine lv_iload_n hx hb dX12_bundlesIn_16 rfl (lv_at hl 3 rfl) (hp_n (n := 17) rfl ?_)
      refine lv_iconst (v := 1) hx hb dX12_bundlesIn_17 (by decide) (hp_n (n := 18) rfl ?_)
      refine lv_icmp_ne (tgt := 22) hx hb dX12_bundlesIn_18 (by decide) (fun c3 => ?_) (fun c3 => hp_n (n := 21) rfl ?_)
      ·
        replace hf := ms_iF c3 hf
        refine lv_iload_n hx hb dX12_bundlesIn_22 rfl (lv_at hl 3 rfl) (hp_n (n := 23) rfl ?_)
        obtain ⟨rh4, qh4, hf⟩ := ms_bE hf
        refine m_cp (pc' := 26) Bh1 (hp_runS (As := [.int a3]) (rest := []) C Bh1 (m_X12_part0 n Γ l α a3 rh4 qh4) lb_X12_part0 ls_X12_part0 lk_X12_128 rfl (by omega) rfl hl.1 rfl (Nat.le_of_ble_eq_true rfl) dX12_bundlesIn_23 ⟨Nat.le_refl _, Nat.le_refl _⟩) rfl (fun Hh4 Lh4 Bh4 => ?_)
        refine lv_istore (lv' := [(4, .int rh4), (0, .ref a0), (1, .int a1), (2, .int a2), (3, .int a3)]) hx hb dX12_bundlesIn_26 hl (by decide) rfl (fun ls hl => hp_n (n := 28) rfl ?_)
        refine lv_aload_n hx hb dX12_bundlesIn_28 rfl (lv_at hl 1 rfl) (hp_n (n := 29) rfl ?_)
        refine lv_iload_n hx hb dX12_bundlesIn_29 rfl (lv_at hl 2 rfl) (hp_n (n := 30) rfl ?_)
        refine lv_iload_n hx hb dX12_bundlesIn_30 rfl (lv_at hl 3 rfl) (hp_n (n := 31) rfl ?_)
        refine lv_iload hx hb dX12_bundlesIn_31 (lv_at hl 0 rfl) (hp_n (n := 33) rfl ?_)
        obtain ⟨σh5, qh5, hf⟩ := ms_bE hf
        refine m_cv (pc' := 36) (a := a0) (ρ := ρ) Bh4 (hp_runV (As := [.int a1, .int a2, .int rh4]) (rest := []) C Bh4 (ihM Γ l α a0 ρ σ hM a1 a2 rh4 σh5 qh5) lb_X12_bundlesIn lv_X12_bundlesIn lk_X12_157 hM.1 rfl (by omega) rfl hl.1 rfl (Nat.le_of_ble_eq_true rfl) dX12_bundlesIn_33 ⟨Nat.le_refl _, Nat.le_refl _⟩) rfl (fun αh5 Hh5 Lh5 Bh5 Mh5 => ?_)
        refine lv_aload_n hx hb dX12_bundlesIn_36 rfl (lv_at hl 1 rfl) (hp_n (n := 37) rfl ?_)
        refine lv_iload_n hx hb dX12_bundlesIn_37 rfl (lv_at hl 2 rfl) (hp_n (n := 38) rfl ?_)
        refine lv_iload_n hx hb dX12_bundlesIn_38 rfl (lv_at hl 3 rfl) (hp_n (n := 39) rfl ?_)
        refine lv_iload hx hb dX12_bundlesIn_39 (lv_at hl 0 rfl) (hp_n (n := 41) rfl ?_)
        refine lv_iadd hx hb dX12_bundlesIn_41 (hp_n (n := 42) rfl ?_)
        refine lv_iload_n hx hb dX12_bundlesIn_42 rfl (lv_at hl 4 rfl) (hp_n (n := 43) rfl ?_)
        refine lv_iload hx hb dX12_bundlesIn_43 (lv_at hl 0 rfl) (hp_n (n := 45) rfl ?_)
        refine lv_isub hx hb dX12_bundlesIn_45 (hp_n (n := 46) rfl ?_)
        obtain ⟨σh6, qh6, hf⟩ := ms_bE hf
        refine m_cv (pc' := 49) (a := a0) (ρ := ρ) Bh5 (hp_runV (As := [.int a1, .int (a2 + rh4), .int (a3 - rh4)]) (rest := []) C Bh5 (ihM Γ l αh5 a0 ρ σh5 Mh5 a1 (a2 + rh4) (a3 - rh4) σh6 qh6) lb_X12_bundlesIn lv_X12_bundlesIn lk_X12_157 Mh5.1 rfl (by omega) rfl hl.1 rfl (Nat.le_of_ble_eq_true rfl) dX12_bundlesIn_46 ⟨Nat.le_refl _, Nat.le_refl _⟩) rfl (fun αh6 Hh6 Lh6 Bh6 Mh6 => ?_)
        cases hf
        exact q_vret C Bh6 hr hlk ⟨Bh6.2.2, Mh6⟩ dX12_bundlesIn_49
      ·
        replace hf := ms_iT c3 hf
        cases hf
        exact q_vret C Bh1 hr hlk ⟨Bh1.2.2, hM⟩ dX12_bundlesIn_21
    ·
      replace hf := ms_iT c2 hf
      refine lv_aload_n hx hb dX12_bundlesIn_9 rfl (lv_at hl 0 rfl) (hp_n (n := 10) rfl ?_)
      refine lv_iload_n hx hb dX12_bundlesIn_10 rfl (lv_at hl 2 rfl) (hp_n (n := 11) rfl ?_)
      refine lv_iload_n hx hb dX12_bundlesIn_11 rfl (lv_at hl 3 rfl) (hp_n (n := 12) rfl ?_)
      obtain ⟨σh7, qh7, hf⟩ := ms_bE hf
      refine m_cv (pc' := 15) (a := a0) (ρ := ρ) Bh1 (hp_runV (As := [.int a2, .int a3]) (rest := []) C Bh1 (m_X12_asks n Γ l α a0 ρ σ hM a2 a3 σh7 qh7) lb_X12_asks lv_X12_asks lk_X12_146 hM.1 rfl (by omega) rfl hl.1 rfl (Nat.le_of_ble_eq_true rfl) dX12_bundlesIn_12 ⟨Nat.le_refl _, Nat.le_refl _⟩) rfl (fun αh7 Hh7 Lh7 Bh7 Mh7 => ?_)
      cases hf
      exact q_vret C Bh7 hr hlk ⟨Bh7.2.2, Mh7⟩ dX12_bundlesIn_15
def f_X12_bundleOf (n : Nat) (σ : ms_T) (a1 : Int32) (a2 : Int32) : Option ms_T :=
  ms_l (ms_sI σ 657 (0 : Int32)) fun σh1 =>
  ms_b (f_X12_bundlesIn n 40 σh1 a1 (0 : Int32) a2) fun σh2 =>
  some σh2
set_option maxRecDepth 100000 in
set_option maxHeartbeats 4000000 in
theorem m_X12_bundleOf (n : Nat) (Γ : hp_G) (l : Launch) (α : hp_T) (a0 : Nat) (ρ : Nat → Nat) (σ : ms_T) (hM : hm_M α a0 ρ σ) (a1 : Int32) (a2 : Int32) (res : ms_T) (hf : f_X12_bundleOf n σ a1 a2 = some res) : Met l yX12_bundleOf (hp_ws yX12_bundleOf cX12_bundleOf 3 none) (hp_rm 41 0 0) (hp_Pc Γ α [.ref a0, .int a1, .int a2]) (hp_Qv Γ (fun β => mo α β ∧ hm_M β a0 ρ res)) 0 0 (hp_A Γ) := by
  unfold f_X12_bundleOf at hf
  refine hp_start (by decide) ?_
  intro p e s m below meth c C hr hlk B0 hnm
  have C : hp_C Γ p m c cX12_bundleOf 3 s ([.ref a0, .int a1, .int a2] : List Value).toArray RX12 := C
  have hx := C.1.1
  have hb := C.1.2.1
  have hown := C.1.2.2.2.1
  have hts := C.1.2.2.2.2
  have B : hp_B Γ mo s α α s.heap [] := ⟨B0.1, B0.2.1, mo_rf⟩
  have hl := lv_entry ([.ref a0, .int a1, .int a2]) (n := 3) (Nat.le_of_ble_eq_true rfl)
  show W p l e (hp_rm 41 0 0) s m ([.ref a0, .int a1, .int a2] : List Value).toArray below meth c s.heap [] 0 0 (MQ below (hp_Qv Γ (fun β => mo α β ∧ hm_M β a0 ρ res)) ([.ref a0, .int a1, .int a2] : List Value).toArray s 0 0 (hp_A Γ)) (entryFrame m ([.ref a0, .int a1, .int a2] : List Value).toArray 3)
  rw [lg_entry_eq]
  generalize (lg_sl ([.ref a0, .int a1, .int a2]) ++ List.replicate (3 - (lg_sl ([.ref a0, .int a1, .int a2])).length) Slot.unset).toArray = ls at hl ⊢
  have hl : lv_has ls 3 [(0, .ref a0), (1, .int a1), (2, .int a2)] := hl
  refine lv_aload_n hx hb dX12_bundleOf_0 rfl (lv_at hl 0 rfl) (hp_n (n := 1) rfl ?_)
  refine lv_iconst (v := 0) hx hb dX12_bundleOf_1 (by decide) (hp_n (n := 2) rfl ?_)
  refine m_puti (k := 7) (φ := 657) (pc' := 5) C B hM fl_X12_139 rfl rfl rfl rfl rfl dX12_bundleOf_2 rfl (fun αh1 Hh1 Lh1 σh1 eh1 Bh1 Mh1 => ?_)
  replace hf := ms_lE eh1 hf
  refine lv_aload_n hx hb dX12_bundleOf_5 rfl (lv_at hl 0 rfl) (hp_n (n := 6) rfl ?_)
  refine lv_iload_n hx hb dX12_bundleOf_6 rfl (lv_at hl 1 rfl) (hp_n (n := 7) rfl ?_)
  refine lv_iconst (v := 0) hx hb dX12_bundleOf_7 (by decide) (hp_n (n := 8) rfl ?_)
  refine lv_iload_n hx hb dX12_bundleOf_8 rfl (lv_at hl 2 rfl) (hp_n (n := 9) rfl ?_)
  obtain ⟨σh2, qh2, hf⟩ := ms_bE hf
  refine m_cv (pc' := 12) (a := a0) (ρ := ρ) Bh1 (hp_runV (As := [.int a1, .int (0 : Int32), .int a2]) (rest := []) C Bh1 (m_X12_bundlesIn n 40 Γ l αh1 a0 ρ σh1 Mh1 a1 (0 : Int32) a2 σh2 qh2) lb_X12_bundlesIn lv_X12_bundlesIn lk_X12_157 Mh1.1 rfl (by decide) rfl hl.1 rfl (Nat.le_of_ble_eq_true rfl) dX12_bundleOf_9 ⟨Nat.le_refl _, Nat.le_refl _⟩) rfl (fun αh2 Hh2 Lh2 Bh2 Mh2 => ?_)
  cases hf
  exact q_vret C Bh2 hr hlk ⟨Bh2.2.2, Mh2⟩ dX12_bundleOf_12
def f_X12_peaksOf_J35 (n : Nat) (rec10 : ms_T → Int32 → Int32 → Int32 → Option ms_T) (σh5 : ms_T) (v1_h5 : Int32) (v2_h5 : Int32) (v3_h5 : Int32) : Option ms_T :=
  ms_l ((v3_h5 / (2 : Int32))) fun x6 =>
  rec10 σh5 v1_h5 v2_h5 x6
def f_X12_peaksOf_L10 (n : Nat) : Nat → ms_T → Int32 → Int32 → Int32 → Option ms_T
  | 0, _, _, _, _ => none
  | k10 + 1, σh2, v1_h2, v2_h2, v3_h2 =>
    if v3_h2 ≤ 0 then
      some σh2
    else
      ms_n v3_h2 <|
      if ((v1_h2 / v3_h2) - (v1_h2 / v3_h2) / (2 : Int32) * (2 : Int32)) = 0 then
        f_X12_peaksOf_J35 n (f_X12_peaksOf_L10 n k10) σh2 v1_h2 v2_h2 v3_h2
      else
        ms_b (f_X12_asks n σh2 v2_h2 v3_h2) fun σh8 =>
        ms_l ((v2_h2 + v3_h2)) fun x9 =>
        f_X12_peaksOf_J35 n (f_X12_peaksOf_L10 n k10) σh8 v1_h2 x9 v3_h2
def f_X12_peaksOf (n : Nat) (σ : ms_T) (a1 : Int32) : Option ms_T :=
  ms_l (ms_sI σ 657 (0 : Int32)) fun σh1 =>
  f_X12_peaksOf_L10 n n σh1 a1 (0 : Int32) (1073741824 : Int32)
set_option maxRecDepth 100000 in
set_option maxHeartbeats 4000000 in
theorem m_X12_peaksOf (n : Nat) (Γ : hp_G) (l : Launch) (α : hp_T) (a0 : Nat) (ρ : Nat → Nat) (σ : ms_T) (hM : hm_M α a0 ρ σ) (a1 : Int32) (res : ms_T) (hf : f_X12_peaksOf n σ a1 = some res) : Met l yX12_peaksOf (hp_ws yX12_peaksOf cX12_peaksOf 4 none) (hp_rm 1 0 0) (hp_Pc Γ α [.ref a0, .int a1]) (hp_Qv Γ (fun β => mo α β ∧ hm_M β a0 ρ res)) 0 0 (hp_A Γ) := by
  unfold f_X12_peaksOf at hf
  refine hp_start (by decide) ?_
  intro p e s m below meth c C hr hlk B0 hnm
  have C : hp_C Γ p m c cX12_peaksOf 4 s ([.ref a0, .int a1] : List Value).toArray RX12 := C
  have hx := C.1.1
  have hb := C.1.2.1
  have hown := C.1.2.2.2.1
  have hts := C.1.2.2.2.2
  have B : hp_B Γ mo s α α s.heap [] := ⟨B0.1, B0.2.1, mo_rf⟩
  have hl := lv_entry ([.ref a0, .int a1]) (n := 4) (Nat.le_of_ble_eq_true rfl)
  show W p l e (hp_rm 1 0 0) s m ([.ref a0, .int a1] : List Value).toArray below meth c s.heap [] 0 0 (MQ below (hp_Qv Γ (fun β => mo α β ∧ hm_M β a0 ρ res)) ([.ref a0, .int a1] : List Value).toArray s 0 0 (hp_A Γ)) (entryFrame m ([.ref a0, .int a1] : List Value).toArray 4)
  rw [lg_entry_eq]
  generalize (lg_sl ([.ref a0, .int a1]) ++ List.replicate (4 - (lg_sl ([.ref a0, .int a1])).length) Slot.unset).toArray = ls at hl ⊢
  have hl : lv_has ls 4 [(0, .ref a0), (1, .int a1)] := hl
  refine lv_aload_n hx hb dX12_peaksOf_0 rfl (lv_at hl 0 rfl) (hp_n (n := 1) rfl ?_)
  refine lv_iconst (v := 0) hx hb dX12_peaksOf_1 (by decide) (hp_n (n := 2) rfl ?_)
  refine m_puti (k := 7) (φ := 657) (pc' := 5) C B hM fl_X12_139 rfl rfl rfl rfl rfl dX12_peaksOf_2 rfl (fun αh1 Hh1 Lh1 σh1 eh1 Bh1 Mh1 => ?_)
  replace hf := ms_lE eh1 hf
  refine lv_iconst (v := 0) hx hb dX12_peaksOf_5 (by decide) (hp_n (n := 6) rfl ?_)
  refine lv_istore_n (lv' := [(2, .int (0 : Int32)), (0, .ref a0), (1, .int a1)]) hx hb dX12_peaksOf_6 rfl hl (by decide) rfl (fun ls hl => hp_n (n := 7) rfl ?_)
  refine lv_ldc hx hb hown (hts _ kc_X12_160) dX12_peaksOf_7 (hp_n (n := 9) rfl ?_)
  have J10 : ∀ (k10 : Nat) (αh2 : hp_T) (Hh2 : Heap) (Lh2 : List Loc) (Bh2 : hp_B Γ mo s α αh2 Hh2 Lh2) (σh2 : ms_T) (Mh2 : hm_M αh2 a0 ρ σh2) (v1_h2 : Int32) (v2_h2 : Int32) (v3_h2 : Int32) (ls : Array Slot) (hl : lv_has ls 4 [(0, .ref a0), (1, .int v1_h2), (2, .int v2_h2), (3, .int v3_h2)]) (hf : f_X12_peaksOf_L10 n k10 σh2 v1_h2 v2_h2 v3_h2 = some res), W p l e (hp_rm 1 0 0) s m ([.ref a0, .int a1] : List Value).toArray below meth c Hh2 Lh2 0 0 (MQ below (hp_Qv Γ (fun β => mo α β ∧ hm_M β a0 ρ res)) ([.ref a0, .int a1] : List Value).toArray s 0 0 (hp_A Γ)) (F0 m 10 ls []) := by
    intro k10
    induction k10 with
    | zero => intro αh2 Hh2 Lh2 Bh2 σh2 Mh2 v1_h2 v2_h2 v3_h2 ls hl hf; rw [f_X12_peaksOf_L10.eq_1] at hf; cases hf
    | succ k10 ih10 =>
      intro αh2 Hh2 Lh2 Bh2 σh2 Mh2 v1_h2 v2_h2 v3_h2 ls hl hf
      rw [f_X12_peaksOf_L10.eq_2] at hf
      refine lv_iload_n hx hb dX12_peaksOf_10 rfl (lv_at hl 3 rfl) (hp_n (n := 11) rfl ?_)
      refine lv_if_le (tgt := 42) hx hb dX12_peaksOf_11 (by decide) (fun c3 => ?_) (fun c3 => hp_n (n := 14) rfl ?_)
      ·
        replace hf := ms_iT c3 hf
        cases hf
        exact q_vret C Bh2 hr hlk ⟨Bh2.2.2, Mh2⟩ dX12_peaksOf_42
      ·
        replace hf := ms_iF c3 hf
        refine lv_iload_n hx hb dX12_peaksOf_14 rfl (lv_at hl 1 rfl) (hp_n (n := 15) rfl ?_)
        refine lv_iload_n hx hb dX12_peaksOf_15 rfl (lv_at hl 3 rfl) (hp_n (n := 16) rfl ?_)
        obtain ⟨g4, hf⟩ := ms_nE hf
        refine lv_idiv hx hb dX12_peaksOf_16 g4 (hp_n (n := 17) rfl ?_)
        refine lv_iconst (v := 2) hx hb dX12_peaksOf_17 (by decide) (hp_n (n := 18) rfl ?_)
        refine lv_irem hx hb dX12_peaksOf_18 (by decide) (hp_n (n := 19) rfl ?_)
        have J35 : ∀ (αh5 : hp_T) (Hh5 : Heap) (Lh5 : List Loc) (Bh5 : hp_B Γ mo s α αh5 Hh5 Lh5) (σh5 : ms_T) (Mh5 : hm_M αh5 a0 ρ σh5) (v1_h5 : Int32) (v2_h5 : Int32) (v3_h5 : Int32) (ls : Array Slot) (hl : lv_has ls 4 [(0, .ref a0), (1, .int v1_h5), (2, .int v2_h5), (3, .int v3_h5)]) (hf : f_X12_peaksOf_J35 n (f_X12_peaksOf_L10 n k10) σh5 v1_h5 v2_h5 v3_h5 = some res), W p l e (hp_rm 1 0 0) s m ([.ref a0, .int a1] : List Value).toArray below meth c Hh5 Lh5 0 0 (MQ below (hp_Qv Γ (fun β => mo α β ∧ hm_M β a0 ρ res)) ([.ref a0, .int a1] : List Value).toArray s 0 0 (hp_A Γ)) (F0 m 35 ls []) := by
          intro αh5 Hh5 Lh5 Bh5 σh5 Mh5 v1_h5 v2_h5 v3_h5 ls hl hf
          unfold f_X12_peaksOf_J35 at hf
          refine lv_iload_n hx hb dX12_peaksOf_35 rfl (lv_at hl 3 rfl) (hp_n (n := 36) rfl ?_)
          refine lv_iconst (v := 2) hx hb dX12_peaksOf_36 (by decide) (hp_n (n := 37) rfl ?_)
          refine lv_idiv hx hb dX12_peaksOf_37 (by decide) (hp_n (n := 38) rfl ?_)
          refine lv_topi (fun x6 ex6 => ?_)
          replace hf := ms_lE ex6 hf
          refine lv_istore_n (lv' := [(3, .int x6), (0, .ref a0), (1, .int v1_h5), (2, .int v2_h5)]) hx hb dX12_peaksOf_38 rfl hl (by decide) rfl (fun ls hl => hp_n (n := 39) rfl ?_)
          refine lv_goto (tgt := 10) hx hb dX12_peaksOf_39 (by decide) ?_
          exact ih10 αh5 Hh5 Lh5 Bh5 σh5 Mh5 v1_h5 v2_h5 x6 ls (lv_sub hl [1, 2, 3, 0] rfl) hf
        refine lv_if_ne (tgt := 25) hx hb dX12_peaksOf_19 (by decide) (fun c7 => ?_) (fun c7 => hp_n (n := 22) rfl ?_)
        ·
          replace hf := ms_iF c7 hf
          refine lv_aload_n hx hb dX12_peaksOf_25 rfl (lv_at hl 0 rfl) (hp_n (n := 26) rfl ?_)
          refine lv_iload_n hx hb dX12_peaksOf_26 rfl (lv_at hl 2 rfl) (hp_n (n := 27) rfl ?_)
          refine lv_iload_n hx hb dX12_peaksOf_27 rfl (lv_at hl 3 rfl) (hp_n (n := 28) rfl ?_)
          obtain ⟨σh8, qh8, hf⟩ := ms_bE hf
          refine m_cv (pc' := 31) (a := a0) (ρ := ρ) Bh2 (hp_runV (As := [.int v2_h2, .int v3_h2]) (rest := []) C Bh2 (m_X12_asks n Γ l αh2 a0 ρ σh2 Mh2 v2_h2 v3_h2 σh8 qh8) lb_X12_asks lv_X12_asks lk_X12_146 Mh2.1 rfl (by decide) rfl hl.1 rfl (Nat.le_of_ble_eq_true rfl) dX12_peaksOf_28 ⟨Nat.le_refl _, Nat.le_refl _⟩) rfl (fun αh8 Hh8 Lh8 Bh8 Mh8 => ?_)
          refine lv_iload_n hx hb dX12_peaksOf_31 rfl (lv_at hl 2 rfl) (hp_n (n := 32) rfl ?_)
          refine lv_iload_n hx hb dX12_peaksOf_32 rfl (lv_at hl 3 rfl) (hp_n (n := 33) rfl ?_)
          refine lv_iadd hx hb dX12_peaksOf_33 (hp_n (n := 34) rfl ?_)
          refine lv_topi (fun x9 ex9 => ?_)
          replace hf := ms_lE ex9 hf
          refine lv_istore_n (lv' := [(2, .int x9), (0, .ref a0), (1, .int v1_h2), (3, .int v3_h2)]) hx hb dX12_peaksOf_34 rfl hl (by decide) rfl (fun ls hl => hp_n (n := 35) rfl ?_)
          exact J35 αh8 Hh8 Lh8 Bh8 σh8 Mh8 v1_h2 x9 v3_h2 ls (lv_sub hl [1, 2, 0, 3] rfl) hf
        ·
          replace hf := ms_iT c7 hf
          refine lv_goto (tgt := 35) hx hb dX12_peaksOf_22 (by decide) ?_
          exact J35 αh2 Hh2 Lh2 Bh2 σh2 Mh2 v1_h2 v2_h2 v3_h2 ls (lv_sub hl [0, 1, 2, 3] rfl) hf
  refine lv_istore_n (lv' := [(3, .int (1073741824 : Int32)), (2, .int (0 : Int32)), (0, .ref a0), (1, .int a1)]) hx hb dX12_peaksOf_9 rfl hl (by decide) rfl (fun ls hl => hp_n (n := 10) rfl ?_)
  exact J10 n αh1 Hh1 Lh1 Bh1 σh1 Mh1 a1 (0 : Int32) (1073741824 : Int32) ls (lv_sub hl [2, 3, 1, 0] rfl) hf
def f_X12_fetches_L2 (n : Nat) : Nat → ms_T → Int32 → Int32 → Option ms_T
  | 0, _, _, _ => none
  | k2 + 1, σh1, v1_h1, v2_h1 =>
    if (ms_I σh1 657) ≤ v2_h1 then
      some σh1
    else
      ms_g v2_h1 128 <|
      ms_g v2_h1 128 <|
      ms_b (f_X12_treeMark n 40 σh1 v1_h1 (ms_E σh1 42 (v2_h1).toNatClampNeg) (ms_E σh1 43 (v2_h1).toNatClampNeg)) fun rh5 =>
      ms_g v2_h1 128 <|
      ms_l (ms_sE σh1 44 (v2_h1).toNatClampNeg rh5) fun σh7 =>
      ms_l (v2_h1 + 1) fun x8 =>
      (f_X12_fetches_L2 n k2) σh7 v1_h1 x8
def f_X12_fetches (n : Nat) (σ : ms_T) (a1 : Int32) : Option ms_T :=
  f_X12_fetches_L2 n n σ a1 (0 : Int32)
set_option maxRecDepth 100000 in
set_option maxHeartbeats 4000000 in
theorem m_X12_fetches (n : Nat) (Γ : hp_G) (l : Launch) (α : hp_T) (a0 : Nat) (ρ : Nat → Nat) (σ : ms_T) (hM : hm_M α a0 ρ σ) (a1 : Int32) (res : ms_T) (hf : f_X12_fetches n σ a1 = some res) : Met l yX12_fetches (hp_ws yX12_fetches cX12_fetches 3 none) (hp_rm 42 0 0) (hp_Pc Γ α [.ref a0, .int a1]) (hp_Qv Γ (fun β => mo α β ∧ hm_M β a0 ρ res)) 0 0 (hp_A Γ) := by
  unfold f_X12_fetches at hf
  refine hp_start (by decide) ?_
  intro p e s m below meth c C hr hlk B0 hnm
  have C : hp_C Γ p m c cX12_fetches 3 s ([.ref a0, .int a1] : List Value).toArray RX12 := C
  have hx := C.1.1
  have hb := C.1.2.1
  have hown := C.1.2.2.2.1
  have hts := C.1.2.2.2.2
  have B : hp_B Γ mo s α α s.heap [] := ⟨B0.1, B0.2.1, mo_rf⟩
  have hl := lv_entry ([.ref a0, .int a1]) (n := 3) (Nat.le_of_ble_eq_true rfl)
  show W p l e (hp_rm 42 0 0) s m ([.ref a0, .int a1] : List Value).toArray below meth c s.heap [] 0 0 (MQ below (hp_Qv Γ (fun β => mo α β ∧ hm_M β a0 ρ res)) ([.ref a0, .int a1] : List Value).toArray s 0 0 (hp_A Γ)) (entryFrame m ([.ref a0, .int a1] : List Value).toArray 3)
  rw [lg_entry_eq]
  generalize (lg_sl ([.ref a0, .int a1]) ++ List.replicate (3 - (lg_sl ([.ref a0, .int a1])).length) Slot.unset).toArray = ls at hl ⊢
  have hl : lv_has ls 3 [(0, .ref a0), (1, .int a1)] := hl
  refine lv_iconst (v := 0) hx hb dX12_fetches_0 (by decide) (hp_n (n := 1) rfl ?_)
  have J2 : ∀ (k2 : Nat) (αh1 : hp_T) (Hh1 : Heap) (Lh1 : List Loc) (Bh1 : hp_B Γ mo s α αh1 Hh1 Lh1) (σh1 : ms_T) (Mh1 : hm_M αh1 a0 ρ σh1) (v1_h1 : Int32) (v2_h1 : Int32) (ls : Array Slot) (hl : lv_has ls 3 [(0, .ref a0), (1, .int v1_h1), (2, .int v2_h1)]) (hf : f_X12_fetches_L2 n k2 σh1 v1_h1 v2_h1 = some res), W p l e (hp_rm 42 0 0) s m ([.ref a0, .int a1] : List Value).toArray below meth c Hh1 Lh1 0 0 (MQ below (hp_Qv Γ (fun β => mo α β ∧ hm_M β a0 ρ res)) ([.ref a0, .int a1] : List Value).toArray s 0 0 (hp_A Γ)) (F0 m 2 ls []) := by
    intro k2
    induction k2 with
    | zero => intro αh1 Hh1 Lh1 Bh1 σh1 Mh1 v1_h1 v2_h1 ls hl hf; rw [f_X12_fetches_L2.eq_1] at hf; cases hf
    | succ k2 ih2 =>
      intro αh1 Hh1 Lh1 Bh1 σh1 Mh1 v1_h1 v2_h1 ls hl hf
      rw [f_X12_fetches_L2.eq_2] at hf
      refine lv_iload_n hx hb dX12_fetches_2 rfl (lv_at hl 2 rfl) (hp_n (n := 3) rfl ?_)
      refine lv_aload_n hx hb dX12_fetches_3 rfl (lv_at hl 0 rfl) (hp_n (n := 4) rfl ?_)
      refine m_geti (k := 7) (φ := 657) (pc' := 7) C Bh1 Mh1 fl_X12_139 rfl rfl dX12_fetches_4 rfl ?_
      refine lv_icmp_ge (tgt := 39) hx hb dX12_fetches_7 (by decide) (fun c2 => ?_) (fun c2 => hp_n (n := 10) rfl ?_)
      ·
        replace hf := ms_iT c2 hf
        cases hf
        exact q_vret C Bh1 hr hlk ⟨Bh1.2.2, Mh1⟩ dX12_fetches_39
      ·
        replace hf := ms_iF c2 hf
        refine lv_aload_n hx hb dX12_fetches_10 rfl (lv_at hl 0 rfl) (hp_n (n := 11) rfl ?_)
        refine m_getr (κ := 44) (k := 6) (pc' := 14) C Bh1 Mh1 fl_X12_22 rfl (by decide) dX12_fetches_11 rfl ?_
        refine lv_iload_n hx hb dX12_fetches_14 rfl (lv_at hl 2 rfl) (hp_n (n := 15) rfl ?_)
        refine lv_aload_n hx hb dX12_fetches_15 rfl (lv_at hl 0 rfl) (hp_n (n := 16) rfl ?_)
        refine lv_iload_n hx hb dX12_fetches_16 rfl (lv_at hl 1 rfl) (hp_n (n := 17) rfl ?_)
        refine lv_aload_n hx hb dX12_fetches_17 rfl (lv_at hl 0 rfl) (hp_n (n := 18) rfl ?_)
        refine m_getr (κ := 42) (k := 4) (pc' := 21) C Bh1 Mh1 fl_X12_16 rfl (by decide) dX12_fetches_18 rfl ?_
        refine lv_iload_n hx hb dX12_fetches_21 rfl (lv_at hl 2 rfl) (hp_n (n := 22) rfl ?_)
        obtain ⟨g3, hf⟩ := ms_gE hf
        refine m_ial (κ := 42) (φ := 654) (n := 128) (pc' := 23) C Bh1 Mh1 (by decide) (by decide) rfl g3 dX12_fetches_22 rfl ?_
        refine lv_aload_n hx hb dX12_fetches_23 rfl (lv_at hl 0 rfl) (hp_n (n := 24) rfl ?_)
        refine m_getr (κ := 43) (k := 5) (pc' := 27) C Bh1 Mh1 fl_X12_19 rfl (by decide) dX12_fetches_24 rfl ?_
        refine lv_iload_n hx hb dX12_fetches_27 rfl (lv_at hl 2 rfl) (hp_n (n := 28) rfl ?_)
        obtain ⟨g4, hf⟩ := ms_gE hf
        refine m_ial (κ := 43) (φ := 655) (n := 128) (pc' := 29) C Bh1 Mh1 (by decide) (by decide) rfl g4 dX12_fetches_28 rfl ?_
        obtain ⟨rh5, qh5, hf⟩ := ms_bE hf
        refine m_cp (pc' := 32) Bh1 (hp_runV (As := [.int v1_h1, .int (ms_E σh1 42 (v2_h1).toNatClampNeg), .int (ms_E σh1 43 (v2_h1).toNatClampNeg)]) (rest := [.int v2_h1, .ref (ρ 44)]) C Bh1 (m_X12_treeMark n 40 Γ l αh1 a0 ρ σh1 Mh1 v1_h1 (ms_E σh1 42 (v2_h1).toNatClampNeg) (ms_E σh1 43 (v2_h1).toNatClampNeg) rh5 qh5) lb_X12_treeMark lv_X12_treeMark lk_X12_132 Mh1.1 rfl (by decide) rfl hl.1 rfl (Nat.le_of_ble_eq_true rfl) dX12_fetches_29 ⟨Nat.le_refl _, Nat.le_refl _⟩) rfl (fun Hh5 Lh5 Bh5 => ?_)
        obtain ⟨g6, hf⟩ := ms_gE hf
        refine m_ias (κ := 44) (φ := 656) (n := 128) (pc' := 33) C Bh5 Mh1 (by decide) (by decide) rfl g6 dX12_fetches_32 rfl (fun αh7 Hh7 Lh7 σh7 eh7 Bh7 Mh7 => ?_)
        replace hf := ms_lE eh7 hf
        obtain ⟨x8, ex8⟩ : ∃ y : Int32, y = v2_h1 + 1 := ⟨_, rfl⟩
        replace hf := ms_lE ex8 hf
        refine lv_iinc (v := x8) (lv' := [(2, .int x8), (0, .ref a0), (1, .int v1_h1)]) hx hb dX12_fetches_33 hl (k := 2) rfl (by rw [ex8]; rfl) (by decide) rfl (fun ls hl => hp_n (n := 36) rfl ?_)
        refine lv_goto (tgt := 2) hx hb dX12_fetches_36 (by decide) ?_
        exact ih2 αh7 Hh7 Lh7 Bh7 σh7 Mh7 v1_h1 x8 ls (lv_sub hl [1, 2, 0] rfl) hf
  refine lv_istore_n (lv' := [(2, .int (0 : Int32)), (0, .ref a0), (1, .int a1)]) hx hb dX12_fetches_1 rfl hl (by decide) rfl (fun ls hl => hp_n (n := 2) rfl ?_)
  exact J2 n α s.heap [] B σ hM a1 (0 : Int32) ls (lv_sub hl [1, 2, 0] rfl) hf
def f_X12_pads_L7 (n : Nat) : Nat → ms_T → Int32 → Option (Int32 × ms_T)
  | 0, _, _ => none
  | k7 + 1, σh2, v2_h2 =>
    if (ms_I σh2 657) ≤ v2_h2 then
      ms_g (2 : Int32) 1980 <|
      ms_l (ms_sE σh2 40 ((2 : Int32)).toNatClampNeg (ms_I σh2 657)) fun σh5 =>
      some ((ms_I σh5 657), σh5)
    else
      ms_g v2_h2 128 <|
      ms_g ((8 : Int32) + v2_h2) 1980 <|
      ms_l (ms_sE σh2 40 (((8 : Int32) + v2_h2)).toNatClampNeg (ms_E σh2 44 (v2_h2).toNatClampNeg)) fun σh8 =>
      ms_l (v2_h2 + 1) fun x9 =>
      (f_X12_pads_L7 n k7) σh8 x9
def f_X12_pads (n : Nat) (σ : ms_T) (a1 : Int32) : Option (Int32 × ms_T) :=
  ms_b (f_X12_fetches n σ a1) fun σh1 =>
  f_X12_pads_L7 n n σh1 (0 : Int32)
set_option maxRecDepth 100000 in
set_option maxHeartbeats 4000000 in
theorem m_X12_pads (n : Nat) (Γ : hp_G) (l : Launch) (α : hp_T) (a0 : Nat) (ρ : Nat → Nat) (σ : ms_T) (hM : hm_M α a0 ρ σ) (a1 : Int32) (res : (Int32 × ms_T)) (hf : f_X12_pads n σ a1 = some res) : Met l yX12_pads (hp_ws yX12_pads cX12_pads 3 (some .int)) (hp_rm 43 0 0) (hp_Pc Γ α [.ref a0, .int a1]) (hp_Qi Γ (fun r β => r = res.1 ∧ mo α β ∧ hm_M β a0 ρ res.2)) 0 0 (hp_A Γ) := by
  unfold f_X12_pads at hf
  refine hp_start (by decide) ?_
  intro p e s m below meth c C hr hlk B0 hnm
  have C : hp_C Γ p m c cX12_pads 3 s ([.ref a0, .int a1] : List Value).toArray RX12 := C
  have hx := C.1.1
  have hb := C.1.2.1
  have hown := C.1.2.2.2.1
  have hts := C.1.2.2.2.2
  have B : hp_B Γ mo s α α s.heap [] := ⟨B0.1, B0.2.1, mo_rf⟩
  have hl := lv_entry ([.ref a0, .int a1]) (n := 3) (Nat.le_of_ble_eq_true rfl)
  show W p l e (hp_rm 43 0 0) s m ([.ref a0, .int a1] : List Value).toArray below meth c s.heap [] 0 0 (MQ below (hp_Qi Γ (fun r β => r = res.1 ∧ mo α β ∧ hm_M β a0 ρ res.2)) ([.ref a0, .int a1] : List Value).toArray s 0 0 (hp_A Γ)) (entryFrame m ([.ref a0, .int a1] : List Value).toArray 3)
  rw [lg_entry_eq]
  generalize (lg_sl ([.ref a0, .int a1]) ++ List.replicate (3 - (lg_sl ([.ref a0, .int a1])).length) Slot.unset).toArray = ls at hl ⊢
  have hl : lv_has ls 3 [(0, .ref a0), (1, .int a1)] := hl
  refine lv_aload_n hx hb dX12_pads_0 rfl (lv_at hl 0 rfl) (hp_n (n := 1) rfl ?_)
  refine lv_iload_n hx hb dX12_pads_1 rfl (lv_at hl 1 rfl) (hp_n (n := 2) rfl ?_)
  obtain ⟨σh1, qh1, hf⟩ := ms_bE hf
  refine m_cv (pc' := 5) (a := a0) (ρ := ρ) B (hp_runV (As := [.int a1]) (rest := []) C B (m_X12_fetches n Γ l α a0 ρ σ hM a1 σh1 qh1) lb_X12_fetches lv_X12_fetches lk_X12_161 hM.1 rfl (by decide) rfl hl.1 rfl (Nat.le_of_ble_eq_true rfl) dX12_pads_2 ⟨Nat.le_refl _, Nat.le_refl _⟩) rfl (fun αh1 Hh1 Lh1 Bh1 Mh1 => ?_)
  refine lv_iconst (v := 0) hx hb dX12_pads_5 (by decide) (hp_n (n := 6) rfl ?_)
  have J7 : ∀ (k7 : Nat) (αh2 : hp_T) (Hh2 : Heap) (Lh2 : List Loc) (Bh2 : hp_B Γ mo s α αh2 Hh2 Lh2) (σh2 : ms_T) (Mh2 : hm_M αh2 a0 ρ σh2) (v2_h2 : Int32) (ls : Array Slot) (hl : lv_has ls 3 [(0, .ref a0), (2, .int v2_h2)]) (hf : f_X12_pads_L7 n k7 σh2 v2_h2 = some res), W p l e (hp_rm 43 0 0) s m ([.ref a0, .int a1] : List Value).toArray below meth c Hh2 Lh2 0 0 (MQ below (hp_Qi Γ (fun r β => r = res.1 ∧ mo α β ∧ hm_M β a0 ρ res.2)) ([.ref a0, .int a1] : List Value).toArray s 0 0 (hp_A Γ)) (F0 m 7 ls []) := by
    intro k7
    induction k7 with
    | zero => intro αh2 Hh2 Lh2 Bh2 σh2 Mh2 v2_h2 ls hl hf; rw [f_X12_pads_L7.eq_1] at hf; cases hf
    | succ k7 ih7 =>
      intro αh2 Hh2 Lh2 Bh2 σh2 Mh2 v2_h2 ls hl hf
      rw [f_X12_pads_L7.eq_2] at hf
      refine lv_iload_n hx hb dX12_pads_7 rfl (lv_at hl 1 rfl) (hp_n (n := 8) rfl ?_)
      refine lv_aload_n hx hb dX12_pads_8 rfl (lv_at hl 0 rfl) (hp_n (n := 9) rfl ?_)
      refine m_geti (k := 7) (φ := 657) (pc' := 12) C Bh2 Mh2 fl_X12_139 rfl rfl dX12_pads_9 rfl ?_
      refine lv_icmp_ge (tgt := 36) hx hb dX12_pads_12 (by decide) (fun c3 => ?_) (fun c3 => hp_n (n := 15) rfl ?_)
      ·
        replace hf := ms_iT c3 hf
        refine lv_aload_n hx hb dX12_pads_36 rfl (lv_at hl 0 rfl) (hp_n (n := 37) rfl ?_)
        refine m_getr (κ := 40) (k := 0) (pc' := 40) C Bh2 Mh2 fl_X12_7 rfl (by decide) dX12_pads_37 rfl ?_
        refine lv_iconst (v := 2) hx hb dX12_pads_40 (by decide) (hp_n (n := 41) rfl ?_)
        refine lv_aload_n hx hb dX12_pads_41 rfl (lv_at hl 0 rfl) (hp_n (n := 42) rfl ?_)
        refine m_geti (k := 7) (φ := 657) (pc' := 45) C Bh2 Mh2 fl_X12_139 rfl rfl dX12_pads_42 rfl ?_
        obtain ⟨g4, hf⟩ := ms_gE hf
        refine m_ias (κ := 40) (φ := 650) (n := 1980) (pc' := 46) C Bh2 Mh2 (by decide) (by decide) rfl g4 dX12_pads_45 rfl (fun αh5 Hh5 Lh5 σh5 eh5 Bh5 Mh5 => ?_)
        replace hf := ms_lE eh5 hf
        refine lv_aload_n hx hb dX12_pads_46 rfl (lv_at hl 0 rfl) (hp_n (n := 47) rfl ?_)
        refine m_geti (k := 7) (φ := 657) (pc' := 50) C Bh5 Mh5 fl_X12_139 rfl rfl dX12_pads_47 rfl ?_
        cases hf
        exact q_iret C Bh5 hr hlk ⟨rfl, Bh5.2.2, Mh5⟩ dX12_pads_50
      ·
        replace hf := ms_iF c3 hf
        refine lv_aload_n hx hb dX12_pads_15 rfl (lv_at hl 0 rfl) (hp_n (n := 16) rfl ?_)
        refine m_getr (κ := 40) (k := 0) (pc' := 19) C Bh2 Mh2 fl_X12_7 rfl (by decide) dX12_pads_16 rfl ?_
        refine lv_bipush (v := 8) hx hb dX12_pads_19 (by decide) (hp_n (n := 21) rfl ?_)
        refine lv_iload_n hx hb dX12_pads_21 rfl (lv_at hl 1 rfl) (hp_n (n := 22) rfl ?_)
        refine lv_iadd hx hb dX12_pads_22 (hp_n (n := 23) rfl ?_)
        refine lv_aload_n hx hb dX12_pads_23 rfl (lv_at hl 0 rfl) (hp_n (n := 24) rfl ?_)
        refine m_getr (κ := 44) (k := 6) (pc' := 27) C Bh2 Mh2 fl_X12_22 rfl (by decide) dX12_pads_24 rfl ?_
        refine lv_iload_n hx hb dX12_pads_27 rfl (lv_at hl 1 rfl) (hp_n (n := 28) rfl ?_)
        obtain ⟨g6, hf⟩ := ms_gE hf
        refine m_ial (κ := 44) (φ := 656) (n := 128) (pc' := 29) C Bh2 Mh2 (by decide) (by decide) rfl g6 dX12_pads_28 rfl ?_
        obtain ⟨g7, hf⟩ := ms_gE hf
        refine m_ias (κ := 40) (φ := 650) (n := 1980) (pc' := 30) C Bh2 Mh2 (by decide) (by decide) rfl g7 dX12_pads_29 rfl (fun αh8 Hh8 Lh8 σh8 eh8 Bh8 Mh8 => ?_)
        replace hf := ms_lE eh8 hf
        obtain ⟨x9, ex9⟩ : ∃ y : Int32, y = v2_h2 + 1 := ⟨_, rfl⟩
        replace hf := ms_lE ex9 hf
        refine lv_iinc (v := x9) (lv' := [(2, .int x9), (0, .ref a0)]) hx hb dX12_pads_30 hl (k := 1) rfl (by rw [ex9]; rfl) (by decide) rfl (fun ls hl => hp_n (n := 33) rfl ?_)
        refine lv_goto (tgt := 7) hx hb dX12_pads_33 (by decide) ?_
        exact ih7 αh8 Hh8 Lh8 Bh8 σh8 Mh8 x9 ls (lv_sub hl [1, 0] rfl) hf
  refine lv_istore_n (lv' := [(2, .int (0 : Int32)), (0, .ref a0), (1, .int a1)]) hx hb dX12_pads_6 rfl hl (by decide) rfl (fun ls hl => hp_n (n := 7) rfl ?_)
  exact J7 n αh1 Hh1 Lh1 Bh1 σh1 Mh1 (0 : Int32) ls (lv_sub hl [1, 0] rfl) hf
def f_X12_fromPad_L2 (n : Nat) : Nat → ms_T → Int32 → Option (Int32 × ms_T)
  | 0, _, _ => none
  | k2 + 1, σh1, v1_h1 =>
    ms_g (2 : Int32) 1980 <|
    if (ms_E σh1 40 ((2 : Int32)).toNatClampNeg) ≤ v1_h1 then
      ms_g (2 : Int32) 1980 <|
      some ((ms_E σh1 40 ((2 : Int32)).toNatClampNeg), σh1)
    else
      ms_g ((8 : Int32) + v1_h1) 1980 <|
      ms_g v1_h1 128 <|
      ms_l (ms_sE σh1 44 (v1_h1).toNatClampNeg (ms_E σh1 40 (((8 : Int32) + v1_h1)).toNatClampNeg)) fun σh7 =>
      ms_l (v1_h1 + 1) fun x8 =>
      (f_X12_fromPad_L2 n k2) σh7 x8
def f_X12_fromPad (n : Nat) (σ : ms_T) : Option (Int32 × ms_T) :=
  f_X12_fromPad_L2 n n σ (0 : Int32)
set_option maxRecDepth 100000 in
set_option maxHeartbeats 4000000 in
theorem m_X12_fromPad (n : Nat) (Γ : hp_G) (l : Launch) (α : hp_T) (a0 : Nat) (ρ : Nat → Nat) (σ : ms_T) (hM : hm_M α a0 ρ σ)  (res : (Int32 × ms_T)) (hf : f_X12_fromPad n σ = some res) : Met l yX12_fromPad (hp_ws yX12_fromPad cX12_fromPad 2 (some .int)) (hp_rm 0 0 0) (hp_Pc Γ α [.ref a0]) (hp_Qi Γ (fun r β => r = res.1 ∧ mo α β ∧ hm_M β a0 ρ res.2)) 0 0 (hp_A Γ) := by
  unfold f_X12_fromPad at hf
  refine hp_start (by decide) ?_
  intro p e s m below meth c C hr hlk B0 hnm
  have C : hp_C Γ p m c cX12_fromPad 2 s ([.ref a0] : List Value).toArray RX12 := C
  have hx := C.1.1
  have hb := C.1.2.1
  have hown := C.1.2.2.2.1
  have hts := C.1.2.2.2.2
  have B : hp_B Γ mo s α α s.heap [] := ⟨B0.1, B0.2.1, mo_rf⟩
  have hl := lv_entry ([.ref a0]) (n := 2) (Nat.le_of_ble_eq_true rfl)
  show W p l e (hp_rm 0 0 0) s m ([.ref a0] : List Value).toArray below meth c s.heap [] 0 0 (MQ below (hp_Qi Γ (fun r β => r = res.1 ∧ mo α β ∧ hm_M β a0 ρ res.2)) ([.ref a0] : List Value).toArray s 0 0 (hp_A Γ)) (entryFrame m ([.ref a0] : List Value).toArray 2)
  rw [lg_entry_eq]
  generalize (lg_sl ([.ref a0]) ++ List.replicate (2 - (lg_sl ([.ref a0])).length) Slot.unset).toArray = ls at hl ⊢
  have hl : lv_has ls 2 [(0, .ref a0)] := hl
  refine lv_iconst (v := 0) hx hb dX12_fromPad_0 (by decide) (hp_n (n := 1) rfl ?_)
  have J2 : ∀ (k2 : Nat) (αh1 : hp_T) (Hh1 : Heap) (Lh1 : List Loc) (Bh1 : hp_B Γ mo s α αh1 Hh1 Lh1) (σh1 : ms_T) (Mh1 : hm_M αh1 a0 ρ σh1) (v1_h1 : Int32) (ls : Array Slot) (hl : lv_has ls 2 [(0, .ref a0), (1, .int v1_h1)]) (hf : f_X12_fromPad_L2 n k2 σh1 v1_h1 = some res), W p l e (hp_rm 0 0 0) s m ([.ref a0] : List Value).toArray below meth c Hh1 Lh1 0 0 (MQ below (hp_Qi Γ (fun r β => r = res.1 ∧ mo α β ∧ hm_M β a0 ρ res.2)) ([.ref a0] : List Value).toArray s 0 0 (hp_A Γ)) (F0 m 2 ls []) := by
    intro k2
    induction k2 with
    | zero => intro αh1 Hh1 Lh1 Bh1 σh1 Mh1 v1_h1 ls hl hf; rw [f_X12_fromPad_L2.eq_1] at hf; cases hf
    | succ k2 ih2 =>
      intro αh1 Hh1 Lh1 Bh1 σh1 Mh1 v1_h1 ls hl hf
      rw [f_X12_fromPad_L2.eq_2] at hf
      refine lv_iload_n hx hb dX12_fromPad_2 rfl (lv_at hl 1 rfl) (hp_n (n := 3) rfl ?_)
      refine lv_aload_n hx hb dX12_fromPad_3 rfl (lv_at hl 0 rfl) (hp_n (n := 4) rfl ?_)
      refine m_getr (κ := 40) (k := 0) (pc' := 7) C Bh1 Mh1 fl_X12_7 rfl (by decide) dX12_fromPad_4 rfl ?_
      refine lv_iconst (v := 2) hx hb dX12_fromPad_7 (by decide) (hp_n (n := 8) rfl ?_)
      obtain ⟨g2, hf⟩ := ms_gE hf
      refine m_ial (κ := 40) (φ := 650) (n := 1980) (pc' := 9) C Bh1 Mh1 (by decide) (by decide) rfl g2 dX12_fromPad_8 rfl ?_
      refine lv_icmp_ge (tgt := 33) hx hb dX12_fromPad_9 (by decide) (fun c3 => ?_) (fun c3 => hp_n (n := 12) rfl ?_)
      ·
        replace hf := ms_iT c3 hf
        refine lv_aload_n hx hb dX12_fromPad_33 rfl (lv_at hl 0 rfl) (hp_n (n := 34) rfl ?_)
        refine m_getr (κ := 40) (k := 0) (pc' := 37) C Bh1 Mh1 fl_X12_7 rfl (by decide) dX12_fromPad_34 rfl ?_
        refine lv_iconst (v := 2) hx hb dX12_fromPad_37 (by decide) (hp_n (n := 38) rfl ?_)
        obtain ⟨g4, hf⟩ := ms_gE hf
        refine m_ial (κ := 40) (φ := 650) (n := 1980) (pc' := 39) C Bh1 Mh1 (by decide) (by decide) rfl g4 dX12_fromPad_38 rfl ?_
        cases hf
        exact q_iret C Bh1 hr hlk ⟨rfl, Bh1.2.2, Mh1⟩ dX12_fromPad_39
      ·
        replace hf := ms_iF c3 hf
        refine lv_aload_n hx hb dX12_fromPad_12 rfl (lv_at hl 0 rfl) (hp_n (n := 13) rfl ?_)
        refine m_getr (κ := 44) (k := 6) (pc' := 16) C Bh1 Mh1 fl_X12_22 rfl (by decide) dX12_fromPad_13 rfl ?_
        refine lv_iload_n hx hb dX12_fromPad_16 rfl (lv_at hl 1 rfl) (hp_n (n := 17) rfl ?_)
        refine lv_aload_n hx hb dX12_fromPad_17 rfl (lv_at hl 0 rfl) (hp_n (n := 18) rfl ?_)
        refine m_getr (κ := 40) (k := 0) (pc' := 21) C Bh1 Mh1 fl_X12_7 rfl (by decide) dX12_fromPad_18 rfl ?_
        refine lv_bipush (v := 8) hx hb dX12_fromPad_21 (by decide) (hp_n (n := 23) rfl ?_)
        refine lv_iload_n hx hb dX12_fromPad_23 rfl (lv_at hl 1 rfl) (hp_n (n := 24) rfl ?_)
        refine lv_iadd hx hb dX12_fromPad_24 (hp_n (n := 25) rfl ?_)
        obtain ⟨g5, hf⟩ := ms_gE hf
        refine m_ial (κ := 40) (φ := 650) (n := 1980) (pc' := 26) C Bh1 Mh1 (by decide) (by decide) rfl g5 dX12_fromPad_25 rfl ?_
        obtain ⟨g6, hf⟩ := ms_gE hf
        refine m_ias (κ := 44) (φ := 656) (n := 128) (pc' := 27) C Bh1 Mh1 (by decide) (by decide) rfl g6 dX12_fromPad_26 rfl (fun αh7 Hh7 Lh7 σh7 eh7 Bh7 Mh7 => ?_)
        replace hf := ms_lE eh7 hf
        obtain ⟨x8, ex8⟩ : ∃ y : Int32, y = v1_h1 + 1 := ⟨_, rfl⟩
        replace hf := ms_lE ex8 hf
        refine lv_iinc (v := x8) (lv' := [(1, .int x8), (0, .ref a0)]) hx hb dX12_fromPad_27 hl (k := 1) rfl (by rw [ex8]; rfl) (by decide) rfl (fun ls hl => hp_n (n := 30) rfl ?_)
        refine lv_goto (tgt := 2) hx hb dX12_fromPad_30 (by decide) ?_
        exact ih2 αh7 Hh7 Lh7 Bh7 σh7 Mh7 x8 ls (lv_sub hl [1, 0] rfl) hf
  refine lv_istore_n (lv' := [(1, .int (0 : Int32)), (0, .ref a0)]) hx hb dX12_fromPad_1 rfl hl (by decide) rfl (fun ls hl => hp_n (n := 2) rfl ?_)
  exact J2 n α s.heap [] B σ hM (0 : Int32) ls (lv_sub hl [1, 0] rfl) hf
def f_X12_foldsIn (n : Nat) : Nat → ms_T → Int32 → Int32 → Int32 → Option (Int32 × ms_T)
  | 0, _, _, _, _ => none
  | d + 1, σ, a1, a2, a3 =>
    if a3 = (1 : Int32) then
      some (a1, σ)
    else
      ms_b (f_X12_part0 n a3) fun rh2 =>
      if rh2 ≤ a2 then
        ms_c ((f_X12_foldsIn n d) σ a1 (a2 - rh2) (a3 - rh2)) fun rh4 σh4 =>
        ms_l (ms_sI σh4 658 ((ms_I σh4 658) + (1 : Int32))) fun σh5 =>
        ms_g ((ms_I σh5 658) - (1 : Int32)) 128 <|
        ms_b (f_X12_both n σh5 (ms_E σh5 44 (((ms_I σh5 658) - (1 : Int32))).toNatClampNeg) rh4) fun rh7 =>
        some (rh7, σh5)
      else
        ms_c ((f_X12_foldsIn n d) σ a1 a2 rh2) fun rh8 σh8 =>
        ms_l (ms_sI σh8 658 ((ms_I σh8 658) + (1 : Int32))) fun σh9 =>
        ms_g ((ms_I σh9 658) - (1 : Int32)) 128 <|
        ms_b (f_X12_both n σh9 rh8 (ms_E σh9 44 (((ms_I σh9 658) - (1 : Int32))).toNatClampNeg)) fun rh11 =>
        some (rh11, σh9)
set_option maxRecDepth 100000 in
set_option maxHeartbeats 4000000 in
theorem m_X12_foldsIn (n : Nat) : ∀ (d : Nat) (Γ : hp_G) (l : Launch) (α : hp_T) (a0 : Nat) (ρ : Nat → Nat) (σ : ms_T) (hM : hm_M α a0 ρ σ) (a1 : Int32) (a2 : Int32) (a3 : Int32) (res : (Int32 × ms_T)) (hf : f_X12_foldsIn n d σ a1 a2 a3 = some res), Met l yX12_foldsIn (hp_ws yX12_foldsIn cX12_foldsIn 6 (some .int)) (hp_rm (d + 1) 0 0) (hp_Pc Γ α [.ref a0, .int a1, .int a2, .int a3]) (hp_Qi Γ (fun r β => r = res.1 ∧ mo α β ∧ hm_M β a0 ρ res.2)) 0 0 (hp_A Γ) := by
  intro d
  induction d with
  | zero => intro Γ l α a0 ρ σ hM a1 a2 a3 res hf; rw [f_X12_foldsIn.eq_1] at hf; cases hf
  | succ d ihM =>
    intro Γ l α a0 ρ σ hM a1 a2 a3 res hf
    rw [f_X12_foldsIn.eq_2] at hf
    refine hp_start (by decide) ?_
    intro p e s m below meth c C hr hlk B0 hnm
    have C : hp_C Γ p m c cX12_foldsIn 6 s ([.ref a0, .int a1, .int a2, .int a3] : List Value).toArray RX12 := C
    have hx := C.1.1
    have hb := C.1.2.1
    have hown := C.1.2.2.2.1
    have hts := C.1.2.2.2.2
    have B : hp_B Γ mo s α α s.heap [] := ⟨B0.1, B0.2.1, mo_rf⟩
    have hl := lv_entry ([.ref a0, .int a1, .int a2, .int a3]) (n := 6) (Nat.le_of_ble_eq_true rfl)
    show W p l e (hp_rm (d + 1 + 1) 0 0) s m ([.ref a0, .int a1, .int a2, .int a3] : List Value).toArray below meth c s.heap [] 0 0 (MQ below (hp_Qi Γ (fun r β => r = res.1 ∧ mo α β ∧ hm_M β a0 ρ res.2)) ([.ref a0, .int a1, .int a2, .int a3] : List Value).toArray s 0 0 (hp_A Γ)) (entryFrame m ([.ref a0, .int a1, .int a2, .int a3] : List Value).toArray 6)
    rw [lg_entry_eq]
    generalize (lg_sl ([.ref a0, .int a1, .int a2, .int a3]) ++ List.replicate (6 - (lg_sl ([.ref a0, .int a1, .int a2, .int a3])).length) Slot.unset).toArray = ls at hl ⊢
    have hl : lv_has ls 6 [(0, .ref a0), (1, .int a1), (2, .int a2), (3, .int a3)] := hl
    refine lv_iload_n hx hb dX12_foldsIn_0 rfl (lv_at hl 3 rfl) (hp_n (n := 1) rfl ?_)
    refine lv_iconst (v := 1) hx hb dX12_foldsIn_1 (by decide) (hp_n (n := 2) rfl ?_)
    refine lv_icmp_ne (tgt := 7) hx hb dX12_foldsIn_2 (by decide) (fun c1 => ?_) (fun c1 => hp_n (n := 5) rfl ?_)
    ·
      replace hf := ms_iF c1 hf
      refine lv_iload_n hx hb dX12_foldsIn_7 rfl (lv_at hl 3 rfl) (hp_n (n := 8) rfl ?_)
      obtain ⟨rh2, qh2, hf⟩ := ms_bE hf
      refine m_cp (pc' := 11) B (hp_runS (As := [.int a3]) (rest := []) C B (m_X12_part0 n Γ l α a3 rh2 qh2) lb_X12_part0 ls_X12_part0 lk_X12_128 rfl (by omega) rfl hl.1 rfl (Nat.le_of_ble_eq_true rfl) dX12_foldsIn_8 ⟨Nat.le_refl _, Nat.le_refl _⟩) rfl (fun Hh2 Lh2 Bh2 => ?_)
      refine lv_istore (lv' := [(4, .int rh2), (0, .ref a0), (1, .int a1), (2, .int a2), (3, .int a3)]) hx hb dX12_foldsIn_11 hl (by decide) rfl (fun ls hl => hp_n (n := 13) rfl ?_)
      refine lv_iload_n hx hb dX12_foldsIn_13 rfl (lv_at hl 3 rfl) (hp_n (n := 14) rfl ?_)
      refine lv_iload hx hb dX12_foldsIn_14 (lv_at hl 0 rfl) (hp_n (n := 16) rfl ?_)
      refine lv_icmp_ge (tgt := 57) hx hb dX12_foldsIn_16 (by decide) (fun c3 => ?_) (fun c3 => hp_n (n := 19) rfl ?_)
      ·
        replace hf := ms_iT c3 hf
        refine lv_aload_n hx hb dX12_foldsIn_57 rfl (lv_at hl 1 rfl) (hp_n (n := 58) rfl ?_)
        refine lv_iload_n hx hb dX12_foldsIn_58 rfl (lv_at hl 2 rfl) (hp_n (n := 59) rfl ?_)
        refine lv_iload_n hx hb dX12_foldsIn_59 rfl (lv_at hl 3 rfl) (hp_n (n := 60) rfl ?_)
        refine lv_iload hx hb dX12_foldsIn_60 (lv_at hl 0 rfl) (hp_n (n := 62) rfl ?_)
        refine lv_isub hx hb dX12_foldsIn_62 (hp_n (n := 63) rfl ?_)
        refine lv_iload_n hx hb dX12_foldsIn_63 rfl (lv_at hl 4 rfl) (hp_n (n := 64) rfl ?_)
        refine lv_iload hx hb dX12_foldsIn_64 (lv_at hl 0 rfl) (hp_n (n := 66) rfl ?_)
        refine lv_isub hx hb dX12_foldsIn_66 (hp_n (n := 67) rfl ?_)
        obtain ⟨rh4, σh4, qh4, hf⟩ := ms_cE hf
        refine m_ci (pc' := 70) (a := a0) (ρ := ρ) Bh2 (hp_runV (As := [.int a1, .int (a2 - rh2), .int (a3 - rh2)]) (rest := []) C Bh2 (ihM Γ l α a0 ρ σ hM a1 (a2 - rh2) (a3 - rh2) (rh4, σh4) qh4) lb_X12_foldsIn lv_X12_foldsIn lk_X12_165 hM.1 rfl (by omega) rfl hl.1 rfl (Nat.le_of_ble_eq_true rfl) dX12_foldsIn_67 ⟨Nat.le_refl _, Nat.le_refl _⟩) rfl (fun αh4 Hh4 Lh4 Bh4 Mh4 => ?_)
        refine lv_istore (lv' := [(5, .int rh4), (4, .int rh2), (0, .ref a0), (1, .int a1), (2, .int a2), (3, .int a3)]) hx hb dX12_foldsIn_70 hl (by decide) rfl (fun ls hl => hp_n (n := 72) rfl ?_)
        refine lv_aload_n hx hb dX12_foldsIn_72 rfl (lv_at hl 2 rfl) (hp_n (n := 73) rfl ?_)
        refine lv_dup hx hb dX12_foldsIn_73 rfl (hp_n (n := 74) rfl ?_)
        refine m_geti (k := 8) (φ := 658) (pc' := 77) C Bh4 Mh4 fl_X12_168 rfl rfl dX12_foldsIn_74 rfl ?_
        refine lv_iconst (v := 1) hx hb dX12_foldsIn_77 (by decide) (hp_n (n := 78) rfl ?_)
        refine lv_iadd hx hb dX12_foldsIn_78 (hp_n (n := 79) rfl ?_)
        refine m_puti (k := 8) (φ := 658) (pc' := 82) C Bh4 Mh4 fl_X12_168 rfl rfl rfl rfl rfl dX12_foldsIn_79 rfl (fun αh5 Hh5 Lh5 σh5 eh5 Bh5 Mh5 => ?_)
        replace hf := ms_lE eh5 hf
        refine lv_aload_n hx hb dX12_foldsIn_82 rfl (lv_at hl 2 rfl) (hp_n (n := 83) rfl ?_)
        refine lv_aload_n hx hb dX12_foldsIn_83 rfl (lv_at hl 2 rfl) (hp_n (n := 84) rfl ?_)
        refine m_getr (κ := 44) (k := 6) (pc' := 87) C Bh5 Mh5 fl_X12_22 rfl (by decide) dX12_foldsIn_84 rfl ?_
        refine lv_aload_n hx hb dX12_foldsIn_87 rfl (lv_at hl 2 rfl) (hp_n (n := 88) rfl ?_)
        refine m_geti (k := 8) (φ := 658) (pc' := 91) C Bh5 Mh5 fl_X12_168 rfl rfl dX12_foldsIn_88 rfl ?_
        refine lv_iconst (v := 1) hx hb dX12_foldsIn_91 (by decide) (hp_n (n := 92) rfl ?_)
        refine lv_isub hx hb dX12_foldsIn_92 (hp_n (n := 93) rfl ?_)
        obtain ⟨g6, hf⟩ := ms_gE hf
        refine m_ial (κ := 44) (φ := 656) (n := 128) (pc' := 94) C Bh5 Mh5 (by decide) (by decide) rfl g6 dX12_foldsIn_93 rfl ?_
        refine lv_iload hx hb dX12_foldsIn_94 (lv_at hl 0 rfl) (hp_n (n := 96) rfl ?_)
        obtain ⟨rh7, qh7, hf⟩ := ms_bE hf
        refine m_cp (pc' := 99) Bh5 (hp_runV (As := [.int (ms_E σh5 44 (((ms_I σh5 658) - (1 : Int32))).toNatClampNeg), .int rh4]) (rest := []) C Bh5 (m_X12_both n Γ l αh5 a0 ρ σh5 Mh5 (ms_E σh5 44 (((ms_I σh5 658) - (1 : Int32))).toNatClampNeg) rh4 rh7 qh7) lb_X12_both lv_X12_both lk_X12_136 Mh5.1 rfl (by omega) rfl hl.1 rfl (Nat.le_of_ble_eq_true rfl) dX12_foldsIn_96 ⟨Nat.le_refl _, Nat.le_refl _⟩) rfl (fun Hh7 Lh7 Bh7 => ?_)
        cases hf
        exact q_iret C Bh7 hr hlk ⟨rfl, Bh7.2.2, Mh5⟩ dX12_foldsIn_99
      ·
        replace hf := ms_iF c3 hf
        refine lv_aload_n hx hb dX12_foldsIn_19 rfl (lv_at hl 1 rfl) (hp_n (n := 20) rfl ?_)
        refine lv_iload_n hx hb dX12_foldsIn_20 rfl (lv_at hl 2 rfl) (hp_n (n := 21) rfl ?_)
        refine lv_iload_n hx hb dX12_foldsIn_21 rfl (lv_at hl 3 rfl) (hp_n (n := 22) rfl ?_)
        refine lv_iload hx hb dX12_foldsIn_22 (lv_at hl 0 rfl) (hp_n (n := 24) rfl ?_)
        obtain ⟨rh8, σh8, qh8, hf⟩ := ms_cE hf
        refine m_ci (pc' := 27) (a := a0) (ρ := ρ) Bh2 (hp_runV (As := [.int a1, .int a2, .int rh2]) (rest := []) C Bh2 (ihM Γ l α a0 ρ σ hM a1 a2 rh2 (rh8, σh8) qh8) lb_X12_foldsIn lv_X12_foldsIn lk_X12_165 hM.1 rfl (by omega) rfl hl.1 rfl (Nat.le_of_ble_eq_true rfl) dX12_foldsIn_24 ⟨Nat.le_refl _, Nat.le_refl _⟩) rfl (fun αh8 Hh8 Lh8 Bh8 Mh8 => ?_)
        refine lv_istore (lv' := [(5, .int rh8), (4, .int rh2), (0, .ref a0), (1, .int a1), (2, .int a2), (3, .int a3)]) hx hb dX12_foldsIn_27 hl (by decide) rfl (fun ls hl => hp_n (n := 29) rfl ?_)
        refine lv_aload_n hx hb dX12_foldsIn_29 rfl (lv_at hl 2 rfl) (hp_n (n := 30) rfl ?_)
        refine lv_dup hx hb dX12_foldsIn_30 rfl (hp_n (n := 31) rfl ?_)
        refine m_geti (k := 8) (φ := 658) (pc' := 34) C Bh8 Mh8 fl_X12_168 rfl rfl dX12_foldsIn_31 rfl ?_
        refine lv_iconst (v := 1) hx hb dX12_foldsIn_34 (by decide) (hp_n (n := 35) rfl ?_)
        refine lv_iadd hx hb dX12_foldsIn_35 (hp_n (n := 36) rfl ?_)
        refine m_puti (k := 8) (φ := 658) (pc' := 39) C Bh8 Mh8 fl_X12_168 rfl rfl rfl rfl rfl dX12_foldsIn_36 rfl (fun αh9 Hh9 Lh9 σh9 eh9 Bh9 Mh9 => ?_)
        replace hf := ms_lE eh9 hf
        refine lv_aload_n hx hb dX12_foldsIn_39 rfl (lv_at hl 2 rfl) (hp_n (n := 40) rfl ?_)
        refine lv_iload hx hb dX12_foldsIn_40 (lv_at hl 0 rfl) (hp_n (n := 42) rfl ?_)
        refine lv_aload_n hx hb dX12_foldsIn_42 rfl (lv_at hl 2 rfl) (hp_n (n := 43) rfl ?_)
        refine m_getr (κ := 44) (k := 6) (pc' := 46) C Bh9 Mh9 fl_X12_22 rfl (by decide) dX12_foldsIn_43 rfl ?_
        refine lv_aload_n hx hb dX12_foldsIn_46 rfl (lv_at hl 2 rfl) (hp_n (n := 47) rfl ?_)
        refine m_geti (k := 8) (φ := 658) (pc' := 50) C Bh9 Mh9 fl_X12_168 rfl rfl dX12_foldsIn_47 rfl ?_
        refine lv_iconst (v := 1) hx hb dX12_foldsIn_50 (by decide) (hp_n (n := 51) rfl ?_)
        refine lv_isub hx hb dX12_foldsIn_51 (hp_n (n := 52) rfl ?_)
        obtain ⟨g10, hf⟩ := ms_gE hf
        refine m_ial (κ := 44) (φ := 656) (n := 128) (pc' := 53) C Bh9 Mh9 (by decide) (by decide) rfl g10 dX12_foldsIn_52 rfl ?_
        obtain ⟨rh11, qh11, hf⟩ := ms_bE hf
        refine m_cp (pc' := 56) Bh9 (hp_runV (As := [.int rh8, .int (ms_E σh9 44 (((ms_I σh9 658) - (1 : Int32))).toNatClampNeg)]) (rest := []) C Bh9 (m_X12_both n Γ l αh9 a0 ρ σh9 Mh9 rh8 (ms_E σh9 44 (((ms_I σh9 658) - (1 : Int32))).toNatClampNeg) rh11 qh11) lb_X12_both lv_X12_both lk_X12_136 Mh9.1 rfl (by omega) rfl hl.1 rfl (Nat.le_of_ble_eq_true rfl) dX12_foldsIn_53 ⟨Nat.le_refl _, Nat.le_refl _⟩) rfl (fun Hh11 Lh11 Bh11 => ?_)
        cases hf
        exact q_iret C Bh11 hr hlk ⟨rfl, Bh11.2.2, Mh9⟩ dX12_foldsIn_56
    ·
      replace hf := ms_iT c1 hf
      refine lv_iload_n hx hb dX12_foldsIn_5 rfl (lv_at hl 1 rfl) (hp_n (n := 6) rfl ?_)
      cases hf
      exact q_iret C B hr hlk ⟨rfl, B.2.2, hM⟩ dX12_foldsIn_6
def f_X12_folded (n : Nat) (σ : ms_T) (a1 : Int32) (a2 : Int32) (a3 : Int32) : Option (Int32 × ms_T) :=
  ms_l (ms_sI σ 658 (0 : Int32)) fun σh1 =>
  ms_c (f_X12_foldsIn n 40 σh1 a1 a2 a3) fun rh2 σh2 =>
  some (rh2, σh2)
set_option maxRecDepth 100000 in
set_option maxHeartbeats 4000000 in
theorem m_X12_folded (n : Nat) (Γ : hp_G) (l : Launch) (α : hp_T) (a0 : Nat) (ρ : Nat → Nat) (σ : ms_T) (hM : hm_M α a0 ρ σ) (a1 : Int32) (a2 : Int32) (a3 : Int32) (res : (Int32 × ms_T)) (hf : f_X12_folded n σ a1 a2 a3 = some res) : Met l yX12_folded (hp_ws yX12_folded cX12_folded 4 (some .int)) (hp_rm 42 0 0) (hp_Pc Γ α [.ref a0, .int a1, .int a2, .int a3]) (hp_Qi Γ (fun r β => r = res.1 ∧ mo α β ∧ hm_M β a0 ρ res.2)) 0 0 (hp_A Γ) := by
  unfold f_X12_folded at hf
  refine hp_start (by decide) ?_
  intro p e s m below meth c C hr hlk B0 hnm
  have C : hp_C Γ p m c cX12_folded 4 s ([.ref a0, .int a1, .int a2, .int a3] : List Value).toArray RX12 := C
  have hx := C.1.1
  have hb := C.1.2.1
  have hown := C.1.2.2.2.1
  have hts := C.1.2.2.2.2
  have B : hp_B Γ mo s α α s.heap [] := ⟨B0.1, B0.2.1, mo_rf⟩
  have hl := lv_entry ([.ref a0, .int a1, .int a2, .int a3]) (n := 4) (Nat.le_of_ble_eq_true rfl)
  show W p l e (hp_rm 42 0 0) s m ([.ref a0, .int a1, .int a2, .int a3] : List Value).toArray below meth c s.heap [] 0 0 (MQ below (hp_Qi Γ (fun r β => r = res.1 ∧ mo α β ∧ hm_M β a0 ρ res.2)) ([.ref a0, .int a1, .int a2, .int a3] : List Value).toArray s 0 0 (hp_A Γ)) (entryFrame m ([.ref a0, .int a1, .int a2, .int a3] : List Value).toArray 4)
  rw [lg_entry_eq]
  generalize (lg_sl ([.ref a0, .int a1, .int a2, .int a3]) ++ List.replicate (4 - (lg_sl ([.ref a0, .int a1, .int a2, .int a3])).length) Slot.unset).toArray = ls at hl ⊢
  have hl : lv_has ls 4 [(0, .ref a0), (1, .int a1), (2, .int a2), (3, .int a3)] := hl
  refine lv_aload_n hx hb dX12_folded_0 rfl (lv_at hl 0 rfl) (hp_n (n := 1) rfl ?_)
  refine lv_iconst (v := 0) hx hb dX12_folded_1 (by decide) (hp_n (n := 2) rfl ?_)
  refine m_puti (k := 8) (φ := 658) (pc' := 5) C B hM fl_X12_168 rfl rfl rfl rfl rfl dX12_folded_2 rfl (fun αh1 Hh1 Lh1 σh1 eh1 Bh1 Mh1 => ?_)
  replace hf := ms_lE eh1 hf
  refine lv_aload_n hx hb dX12_folded_5 rfl (lv_at hl 0 rfl) (hp_n (n := 6) rfl ?_)
  refine lv_iload_n hx hb dX12_folded_6 rfl (lv_at hl 1 rfl) (hp_n (n := 7) rfl ?_)
  refine lv_iload_n hx hb dX12_folded_7 rfl (lv_at hl 2 rfl) (hp_n (n := 8) rfl ?_)
  refine lv_iload_n hx hb dX12_folded_8 rfl (lv_at hl 3 rfl) (hp_n (n := 9) rfl ?_)
  obtain ⟨rh2, σh2, qh2, hf⟩ := ms_cE hf
  refine m_ci (pc' := 12) (a := a0) (ρ := ρ) Bh1 (hp_runV (As := [.int a1, .int a2, .int a3]) (rest := []) C Bh1 (m_X12_foldsIn n 40 Γ l αh1 a0 ρ σh1 Mh1 a1 a2 a3 (rh2, σh2) qh2) lb_X12_foldsIn lv_X12_foldsIn lk_X12_165 Mh1.1 rfl (by decide) rfl hl.1 rfl (Nat.le_of_ble_eq_true rfl) dX12_folded_9 ⟨Nat.le_refl _, Nat.le_refl _⟩) rfl (fun αh2 Hh2 Lh2 Bh2 Mh2 => ?_)
  cases hf
  exact q_iret C Bh2 hr hlk ⟨rfl, Bh2.2.2, Mh2⟩ dX12_folded_12
def f_X12_why (n : Nat) (σ : ms_T) (a1 : Int32) (a2 : Int32) (a3 : Int32) : Option Int32 :=
  if a2 ≤ a1 then
    if a1 ≤ a2 then
      if a3 = 0 then
        some (3 : Int32)
      else
        some (0 : Int32)
    else
      some (2 : Int32)
  else
    some (1 : Int32)
set_option maxRecDepth 100000 in
set_option maxHeartbeats 4000000 in
theorem m_X12_why (n : Nat) (Γ : hp_G) (l : Launch) (α : hp_T) (a0 : Nat) (ρ : Nat → Nat) (σ : ms_T) (hM : hm_M α a0 ρ σ) (a1 : Int32) (a2 : Int32) (a3 : Int32) (res : Int32) (hf : f_X12_why n σ a1 a2 a3 = some res) : Met l yX12_why (hp_ws yX12_why cX12_why 4 (some .int)) (hp_rm 0 0 0) (hp_Pc Γ α [.ref a0, .int a1, .int a2, .int a3]) (hp_Qi Γ (fun r β => β = α ∧ r = res)) 0 0 (hp_A Γ) := by
  unfold f_X12_why at hf
  refine hp_start (by decide) ?_
  intro p e s m below meth c C hr hlk B0 hnm
  have C : hp_C Γ p m c cX12_why 4 s ([.ref a0, .int a1, .int a2, .int a3] : List Value).toArray RX12 := C
  have hx := C.1.1
  have hb := C.1.2.1
  have hown := C.1.2.2.2.1
  have hts := C.1.2.2.2.2
  have B : hp_B Γ (fun _ _ => True) s α α s.heap [] := ⟨B0.1, B0.2.1, trivial⟩
  have hl := lv_entry ([.ref a0, .int a1, .int a2, .int a3]) (n := 4) (Nat.le_of_ble_eq_true rfl)
  show W p l e (hp_rm 0 0 0) s m ([.ref a0, .int a1, .int a2, .int a3] : List Value).toArray below meth c s.heap [] 0 0 (MQ below (hp_Qi Γ (fun r β => β = α ∧ r = res)) ([.ref a0, .int a1, .int a2, .int a3] : List Value).toArray s 0 0 (hp_A Γ)) (entryFrame m ([.ref a0, .int a1, .int a2, .int a3] : List Value).toArray 4)
  rw [lg_entry_eq]
  generalize (lg_sl ([.ref a0, .int a1, .int a2, .int a3]) ++ List.replicate (4 - (lg_sl ([.ref a0, .int a1, .int a2, .int a3])).length) Slot.unset).toArray = ls at hl ⊢
  have hl : lv_has ls 4 [(0, .ref a0), (1, .int a1), (2, .int a2), (3, .int a3)] := hl
  refine lv_iload_n hx hb dX12_why_0 rfl (lv_at hl 1 rfl) (hp_n (n := 1) rfl ?_)
  refine lv_iload_n hx hb dX12_why_1 rfl (lv_at hl 2 rfl) (hp_n (n := 2) rfl ?_)
  refine lv_icmp_ge (tgt := 9) hx hb dX12_why_2 (by decide) (fun c1 => ?_) (fun c1 => hp_n (n := 5) rfl ?_)
  ·
    replace hf := ms_iT c1 hf
    refine lv_iload_n hx hb dX12_why_9 rfl (lv_at hl 1 rfl) (hp_n (n := 10) rfl ?_)
    refine lv_iload_n hx hb dX12_why_10 rfl (lv_at hl 2 rfl) (hp_n (n := 11) rfl ?_)
    refine lv_icmp_le (tgt := 18) hx hb dX12_why_11 (by decide) (fun c2 => ?_) (fun c2 => hp_n (n := 14) rfl ?_)
    ·
      replace hf := ms_iT c2 hf
      refine lv_iload_n hx hb dX12_why_18 rfl (lv_at hl 3 rfl) (hp_n (n := 19) rfl ?_)
      refine lv_if_eq (tgt := 26) hx hb dX12_why_19 (by decide) (fun c3 => ?_) (fun c3 => hp_n (n := 22) rfl ?_)
      ·
        replace hf := ms_iT c3 hf
        refine lv_iconst (v := 3) hx hb dX12_why_26 (by decide) (hp_n (n := 27) rfl ?_)
        cases hf
        exact q_iret C B hr hlk ⟨rfl, rfl⟩ dX12_why_27
      ·
        replace hf := ms_iF c3 hf
        refine lv_iconst (v := 0) hx hb dX12_why_22 (by decide) (hp_n (n := 23) rfl ?_)
        refine lv_goto (tgt := 27) hx hb dX12_why_23 (by decide) ?_
        cases hf
        exact q_iret C B hr hlk ⟨rfl, rfl⟩ dX12_why_27
    ·
      replace hf := ms_iF c2 hf
      refine lv_iconst (v := 2) hx hb dX12_why_14 (by decide) (hp_n (n := 15) rfl ?_)
      refine lv_goto (tgt := 27) hx hb dX12_why_15 (by decide) ?_
      cases hf
      exact q_iret C B hr hlk ⟨rfl, rfl⟩ dX12_why_27
  ·
    replace hf := ms_iF c1 hf
    refine lv_iconst (v := 1) hx hb dX12_why_5 (by decide) (hp_n (n := 6) rfl ?_)
    refine lv_goto (tgt := 27) hx hb dX12_why_6 (by decide) ?_
    cases hf
    exact q_iret C B hr hlk ⟨rfl, rfl⟩ dX12_why_27
def f_X12_whyIn_J41 (n : Nat) (σh3 : ms_T) (w0_h3 : Int32) (w1_h3 : Int32) (w2_h3 : Int32) : Option (Int32 × ms_T) :=
  ms_b (f_X12_why n σh3 w2_h3 w1_h3 w0_h3) fun rh4 =>
  some (rh4, σh3)
def f_X12_whyIn_J36 (n : Nat) (σh5 : ms_T) (w0_h5 : Int32) (w1_h5 : Int32) : Option (Int32 × ms_T) :=
  f_X12_whyIn_J41 n σh5 (1 : Int32) w0_h5 w1_h5
def f_X12_whyIn (n : Nat) (σ : ms_T) (a1 : Int32) (a2 : Int32) (a3 : Int32) (a4 : Int32) (a5 : Int32) : Option (Int32 × ms_T) :=
  ms_b (f_X12_inclusion n σ a3 a4) fun σh1 =>
  ms_l ((ms_I σh1 657)) fun x2 =>
  if a1 = x2 then
    ms_c (f_X12_folded n σh1 a2 a3 a4) fun rh7 σh7 =>
    if rh7 = a5 then
      f_X12_whyIn_J36 n σh7 x2 a1
    else
      f_X12_whyIn_J41 n σh7 (0 : Int32) x2 a1
  else
    f_X12_whyIn_J36 n σh1 x2 a1
set_option maxRecDepth 100000 in
set_option maxHeartbeats 4000000 in
theorem m_X12_whyIn (n : Nat) (Γ : hp_G) (l : Launch) (α : hp_T) (a0 : Nat) (ρ : Nat → Nat) (σ : ms_T) (hM : hm_M α a0 ρ σ) (a1 : Int32) (a2 : Int32) (a3 : Int32) (a4 : Int32) (a5 : Int32) (res : (Int32 × ms_T)) (hf : f_X12_whyIn n σ a1 a2 a3 a4 a5 = some res) : Met l yX12_whyIn (hp_ws yX12_whyIn cX12_whyIn 7 (some .int)) (hp_rm 43 0 0) (hp_Pc Γ α [.ref a0, .int a1, .int a2, .int a3, .int a4, .int a5]) (hp_Qi Γ (fun r β => r = res.1 ∧ mo α β ∧ hm_M β a0 ρ res.2)) 0 0 (hp_A Γ) := by
  unfold f_X12_whyIn at hf
  refine hp_start (by decide) ?_
  intro p e s m below meth c C hr hlk B0 hnm
  have C : hp_C Γ p m c cX12_whyIn 7 s ([.ref a0, .int a1, .int a2, .int a3, .int a4, .int a5] : List Value).toArray RX12 := C
  have hx := C.1.1
  have hb := C.1.2.1
  have hown := C.1.2.2.2.1
  have hts := C.1.2.2.2.2
  have B : hp_B Γ mo s α α s.heap [] := ⟨B0.1, B0.2.1, mo_rf⟩
  have hl := lv_entry ([.ref a0, .int a1, .int a2, .int a3, .int a4, .int a5]) (n := 7) (Nat.le_of_ble_eq_true rfl)
  show W p l e (hp_rm 43 0 0) s m ([.ref a0, .int a1, .int a2, .int a3, .int a4, .int a5] : List Value).toArray below meth c s.heap [] 0 0 (MQ below (hp_Qi Γ (fun r β => r = res.1 ∧ mo α β ∧ hm_M β a0 ρ res.2)) ([.ref a0, .int a1, .int a2, .int a3, .int a4, .int a5] : List Value).toArray s 0 0 (hp_A Γ)) (entryFrame m ([.ref a0, .int a1, .int a2, .int a3, .int a4, .int a5] : List Value).toArray 7)
  rw [lg_entry_eq]
  generalize (lg_sl ([.ref a0, .int a1, .int a2, .int a3, .int a4, .int a5]) ++ List.replicate (7 - (lg_sl ([.ref a0, .int a1, .int a2, .int a3, .int a4, .int a5])).length) Slot.unset).toArray = ls at hl ⊢
  have hl : lv_has ls 7 [(0, .ref a0), (1, .int a1), (2, .int a2), (3, .int a3), (4, .int a4), (5, .int a5)] := hl
  refine lv_aload_n hx hb dX12_whyIn_0 rfl (lv_at hl 0 rfl) (hp_n (n := 1) rfl ?_)
  refine lv_iload_n hx hb dX12_whyIn_1 rfl (lv_at hl 3 rfl) (hp_n (n := 2) rfl ?_)
  refine lv_iload hx hb dX12_whyIn_2 (lv_at hl 4 rfl) (hp_n (n := 4) rfl ?_)
  obtain ⟨σh1, qh1, hf⟩ := ms_bE hf
  refine m_cv (pc' := 7) (a := a0) (ρ := ρ) B (hp_runV (As := [.int a3, .int a4]) (rest := []) C B (m_X12_inclusion n Γ l α a0 ρ σ hM a3 a4 σh1 qh1) lb_X12_inclusion lv_X12_inclusion lk_X12_171 hM.1 rfl (by decide) rfl hl.1 rfl (Nat.le_of_ble_eq_true rfl) dX12_whyIn_4 ⟨Nat.le_refl _, Nat.le_refl _⟩) rfl (fun αh1 Hh1 Lh1 Bh1 Mh1 => ?_)
  refine lv_aload_n hx hb dX12_whyIn_7 rfl (lv_at hl 0 rfl) (hp_n (n := 8) rfl ?_)
  refine m_geti (k := 7) (φ := 657) (pc' := 11) C Bh1 Mh1 fl_X12_139 rfl rfl dX12_whyIn_8 rfl ?_
  refine lv_topi (fun x2 ex2 => ?_)
  replace hf := ms_lE ex2 hf
  refine lv_istore (lv' := [(6, .int x2), (0, .ref a0), (1, .int a1), (2, .int a2), (3, .int a3), (4, .int a4), (5, .int a5)]) hx hb dX12_whyIn_11 hl (by decide) rfl (fun ls hl => hp_n (n := 13) rfl ?_)
  refine lv_aload_n hx hb dX12_whyIn_13 rfl (lv_at hl 1 rfl) (hp_n (n := 14) rfl ?_)
  refine lv_iload_n hx hb dX12_whyIn_14 rfl (lv_at hl 2 rfl) (hp_n (n := 15) rfl ?_)
  refine lv_iload hx hb dX12_whyIn_15 (lv_at hl 0 rfl) (hp_n (n := 17) rfl ?_)
  refine lv_iload_n hx hb dX12_whyIn_17 rfl (lv_at hl 2 rfl) (hp_n (n := 18) rfl ?_)
  refine lv_iload hx hb dX12_whyIn_18 (lv_at hl 0 rfl) (hp_n (n := 20) rfl ?_)
  have J41 : ∀ (αh3 : hp_T) (Hh3 : Heap) (Lh3 : List Loc) (Bh3 : hp_B Γ mo s α αh3 Hh3 Lh3) (σh3 : ms_T) (Mh3 : hm_M αh3 a0 ρ σh3) (w0_h3 : Int32) (w1_h3 : Int32) (w2_h3 : Int32) (ls : Array Slot) (hl : lv_has ls 7 []) (hf : f_X12_whyIn_J41 n σh3 w0_h3 w1_h3 w2_h3 = some res), W p l e (hp_rm 43 0 0) s m ([.ref a0, .int a1, .int a2, .int a3, .int a4, .int a5] : List Value).toArray below meth c Hh3 Lh3 0 0 (MQ below (hp_Qi Γ (fun r β => r = res.1 ∧ mo α β ∧ hm_M β a0 ρ res.2)) ([.ref a0, .int a1, .int a2, .int a3, .int a4, .int a5] : List Value).toArray s 0 0 (hp_A Γ)) (F0 m 41 ls [.int w0_h3, .int w1_h3, .int w2_h3, .ref a0]) := by
    intro αh3 Hh3 Lh3 Bh3 σh3 Mh3 w0_h3 w1_h3 w2_h3 ls hl hf
    unfold f_X12_whyIn_J41 at hf
    obtain ⟨rh4, qh4, hf⟩ := ms_bE hf
    refine m_cp (pc' := 44) Bh3 (hp_runV (As := [.int w2_h3, .int w1_h3, .int w0_h3]) (rest := []) C Bh3 (m_X12_why n Γ l αh3 a0 ρ σh3 Mh3 w2_h3 w1_h3 w0_h3 rh4 qh4) lb_X12_why lv_X12_why lk_X12_177 Mh3.1 rfl (by decide) rfl hl.1 rfl (Nat.le_of_ble_eq_true rfl) dX12_whyIn_41 ⟨Nat.le_refl _, Nat.le_refl _⟩) rfl (fun Hh4 Lh4 Bh4 => ?_)
    cases hf
    exact q_iret C Bh4 hr hlk ⟨rfl, Bh4.2.2, Mh3⟩ dX12_whyIn_44
  have J36 : ∀ (αh5 : hp_T) (Hh5 : Heap) (Lh5 : List Loc) (Bh5 : hp_B Γ mo s α αh5 Hh5 Lh5) (σh5 : ms_T) (Mh5 : hm_M αh5 a0 ρ σh5) (w0_h5 : Int32) (w1_h5 : Int32) (ls : Array Slot) (hl : lv_has ls 7 []) (hf : f_X12_whyIn_J36 n σh5 w0_h5 w1_h5 = some res), W p l e (hp_rm 43 0 0) s m ([.ref a0, .int a1, .int a2, .int a3, .int a4, .int a5] : List Value).toArray below meth c Hh5 Lh5 0 0 (MQ below (hp_Qi Γ (fun r β => r = res.1 ∧ mo α β ∧ hm_M β a0 ρ res.2)) ([.ref a0, .int a1, .int a2, .int a3, .int a4, .int a5] : List Value).toArray s 0 0 (hp_A Γ)) (F0 m 36 ls [.int w0_h5, .int w1_h5, .ref a0]) := by
    intro αh5 Hh5 Lh5 Bh5 σh5 Mh5 w0_h5 w1_h5 ls hl hf
    unfold f_X12_whyIn_J36 at hf
    refine lv_iconst (v := 1) hx hb dX12_whyIn_36 (by decide) (hp_n (n := 37) rfl ?_)
    refine lv_goto (tgt := 41) hx hb dX12_whyIn_37 (by decide) ?_
    exact J41 αh5 Hh5 Lh5 Bh5 σh5 Mh5 (1 : Int32) w0_h5 w1_h5 ls (lv_sub hl [] rfl) hf
  refine lv_icmp_ne (tgt := 36) hx hb dX12_whyIn_20 (by decide) (fun c6 => ?_) (fun c6 => hp_n (n := 23) rfl ?_)
  ·
    replace hf := ms_iF c6 hf
    exact J36 αh1 Hh1 Lh1 Bh1 σh1 Mh1 x2 a1 ls (lv_sub hl [] rfl) hf
  ·
    replace hf := ms_iT c6 hf
    refine lv_aload_n hx hb dX12_whyIn_23 rfl (lv_at hl 1 rfl) (hp_n (n := 24) rfl ?_)
    refine lv_iload_n hx hb dX12_whyIn_24 rfl (lv_at hl 3 rfl) (hp_n (n := 25) rfl ?_)
    refine lv_iload_n hx hb dX12_whyIn_25 rfl (lv_at hl 4 rfl) (hp_n (n := 26) rfl ?_)
    refine lv_iload hx hb dX12_whyIn_26 (lv_at hl 5 rfl) (hp_n (n := 28) rfl ?_)
    obtain ⟨rh7, σh7, qh7, hf⟩ := ms_cE hf
    refine m_ci (pc' := 31) (a := a0) (ρ := ρ) Bh1 (hp_runV (As := [.int a2, .int a3, .int a4]) (rest := [.int x2, .int a1, .ref a0]) C Bh1 (m_X12_folded n Γ l αh1 a0 ρ σh1 Mh1 a2 a3 a4 (rh7, σh7) qh7) lb_X12_folded lv_X12_folded lk_X12_174 Mh1.1 rfl (by decide) rfl hl.1 rfl (Nat.le_of_ble_eq_true rfl) dX12_whyIn_28 ⟨Nat.le_refl _, Nat.le_refl _⟩) rfl (fun αh7 Hh7 Lh7 Bh7 Mh7 => ?_)
    refine lv_iload hx hb dX12_whyIn_31 (lv_at hl 6 rfl) (hp_n (n := 33) rfl ?_)
    refine lv_icmp_ne (tgt := 40) hx hb dX12_whyIn_33 (by decide) (fun c8 => ?_) (fun c8 => hp_n (n := 36) rfl ?_)
    ·
      replace hf := ms_iF c8 hf
      refine lv_iconst (v := 0) hx hb dX12_whyIn_40 (by decide) (hp_n (n := 41) rfl ?_)
      exact J41 αh7 Hh7 Lh7 Bh7 σh7 Mh7 (0 : Int32) x2 a1 ls (lv_sub hl [] rfl) hf
    ·
      replace hf := ms_iT c8 hf
      exact J36 αh7 Hh7 Lh7 Bh7 σh7 Mh7 x2 a1 ls (lv_sub hl [] rfl) hf
def f_X12_foldsGrowth_J157 (n : Nat) (recM : ms_T → Int32 → Int32 → Int32 → Int32 → Option ms_T) (σh3 : ms_T) : Option ms_T :=
  ms_l (ms_sI σh3 658 ((ms_I σh3 658) + (1 : Int32))) fun σh4 =>
  some σh4
def f_X12_foldsGrowth_J50 (n : Nat) (recM : ms_T → Int32 → Int32 → Int32 → Int32 → Option ms_T) (σh20 : ms_T) (w0_h20 : Int32) (w1_h20 : Int32) : Option ms_T :=
  ms_l (ms_sI σh20 658 (w1_h20 + w0_h20)) fun σh21 =>
  some σh21
def f_X12_foldsGrowth_J24 (n : Nat) (recM : ms_T → Int32 → Int32 → Int32 → Int32 → Option ms_T) (σh17 : ms_T) (v4_h17 : Int32) (w0_h17 : Int32) : Option ms_T :=
  ms_l (ms_sI σh17 659 w0_h17) fun σh18 =>
  ms_l (ms_sI σh18 660 (ms_I σh18 659)) fun σh19 =>
  if v4_h17 = 0 then
    f_X12_foldsGrowth_J50 n recM σh19 (1 : Int32) (ms_I σh19 658)
  else
    f_X12_foldsGrowth_J50 n recM σh19 (0 : Int32) (ms_I σh19 658)
def f_X12_foldsGrowth (n : Nat) : Nat → ms_T → Int32 → Int32 → Int32 → Int32 → Option ms_T
  | 0, _, _, _, _, _ => none
  | d + 1, σ, a1, a2, a3, a4 =>
    if a2 = a3 then
      if a4 = 0 then
        ms_g (ms_I σ 658) 128 <|
        f_X12_foldsGrowth_J24 n (f_X12_foldsGrowth n d) σ a4 (ms_E σ 44 ((ms_I σ 658)).toNatClampNeg)
      else
        f_X12_foldsGrowth_J24 n (f_X12_foldsGrowth n d) σ a4 a1
    else
      ms_b (f_X12_part0 n a3) fun rh2 =>
      if rh2 < a2 then
        ms_b ((f_X12_foldsGrowth n d) σ a1 (a2 - rh2) (a3 - rh2) (0 : Int32)) fun σh6 =>
        ms_g (ms_I σh6 658) 128 <|
        ms_b (f_X12_both n σh6 (ms_E σh6 44 ((ms_I σh6 658)).toNatClampNeg) (ms_I σh6 659)) fun rh8 =>
        ms_l (ms_sI σh6 659 rh8) fun σh9 =>
        ms_g (ms_I σh9 658) 128 <|
        ms_b (f_X12_both n σh9 (ms_E σh9 44 ((ms_I σh9 658)).toNatClampNeg) (ms_I σh9 660)) fun rh11 =>
        ms_l (ms_sI σh9 660 rh11) fun σh12 =>
        f_X12_foldsGrowth_J157 n (f_X12_foldsGrowth n d) σh12
      else
        ms_b ((f_X12_foldsGrowth n d) σ a1 a2 rh2 a4) fun σh13 =>
        ms_g (ms_I σh13 658) 128 <|
        ms_b (f_X12_both n σh13 (ms_I σh13 660) (ms_E σh13 44 ((ms_I σh13 658)).toNatClampNeg)) fun rh15 =>
        ms_l (ms_sI σh13 660 rh15) fun σh16 =>
        f_X12_foldsGrowth_J157 n (f_X12_foldsGrowth n d) σh16
set_option maxRecDepth 100000 in
set_option maxHeartbeats 4000000 in
theorem m_X12_foldsGrowth (n : Nat) : ∀ (d : Nat) (Γ : hp_G) (l : Launch) (α : hp_T) (a0 : Nat) (ρ : Nat → Nat) (σ : ms_T) (hM : hm_M α a0 ρ σ) (a1 : Int32) (a2 : Int32) (a3 : Int32) (a4 : Int32) (res : ms_T) (hf : f_X12_foldsGrowth n d σ a1 a2 a3 a4 = some res), Met l yX12_foldsGrowth (hp_ws yX12_foldsGrowth cX12_foldsGrowth 6 none) (hp_rm (d + 1) 0 0) (hp_Pc Γ α [.ref a0, .int a1, .int a2, .int a3, .int a4]) (hp_Qv Γ (fun β => mo α β ∧ hm_M β a0 ρ res)) 0 0 (hp_A Γ) := by
  intro d
  induction d with
  | zero => intro Γ l α a0 ρ σ hM a1 a2 a3 a4 res hf; rw [f_X12_foldsGrowth.eq_1] at hf; cases hf
  | succ d ihM =>
    intro Γ l α a0 ρ σ hM a1 a2 a3 a4 res hf
    rw [f_X12_foldsGrowth.eq_2] at hf
    refine hp_start (by decide) ?_
    intro p e s m below meth c C hr hlk B0 hnm
    have C : hp_C Γ p m c cX12_foldsGrowth 6 s ([.ref a0, .int a1, .int a2, .int a3, .int a4] : List Value).toArray RX12 := C
    have hx := C.1.1
    have hb := C.1.2.1
    have hown := C.1.2.2.2.1
    have hts := C.1.2.2.2.2
    have B : hp_B Γ mo s α α s.heap [] := ⟨B0.1, B0.2.1, mo_rf⟩
    have hl := lv_entry ([.ref a0, .int a1, .int a2, .int a3, .int a4]) (n := 6) (Nat.le_of_ble_eq_true rfl)
    show W p l e (hp_rm (d + 1 + 1) 0 0) s m ([.ref a0, .int a1, .int a2, .int a3, .int a4] : List Value).toArray below meth c s.heap [] 0 0 (MQ below (hp_Qv Γ (fun β => mo α β ∧ hm_M β a0 ρ res)) ([.ref a0, .int a1, .int a2, .int a3, .int a4] : List Value).toArray s 0 0 (hp_A Γ)) (entryFrame m ([.ref a0, .int a1, .int a2, .int a3, .int a4] : List Value).toArray 6)
    rw [lg_entry_eq]
    generalize (lg_sl ([.ref a0, .int a1, .int a2, .int a3, .int a4]) ++ List.replicate (6 - (lg_sl ([.ref a0, .int a1, .int a2, .int a3, .int a4])).length) Slot.unset).toArray = ls at hl ⊢
    have hl : lv_has ls 6 [(0, .ref a0), (1, .int a1), (2, .int a2), (3, .int a3), (4, .int a4)] := hl
    refine lv_iload_n hx hb dX12_foldsGrowth_0 rfl (lv_at hl 2 rfl) (hp_n (n := 1) rfl ?_)
    refine lv_iload_n hx hb dX12_foldsGrowth_1 rfl (lv_at hl 3 rfl) (hp_n (n := 2) rfl ?_)
    refine lv_icmp_ne (tgt := 55) hx hb dX12_foldsGrowth_2 (by decide) (fun c1 => ?_) (fun c1 => hp_n (n := 5) rfl ?_)
    ·
      replace hf := ms_iF c1 hf
      refine lv_iload_n hx hb dX12_foldsGrowth_55 rfl (lv_at hl 3 rfl) (hp_n (n := 56) rfl ?_)
      obtain ⟨rh2, qh2, hf⟩ := ms_bE hf
      refine m_cp (pc' := 59) B (hp_runS (As := [.int a3]) (rest := []) C B (m_X12_part0 n Γ l α a3 rh2 qh2) lb_X12_part0 ls_X12_part0 lk_X12_128 rfl (by omega) rfl hl.1 rfl (Nat.le_of_ble_eq_true rfl) dX12_foldsGrowth_56 ⟨Nat.le_refl _, Nat.le_refl _⟩) rfl (fun Hh2 Lh2 Bh2 => ?_)
      refine lv_istore (lv' := [(5, .int rh2), (0, .ref a0), (1, .int a1), (2, .int a2), (3, .int a3), (4, .int a4)]) hx hb dX12_foldsGrowth_59 hl (by decide) rfl (fun ls hl => hp_n (n := 61) rfl ?_)
      refine lv_iload_n hx hb dX12_foldsGrowth_61 rfl (lv_at hl 3 rfl) (hp_n (n := 62) rfl ?_)
      refine lv_iload hx hb dX12_foldsGrowth_62 (lv_at hl 0 rfl) (hp_n (n := 64) rfl ?_)
      have J157 : ∀ (αh3 : hp_T) (Hh3 : Heap) (Lh3 : List Loc) (Bh3 : hp_B Γ mo s α αh3 Hh3 Lh3) (σh3 : ms_T) (Mh3 : hm_M αh3 a0 ρ σh3) (ls : Array Slot) (hl : lv_has ls 6 [(0, .ref a0)]) (hf : f_X12_foldsGrowth_J157 n (f_X12_foldsGrowth n d) σh3 = some res), W p l e (hp_rm (d + 1 + 1) 0 0) s m ([.ref a0, .int a1, .int a2, .int a3, .int a4] : List Value).toArray below meth c Hh3 Lh3 0 0 (MQ below (hp_Qv Γ (fun β => mo α β ∧ hm_M β a0 ρ res)) ([.ref a0, .int a1, .int a2, .int a3, .int a4] : List Value).toArray s 0 0 (hp_A Γ)) (F0 m 157 ls []) := by
        intro αh3 Hh3 Lh3 Bh3 σh3 Mh3 ls hl hf
        unfold f_X12_foldsGrowth_J157 at hf
        refine lv_aload_n hx hb dX12_foldsGrowth_157 rfl (lv_at hl 0 rfl) (hp_n (n := 158) rfl ?_)
        refine lv_dup hx hb dX12_foldsGrowth_158 rfl (hp_n (n := 159) rfl ?_)
        refine m_geti (k := 8) (φ := 658) (pc' := 162) C Bh3 Mh3 fl_X12_168 rfl rfl dX12_foldsGrowth_159 rfl ?_
        refine lv_iconst (v := 1) hx hb dX12_foldsGrowth_162 (by decide) (hp_n (n := 163) rfl ?_)
        refine lv_iadd hx hb dX12_foldsGrowth_163 (hp_n (n := 164) rfl ?_)
        refine m_puti (k := 8) (φ := 658) (pc' := 167) C Bh3 Mh3 fl_X12_168 rfl rfl rfl rfl rfl dX12_foldsGrowth_164 rfl (fun αh4 Hh4 Lh4 σh4 eh4 Bh4 Mh4 => ?_)
        replace hf := ms_lE eh4 hf
        cases hf
        exact q_vret C Bh4 hr hlk ⟨Bh4.2.2, Mh4⟩ dX12_foldsGrowth_167
      refine lv_icmp_gt (tgt := 101) hx hb dX12_foldsGrowth_64 (by decide) (fun c5 => ?_) (fun c5 => hp_n (n := 67) rfl ?_)
      ·
        replace hf := ms_iT c5 hf
        refine lv_aload_n hx hb dX12_foldsGrowth_101 rfl (lv_at hl 1 rfl) (hp_n (n := 102) rfl ?_)
        refine lv_iload_n hx hb dX12_foldsGrowth_102 rfl (lv_at hl 2 rfl) (hp_n (n := 103) rfl ?_)
        refine lv_iload_n hx hb dX12_foldsGrowth_103 rfl (lv_at hl 3 rfl) (hp_n (n := 104) rfl ?_)
        refine lv_iload hx hb dX12_foldsGrowth_104 (lv_at hl 0 rfl) (hp_n (n := 106) rfl ?_)
        refine lv_isub hx hb dX12_foldsGrowth_106 (hp_n (n := 107) rfl ?_)
        refine lv_iload_n hx hb dX12_foldsGrowth_107 rfl (lv_at hl 4 rfl) (hp_n (n := 108) rfl ?_)
        refine lv_iload hx hb dX12_foldsGrowth_108 (lv_at hl 0 rfl) (hp_n (n := 110) rfl ?_)
        refine lv_isub hx hb dX12_foldsGrowth_110 (hp_n (n := 111) rfl ?_)
        refine lv_iconst (v := 0) hx hb dX12_foldsGrowth_111 (by decide) (hp_n (n := 112) rfl ?_)
        obtain ⟨σh6, qh6, hf⟩ := ms_bE hf
        refine m_cv (pc' := 115) (a := a0) (ρ := ρ) Bh2 (hp_runV (As := [.int a1, .int (a2 - rh2), .int (a3 - rh2), .int (0 : Int32)]) (rest := []) C Bh2 (ihM Γ l α a0 ρ σ hM a1 (a2 - rh2) (a3 - rh2) (0 : Int32) σh6 qh6) lb_X12_foldsGrowth lv_X12_foldsGrowth lk_X12_187 hM.1 rfl (by omega) rfl hl.1 rfl (Nat.le_of_ble_eq_true rfl) dX12_foldsGrowth_112 ⟨Nat.le_refl _, Nat.le_refl _⟩) rfl (fun αh6 Hh6 Lh6 Bh6 Mh6 => ?_)
        refine lv_aload_n hx hb dX12_foldsGrowth_115 rfl (lv_at hl 1 rfl) (hp_n (n := 116) rfl ?_)
        refine lv_aload_n hx hb dX12_foldsGrowth_116 rfl (lv_at hl 1 rfl) (hp_n (n := 117) rfl ?_)
        refine lv_aload_n hx hb dX12_foldsGrowth_117 rfl (lv_at hl 1 rfl) (hp_n (n := 118) rfl ?_)
        refine m_getr (κ := 44) (k := 6) (pc' := 121) C Bh6 Mh6 fl_X12_22 rfl (by decide) dX12_foldsGrowth_118 rfl ?_
        refine lv_aload_n hx hb dX12_foldsGrowth_121 rfl (lv_at hl 1 rfl) (hp_n (n := 122) rfl ?_)
        refine m_geti (k := 8) (φ := 658) (pc' := 125) C Bh6 Mh6 fl_X12_168 rfl rfl dX12_foldsGrowth_122 rfl ?_
        obtain ⟨g7, hf⟩ := ms_gE hf
        refine m_ial (κ := 44) (φ := 656) (n := 128) (pc' := 126) C Bh6 Mh6 (by decide) (by decide) rfl g7 dX12_foldsGrowth_125 rfl ?_
        refine lv_aload_n hx hb dX12_foldsGrowth_126 rfl (lv_at hl 1 rfl) (hp_n (n := 127) rfl ?_)
        refine m_geti (k := 9) (φ := 659) (pc' := 130) C Bh6 Mh6 fl_X12_181 rfl rfl dX12_foldsGrowth_127 rfl ?_
        obtain ⟨rh8, qh8, hf⟩ := ms_bE hf
        refine m_cp (pc' := 133) Bh6 (hp_runV (As := [.int (ms_E σh6 44 ((ms_I σh6 658)).toNatClampNeg), .int (ms_I σh6 659)]) (rest := [.ref a0]) C Bh6 (m_X12_both n Γ l αh6 a0 ρ σh6 Mh6 (ms_E σh6 44 ((ms_I σh6 658)).toNatClampNeg) (ms_I σh6 659) rh8 qh8) lb_X12_both lv_X12_both lk_X12_136 Mh6.1 rfl (by omega) rfl hl.1 rfl (Nat.le_of_ble_eq_true rfl) dX12_foldsGrowth_130 ⟨Nat.le_refl _, Nat.le_refl _⟩) rfl (fun Hh8 Lh8 Bh8 => ?_)
        refine m_puti (k := 9) (φ := 659) (pc' := 136) C Bh8 Mh6 fl_X12_181 rfl rfl rfl rfl rfl dX12_foldsGrowth_133 rfl (fun αh9 Hh9 Lh9 σh9 eh9 Bh9 Mh9 => ?_)
        replace hf := ms_lE eh9 hf
        refine lv_aload_n hx hb dX12_foldsGrowth_136 rfl (lv_at hl 1 rfl) (hp_n (n := 137) rfl ?_)
        refine lv_aload_n hx hb dX12_foldsGrowth_137 rfl (lv_at hl 1 rfl) (hp_n (n := 138) rfl ?_)
        refine lv_aload_n hx hb dX12_foldsGrowth_138 rfl (lv_at hl 1 rfl) (hp_n (n := 139) rfl ?_)
        refine m_getr (κ := 44) (k := 6) (pc' := 142) C Bh9 Mh9 fl_X12_22 rfl (by decide) dX12_foldsGrowth_139 rfl ?_
        refine lv_aload_n hx hb dX12_foldsGrowth_142 rfl (lv_at hl 1 rfl) (hp_n (n := 143) rfl ?_)
        refine m_geti (k := 8) (φ := 658) (pc' := 146) C Bh9 Mh9 fl_X12_168 rfl rfl dX12_foldsGrowth_143 rfl ?_
        obtain ⟨g10, hf⟩ := ms_gE hf
        refine m_ial (κ := 44) (φ := 656) (n := 128) (pc' := 147) C Bh9 Mh9 (by decide) (by decide) rfl g10 dX12_foldsGrowth_146 rfl ?_
        refine lv_aload_n hx hb dX12_foldsGrowth_147 rfl (lv_at hl 1 rfl) (hp_n (n := 148) rfl ?_)
        refine m_geti (k := 10) (φ := 660) (pc' := 151) C Bh9 Mh9 fl_X12_184 rfl rfl dX12_foldsGrowth_148 rfl ?_
        obtain ⟨rh11, qh11, hf⟩ := ms_bE hf
        refine m_cp (pc' := 154) Bh9 (hp_runV (As := [.int (ms_E σh9 44 ((ms_I σh9 658)).toNatClampNeg), .int (ms_I σh9 660)]) (rest := [.ref a0]) C Bh9 (m_X12_both n Γ l αh9 a0 ρ σh9 Mh9 (ms_E σh9 44 ((ms_I σh9 658)).toNatClampNeg) (ms_I σh9 660) rh11 qh11) lb_X12_both lv_X12_both lk_X12_136 Mh9.1 rfl (by omega) rfl hl.1 rfl (Nat.le_of_ble_eq_true rfl) dX12_foldsGrowth_151 ⟨Nat.le_refl _, Nat.le_refl _⟩) rfl (fun Hh11 Lh11 Bh11 => ?_)
        refine m_puti (k := 10) (φ := 660) (pc' := 157) C Bh11 Mh9 fl_X12_184 rfl rfl rfl rfl rfl dX12_foldsGrowth_154 rfl (fun αh12 Hh12 Lh12 σh12 eh12 Bh12 Mh12 => ?_)
        replace hf := ms_lE eh12 hf
        exact J157 αh12 Hh12 Lh12 Bh12 σh12 Mh12 ls (lv_sub hl [1] rfl) hf
      ·
        replace hf := ms_iF c5 hf
        refine lv_aload_n hx hb dX12_foldsGrowth_67 rfl (lv_at hl 1 rfl) (hp_n (n := 68) rfl ?_)
        refine lv_iload_n hx hb dX12_foldsGrowth_68 rfl (lv_at hl 2 rfl) (hp_n (n := 69) rfl ?_)
        refine lv_iload_n hx hb dX12_foldsGrowth_69 rfl (lv_at hl 3 rfl) (hp_n (n := 70) rfl ?_)
        refine lv_iload hx hb dX12_foldsGrowth_70 (lv_at hl 0 rfl) (hp_n (n := 72) rfl ?_)
        refine lv_iload hx hb dX12_foldsGrowth_72 (lv_at hl 5 rfl) (hp_n (n := 74) rfl ?_)
        obtain ⟨σh13, qh13, hf⟩ := ms_bE hf
        refine m_cv (pc' := 77) (a := a0) (ρ := ρ) Bh2 (hp_runV (As := [.int a1, .int a2, .int rh2, .int a4]) (rest := []) C Bh2 (ihM Γ l α a0 ρ σ hM a1 a2 rh2 a4 σh13 qh13) lb_X12_foldsGrowth lv_X12_foldsGrowth lk_X12_187 hM.1 rfl (by omega) rfl hl.1 rfl (Nat.le_of_ble_eq_true rfl) dX12_foldsGrowth_74 ⟨Nat.le_refl _, Nat.le_refl _⟩) rfl (fun αh13 Hh13 Lh13 Bh13 Mh13 => ?_)
        refine lv_aload_n hx hb dX12_foldsGrowth_77 rfl (lv_at hl 1 rfl) (hp_n (n := 78) rfl ?_)
        refine lv_aload_n hx hb dX12_foldsGrowth_78 rfl (lv_at hl 1 rfl) (hp_n (n := 79) rfl ?_)
        refine lv_aload_n hx hb dX12_foldsGrowth_79 rfl (lv_at hl 1 rfl) (hp_n (n := 80) rfl ?_)
        refine m_geti (k := 10) (φ := 660) (pc' := 83) C Bh13 Mh13 fl_X12_184 rfl rfl dX12_foldsGrowth_80 rfl ?_
        refine lv_aload_n hx hb dX12_foldsGrowth_83 rfl (lv_at hl 1 rfl) (hp_n (n := 84) rfl ?_)
        refine m_getr (κ := 44) (k := 6) (pc' := 87) C Bh13 Mh13 fl_X12_22 rfl (by decide) dX12_foldsGrowth_84 rfl ?_
        refine lv_aload_n hx hb dX12_foldsGrowth_87 rfl (lv_at hl 1 rfl) (hp_n (n := 88) rfl ?_)
        refine m_geti (k := 8) (φ := 658) (pc' := 91) C Bh13 Mh13 fl_X12_168 rfl rfl dX12_foldsGrowth_88 rfl ?_
        obtain ⟨g14, hf⟩ := ms_gE hf
        refine m_ial (κ := 44) (φ := 656) (n := 128) (pc' := 92) C Bh13 Mh13 (by decide) (by decide) rfl g14 dX12_foldsGrowth_91 rfl ?_
        obtain ⟨rh15, qh15, hf⟩ := ms_bE hf
        refine m_cp (pc' := 95) Bh13 (hp_runV (As := [.int (ms_I σh13 660), .int (ms_E σh13 44 ((ms_I σh13 658)).toNatClampNeg)]) (rest := [.ref a0]) C Bh13 (m_X12_both n Γ l αh13 a0 ρ σh13 Mh13 (ms_I σh13 660) (ms_E σh13 44 ((ms_I σh13 658)).toNatClampNeg) rh15 qh15) lb_X12_both lv_X12_both lk_X12_136 Mh13.1 rfl (by omega) rfl hl.1 rfl (Nat.le_of_ble_eq_true rfl) dX12_foldsGrowth_92 ⟨Nat.le_refl _, Nat.le_refl _⟩) rfl (fun Hh15 Lh15 Bh15 => ?_)
        refine m_puti (k := 10) (φ := 660) (pc' := 98) C Bh15 Mh13 fl_X12_184 rfl rfl rfl rfl rfl dX12_foldsGrowth_95 rfl (fun αh16 Hh16 Lh16 σh16 eh16 Bh16 Mh16 => ?_)
        replace hf := ms_lE eh16 hf
        refine lv_goto (tgt := 157) hx hb dX12_foldsGrowth_98 (by decide) ?_
        exact J157 αh16 Hh16 Lh16 Bh16 σh16 Mh16 ls (lv_sub hl [1] rfl) hf
    ·
      replace hf := ms_iT c1 hf
      refine lv_aload_n hx hb dX12_foldsGrowth_5 rfl (lv_at hl 0 rfl) (hp_n (n := 6) rfl ?_)
      refine lv_iload hx hb dX12_foldsGrowth_6 (lv_at hl 4 rfl) (hp_n (n := 8) rfl ?_)
      have J24 : ∀ (αh17 : hp_T) (Hh17 : Heap) (Lh17 : List Loc) (Bh17 : hp_B Γ mo s α αh17 Hh17 Lh17) (σh17 : ms_T) (Mh17 : hm_M αh17 a0 ρ σh17) (v4_h17 : Int32) (w0_h17 : Int32) (ls : Array Slot) (hl : lv_has ls 6 [(0, .ref a0), (4, .int v4_h17)]) (hf : f_X12_foldsGrowth_J24 n (f_X12_foldsGrowth n d) σh17 v4_h17 w0_h17 = some res), W p l e (hp_rm (d + 1 + 1) 0 0) s m ([.ref a0, .int a1, .int a2, .int a3, .int a4] : List Value).toArray below meth c Hh17 Lh17 0 0 (MQ below (hp_Qv Γ (fun β => mo α β ∧ hm_M β a0 ρ res)) ([.ref a0, .int a1, .int a2, .int a3, .int a4] : List Value).toArray s 0 0 (hp_A Γ)) (F0 m 24 ls [.int w0_h17, .ref a0]) := by
        intro αh17 Hh17 Lh17 Bh17 σh17 Mh17 v4_h17 w0_h17 ls hl hf
        unfold f_X12_foldsGrowth_J24 at hf
        refine m_puti (k := 9) (φ := 659) (pc' := 27) C Bh17 Mh17 fl_X12_181 rfl rfl rfl rfl rfl dX12_foldsGrowth_24 rfl (fun αh18 Hh18 Lh18 σh18 eh18 Bh18 Mh18 => ?_)
        replace hf := ms_lE eh18 hf
        refine lv_aload_n hx hb dX12_foldsGrowth_27 rfl (lv_at hl 0 rfl) (hp_n (n := 28) rfl ?_)
        refine lv_aload_n hx hb dX12_foldsGrowth_28 rfl (lv_at hl 0 rfl) (hp_n (n := 29) rfl ?_)
        refine m_geti (k := 9) (φ := 659) (pc' := 32) C Bh18 Mh18 fl_X12_181 rfl rfl dX12_foldsGrowth_29 rfl ?_
        refine m_puti (k := 10) (φ := 660) (pc' := 35) C Bh18 Mh18 fl_X12_184 rfl rfl rfl rfl rfl dX12_foldsGrowth_32 rfl (fun αh19 Hh19 Lh19 σh19 eh19 Bh19 Mh19 => ?_)
        replace hf := ms_lE eh19 hf
        refine lv_aload_n hx hb dX12_foldsGrowth_35 rfl (lv_at hl 0 rfl) (hp_n (n := 36) rfl ?_)
        refine lv_dup hx hb dX12_foldsGrowth_36 rfl (hp_n (n := 37) rfl ?_)
        refine m_geti (k := 8) (φ := 658) (pc' := 40) C Bh19 Mh19 fl_X12_168 rfl rfl dX12_foldsGrowth_37 rfl ?_
        refine lv_iload hx hb dX12_foldsGrowth_40 (lv_at hl 1 rfl) (hp_n (n := 42) rfl ?_)
        have J50 : ∀ (αh20 : hp_T) (Hh20 : Heap) (Lh20 : List Loc) (Bh20 : hp_B Γ mo s α αh20 Hh20 Lh20) (σh20 : ms_T) (Mh20 : hm_M αh20 a0 ρ σh20) (w0_h20 : Int32) (w1_h20 : Int32) (ls : Array Slot) (hl : lv_has ls 6 []) (hf : f_X12_foldsGrowth_J50 n (f_X12_foldsGrowth n d) σh20 w0_h20 w1_h20 = some res), W p l e (hp_rm (d + 1 + 1) 0 0) s m ([.ref a0, .int a1, .int a2, .int a3, .int a4] : List Value).toArray below meth c Hh20 Lh20 0 0 (MQ below (hp_Qv Γ (fun β => mo α β ∧ hm_M β a0 ρ res)) ([.ref a0, .int a1, .int a2, .int a3, .int a4] : List Value).toArray s 0 0 (hp_A Γ)) (F0 m 50 ls [.int w0_h20, .int w1_h20, .ref a0]) := by
          intro αh20 Hh20 Lh20 Bh20 σh20 Mh20 w0_h20 w1_h20 ls hl hf
          unfold f_X12_foldsGrowth_J50 at hf
          refine lv_iadd hx hb dX12_foldsGrowth_50 (hp_n (n := 51) rfl ?_)
          refine m_puti (k := 8) (φ := 658) (pc' := 54) C Bh20 Mh20 fl_X12_168 rfl rfl rfl rfl rfl dX12_foldsGrowth_51 rfl (fun αh21 Hh21 Lh21 σh21 eh21 Bh21 Mh21 => ?_)
          replace hf := ms_lE eh21 hf
          cases hf
          exact q_vret C Bh21 hr hlk ⟨Bh21.2.2, Mh21⟩ dX12_foldsGrowth_54
        refine lv_if_eq (tgt := 49) hx hb dX12_foldsGrowth_42 (by decide) (fun c22 => ?_) (fun c22 => hp_n (n := 45) rfl ?_)
        ·
          replace hf := ms_iT c22 hf
          refine lv_iconst (v := 1) hx hb dX12_foldsGrowth_49 (by decide) (hp_n (n := 50) rfl ?_)
          exact J50 αh19 Hh19 Lh19 Bh19 σh19 Mh19 (1 : Int32) (ms_I σh19 658) ls (lv_sub hl [] rfl) hf
        ·
          replace hf := ms_iF c22 hf
          refine lv_iconst (v := 0) hx hb dX12_foldsGrowth_45 (by decide) (hp_n (n := 46) rfl ?_)
          refine lv_goto (tgt := 50) hx hb dX12_foldsGrowth_46 (by decide) ?_
          exact J50 αh19 Hh19 Lh19 Bh19 σh19 Mh19 (0 : Int32) (ms_I σh19 658) ls (lv_sub hl [] rfl) hf
      refine lv_if_eq (tgt := 15) hx hb dX12_foldsGrowth_8 (by decide) (fun c23 => ?_) (fun c23 => hp_n (n := 11) rfl ?_)
      ·
        replace hf := ms_iT c23 hf
        refine lv_aload_n hx hb dX12_foldsGrowth_15 rfl (lv_at hl 0 rfl) (hp_n (n := 16) rfl ?_)
        refine m_getr (κ := 44) (k := 6) (pc' := 19) C B hM fl_X12_22 rfl (by decide) dX12_foldsGrowth_16 rfl ?_
        refine lv_aload_n hx hb dX12_foldsGrowth_19 rfl (lv_at hl 0 rfl) (hp_n (n := 20) rfl ?_)
        refine m_geti (k := 8) (φ := 658) (pc' := 23) C B hM fl_X12_168 rfl rfl dX12_foldsGrowth_20 rfl ?_
        obtain ⟨g24, hf⟩ := ms_gE hf
        refine m_ial (κ := 44) (φ := 656) (n := 128) (pc' := 24) C B hM (by decide) (by decide) rfl g24 dX12_foldsGrowth_23 rfl ?_
        exact J24 α s.heap [] B σ hM a4 (ms_E σ 44 ((ms_I σ 658)).toNatClampNeg) ls (lv_sub hl [0, 4] rfl) hf
      ·
        replace hf := ms_iF c23 hf
        refine lv_iload_n hx hb dX12_foldsGrowth_11 rfl (lv_at hl 1 rfl) (hp_n (n := 12) rfl ?_)
        refine lv_goto (tgt := 24) hx hb dX12_foldsGrowth_12 (by decide) ?_
        exact J24 α s.heap [] B σ hM a4 a1 ls (lv_sub hl [0, 4] rfl) hf
