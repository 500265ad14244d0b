section JN5_0
def f_X12_status (n : Nat) (σ : ms_T) : Option (Int32 × ms_T) :=
  ms_l (ms_sI σ 653 (0 : Int32)) fun σh1 =>
  some ((ms_I σh1 652), σh1)
set_option maxRecDepth 100000 in
set_option maxHeartbeats 4000000 in
theorem m_X12_status (n : Nat) (Γ : hp_G) (l : Launch) (α : hp_T) (a0 : Nat) (ρ : Nat → Nat) (σ : ms_T) (hM : hm_M α a0 ρ σ)  (res : (Int32 × ms_T)) (hf : f_X12_status n σ = some res) : Met l yX12_status (hp_ws yX12_status cX12_status 1 (some .int)) (hp_rm 0 0 0) (hp_Pc Γ α [.ref a0]) (hp_Qi Γ (fun r β => r = res.1 ∧ mo α β ∧ hm_M β a0 ρ res.2)) 0 0 (hp_A Γ) := by
  unfold f_X12_status at hf
  refine hp_start (by decide) ?_
  intro p e s m below meth c C hr hlk B0 hnm
  have C : hp_C Γ p m c cX12_status 1 s ([.ref a0] : List Value).toArray RX12 := C
  have hx := C.1.1
  have hb := C.1.2.1
  have hown := C.1.2.2.2.1
  have hts := C.1.2.2.2.2
  have B : hp_B Γ mo s α α s.heap [] := ⟨B0.1, B0.2.1, mo_rf⟩
  have hl := lv_entry ([.ref a0]) (n := 1) (Nat.le_of_ble_eq_true rfl)
  show W p l e (hp_rm 0 0 0) s m ([.ref a0] : List Value).toArray below meth c s.heap [] 0 0 (MQ below (hp_Qi Γ (fun r β => r = res.1 ∧ mo α β ∧ hm_M β a0 ρ res.2)) ([.ref a0] : List Value).toArray s 0 0 (hp_A Γ)) (entryFrame m ([.ref a0] : List Value).toArray 1)
  rw [lg_entry_eq]
  generalize (lg_sl ([.ref a0]) ++ List.replicate (1 - (lg_sl ([.ref a0])).length) Slot.unset).toArray = ls at hl ⊢
  have hl : lv_has ls 1 [(0, .ref a0)] := hl
  refine lv_aload_n hx hb dX12_status_0 rfl (lv_at hl 0 rfl) (hp_n (n := 1) rfl ?_)
  refine lv_iconst (v := 0) hx hb dX12_status_1 (by decide) (hp_n (n := 2) rfl ?_)
  refine m_puti (k := 3) (φ := 653) (pc' := 5) C B hM fl_X12_106 rfl rfl rfl rfl rfl dX12_status_2 rfl (fun αh1 Hh1 Lh1 σh1 eh1 Bh1 Mh1 => ?_)
  replace hf := ms_lE eh1 hf
  refine lv_aload_n hx hb dX12_status_5 rfl (lv_at hl 0 rfl) (hp_n (n := 6) rfl ?_)
  refine m_geti (k := 2) (φ := 652) (pc' := 9) C Bh1 Mh1 fl_X12_109 rfl rfl dX12_status_6 rfl ?_
  cases hf
  exact q_iret C Bh1 hr hlk ⟨rfl, Bh1.2.2, Mh1⟩ dX12_status_9
def f_X12_refuse (n : Nat) (σ : ms_T) (a1 : Int32) : Option (Int32 × ms_T) :=
  ms_l (ms_sI σ 652 a1) fun σh1 =>
  some ((-1 : Int32), σh1)
set_option maxRecDepth 100000 in
set_option maxHeartbeats 4000000 in
theorem m_X12_refuse (n : Nat) (Γ : hp_G) (l : Launch) (α : hp_T) (a0 : Nat) (ρ : Nat → Nat) (σ : ms_T) (hM : hm_M α a0 ρ σ) (a1 : Int32) (res : (Int32 × ms_T)) (hf : f_X12_refuse n σ a1 = some res) : Met l yX12_refuse (hp_ws yX12_refuse cX12_refuse 2 (some .int)) (hp_rm 0 0 0) (hp_Pc Γ α [.ref a0, .int a1]) (hp_Qi Γ (fun r β => r = res.1 ∧ mo α β ∧ hm_M β a0 ρ res.2)) 0 0 (hp_A Γ) := by
  unfold f_X12_refuse at hf
  refine hp_start (by decide) ?_
  intro p e s m below meth c C hr hlk B0 hnm
  have C : hp_C Γ p m c cX12_refuse 2 s ([.ref a0, .int a1] : List Value).toArray RX12 := C
  have hx := C.1.1
  have hb := C.1.2.1
  have hown := C.1.2.2.2.1
  have hts := C.1.2.2.2.2
  have B : hp_B Γ mo s α α s.heap [] := ⟨B0.1, B0.2.1, mo_rf⟩
  have hl := lv_entry ([.ref a0, .int a1]) (n := 2) (Nat.le_of_ble_eq_true rfl)
  show W p l e (hp_rm 0 0 0) s m ([.ref a0, .int a1] : List Value).toArray below meth c s.heap [] 0 0 (MQ below (hp_Qi Γ (fun r β => r = res.1 ∧ mo α β ∧ hm_M β a0 ρ res.2)) ([.ref a0, .int a1] : List Value).toArray s 0 0 (hp_A Γ)) (entryFrame m ([.ref a0, .int a1] : List Value).toArray 2)
  rw [lg_entry_eq]
  generalize (lg_sl ([.ref a0, .int a1]) ++ List.replicate (2 - (lg_sl ([.ref a0, .int a1])).length) Slot.unset).toArray = ls at hl ⊢
  have hl : lv_has ls 2 [(0, .ref a0), (1, .int a1)] := hl
  refine lv_aload_n hx hb dX12_refuse_0 rfl (lv_at hl 0 rfl) (hp_n (n := 1) rfl ?_)
  refine lv_iload_n hx hb dX12_refuse_1 rfl (lv_at hl 1 rfl) (hp_n (n := 2) rfl ?_)
  refine m_puti (k := 2) (φ := 652) (pc' := 5) C B hM fl_X12_109 rfl rfl rfl rfl rfl dX12_refuse_2 rfl (fun αh1 Hh1 Lh1 σh1 eh1 Bh1 Mh1 => ?_)
  replace hf := ms_lE eh1 hf
  refine lv_iconst (v := (-1)) hx hb dX12_refuse_5 (by decide) (hp_n (n := 6) rfl ?_)
  cases hf
  exact q_iret C Bh1 hr hlk ⟨rfl, Bh1.2.2, Mh1⟩ dX12_refuse_6
def f_X12_is (n : Nat) (σ : ms_T) (a1 : Int32) : Option (Int32 × ms_T) :=
  ms_l (ms_sI σ 653 (0 : Int32)) fun σh1 =>
  ms_l (ms_sI σh1 652 a1) fun σh2 =>
  if a1 = 0 then
    some ((1 : Int32), σh2)
  else
    some ((0 : Int32), σh2)
set_option maxRecDepth 100000 in
set_option maxHeartbeats 4000000 in
theorem m_X12_is (n : Nat) (Γ : hp_G) (l : Launch) (α : hp_T) (a0 : Nat) (ρ : Nat → Nat) (σ : ms_T) (hM : hm_M α a0 ρ σ) (a1 : Int32) (res : (Int32 × ms_T)) (hf : f_X12_is n σ a1 = some res) : Met l yX12_is (hp_ws yX12_is cX12_is 2 (some .boolean)) (hp_rm 0 0 0) (hp_Pc Γ α [.ref a0, .int a1]) (hp_Qi Γ (fun r β => r = res.1 ∧ mo α β ∧ hm_M β a0 ρ res.2)) 0 0 (hp_A Γ) := by
  unfold f_X12_is at hf
  refine hp_start (by decide) ?_
  intro p e s m below meth c C hr hlk B0 hnm
  have C : hp_C Γ p m c cX12_is 2 s ([.ref a0, .int a1] : List Value).toArray RX12 := C
  have hx := C.1.1
  have hb := C.1.2.1
  have hown := C.1.2.2.2.1
  have hts := C.1.2.2.2.2
  have B : hp_B Γ mo s α α s.heap [] := ⟨B0.1, B0.2.1, mo_rf⟩
  have hl := lv_entry ([.ref a0, .int a1]) (n := 2) (Nat.le_of_ble_eq_true rfl)
  show W p l e (hp_rm 0 0 0) s m ([.ref a0, .int a1] : List Value).toArray below meth c s.heap [] 0 0 (MQ below (hp_Qi Γ (fun r β => r = res.1 ∧ mo α β ∧ hm_M β a0 ρ res.2)) ([.ref a0, .int a1] : List Value).toArray s 0 0 (hp_A Γ)) (entryFrame m ([.ref a0, .int a1] : List Value).toArray 2)
  rw [lg_entry_eq]
  generalize (lg_sl ([.ref a0, .int a1]) ++ List.replicate (2 - (lg_sl ([.ref a0, .int a1])).length) Slot.unset).toArray = ls at hl ⊢
  have hl : lv_has ls 2 [(0, .ref a0), (1, .int a1)] := hl
  refine lv_aload_n hx hb dX12_is_0 rfl (lv_at hl 0 rfl) (hp_n (n := 1) rfl ?_)
  refine lv_iconst (v := 0) hx hb dX12_is_1 (by decide) (hp_n (n := 2) rfl ?_)
  refine m_puti (k := 3) (φ := 653) (pc' := 5) C B hM fl_X12_106 rfl rfl rfl rfl rfl dX12_is_2 rfl (fun αh1 Hh1 Lh1 σh1 eh1 Bh1 Mh1 => ?_)
  replace hf := ms_lE eh1 hf
  refine lv_aload_n hx hb dX12_is_5 rfl (lv_at hl 0 rfl) (hp_n (n := 6) rfl ?_)
  refine lv_iload_n hx hb dX12_is_6 rfl (lv_at hl 1 rfl) (hp_n (n := 7) rfl ?_)
  refine m_puti (k := 2) (φ := 652) (pc' := 10) C Bh1 Mh1 fl_X12_109 rfl rfl rfl rfl rfl dX12_is_7 rfl (fun αh2 Hh2 Lh2 σh2 eh2 Bh2 Mh2 => ?_)
  replace hf := ms_lE eh2 hf
  refine lv_iload_n hx hb dX12_is_10 rfl (lv_at hl 1 rfl) (hp_n (n := 11) rfl ?_)
  refine lv_if_ne (tgt := 18) hx hb dX12_is_11 (by decide) (fun c3 => ?_) (fun c3 => hp_n (n := 14) rfl ?_)
  ·
    replace hf := ms_iF c3 hf
    refine lv_iconst (v := 0) hx hb dX12_is_18 (by decide) (hp_n (n := 19) rfl ?_)
    cases hf
    exact q_zret C Bh2 hr hlk (by decide) ⟨rfl, Bh2.2.2, Mh2⟩ dX12_is_19
  ·
    replace hf := ms_iT c3 hf
    refine lv_iconst (v := 1) hx hb dX12_is_14 (by decide) (hp_n (n := 15) rfl ?_)
    refine lv_goto (tgt := 19) hx hb dX12_is_15 (by decide) ?_
    cases hf
    exact q_zret C Bh2 hr hlk (by decide) ⟨rfl, Bh2.2.2, Mh2⟩ dX12_is_19
def f_X12_isIn (n : Nat) (a0 : Int32) (a1 : Int32) (a2 : Int32) : Option Int32 :=
  if a0 < a1 then
    some (0 : Int32)
  else
    if a2 < a0 then
      some (0 : Int32)
    else
      some (1 : Int32)
set_option maxRecDepth 100000 in
set_option maxHeartbeats 4000000 in
theorem m_X12_isIn (n : Nat) (Γ : hp_G) (l : Launch) (α : hp_T) (a0 : Int32) (a1 : Int32) (a2 : Int32) (res : Int32) (hf : f_X12_isIn n a0 a1 a2 = some res) : Met l yX12_isIn (hp_ws yX12_isIn cX12_isIn 3 (some .boolean)) (hp_rm 0 0 0) (hp_Pc Γ α [.int a0, .int a1, .int a2]) (hp_Qi Γ (fun r β => β = α ∧ r = res)) 0 0 (hp_A Γ) := by
  unfold f_X12_isIn at hf
  refine hp_start (by decide) ?_
  intro p e s m below meth c C hr hlk B0 hnm
  have C : hp_C Γ p m c cX12_isIn 3 s ([.int a0, .int a1, .int a2] : List Value).toArray RX12 := C
  have hx := C.1.1
  have hb := C.1.2.1
  have hown := C.1.2.2.2.1
  have hts := C.1.2.2.2.2
  have B : hp_B Γ (fun _ _ => True) s α α s.heap [] := ⟨B0.1, B0.2.1, trivial⟩
  have hl := lv_entry ([.int a0, .int a1, .int a2]) (n := 3) (Nat.le_of_ble_eq_true rfl)
  show W p l e (hp_rm 0 0 0) s m ([.int a0, .int a1, .int a2] : List Value).toArray below meth c s.heap [] 0 0 (MQ below (hp_Qi Γ (fun r β => β = α ∧ r = res)) ([.int a0, .int a1, .int a2] : List Value).toArray s 0 0 (hp_A Γ)) (entryFrame m ([.int a0, .int a1, .int a2] : List Value).toArray 3)
  rw [lg_entry_eq]
  generalize (lg_sl ([.int a0, .int a1, .int a2]) ++ List.replicate (3 - (lg_sl ([.int a0, .int a1, .int a2])).length) Slot.unset).toArray = ls at hl ⊢
  have hl : lv_has ls 3 [(0, .int a0), (1, .int a1), (2, .int a2)] := hl
  refine lv_iload_n hx hb dX12_isIn_0 rfl (lv_at hl 0 rfl) (hp_n (n := 1) rfl ?_)
  refine lv_iload_n hx hb dX12_isIn_1 rfl (lv_at hl 1 rfl) (hp_n (n := 2) rfl ?_)
  refine lv_icmp_lt (tgt := 14) hx hb dX12_isIn_2 (by decide) (fun c1 => ?_) (fun c1 => hp_n (n := 5) rfl ?_)
  ·
    replace hf := ms_iT c1 hf
    refine lv_iconst (v := 0) hx hb dX12_isIn_14 (by decide) (hp_n (n := 15) rfl ?_)
    cases hf
    exact q_zret C B hr hlk (by decide) ⟨rfl, rfl⟩ dX12_isIn_15
  ·
    replace hf := ms_iF c1 hf
    refine lv_iload_n hx hb dX12_isIn_5 rfl (lv_at hl 0 rfl) (hp_n (n := 6) rfl ?_)
    refine lv_iload_n hx hb dX12_isIn_6 rfl (lv_at hl 2 rfl) (hp_n (n := 7) rfl ?_)
    refine lv_icmp_gt (tgt := 14) hx hb dX12_isIn_7 (by decide) (fun c2 => ?_) (fun c2 => hp_n (n := 10) rfl ?_)
    ·
      replace hf := ms_iT c2 hf
      refine lv_iconst (v := 0) hx hb dX12_isIn_14 (by decide) (hp_n (n := 15) rfl ?_)
      cases hf
      exact q_zret C B hr hlk (by decide) ⟨rfl, rfl⟩ dX12_isIn_15
    ·
      replace hf := ms_iF c2 hf
      refine lv_iconst (v := 1) hx hb dX12_isIn_10 (by decide) (hp_n (n := 11) rfl ?_)
      refine lv_goto (tgt := 15) hx hb dX12_isIn_11 (by decide) ?_
      cases hf
      exact q_zret C B hr hlk (by decide) ⟨rfl, rfl⟩ dX12_isIn_15
def f_X12_clears_L2 (n : Nat) : Nat → ms_T → Int32 → Option ms_T
  | 0, _, _ => none
  | k2 + 1, σh1, v1_h1 =>
    if (1980 : Int32) ≤ v1_h1 then
      ms_g (0 : Int32) 1980 <|
      ms_l (ms_sE σh1 40 ((0 : Int32)).toNatClampNeg (1 : Int32)) fun σh4 =>
      ms_g (1 : Int32) 1980 <|
      ms_l (ms_sE σh4 40 ((1 : Int32)).toNatClampNeg (65521 : Int32)) fun σh6 =>
      some σh6
    else
      ms_g v1_h1 1980 <|
      ms_l (ms_sE σh1 40 (v1_h1).toNatClampNeg (0 : Int32)) fun σh8 =>
      ms_l (v1_h1 + 1) fun x9 =>
      (f_X12_clears_L2 n k2) σh8 x9
def f_X12_clears (n : Nat) (σ : ms_T) : Option ms_T :=
  f_X12_clears_L2 n n σ (0 : Int32)
set_option maxRecDepth 100000 in
set_option maxHeartbeats 4000000 in
theorem m_X12_clears (n : Nat) (Γ : hp_G) (l : Launch) (α : hp_T) (a0 : Nat) (ρ : Nat → Nat) (σ : ms_T) (hM : hm_M α a0 ρ σ)  (res : ms_T) (hf : f_X12_clears n σ = some res) : Met l yX12_clears (hp_ws yX12_clears cX12_clears 2 none) (hp_rm 0 0 0) (hp_Pc Γ α [.ref a0]) (hp_Qv Γ (fun β => mo α β ∧ hm_M β a0 ρ res)) 0 0 (hp_A Γ) := by
  unfold f_X12_clears at hf
  refine hp_start (by decide) ?_
  intro p e s m below meth c C hr hlk B0 hnm
  have C : hp_C Γ p m c cX12_clears 2 s ([.ref a0] : List Value).toArray RX12 := C
  have hx := C.1.1
  have hb := C.1.2.1
  have hown := C.1.2.2.2.1
  have hts := C.1.2.2.2.2
  have B : hp_B Γ mo s α α s.heap [] := ⟨B0.1, B0.2.1, mo_rf⟩
  have hl := lv_entry ([.ref a0]) (n := 2) (Nat.le_of_ble_eq_true rfl)
  show W p l e (hp_rm 0 0 0) s m ([.ref a0] : List Value).toArray below meth c s.heap [] 0 0 (MQ below (hp_Qv Γ (fun β => mo α β ∧ hm_M β a0 ρ res)) ([.ref a0] : List Value).toArray s 0 0 (hp_A Γ)) (entryFrame m ([.ref a0] : List Value).toArray 2)
  rw [lg_entry_eq]
  generalize (lg_sl ([.ref a0]) ++ List.replicate (2 - (lg_sl ([.ref a0])).length) Slot.unset).toArray = ls at hl ⊢
  have hl : lv_has ls 2 [(0, .ref a0)] := hl
  refine lv_iconst (v := 0) hx hb dX12_clears_0 (by decide) (hp_n (n := 1) rfl ?_)
  have J2 : ∀ (k2 : Nat) (αh1 : hp_T) (Hh1 : Heap) (Lh1 : List Loc) (Bh1 : hp_B Γ mo s α αh1 Hh1 Lh1) (σh1 : ms_T) (Mh1 : hm_M αh1 a0 ρ σh1) (v1_h1 : Int32) (ls : Array Slot) (hl : lv_has ls 2 [(0, .ref a0), (1, .int v1_h1)]) (hf : f_X12_clears_L2 n k2 σh1 v1_h1 = some res), W p l e (hp_rm 0 0 0) s m ([.ref a0] : List Value).toArray below meth c Hh1 Lh1 0 0 (MQ below (hp_Qv Γ (fun β => mo α β ∧ hm_M β a0 ρ res)) ([.ref a0] : List Value).toArray s 0 0 (hp_A Γ)) (F0 m 2 ls []) := by
    intro k2
    induction k2 with
    | zero => intro αh1 Hh1 Lh1 Bh1 σh1 Mh1 v1_h1 ls hl hf; rw [f_X12_clears_L2.eq_1] at hf; cases hf
    | succ k2 ih2 =>
      intro αh1 Hh1 Lh1 Bh1 σh1 Mh1 v1_h1 ls hl hf
      rw [f_X12_clears_L2.eq_2] at hf
      refine lv_iload_n hx hb dX12_clears_2 rfl (lv_at hl 1 rfl) (hp_n (n := 3) rfl ?_)
      refine lv_sipush (v := 1980) hx hb dX12_clears_3 (by decide) (hp_n (n := 6) rfl ?_)
      refine lv_icmp_ge (tgt := 22) hx hb dX12_clears_6 (by decide) (fun c2 => ?_) (fun c2 => hp_n (n := 9) rfl ?_)
      ·
        replace hf := ms_iT c2 hf
        refine lv_aload_n hx hb dX12_clears_22 rfl (lv_at hl 0 rfl) (hp_n (n := 23) rfl ?_)
        refine m_getr (κ := 40) (k := 0) (pc' := 26) C Bh1 Mh1 fl_X12_7 rfl (by decide) dX12_clears_23 rfl ?_
        refine lv_iconst (v := 0) hx hb dX12_clears_26 (by decide) (hp_n (n := 27) rfl ?_)
        refine lv_iconst (v := 1) hx hb dX12_clears_27 (by decide) (hp_n (n := 28) rfl ?_)
        obtain ⟨g3, hf⟩ := ms_gE hf
        refine m_ias (κ := 40) (φ := 650) (n := 1980) (pc' := 29) C Bh1 Mh1 (by decide) (by decide) rfl g3 dX12_clears_28 rfl (fun αh4 Hh4 Lh4 σh4 eh4 Bh4 Mh4 => ?_)
        replace hf := ms_lE eh4 hf
        refine lv_aload_n hx hb dX12_clears_29 rfl (lv_at hl 0 rfl) (hp_n (n := 30) rfl ?_)
        refine m_getr (κ := 40) (k := 0) (pc' := 33) C Bh4 Mh4 fl_X12_7 rfl (by decide) dX12_clears_30 rfl ?_
        refine lv_iconst (v := 1) hx hb dX12_clears_33 (by decide) (hp_n (n := 34) rfl ?_)
        refine lv_ldc hx hb hown (hts _ kc_X12_112) dX12_clears_34 (hp_n (n := 36) rfl ?_)
        obtain ⟨g5, hf⟩ := ms_gE hf
        refine m_ias (κ := 40) (φ := 650) (n := 1980) (pc' := 37) C Bh4 Mh4 (by decide) (by decide) rfl g5 dX12_clears_36 rfl (fun αh6 Hh6 Lh6 σh6 eh6 Bh6 Mh6 => ?_)
        replace hf := ms_lE eh6 hf
        cases hf
        exact q_vret C Bh6 hr hlk ⟨Bh6.2.2, Mh6⟩ dX12_clears_37
      ·
        replace hf := ms_iF c2 hf
        refine lv_aload_n hx hb dX12_clears_9 rfl (lv_at hl 0 rfl) (hp_n (n := 10) rfl ?_)
        refine m_getr (κ := 40) (k := 0) (pc' := 13) C Bh1 Mh1 fl_X12_7 rfl (by decide) dX12_clears_10 rfl ?_
        refine lv_iload_n hx hb dX12_clears_13 rfl (lv_at hl 1 rfl) (hp_n (n := 14) rfl ?_)
        refine lv_iconst (v := 0) hx hb dX12_clears_14 (by decide) (hp_n (n := 15) rfl ?_)
        obtain ⟨g7, hf⟩ := ms_gE hf
        refine m_ias (κ := 40) (φ := 650) (n := 1980) (pc' := 16) C Bh1 Mh1 (by decide) (by decide) rfl g7 dX12_clears_15 rfl (fun αh8 Hh8 Lh8 σh8 eh8 Bh8 Mh8 => ?_)
        replace hf := ms_lE eh8 hf
        obtain ⟨x9, ex9⟩ : ∃ y : Int32, y = v1_h1 + 1 := ⟨_, rfl⟩
        replace hf := ms_lE ex9 hf
        refine lv_iinc (v := x9) (lv' := [(1, .int x9), (0, .ref a0)]) hx hb dX12_clears_16 hl (k := 1) rfl (by rw [ex9]; rfl) (by decide) rfl (fun ls hl => hp_n (n := 19) rfl ?_)
        refine lv_goto (tgt := 2) hx hb dX12_clears_19 (by decide) ?_
        exact ih2 αh8 Hh8 Lh8 Bh8 σh8 Mh8 x9 ls (lv_sub hl [1, 0] rfl) hf
  refine lv_istore_n (lv' := [(1, .int (0 : Int32)), (0, .ref a0)]) hx hb dX12_clears_1 rfl hl (by decide) rfl (fun ls hl => hp_n (n := 2) rfl ?_)
  exact J2 n α s.heap [] B σ hM (0 : Int32) ls (lv_sub hl [1, 0] rfl) hf
def f_X12_isRecord (n : Nat) (σ : ms_T) (a1 : Int32) : Option Int32 :=
  ms_g (0 : Int32) 1980 <|
  ms_b (f_X12_isIn n a1 (0 : Int32) ((ms_E σ 40 ((0 : Int32)).toNatClampNeg) - (1 : Int32))) fun rh2 =>
  ms_z rh2 <|
  some rh2
set_option maxRecDepth 100000 in
set_option maxHeartbeats 4000000 in
theorem m_X12_isRecord (n : Nat) (Γ : hp_G) (l : Launch) (α : hp_T) (a0 : Nat) (ρ : Nat → Nat) (σ : ms_T) (hM : hm_M α a0 ρ σ) (a1 : Int32) (res : Int32) (hf : f_X12_isRecord n σ a1 = some res) : Met l yX12_isRecord (hp_ws yX12_isRecord cX12_isRecord 2 (some .boolean)) (hp_rm 1 0 0) (hp_Pc Γ α [.ref a0, .int a1]) (hp_Qi Γ (fun r β => β = α ∧ r = res)) 0 0 (hp_A Γ) := by
  unfold f_X12_isRecord at hf
  refine hp_start (by decide) ?_
  intro p e s m below meth c C hr hlk B0 hnm
  have C : hp_C Γ p m c cX12_isRecord 2 s ([.ref a0, .int a1] : List Value).toArray RX12 := C
  have hx := C.1.1
  have hb := C.1.2.1
  have hown := C.1.2.2.2.1
  have hts := C.1.2.2.2.2
  have B : hp_B Γ (fun _ _ => True) s α α s.heap [] := ⟨B0.1, B0.2.1, trivial⟩
  have hl := lv_entry ([.ref a0, .int a1]) (n := 2) (Nat.le_of_ble_eq_true rfl)
  show W p l e (hp_rm 1 0 0) s m ([.ref a0, .int a1] : List Value).toArray below meth c s.heap [] 0 0 (MQ below (hp_Qi Γ (fun r β => β = α ∧ r = res)) ([.ref a0, .int a1] : List Value).toArray s 0 0 (hp_A Γ)) (entryFrame m ([.ref a0, .int a1] : List Value).toArray 2)
  rw [lg_entry_eq]
  generalize (lg_sl ([.ref a0, .int a1]) ++ List.replicate (2 - (lg_sl ([.ref a0, .int a1])).length) Slot.unset).toArray = ls at hl ⊢
  have hl : lv_has ls 2 [(0, .ref a0), (1, .int a1)] := hl
  refine lv_iload_n hx hb dX12_isRecord_0 rfl (lv_at hl 1 rfl) (hp_n (n := 1) rfl ?_)
  refine lv_iconst (v := 0) hx hb dX12_isRecord_1 (by decide) (hp_n (n := 2) rfl ?_)
  refine lv_aload_n hx hb dX12_isRecord_2 rfl (lv_at hl 0 rfl) (hp_n (n := 3) rfl ?_)
  refine m_getr (κ := 40) (k := 0) (pc' := 6) C B hM fl_X12_7 rfl (by decide) dX12_isRecord_3 rfl ?_
  refine lv_iconst (v := 0) hx hb dX12_isRecord_6 (by decide) (hp_n (n := 7) rfl ?_)
  obtain ⟨g1, hf⟩ := ms_gE hf
  refine m_ial (κ := 40) (φ := 650) (n := 1980) (pc' := 8) C B hM (by decide) (by decide) rfl g1 dX12_isRecord_7 rfl ?_
  refine lv_iconst (v := 1) hx hb dX12_isRecord_8 (by decide) (hp_n (n := 9) rfl ?_)
  refine lv_isub hx hb dX12_isRecord_9 (hp_n (n := 10) rfl ?_)
  obtain ⟨rh2, qh2, hf⟩ := ms_bE hf
  refine m_cp (pc' := 13) B (hp_runS (As := [.int a1, .int (0 : Int32), .int ((ms_E σ 40 ((0 : Int32)).toNatClampNeg) - (1 : Int32))]) (rest := []) C B (m_X12_isIn n Γ l α a1 (0 : Int32) ((ms_E σ 40 ((0 : Int32)).toNatClampNeg) - (1 : Int32)) rh2 qh2) lb_X12_isIn ls_X12_isIn lk_X12_113 rfl (by decide) rfl hl.1 rfl (Nat.le_of_ble_eq_true rfl) dX12_isRecord_10 ⟨Nat.le_refl _, Nat.le_refl _⟩) rfl (fun Hh2 Lh2 Bh2 => ?_)
  obtain ⟨g3, hf⟩ := ms_zE hf
  cases hf
  exact q_zret C Bh2 hr hlk (nz_z g3) ⟨rfl, rfl⟩ dX12_isRecord_13
def f_X12_sizeOf (n : Nat) (σ : ms_T) (a1 : Int32) : Option Int32 :=
  ms_g ((72 : Int32) + a1) 1980 <|
  some (ms_E σ 40 (((72 : Int32) + a1)).toNatClampNeg)
set_option maxRecDepth 100000 in
set_option maxHeartbeats 4000000 in
theorem m_X12_sizeOf (n : Nat) (Γ : hp_G) (l : Launch) (α : hp_T) (a0 : Nat) (ρ : Nat → Nat) (σ : ms_T) (hM : hm_M α a0 ρ σ) (a1 : Int32) (res : Int32) (hf : f_X12_sizeOf n σ a1 = some res) : Met l yX12_sizeOf (hp_ws yX12_sizeOf cX12_sizeOf 2 (some .int)) (hp_rm 0 0 0) (hp_Pc Γ α [.ref a0, .int a1]) (hp_Qi Γ (fun r β => β = α ∧ r = res)) 0 0 (hp_A Γ) := by
  unfold f_X12_sizeOf at hf
  refine hp_start (by decide) ?_
  intro p e s m below meth c C hr hlk B0 hnm
  have C : hp_C Γ p m c cX12_sizeOf 2 s ([.ref a0, .int a1] : List Value).toArray RX12 := C
  have hx := C.1.1
  have hb := C.1.2.1
  have hown := C.1.2.2.2.1
  have hts := C.1.2.2.2.2
  have B : hp_B Γ (fun _ _ => True) s α α s.heap [] := ⟨B0.1, B0.2.1, trivial⟩
  have hl := lv_entry ([.ref a0, .int a1]) (n := 2) (Nat.le_of_ble_eq_true rfl)
  show W p l e (hp_rm 0 0 0) s m ([.ref a0, .int a1] : List Value).toArray below meth c s.heap [] 0 0 (MQ below (hp_Qi Γ (fun r β => β = α ∧ r = res)) ([.ref a0, .int a1] : List Value).toArray s 0 0 (hp_A Γ)) (entryFrame m ([.ref a0, .int a1] : List Value).toArray 2)
  rw [lg_entry_eq]
  generalize (lg_sl ([.ref a0, .int a1]) ++ List.replicate (2 - (lg_sl ([.ref a0, .int a1])).length) Slot.unset).toArray = ls at hl ⊢
  have hl : lv_has ls 2 [(0, .ref a0), (1, .int a1)] := hl
  refine lv_aload_n hx hb dX12_sizeOf_0 rfl (lv_at hl 0 rfl) (hp_n (n := 1) rfl ?_)
  refine m_getr (κ := 40) (k := 0) (pc' := 4) C B hM fl_X12_7 rfl (by decide) dX12_sizeOf_1 rfl ?_
  refine lv_bipush (v := 72) hx hb dX12_sizeOf_4 (by decide) (hp_n (n := 6) rfl ?_)
  refine lv_iload_n hx hb dX12_sizeOf_6 rfl (lv_at hl 1 rfl) (hp_n (n := 7) rfl ?_)
  refine lv_iadd hx hb dX12_sizeOf_7 (hp_n (n := 8) rfl ?_)
  obtain ⟨g1, hf⟩ := ms_gE hf
  refine m_ial (κ := 40) (φ := 650) (n := 1980) (pc' := 9) C B hM (by decide) (by decide) rfl g1 dX12_sizeOf_8 rfl ?_
  cases hf
  exact q_iret C B hr hlk ⟨rfl, rfl⟩ dX12_sizeOf_9
def f_X12_isMark (n : Nat) (σ : ms_T) (a1 : Int32) : Option Int32 :=
  ms_g (1 : Int32) 1980 <|
  ms_b (f_X12_isIn n a1 (0 : Int32) ((ms_E σ 40 ((1 : Int32)).toNatClampNeg) - (1 : Int32))) fun rh2 =>
  ms_z rh2 <|
  some rh2
set_option maxRecDepth 100000 in
set_option maxHeartbeats 4000000 in
theorem m_X12_isMark (n : Nat) (Γ : hp_G) (l : Launch) (α : hp_T) (a0 : Nat) (ρ : Nat → Nat) (σ : ms_T) (hM : hm_M α a0 ρ σ) (a1 : Int32) (res : Int32) (hf : f_X12_isMark n σ a1 = some res) : Met l yX12_isMark (hp_ws yX12_isMark cX12_isMark 2 (some .boolean)) (hp_rm 1 0 0) (hp_Pc Γ α [.ref a0, .int a1]) (hp_Qi Γ (fun r β => β = α ∧ r = res)) 0 0 (hp_A Γ) := by
  unfold f_X12_isMark at hf
  refine hp_start (by decide) ?_
  intro p e s m below meth c C hr hlk B0 hnm
  have C : hp_C Γ p m c cX12_isMark 2 s ([.ref a0, .int a1] : List Value).toArray RX12 := C
  have hx := C.1.1
  have hb := C.1.2.1
  have hown := C.1.2.2.2.1
  have hts := C.1.2.2.2.2
  have B : hp_B Γ (fun _ _ => True) s α α s.heap [] := ⟨B0.1, B0.2.1, trivial⟩
  have hl := lv_entry ([.ref a0, .int a1]) (n := 2) (Nat.le_of_ble_eq_true rfl)
  show W p l e (hp_rm 1 0 0) s m ([.ref a0, .int a1] : List Value).toArray below meth c s.heap [] 0 0 (MQ below (hp_Qi Γ (fun r β => β = α ∧ r = res)) ([.ref a0, .int a1] : List Value).toArray s 0 0 (hp_A Γ)) (entryFrame m ([.ref a0, .int a1] : List Value).toArray 2)
  rw [lg_entry_eq]
  generalize (lg_sl ([.ref a0, .int a1]) ++ List.replicate (2 - (lg_sl ([.ref a0, .int a1])).length) Slot.unset).toArray = ls at hl ⊢
  have hl : lv_has ls 2 [(0, .ref a0), (1, .int a1)] := hl
  refine lv_iload_n hx hb dX12_isMark_0 rfl (lv_at hl 1 rfl) (hp_n (n := 1) rfl ?_)
  refine lv_iconst (v := 0) hx hb dX12_isMark_1 (by decide) (hp_n (n := 2) rfl ?_)
  refine lv_aload_n hx hb dX12_isMark_2 rfl (lv_at hl 0 rfl) (hp_n (n := 3) rfl ?_)
  refine m_getr (κ := 40) (k := 0) (pc' := 6) C B hM fl_X12_7 rfl (by decide) dX12_isMark_3 rfl ?_
  refine lv_iconst (v := 1) hx hb dX12_isMark_6 (by decide) (hp_n (n := 7) rfl ?_)
  obtain ⟨g1, hf⟩ := ms_gE hf
  refine m_ial (κ := 40) (φ := 650) (n := 1980) (pc' := 8) C B hM (by decide) (by decide) rfl g1 dX12_isMark_7 rfl ?_
  refine lv_iconst (v := 1) hx hb dX12_isMark_8 (by decide) (hp_n (n := 9) rfl ?_)
  refine lv_isub hx hb dX12_isMark_9 (hp_n (n := 10) rfl ?_)
  obtain ⟨rh2, qh2, hf⟩ := ms_bE hf
  refine m_cp (pc' := 13) B (hp_runS (As := [.int a1, .int (0 : Int32), .int ((ms_E σ 40 ((1 : Int32)).toNatClampNeg) - (1 : Int32))]) (rest := []) C B (m_X12_isIn n Γ l α a1 (0 : Int32) ((ms_E σ 40 ((1 : Int32)).toNatClampNeg) - (1 : Int32)) rh2 qh2) lb_X12_isIn ls_X12_isIn lk_X12_113 rfl (by decide) rfl hl.1 rfl (Nat.le_of_ble_eq_true rfl) dX12_isMark_10 ⟨Nat.le_refl _, Nat.le_refl _⟩) rfl (fun Hh2 Lh2 Bh2 => ?_)
  obtain ⟨g3, hf⟩ := ms_zE hf
  cases hf
  exact q_zret C Bh2 hr hlk (nz_z g3) ⟨rfl, rfl⟩ dX12_isMark_13
def f_X12_mixed (n : Nat) (σ : ms_T) (a1 : Int32) (a2 : Int32) : Option Int32 :=
  ms_g (1 : Int32) 1980 <|
  ms_nl ((ms_E σ 40 ((1 : Int32)).toNatClampNeg)).toInt64 <|
  some (((((((a1).toInt64 * (a1).toInt64) + ((3 : Int64) * (a1).toInt64)) + (a2).toInt64) + (7 : Int64)) - (((((a1).toInt64 * (a1).toInt64) + ((3 : Int64) * (a1).toInt64)) + (a2).toInt64) + (7 : Int64)) / ((ms_E σ 40 ((1 : Int32)).toNatClampNeg)).toInt64 * ((ms_E σ 40 ((1 : Int32)).toNatClampNeg)).toInt64)).toInt32
set_option maxRecDepth 100000 in
set_option maxHeartbeats 4000000 in
theorem m_X12_mixed (n : Nat) (Γ : hp_G) (l : Launch) (α : hp_T) (a0 : Nat) (ρ : Nat → Nat) (σ : ms_T) (hM : hm_M α a0 ρ σ) (a1 : Int32) (a2 : Int32) (res : Int32) (hf : f_X12_mixed n σ a1 a2 = some res) : Met l yX12_mixed (hp_ws yX12_mixed cX12_mixed 3 (some .int)) (hp_rm 0 0 0) (hp_Pc Γ α [.ref a0, .int a1, .int a2]) (hp_Qi Γ (fun r β => β = α ∧ r = res)) 0 0 (hp_A Γ) := by
  unfold f_X12_mixed at hf
  refine hp_start (by decide) ?_
  intro p e s m below meth c C hr hlk B0 hnm
  have C : hp_C Γ p m c cX12_mixed 3 s ([.ref a0, .int a1, .int a2] : List Value).toArray RX12 := C
  have hx := C.1.1
  have hb := C.1.2.1
  have hown := C.1.2.2.2.1
  have hts := C.1.2.2.2.2
  have B : hp_B Γ (fun _ _ => True) s α α s.heap [] := ⟨B0.1, B0.2.1, trivial⟩
  have hl := lv_entry ([.ref a0, .int a1, .int a2]) (n := 3) (Nat.le_of_ble_eq_true rfl)
  show W p l e (hp_rm 0 0 0) s m ([.ref a0, .int a1, .int a2] : List Value).toArray below meth c s.heap [] 0 0 (MQ below (hp_Qi Γ (fun r β => β = α ∧ r = res)) ([.ref a0, .int a1, .int a2] : List Value).toArray s 0 0 (hp_A Γ)) (entryFrame m ([.ref a0, .int a1, .int a2] : List Value).toArray 3)
  rw [lg_entry_eq]
  generalize (lg_sl ([.ref a0, .int a1, .int a2]) ++ List.replicate (3 - (lg_sl ([.ref a0, .int a1, .int a2])).length) Slot.unset).toArray = ls at hl ⊢
  have hl : lv_has ls 3 [(0, .ref a0), (1, .int a1), (2, .int a2)] := hl
  refine lv_iload_n hx hb dX12_mixed_0 rfl (lv_at hl 1 rfl) (hp_n (n := 1) rfl ?_)
  refine lv_i2l hx hb dX12_mixed_1 rfl (hp_n (n := 2) rfl ?_)
  refine lv_iload_n hx hb dX12_mixed_2 rfl (lv_at hl 1 rfl) (hp_n (n := 3) rfl ?_)
  refine lv_i2l hx hb dX12_mixed_3 rfl (hp_n (n := 4) rfl ?_)
  refine lv_lmul hx hb dX12_mixed_4 (hp_n (n := 5) rfl ?_)
  refine lv_ldc2 hx hb hown (hts _ kc_X12_117) dX12_mixed_5 (hp_n (n := 8) rfl ?_)
  refine lv_iload_n hx hb dX12_mixed_8 rfl (lv_at hl 1 rfl) (hp_n (n := 9) rfl ?_)
  refine lv_i2l hx hb dX12_mixed_9 rfl (hp_n (n := 10) rfl ?_)
  refine lv_lmul hx hb dX12_mixed_10 (hp_n (n := 11) rfl ?_)
  refine lv_ladd hx hb dX12_mixed_11 (hp_n (n := 12) rfl ?_)
  refine lv_iload_n hx hb dX12_mixed_12 rfl (lv_at hl 2 rfl) (hp_n (n := 13) rfl ?_)
  refine lv_i2l hx hb dX12_mixed_13 rfl (hp_n (n := 14) rfl ?_)
  refine lv_ladd hx hb dX12_mixed_14 (hp_n (n := 15) rfl ?_)
  refine lv_ldc2 hx hb hown (hts _ kc_X12_119) dX12_mixed_15 (hp_n (n := 18) rfl ?_)
  refine lv_ladd hx hb dX12_mixed_18 (hp_n (n := 19) rfl ?_)
  refine lv_aload_n hx hb dX12_mixed_19 rfl (lv_at hl 0 rfl) (hp_n (n := 20) rfl ?_)
  refine m_getr (κ := 40) (k := 0) (pc' := 23) C B hM fl_X12_7 rfl (by decide) dX12_mixed_20 rfl ?_
  refine lv_iconst (v := 1) hx hb dX12_mixed_23 (by decide) (hp_n (n := 24) rfl ?_)
  obtain ⟨g1, hf⟩ := ms_gE hf
  refine m_ial (κ := 40) (φ := 650) (n := 1980) (pc' := 25) C B hM (by decide) (by decide) rfl g1 dX12_mixed_24 rfl ?_
  refine lv_i2l hx hb dX12_mixed_25 rfl (hp_n (n := 26) rfl ?_)
  obtain ⟨g2, hf⟩ := ms_nlE hf
  refine lv_lrem hx hb dX12_mixed_26 g2 (hp_n (n := 27) rfl ?_)
  refine lv_l2i hx hb dX12_mixed_27 rfl (hp_n (n := 28) rfl ?_)
  cases hf
  exact q_iret C B hr hlk ⟨rfl, rfl⟩ dX12_mixed_28
def f_X12_both (n : Nat) (σ : ms_T) (a1 : Int32) (a2 : Int32) : Option Int32 :=
  ms_b (f_X12_mixed n σ (2 : Int32) a1) fun rh1 =>
  ms_b (f_X12_mixed n σ rh1 a2) fun rh2 =>
  some rh2
set_option maxRecDepth 100000 in
set_option maxHeartbeats 4000000 in
theorem m_X12_both (n : Nat) (Γ : hp_G) (l : Launch) (α : hp_T) (a0 : Nat) (ρ : Nat → Nat) (σ : ms_T) (hM : hm_M α a0 ρ σ) (a1 : Int32) (a2 : Int32) (res : Int32) (hf : f_X12_both n σ a1 a2 = some res) : Met l yX12_both (hp_ws yX12_both cX12_both 3 (some .int)) (hp_rm 1 0 0) (hp_Pc Γ α [.ref a0, .int a1, .int a2]) (hp_Qi Γ (fun r β => β = α ∧ r = res)) 0 0 (hp_A Γ) := by
  unfold f_X12_both at hf
  refine hp_start (by decide) ?_
  intro p e s m below meth c C hr hlk B0 hnm
  have C : hp_C Γ p m c cX12_both 3 s ([.ref a0, .int a1, .int a2] : List Value).toArray RX12 := C
  have hx := C.1.1
  have hb := C.1.2.1
  have hown := C.1.2.2.2.1
  have hts := C.1.2.2.2.2
  have B : hp_B Γ (fun _ _ => True) s α α s.heap [] := ⟨B0.1, B0.2.1, trivial⟩
  have hl := lv_entry ([.ref a0, .int a1, .int a2]) (n := 3) (Nat.le_of_ble_eq_true rfl)
  show W p l e (hp_rm 1 0 0) s m ([.ref a0, .int a1, .int a2] : List Value).toArray below meth c s.heap [] 0 0 (MQ below (hp_Qi Γ (fun r β => β = α ∧ r = res)) ([.ref a0, .int a1, .int a2] : List Value).toArray s 0 0 (hp_A Γ)) (entryFrame m ([.ref a0, .int a1, .int a2] : List Value).toArray 3)
  rw [lg_entry_eq]
  generalize (lg_sl ([.ref a0, .int a1, .int a2]) ++ List.replicate (3 - (lg_sl ([.ref a0, .int a1, .int a2])).length) Slot.unset).toArray = ls at hl ⊢
  have hl : lv_has ls 3 [(0, .ref a0), (1, .int a1), (2, .int a2)] := hl
  refine lv_aload_n hx hb dX12_both_0 rfl (lv_at hl 0 rfl) (hp_n (n := 1) rfl ?_)
  refine lv_aload_n hx hb dX12_both_1 rfl (lv_at hl 0 rfl) (hp_n (n := 2) rfl ?_)
  refine lv_iconst (v := 2) hx hb dX12_both_2 (by decide) (hp_n (n := 3) rfl ?_)
  refine lv_iload_n hx hb dX12_both_3 rfl (lv_at hl 1 rfl) (hp_n (n := 4) rfl ?_)
  obtain ⟨rh1, qh1, hf⟩ := ms_bE hf
  refine m_cp (pc' := 7) B (hp_runV (As := [.int (2 : Int32), .int a1]) (rest := [.ref a0]) C B (m_X12_mixed n Γ l α a0 ρ σ hM (2 : Int32) a1 rh1 qh1) lb_X12_mixed lv_X12_mixed lk_X12_121 hM.1 rfl (by decide) rfl hl.1 rfl (Nat.le_of_ble_eq_true rfl) dX12_both_4 ⟨Nat.le_refl _, Nat.le_refl _⟩) rfl (fun Hh1 Lh1 Bh1 => ?_)
  refine lv_iload_n hx hb dX12_both_7 rfl (lv_at hl 2 rfl) (hp_n (n := 8) rfl ?_)
  obtain ⟨rh2, qh2, hf⟩ := ms_bE hf
  refine m_cp (pc' := 11) Bh1 (hp_runV (As := [.int rh1, .int a2]) (rest := []) C Bh1 (m_X12_mixed n Γ l α a0 ρ σ hM rh1 a2 rh2 qh2) lb_X12_mixed lv_X12_mixed lk_X12_121 hM.1 rfl (by decide) rfl hl.1 rfl (Nat.le_of_ble_eq_true rfl) dX12_both_8 ⟨Nat.le_refl _, Nat.le_refl _⟩) rfl (fun Hh2 Lh2 Bh2 => ?_)
  cases hf
  exact q_iret C Bh2 hr hlk ⟨rfl, rfl⟩ dX12_both_11
def f_X12_entryMark_L13 (n : Nat) (σ : ms_T) : Nat → Int32 → Int32 → Int32 → Option Int32
  | 0, _, _, _ => none
  | k13 + 1, v3_h2, v4_h2, v5_h2 =>
    ms_g ((252 : Int32) + v4_h2) 1980 <|
    if (ms_E σ 40 (((252 : Int32) + v4_h2)).toNatClampNeg) ≤ v5_h2 then
      some v3_h2
    else
      ms_g (((444 : Int32) + ((8 : Int32) * v4_h2)) + v5_h2) 1980 <|
      ms_b (f_X12_mixed n σ v3_h2 (ms_E σ 40 ((((444 : Int32) + ((8 : Int32) * v4_h2)) + v5_h2)).toNatClampNeg)) fun rh6 =>
      ms_l (v5_h2 + 1) fun x7 =>
      (f_X12_entryMark_L13 n σ k13) rh6 v4_h2 x7
def f_X12_entryMark (n : Nat) (σ : ms_T) (a1 : Int32) (a2 : Int32) : Option Int32 :=
  ms_l ((((48 : Int32) * a1) + a2)) fun x1 =>
  f_X12_entryMark_L13 n σ n (1 : Int32) x1 (0 : Int32)
set_option maxRecDepth 100000 in
set_option maxHeartbeats 4000000 in
theorem m_X12_entryMark (n : Nat) (Γ : hp_G) (l : Launch) (α : hp_T) (a0 : Nat) (ρ : Nat → Nat) (σ : ms_T) (hM : hm_M α a0 ρ σ) (a1 : Int32) (a2 : Int32) (res : Int32) (hf : f_X12_entryMark n σ a1 a2 = some res) : Met l yX12_entryMark (hp_ws yX12_entryMark cX12_entryMark 6 (some .int)) (hp_rm 1 0 0) (hp_Pc Γ α [.ref a0, .int a1, .int a2]) (hp_Qi Γ (fun r β => β = α ∧ r = res)) 0 0 (hp_A Γ) := by
  unfold f_X12_entryMark at hf
  refine hp_start (by decide) ?_
  intro p e s m below meth c C hr hlk B0 hnm
  have C : hp_C Γ p m c cX12_entryMark 6 s ([.ref a0, .int a1, .int a2] : List Value).toArray RX12 := C
  have hx := C.1.1
  have hb := C.1.2.1
  have hown := C.1.2.2.2.1
  have hts := C.1.2.2.2.2
  have B : hp_B Γ (fun _ _ => True) s α α s.heap [] := ⟨B0.1, B0.2.1, trivial⟩
  have hl := lv_entry ([.ref a0, .int a1, .int a2]) (n := 6) (Nat.le_of_ble_eq_true rfl)
  show W p l e (hp_rm 1 0 0) s m ([.ref a0, .int a1, .int a2] : List Value).toArray below meth c s.heap [] 0 0 (MQ below (hp_Qi Γ (fun r β => β = α ∧ r = res)) ([.ref a0, .int a1, .int a2] : List Value).toArray s 0 0 (hp_A Γ)) (entryFrame m ([.ref a0, .int a1, .int a2] : List Value).toArray 6)
  rw [lg_entry_eq]
  generalize (lg_sl ([.ref a0, .int a1, .int a2]) ++ List.replicate (6 - (lg_sl ([.ref a0, .int a1, .int a2])).length) Slot.unset).toArray = ls at hl ⊢
  have hl : lv_has ls 6 [(0, .ref a0), (1, .int a1), (2, .int a2)] := hl
  refine lv_iconst (v := 1) hx hb dX12_entryMark_0 (by decide) (hp_n (n := 1) rfl ?_)
  refine lv_istore_n (lv' := [(3, .int (1 : Int32)), (0, .ref a0), (1, .int a1), (2, .int a2)]) hx hb dX12_entryMark_1 rfl hl (by decide) rfl (fun ls hl => hp_n (n := 2) rfl ?_)
  refine lv_bipush (v := 48) hx hb dX12_entryMark_2 (by decide) (hp_n (n := 4) rfl ?_)
  refine lv_iload_n hx hb dX12_entryMark_4 rfl (lv_at hl 2 rfl) (hp_n (n := 5) rfl ?_)
  refine lv_imul hx hb dX12_entryMark_5 (hp_n (n := 6) rfl ?_)
  refine lv_iload_n hx hb dX12_entryMark_6 rfl (lv_at hl 3 rfl) (hp_n (n := 7) rfl ?_)
  refine lv_iadd hx hb dX12_entryMark_7 (hp_n (n := 8) rfl ?_)
  refine lv_topi (fun x1 ex1 => ?_)
  replace hf := ms_lE ex1 hf
  refine lv_istore (lv' := [(4, .int x1), (3, .int (1 : Int32)), (0, .ref a0), (1, .int a1), (2, .int a2)]) hx hb dX12_entryMark_8 hl (by decide) rfl (fun ls hl => hp_n (n := 10) rfl ?_)
  refine lv_iconst (v := 0) hx hb dX12_entryMark_10 (by decide) (hp_n (n := 11) rfl ?_)
  have J13 : ∀ (k13 : Nat) (Hh2 : Heap) (Lh2 : List Loc) (Bh2 : hp_B Γ (fun _ _ => True) s α α Hh2 Lh2) (v3_h2 : Int32) (v4_h2 : Int32) (v5_h2 : Int32) (ls : Array Slot) (hl : lv_has ls 6 [(0, .ref a0), (3, .int v3_h2), (4, .int v4_h2), (5, .int v5_h2)]) (hf : f_X12_entryMark_L13 n σ k13 v3_h2 v4_h2 v5_h2 = some res), W p l e (hp_rm 1 0 0) s m ([.ref a0, .int a1, .int a2] : List Value).toArray below meth c Hh2 Lh2 0 0 (MQ below (hp_Qi Γ (fun r β => β = α ∧ r = res)) ([.ref a0, .int a1, .int a2] : List Value).toArray s 0 0 (hp_A Γ)) (F0 m 13 ls []) := by
    intro k13
    induction k13 with
    | zero => intro Hh2 Lh2 Bh2 v3_h2 v4_h2 v5_h2 ls hl hf; rw [f_X12_entryMark_L13.eq_1] at hf; cases hf
    | succ k13 ih13 =>
      intro Hh2 Lh2 Bh2 v3_h2 v4_h2 v5_h2 ls hl hf
      rw [f_X12_entryMark_L13.eq_2] at hf
      refine lv_iload hx hb dX12_entryMark_13 (lv_at hl 3 rfl) (hp_n (n := 15) rfl ?_)
      refine lv_aload_n hx hb dX12_entryMark_15 rfl (lv_at hl 0 rfl) (hp_n (n := 16) rfl ?_)
      refine m_getr (κ := 40) (k := 0) (pc' := 19) C Bh2 hM fl_X12_7 rfl (by decide) dX12_entryMark_16 rfl ?_
      refine lv_sipush (v := 252) hx hb dX12_entryMark_19 (by decide) (hp_n (n := 22) rfl ?_)
      refine lv_iload hx hb dX12_entryMark_22 (lv_at hl 2 rfl) (hp_n (n := 24) rfl ?_)
      refine lv_iadd hx hb dX12_entryMark_24 (hp_n (n := 25) rfl ?_)
      obtain ⟨g3, hf⟩ := ms_gE hf
      refine m_ial (κ := 40) (φ := 650) (n := 1980) (pc' := 26) C Bh2 hM (by decide) (by decide) rfl g3 dX12_entryMark_25 rfl ?_
      refine lv_icmp_ge (tgt := 58) hx hb dX12_entryMark_26 (by decide) (fun c4 => ?_) (fun c4 => hp_n (n := 29) rfl ?_)
      ·
        replace hf := ms_iT c4 hf
        refine lv_iload_n hx hb dX12_entryMark_58 rfl (lv_at hl 1 rfl) (hp_n (n := 59) rfl ?_)
        cases hf
        exact q_iret C Bh2 hr hlk ⟨rfl, rfl⟩ dX12_entryMark_59
      ·
        replace hf := ms_iF c4 hf
        refine lv_aload_n hx hb dX12_entryMark_29 rfl (lv_at hl 0 rfl) (hp_n (n := 30) rfl ?_)
        refine lv_iload_n hx hb dX12_entryMark_30 rfl (lv_at hl 1 rfl) (hp_n (n := 31) rfl ?_)
        refine lv_aload_n hx hb dX12_entryMark_31 rfl (lv_at hl 0 rfl) (hp_n (n := 32) rfl ?_)
        refine m_getr (κ := 40) (k := 0) (pc' := 35) C Bh2 hM fl_X12_7 rfl (by decide) dX12_entryMark_32 rfl ?_
        refine lv_sipush (v := 444) hx hb dX12_entryMark_35 (by decide) (hp_n (n := 38) rfl ?_)
        refine lv_bipush (v := 8) hx hb dX12_entryMark_38 (by decide) (hp_n (n := 40) rfl ?_)
        refine lv_iload hx hb dX12_entryMark_40 (lv_at hl 2 rfl) (hp_n (n := 42) rfl ?_)
        refine lv_imul hx hb dX12_entryMark_42 (hp_n (n := 43) rfl ?_)
        refine lv_iadd hx hb dX12_entryMark_43 (hp_n (n := 44) rfl ?_)
        refine lv_iload hx hb dX12_entryMark_44 (lv_at hl 3 rfl) (hp_n (n := 46) rfl ?_)
        refine lv_iadd hx hb dX12_entryMark_46 (hp_n (n := 47) rfl ?_)
        obtain ⟨g5, hf⟩ := ms_gE hf
        refine m_ial (κ := 40) (φ := 650) (n := 1980) (pc' := 48) C Bh2 hM (by decide) (by decide) rfl g5 dX12_entryMark_47 rfl ?_
        obtain ⟨rh6, qh6, hf⟩ := ms_bE hf
        refine m_cp (pc' := 51) Bh2 (hp_runV (As := [.int v3_h2, .int (ms_E σ 40 ((((444 : Int32) + ((8 : Int32) * v4_h2)) + v5_h2)).toNatClampNeg)]) (rest := []) C Bh2 (m_X12_mixed n Γ l α a0 ρ σ hM v3_h2 (ms_E σ 40 ((((444 : Int32) + ((8 : Int32) * v4_h2)) + v5_h2)).toNatClampNeg) rh6 qh6) lb_X12_mixed lv_X12_mixed lk_X12_121 hM.1 rfl (by decide) rfl hl.1 rfl (Nat.le_of_ble_eq_true rfl) dX12_entryMark_48 ⟨Nat.le_refl _, Nat.le_refl _⟩) rfl (fun Hh6 Lh6 Bh6 => ?_)
        refine lv_istore_n (lv' := [(3, .int rh6), (0, .ref a0), (4, .int v4_h2), (5, .int v5_h2)]) hx hb dX12_entryMark_51 rfl hl (by decide) rfl (fun ls hl => hp_n (n := 52) rfl ?_)
        obtain ⟨x7, ex7⟩ : ∃ y : Int32, y = v5_h2 + 1 := ⟨_, rfl⟩
        replace hf := ms_lE ex7 hf
        refine lv_iinc (v := x7) (lv' := [(5, .int x7), (3, .int rh6), (0, .ref a0), (4, .int v4_h2)]) hx hb dX12_entryMark_52 hl (k := 3) rfl (by rw [ex7]; rfl) (by decide) rfl (fun ls hl => hp_n (n := 55) rfl ?_)
        refine lv_goto (tgt := 13) hx hb dX12_entryMark_55 (by decide) ?_
        exact ih13 Hh6 Lh6 Bh6 rh6 v4_h2 x7 ls (lv_sub hl [2, 1, 3, 0] rfl) hf
  refine lv_istore (lv' := [(5, .int (0 : Int32)), (4, .int x1), (3, .int (1 : Int32)), (0, .ref a0), (1, .int a1), (2, .int a2)]) hx hb dX12_entryMark_11 hl (by decide) rfl (fun ls hl => hp_n (n := 13) rfl ?_)
  exact J13 n s.heap [] B (1 : Int32) x1 (0 : Int32) ls (lv_sub hl [3, 2, 1, 0] rfl) hf
def f_X12_part0_L2 (n : Nat) : Nat → Int32 → Int32 → Option Int32
  | 0, _, _ => none
  | k2 + 1, v0_h1, v1_h1 =>
    if (v0_h1 - v1_h1) ≤ v1_h1 then
      some v1_h1
    else
      ms_l ((v1_h1 + v1_h1)) fun x3 =>
      (f_X12_part0_L2 n k2) v0_h1 x3
def f_X12_part0 (n : Nat) (a0 : Int32) : Option Int32 :=
  f_X12_part0_L2 n n a0 (1 : Int32)
set_option maxRecDepth 100000 in
set_option maxHeartbeats 4000000 in
theorem m_X12_part0 (n : Nat) (Γ : hp_G) (l : Launch) (α : hp_T) (a0 : Int32) (res : Int32) (hf : f_X12_part0 n a0 = some res) : Met l yX12_part0 (hp_ws yX12_part0 cX12_part0 2 (some .int)) (hp_rm 0 0 0) (hp_Pc Γ α [.int a0]) (hp_Qi Γ (fun r β => β = α ∧ r = res)) 0 0 (hp_A Γ) := by
  unfold f_X12_part0 at hf
  refine hp_start (by decide) ?_
  intro p e s m below meth c C hr hlk B0 hnm
  have C : hp_C Γ p m c cX12_part0 2 s ([.int a0] : List Value).toArray RX12 := C
  have hx := C.1.1
  have hb := C.1.2.1
  have hown := C.1.2.2.2.1
  have hts := C.1.2.2.2.2
  have B : hp_B Γ (fun _ _ => True) s α α s.heap [] := ⟨B0.1, B0.2.1, trivial⟩
  have hl := lv_entry ([.int a0]) (n := 2) (Nat.le_of_ble_eq_true rfl)
  show W p l e (hp_rm 0 0 0) s m ([.int a0] : List Value).toArray below meth c s.heap [] 0 0 (MQ below (hp_Qi Γ (fun r β => β = α ∧ r = res)) ([.int a0] : List Value).toArray s 0 0 (hp_A Γ)) (entryFrame m ([.int a0] : List Value).toArray 2)
  rw [lg_entry_eq]
  generalize (lg_sl ([.int a0]) ++ List.replicate (2 - (lg_sl ([.int a0])).length) Slot.unset).toArray = ls at hl ⊢
  have hl : lv_has ls 2 [(0, .int a0)] := hl
  refine lv_iconst (v := 1) hx hb dX12_part0_0 (by decide) (hp_n (n := 1) rfl ?_)
  have J2 : ∀ (k2 : Nat) (Hh1 : Heap) (Lh1 : List Loc) (Bh1 : hp_B Γ (fun _ _ => True) s α α Hh1 Lh1) (v0_h1 : Int32) (v1_h1 : Int32) (ls : Array Slot) (hl : lv_has ls 2 [(0, .int v0_h1), (1, .int v1_h1)]) (hf : f_X12_part0_L2 n k2 v0_h1 v1_h1 = some res), W p l e (hp_rm 0 0 0) s m ([.int a0] : List Value).toArray below meth c Hh1 Lh1 0 0 (MQ below (hp_Qi Γ (fun r β => β = α ∧ r = res)) ([.int a0] : List Value).toArray s 0 0 (hp_A Γ)) (F0 m 2 ls []) := by
    intro k2
    induction k2 with
    | zero => intro Hh1 Lh1 Bh1 v0_h1 v1_h1 ls hl hf; rw [f_X12_part0_L2.eq_1] at hf; cases hf
    | succ k2 ih2 =>
      intro Hh1 Lh1 Bh1 v0_h1 v1_h1 ls hl hf
      rw [f_X12_part0_L2.eq_2] at hf
      refine lv_iload_n hx hb dX12_part0_2 rfl (lv_at hl 1 rfl) (hp_n (n := 3) rfl ?_)
      refine lv_iload_n hx hb dX12_part0_3 rfl (lv_at hl 0 rfl) (hp_n (n := 4) rfl ?_)
      refine lv_iload_n hx hb dX12_part0_4 rfl (lv_at hl 1 rfl) (hp_n (n := 5) rfl ?_)
      refine lv_isub hx hb dX12_part0_5 (hp_n (n := 6) rfl ?_)
      refine lv_icmp_ge (tgt := 16) hx hb dX12_part0_6 (by decide) (fun c2 => ?_) (fun c2 => hp_n (n := 9) rfl ?_)
      ·
        replace hf := ms_iT c2 hf
        refine lv_iload_n hx hb dX12_part0_16 rfl (lv_at hl 1 rfl) (hp_n (n := 17) rfl ?_)
        cases hf
        exact q_iret C Bh1 hr hlk ⟨rfl, rfl⟩ dX12_part0_17
      ·
        replace hf := ms_iF c2 hf
        refine lv_iload_n hx hb dX12_part0_9 rfl (lv_at hl 1 rfl) (hp_n (n := 10) rfl ?_)
        refine lv_iload_n hx hb dX12_part0_10 rfl (lv_at hl 1 rfl) (hp_n (n := 11) rfl ?_)
        refine lv_iadd hx hb dX12_part0_11 (hp_n (n := 12) rfl ?_)
        refine lv_topi (fun x3 ex3 => ?_)
        replace hf := ms_lE ex3 hf
        refine lv_istore_n (lv' := [(1, .int x3), (0, .int v0_h1)]) hx hb dX12_part0_12 rfl hl (by decide) rfl (fun ls hl => hp_n (n := 13) rfl ?_)
        refine lv_goto (tgt := 2) hx hb dX12_part0_13 (by decide) ?_
        exact ih2 Hh1 Lh1 Bh1 v0_h1 x3 ls (lv_sub hl [1, 0] rfl) hf
  refine lv_istore_n (lv' := [(1, .int (1 : Int32)), (0, .int a0)]) hx hb dX12_part0_1 rfl hl (by decide) rfl (fun ls hl => hp_n (n := 2) rfl ?_)
  exact J2 n s.heap [] B a0 (1 : Int32) ls (lv_sub hl [1, 0] rfl) hf
def f_X12_treeMark (n : Nat) : Nat → ms_T → Int32 → Int32 → Int32 → Option Int32
  | 0, _, _, _, _ => none
  | d + 1, σ, a1, a2, a3 =>
    if a3 = 0 then
      some (0 : Int32)
    else
      if a3 = (1 : Int32) then
        ms_b (f_X12_entryMark n σ a1 a2) fun rh7 =>
        some rh7
      else
        ms_b (f_X12_part0 n a3) fun rh3 =>
        ms_b ((f_X12_treeMark n d σ) a1 a2 rh3) fun rh4 =>
        ms_b ((f_X12_treeMark n d σ) a1 (a2 + rh3) (a3 - rh3)) fun rh5 =>
        ms_b (f_X12_both n σ rh4 rh5) fun rh6 =>
        some rh6
set_option maxRecDepth 100000 in
set_option maxHeartbeats 4000000 in
theorem m_X12_treeMark (n : Nat) : ∀ (d : Nat) (Γ : hp_G) (l : Launch) (α : hp_T) (a0 : Nat) (ρ : Nat → Nat) (σ : ms_T) (hM : hm_M α a0 ρ σ) (a1 : Int32) (a2 : Int32) (a3 : Int32) (res : Int32) (hf : f_X12_treeMark n d σ a1 a2 a3 = some res), Met l yX12_treeMark (hp_ws yX12_treeMark cX12_treeMark 5 (some .int)) (hp_rm (d + 1) 0 0) (hp_Pc Γ α [.ref a0, .int a1, .int a2, .int a3]) (hp_Qi Γ (fun r β => β = α ∧ r = res)) 0 0 (hp_A Γ) := by
  intro d
  induction d with
  | zero => intro Γ l α a0 ρ σ hM a1 a2 a3 res hf; rw [f_X12_treeMark.eq_1] at hf; cases hf
  | succ d ihM =>
    intro Γ l α a0 ρ σ hM a1 a2 a3 res hf
    rw [f_X12_treeMark.eq_2] at hf
    refine hp_start (by decide) ?_
    intro p e s m below meth c C hr hlk B0 hnm
    have C : hp_C Γ p m c cX12_treeMark 5 s ([.ref a0, .int a1, .int a2, .int a3] : List Value).toArray RX12 := C
    have hx := C.1.1
    have hb := C.1.2.1
    have hown := C.1.2.2.2.1
    have hts := C.1.2.2.2.2
    have B : hp_B Γ (fun _ _ => True) s α α s.heap [] := ⟨B0.1, B0.2.1, trivial⟩
    have hl := lv_entry ([.ref a0, .int a1, .int a2, .int a3]) (n := 5) (Nat.le_of_ble_eq_true rfl)
    show W p l e (hp_rm (d + 1 + 1) 0 0) s m ([.ref a0, .int a1, .int a2, .int a3] : List Value).toArray below meth c s.heap [] 0 0 (MQ below (hp_Qi Γ (fun r β => β = α ∧ r = res)) ([.ref a0, .int a1, .int a2, .int a3] : List Value).toArray s 0 0 (hp_A Γ)) (entryFrame m ([.ref a0, .int a1, .int a2, .int a3] : List Value).toArray 5)
    rw [lg_entry_eq]
    generalize (lg_sl ([.ref a0, .int a1, .int a2, .int a3]) ++ List.replicate (5 - (lg_sl ([.ref a0, .int a1, .int a2, .int a3])).length) Slot.unset).toArray = ls at hl ⊢
    have hl : lv_has ls 5 [(0, .ref a0), (1, .int a1), (2, .int a2), (3, .int a3)] := hl
    refine lv_iload_n hx hb dX12_treeMark_0 rfl (lv_at hl 3 rfl) (hp_n (n := 1) rfl ?_)
    refine lv_if_ne (tgt := 6) hx hb dX12_treeMark_1 (by decide) (fun c1 => ?_) (fun c1 => hp_n (n := 4) rfl ?_)
    ·
      replace hf := ms_iF c1 hf
      refine lv_iload_n hx hb dX12_treeMark_6 rfl (lv_at hl 3 rfl) (hp_n (n := 7) rfl ?_)
      refine lv_iconst (v := 1) hx hb dX12_treeMark_7 (by decide) (hp_n (n := 8) rfl ?_)
      refine lv_icmp_ne (tgt := 18) hx hb dX12_treeMark_8 (by decide) (fun c2 => ?_) (fun c2 => hp_n (n := 11) rfl ?_)
      ·
        replace hf := ms_iF c2 hf
        refine lv_iload_n hx hb dX12_treeMark_18 rfl (lv_at hl 3 rfl) (hp_n (n := 19) rfl ?_)
        obtain ⟨rh3, qh3, hf⟩ := ms_bE hf
        refine m_cp (pc' := 22) B (hp_runS (As := [.int a3]) (rest := []) C B (m_X12_part0 n Γ l α a3 rh3 qh3) lb_X12_part0 ls_X12_part0 lk_X12_128 rfl (by omega) rfl hl.1 rfl (Nat.le_of_ble_eq_true rfl) dX12_treeMark_19 ⟨Nat.le_refl _, Nat.le_refl _⟩) rfl (fun Hh3 Lh3 Bh3 => ?_)
        refine lv_istore (lv' := [(4, .int rh3), (0, .ref a0), (1, .int a1), (2, .int a2), (3, .int a3)]) hx hb dX12_treeMark_22 hl (by decide) rfl (fun ls hl => hp_n (n := 24) rfl ?_)
        refine lv_aload_n hx hb dX12_treeMark_24 rfl (lv_at hl 1 rfl) (hp_n (n := 25) rfl ?_)
        refine lv_aload_n hx hb dX12_treeMark_25 rfl (lv_at hl 1 rfl) (hp_n (n := 26) rfl ?_)
        refine lv_iload_n hx hb dX12_treeMark_26 rfl (lv_at hl 2 rfl) (hp_n (n := 27) rfl ?_)
        refine lv_iload_n hx hb dX12_treeMark_27 rfl (lv_at hl 3 rfl) (hp_n (n := 28) rfl ?_)
        refine lv_iload hx hb dX12_treeMark_28 (lv_at hl 0 rfl) (hp_n (n := 30) rfl ?_)
        obtain ⟨rh4, qh4, hf⟩ := ms_bE hf
        refine m_cp (pc' := 33) Bh3 (hp_runV (As := [.int a1, .int a2, .int rh3]) (rest := [.ref a0]) C Bh3 (ihM Γ l α a0 ρ σ hM a1 a2 rh3 rh4 qh4) lb_X12_treeMark lv_X12_treeMark lk_X12_132 hM.1 rfl (by omega) rfl hl.1 rfl (Nat.le_of_ble_eq_true rfl) dX12_treeMark_30 ⟨Nat.le_refl _, Nat.le_refl _⟩) rfl (fun Hh4 Lh4 Bh4 => ?_)
        refine lv_aload_n hx hb dX12_treeMark_33 rfl (lv_at hl 1 rfl) (hp_n (n := 34) rfl ?_)
        refine lv_iload_n hx hb dX12_treeMark_34 rfl (lv_at hl 2 rfl) (hp_n (n := 35) rfl ?_)
        refine lv_iload_n hx hb dX12_treeMark_35 rfl (lv_at hl 3 rfl) (hp_n (n := 36) rfl ?_)
        refine lv_iload hx hb dX12_treeMark_36 (lv_at hl 0 rfl) (hp_n (n := 38) rfl ?_)
        refine lv_iadd hx hb dX12_treeMark_38 (hp_n (n := 39) rfl ?_)
        refine lv_iload_n hx hb dX12_treeMark_39 rfl (lv_at hl 4 rfl) (hp_n (n := 40) rfl ?_)
        refine lv_iload hx hb dX12_treeMark_40 (lv_at hl 0 rfl) (hp_n (n := 42) rfl ?_)
        refine lv_isub hx hb dX12_treeMark_42 (hp_n (n := 43) rfl ?_)
        obtain ⟨rh5, qh5, hf⟩ := ms_bE hf
        refine m_cp (pc' := 46) Bh4 (hp_runV (As := [.int a1, .int (a2 + rh3), .int (a3 - rh3)]) (rest := [.int rh4, .ref a0]) C Bh4 (ihM Γ l α a0 ρ σ hM a1 (a2 + rh3) (a3 - rh3) rh5 qh5) lb_X12_treeMark lv_X12_treeMark lk_X12_132 hM.1 rfl (by omega) rfl hl.1 rfl (Nat.le_of_ble_eq_true rfl) dX12_treeMark_43 ⟨Nat.le_refl _, Nat.le_refl _⟩) rfl (fun Hh5 Lh5 Bh5 => ?_)
        obtain ⟨rh6, qh6, hf⟩ := ms_bE hf
        refine m_cp (pc' := 49) Bh5 (hp_runV (As := [.int rh4, .int rh5]) (rest := []) C Bh5 (m_X12_both n Γ l α a0 ρ σ hM rh4 rh5 rh6 qh6) lb_X12_both lv_X12_both lk_X12_136 hM.1 rfl (by omega) rfl hl.1 rfl (Nat.le_of_ble_eq_true rfl) dX12_treeMark_46 ⟨Nat.le_refl _, Nat.le_refl _⟩) rfl (fun Hh6 Lh6 Bh6 => ?_)
        cases hf
        exact q_iret C Bh6 hr hlk ⟨rfl, rfl⟩ dX12_treeMark_49
      ·
        replace hf := ms_iT c2 hf
        refine lv_aload_n hx hb dX12_treeMark_11 rfl (lv_at hl 0 rfl) (hp_n (n := 12) rfl ?_)
        refine lv_iload_n hx hb dX12_treeMark_12 rfl (lv_at hl 1 rfl) (hp_n (n := 13) rfl ?_)
        refine lv_iload_n hx hb dX12_treeMark_13 rfl (lv_at hl 2 rfl) (hp_n (n := 14) rfl ?_)
        obtain ⟨rh7, qh7, hf⟩ := ms_bE hf
        refine m_cp (pc' := 17) B (hp_runV (As := [.int a1, .int a2]) (rest := []) C B (m_X12_entryMark n Γ l α a0 ρ σ hM a1 a2 rh7 qh7) lb_X12_entryMark lv_X12_entryMark lk_X12_125 hM.1 rfl (by omega) rfl hl.1 rfl (Nat.le_of_ble_eq_true rfl) dX12_treeMark_14 ⟨Nat.le_refl _, Nat.le_refl _⟩) rfl (fun Hh7 Lh7 Bh7 => ?_)
        cases hf
        exact q_iret C Bh7 hr hlk ⟨rfl, rfl⟩ dX12_treeMark_17
    ·
      replace hf := ms_iT c1 hf
      refine lv_iconst (v := 0) hx hb dX12_treeMark_4 (by decide) (hp_n (n := 5) rfl ?_)
      cases hf
      exact q_iret C B hr hlk ⟨rfl, rfl⟩ dX12_treeMark_5
def f_X12_headOf (n : Nat) (σ : ms_T) (a1 : Int32) (a2 : Int32) : Option Int32 :=
  ms_b (f_X12_treeMark n 40 σ a1 (0 : Int32) a2) fun rh1 =>
  some rh1
set_option maxRecDepth 100000 in
set_option maxHeartbeats 4000000 in
theorem m_X12_headOf (n : Nat) (Γ : hp_G) (l : Launch) (α : hp_T) (a0 : Nat) (ρ : Nat → Nat) (σ : ms_T) (hM : hm_M α a0 ρ σ) (a1 : Int32) (a2 : Int32) (res : Int32) (hf : f_X12_headOf n σ a1 a2 = some res) : Met l yX12_headOf (hp_ws yX12_headOf cX12_headOf 3 (some .int)) (hp_rm 42 0 0) (hp_Pc Γ α [.ref a0, .int a1, .int a2]) (hp_Qi Γ (fun r β => β = α ∧ r = res)) 0 0 (hp_A Γ) := by
  unfold f_X12_headOf at hf
  refine hp_start (by decide) ?_
  intro p e s m below meth c C hr hlk B0 hnm
  have C : hp_C Γ p m c cX12_headOf 3 s ([.ref a0, .int a1, .int a2] : List Value).toArray RX12 := C
  have hx := C.1.1
  have hb := C.1.2.1
  have hown := C.1.2.2.2.1
  have hts := C.1.2.2.2.2
  have B : hp_B Γ (fun _ _ => True) s α α s.heap [] := ⟨B0.1, B0.2.1, trivial⟩
  have hl := lv_entry ([.ref a0, .int a1, .int a2]) (n := 3) (Nat.le_of_ble_eq_true rfl)
  show W p l e (hp_rm 42 0 0) s m ([.ref a0, .int a1, .int a2] : List Value).toArray below meth c s.heap [] 0 0 (MQ below (hp_Qi Γ (fun r β => β = α ∧ r = res)) ([.ref a0, .int a1, .int a2] : List Value).toArray s 0 0 (hp_A Γ)) (entryFrame m ([.ref a0, .int a1, .int a2] : List Value).toArray 3)
  rw [lg_entry_eq]
  generalize (lg_sl ([.ref a0, .int a1, .int a2]) ++ List.replicate (3 - (lg_sl ([.ref a0, .int a1, .int a2])).length) Slot.unset).toArray = ls at hl ⊢
  have hl : lv_has ls 3 [(0, .ref a0), (1, .int a1), (2, .int a2)] := hl
  refine lv_aload_n hx hb dX12_headOf_0 rfl (lv_at hl 0 rfl) (hp_n (n := 1) rfl ?_)
  refine lv_iload_n hx hb dX12_headOf_1 rfl (lv_at hl 1 rfl) (hp_n (n := 2) rfl ?_)
  refine lv_iconst (v := 0) hx hb dX12_headOf_2 (by decide) (hp_n (n := 3) rfl ?_)
  refine lv_iload_n hx hb dX12_headOf_3 rfl (lv_at hl 2 rfl) (hp_n (n := 4) rfl ?_)
  obtain ⟨rh1, qh1, hf⟩ := ms_bE hf
  refine m_cp (pc' := 7) B (hp_runV (As := [.int a1, .int (0 : Int32), .int a2]) (rest := []) C B (m_X12_treeMark n 40 Γ l α a0 ρ σ hM a1 (0 : Int32) a2 rh1 qh1) lb_X12_treeMark lv_X12_treeMark lk_X12_132 hM.1 rfl (by decide) rfl hl.1 rfl (Nat.le_of_ble_eq_true rfl) dX12_headOf_4 ⟨Nat.le_refl _, Nat.le_refl _⟩) rfl (fun Hh1 Lh1 Bh1 => ?_)
  cases hf
  exact q_iret C Bh1 hr hlk ⟨rfl, rfl⟩ dX12_headOf_7
def f_X12_asks (n : Nat) (σ : ms_T) (a1 : Int32) (a2 : Int32) : Option ms_T :=
  ms_g (ms_I σ 657) 128 <|
  ms_l (ms_sE σ 42 ((ms_I σ 657)).toNatClampNeg a1) fun σh2 =>
  ms_g (ms_I σh2 657) 128 <|
  ms_l (ms_sE σh2 43 ((ms_I σh2 657)).toNatClampNeg a2) fun σh4 =>
  ms_l (ms_sI σh4 657 ((ms_I σh4 657) + (1 : Int32))) fun σh5 =>
  some σh5
set_option maxRecDepth 100000 in
set_option maxHeartbeats 4000000 in
theorem m_X12_asks (n : Nat) (Γ : hp_G) (l : Launch) (α : hp_T) (a0 : Nat) (ρ : Nat → Nat) (σ : ms_T) (hM : hm_M α a0 ρ σ) (a1 : Int32) (a2 : Int32) (res : ms_T) (hf : f_X12_asks n σ a1 a2 = some res) : Met l yX12_asks (hp_ws yX12_asks cX12_asks 3 none) (hp_rm 0 0 0) (hp_Pc Γ α [.ref a0, .int a1, .int a2]) (hp_Qv Γ (fun β => mo α β ∧ hm_M β a0 ρ res)) 0 0 (hp_A Γ) := by
  unfold f_X12_asks at hf
  refine hp_start (by decide) ?_
  intro p e s m below meth c C hr hlk B0 hnm
  have C : hp_C Γ p m c cX12_asks 3 s ([.ref a0, .int a1, .int a2] : List Value).toArray RX12 := C
  have hx := C.1.1
  have hb := C.1.2.1
  have hown := C.1.2.2.2.1
  have hts := C.1.2.2.2.2
  have B : hp_B Γ mo s α α s.heap [] := ⟨B0.1, B0.2.1, mo_rf⟩
  have hl := lv_entry ([.ref a0, .int a1, .int a2]) (n := 3) (Nat.le_of_ble_eq_true rfl)
  show W p l e (hp_rm 0 0 0) s m ([.ref a0, .int a1, .int a2] : List Value).toArray below meth c s.heap [] 0 0 (MQ below (hp_Qv Γ (fun β => mo α β ∧ hm_M β a0 ρ res)) ([.ref a0, .int a1, .int a2] : List Value).toArray s 0 0 (hp_A Γ)) (entryFrame m ([.ref a0, .int a1, .int a2] : List Value).toArray 3)
  rw [lg_entry_eq]
  generalize (lg_sl ([.ref a0, .int a1, .int a2]) ++ List.replicate (3 - (lg_sl ([.ref a0, .int a1, .int a2])).length) Slot.unset).toArray = ls at hl ⊢
  have hl : lv_has ls 3 [(0, .ref a0), (1, .int a1), (2, .int a2)] := hl
  refine lv_aload_n hx hb dX12_asks_0 rfl (lv_at hl 0 rfl) (hp_n (n := 1) rfl ?_)
  refine m_getr (κ := 42) (k := 4) (pc' := 4) C B hM fl_X12_16 rfl (by decide) dX12_asks_1 rfl ?_
  refine lv_aload_n hx hb dX12_asks_4 rfl (lv_at hl 0 rfl) (hp_n (n := 5) rfl ?_)
  refine m_geti (k := 7) (φ := 657) (pc' := 8) C B hM fl_X12_139 rfl rfl dX12_asks_5 rfl ?_
  refine lv_iload_n hx hb dX12_asks_8 rfl (lv_at hl 1 rfl) (hp_n (n := 9) rfl ?_)
  obtain ⟨g1, hf⟩ := ms_gE hf
  refine m_ias (κ := 42) (φ := 654) (n := 128) (pc' := 10) C B hM (by decide) (by decide) rfl g1 dX12_asks_9 rfl (fun αh2 Hh2 Lh2 σh2 eh2 Bh2 Mh2 => ?_)
  replace hf := ms_lE eh2 hf
  refine lv_aload_n hx hb dX12_asks_10 rfl (lv_at hl 0 rfl) (hp_n (n := 11) rfl ?_)
  refine m_getr (κ := 43) (k := 5) (pc' := 14) C Bh2 Mh2 fl_X12_19 rfl (by decide) dX12_asks_11 rfl ?_
  refine lv_aload_n hx hb dX12_asks_14 rfl (lv_at hl 0 rfl) (hp_n (n := 15) rfl ?_)
  refine m_geti (k := 7) (φ := 657) (pc' := 18) C Bh2 Mh2 fl_X12_139 rfl rfl dX12_asks_15 rfl ?_
  refine lv_iload_n hx hb dX12_asks_18 rfl (lv_at hl 2 rfl) (hp_n (n := 19) rfl ?_)
  obtain ⟨g3, hf⟩ := ms_gE hf
  refine m_ias (κ := 43) (φ := 655) (n := 128) (pc' := 20) C Bh2 Mh2 (by decide) (by decide) rfl g3 dX12_asks_19 rfl (fun αh4 Hh4 Lh4 σh4 eh4 Bh4 Mh4 => ?_)
  replace hf := ms_lE eh4 hf
  refine lv_aload_n hx hb dX12_asks_20 rfl (lv_at hl 0 rfl) (hp_n (n := 21) rfl ?_)
  refine lv_dup hx hb dX12_asks_21 rfl (hp_n (n := 22) rfl ?_)
  refine m_geti (k := 7) (φ := 657) (pc' := 25) C Bh4 Mh4 fl_X12_139 rfl rfl dX12_asks_22 rfl ?_
  refine lv_iconst (v := 1) hx hb dX12_asks_25 (by decide) (hp_n (n := 26) rfl ?_)
  refine lv_iadd hx hb dX12_asks_26 (hp_n (n := 27) rfl ?_)
  refine m_puti (k := 7) (φ := 657) (pc' := 30) C Bh4 Mh4 fl_X12_139 rfl rfl rfl rfl rfl dX12_asks_27 rfl (fun αh5 Hh5 Lh5 σh5 eh5 Bh5 Mh5 => ?_)
  replace hf := ms_lE eh5 hf
  cases hf
  exact q_vret C Bh5 hr hlk ⟨Bh5.2.2, Mh5⟩ dX12_asks_30
def f_X12_waysIn (n : Nat) : Nat → ms_T → Int32 → Int32 → Int32 → Option ms_T
  | 0, _, _, _, _ => none
  | d + 1, σ, a1, a2, a3 =>
    if a3 = (1 : Int32) then
      some σ
    else
      ms_b (f_X12_part0 n a3) fun rh2 =>
      if rh2 ≤ a2 then
        ms_b ((f_X12_waysIn n d) σ (a1 + rh2) (a2 - rh2) (a3 - rh2)) fun σh4 =>
        ms_b (f_X12_asks n σh4 a1 rh2) fun σh5 =>
        some σh5
      else
        ms_b ((f_X12_waysIn n d) σ a1 a2 rh2) fun σh6 =>
        ms_b (f_X12_asks n σh6 (a1 + rh2) (a3 - rh2)) fun σh7 =>
        some σh7
set_option maxRecDepth 100000 in
set_option maxHeartbeats 4000000 in
theorem m_X12_waysIn (n : Nat) : ∀ (d : Nat) (Γ : hp_G) (l : Launch) (α : hp_T) (a0 : Nat) (ρ : Nat → Nat) (σ : ms_T) (hM : hm_M α a0 ρ σ) (a1 : Int32) (a2 : Int32) (a3 : Int32) (res : ms_T) (hf : f_X12_waysIn n d σ a1 a2 a3 = some res), Met l yX12_waysIn (hp_ws yX12_waysIn cX12_waysIn 5 none) (hp_rm (d + 0) 0 0) (hp_Pc Γ α [.ref a0, .int a1, .int a2, .int a3]) (hp_Qv Γ (fun β => mo α β ∧ hm_M β a0 ρ res)) 0 0 (hp_A Γ) := by
  intro d
  induction d with
  | zero => intro Γ l α a0 ρ σ hM a1 a2 a3 res hf; rw [f_X12_waysIn.eq_1] at hf; cases hf
  | succ d ihM =>
    intro Γ l α a0 ρ σ hM a1 a2 a3 res hf
    rw [f_X12_waysIn.eq_2] at hf
    refine hp_start (by decide) ?_
    intro p e s m below meth c C hr hlk B0 hnm
    have C : hp_C Γ p m c cX12_waysIn 5 s ([.ref a0, .int a1, .int a2, .int a3] : List Value).toArray RX12 := C
    have hx := C.1.1
    have hb := C.1.2.1
    have hown := C.1.2.2.2.1
    have hts := C.1.2.2.2.2
    have B : hp_B Γ mo s α α s.heap [] := ⟨B0.1, B0.2.1, mo_rf⟩
    have hl := lv_entry ([.ref a0, .int a1, .int a2, .int a3]) (n := 5) (Nat.le_of_ble_eq_true rfl)
    show W p l e (hp_rm (d + 1 + 0) 0 0) s m ([.ref a0, .int a1, .int a2, .int a3] : List Value).toArray below meth c s.heap [] 0 0 (MQ below (hp_Qv Γ (fun β => mo α β ∧ hm_M β a0 ρ res)) ([.ref a0, .int a1, .int a2, .int a3] : List Value).toArray s 0 0 (hp_A Γ)) (entryFrame m ([.ref a0, .int a1, .int a2, .int a3] : List Value).toArray 5)
    rw [lg_entry_eq]
    generalize (lg_sl ([.ref a0, .int a1, .int a2, .int a3]) ++ List.replicate (5 - (lg_sl ([.ref a0, .int a1, .int a2, .int a3])).length) Slot.unset).toArray = ls at hl ⊢
    have hl : lv_has ls 5 [(0, .ref a0), (1, .int a1), (2, .int a2), (3, .int a3)] := hl
    refine lv_iload_n hx hb dX12_waysIn_0 rfl (lv_at hl 3 rfl) (hp_n (n := 1) rfl ?_)
    refine lv_iconst (v := 1) hx hb dX12_waysIn_1 (by decide) (hp_n (n := 2) rfl ?_)
    refine lv_icmp_ne (tgt := 6) hx hb dX12_waysIn_2 (by decide) (fun c1 => ?_) (fun c1 => hp_n (n := 5) rfl ?_)
    ·
      replace hf := ms_iF c1 hf
      refine lv_iload_n hx hb dX12_waysIn_6 rfl (lv_at hl 3 rfl) (hp_n (n := 7) rfl ?_)
      obtain ⟨rh2, qh2, hf⟩ := ms_bE hf
      refine m_cp (pc' := 10) B (hp_runS (As := [.int a3]) (rest := []) C B (m_X12_part0 n Γ l α a3 rh2 qh2) lb_X12_part0 ls_X12_part0 lk_X12_128 rfl (by omega) rfl hl.1 rfl (Nat.le_of_ble_eq_true rfl) dX12_waysIn_7 ⟨Nat.le_refl _, Nat.le_refl _⟩) rfl (fun Hh2 Lh2 Bh2 => ?_)
      refine lv_istore (lv' := [(4, .int rh2), (0, .ref a0), (1, .int a1), (2, .int a2), (3, .int a3)]) hx hb dX12_waysIn_10 hl (by decide) rfl (fun ls hl => hp_n (n := 12) rfl ?_)
      refine lv_iload_n hx hb dX12_waysIn_12 rfl (lv_at hl 3 rfl) (hp_n (n := 13) rfl ?_)
      refine lv_iload hx hb dX12_waysIn_13 (lv_at hl 0 rfl) (hp_n (n := 15) rfl ?_)
      refine lv_icmp_ge (tgt := 41) hx hb dX12_waysIn_15 (by decide) (fun c3 => ?_) (fun c3 => hp_n (n := 18) rfl ?_)
      ·
        replace hf := ms_iT c3 hf
        refine lv_aload_n hx hb dX12_waysIn_41 rfl (lv_at hl 1 rfl) (hp_n (n := 42) rfl ?_)
        refine lv_iload_n hx hb dX12_waysIn_42 rfl (lv_at hl 2 rfl) (hp_n (n := 43) rfl ?_)
        refine lv_iload hx hb dX12_waysIn_43 (lv_at hl 0 rfl) (hp_n (n := 45) rfl ?_)
        refine lv_iadd hx hb dX12_waysIn_45 (hp_n (n := 46) rfl ?_)
        refine lv_iload_n hx hb dX12_waysIn_46 rfl (lv_at hl 3 rfl) (hp_n (n := 47) rfl ?_)
        refine lv_iload hx hb dX12_waysIn_47 (lv_at hl 0 rfl) (hp_n (n := 49) rfl ?_)
        refine lv_isub hx hb dX12_waysIn_49 (hp_n (n := 50) rfl ?_)
        refine lv_iload_n hx hb dX12_waysIn_50 rfl (lv_at hl 4 rfl) (hp_n (n := 51) rfl ?_)
        refine lv_iload hx hb dX12_waysIn_51 (lv_at hl 0 rfl) (hp_n (n := 53) rfl ?_)
        refine lv_isub hx hb dX12_waysIn_53 (hp_n (n := 54) rfl ?_)
        obtain ⟨σh4, qh4, hf⟩ := ms_bE hf
        refine m_cv (pc' := 57) (a := a0) (ρ := ρ) Bh2 (hp_runV (As := [.int (a1 + rh2), .int (a2 - rh2), .int (a3 - rh2)]) (rest := []) C Bh2 (ihM Γ l α a0 ρ σ hM (a1 + rh2) (a2 - rh2) (a3 - rh2) σh4 qh4) lb_X12_waysIn lv_X12_waysIn lk_X12_142 hM.1 rfl (by omega) rfl hl.1 rfl (Nat.le_of_ble_eq_true rfl) dX12_waysIn_54 ⟨Nat.le_refl _, Nat.le_refl _⟩) rfl (fun αh4 Hh4 Lh4 Bh4 Mh4 => ?_)
        refine lv_aload_n hx hb dX12_waysIn_57 rfl (lv_at hl 1 rfl) (hp_n (n := 58) rfl ?_)
        refine lv_iload_n hx hb dX12_waysIn_58 rfl (lv_at hl 2 rfl) (hp_n (n := 59) rfl ?_)
        refine lv_iload hx hb dX12_waysIn_59 (lv_at hl 0 rfl) (hp_n (n := 61) rfl ?_)
        obtain ⟨σh5, qh5, hf⟩ := ms_bE hf
        refine m_cv (pc' := 64) (a := a0) (ρ := ρ) Bh4 (hp_runV (As := [.int a1, .int rh2]) (rest := []) C Bh4 (m_X12_asks n Γ l αh4 a0 ρ σh4 Mh4 a1 rh2 σh5 qh5) lb_X12_asks lv_X12_asks lk_X12_146 Mh4.1 rfl (by omega) rfl hl.1 rfl (Nat.le_of_ble_eq_true rfl) dX12_waysIn_61 ⟨Nat.le_refl _, Nat.le_refl _⟩) rfl (fun αh5 Hh5 Lh5 Bh5 Mh5 => ?_)
        cases hf
        exact q_vret C Bh5 hr hlk ⟨Bh5.2.2, Mh5⟩ dX12_waysIn_64
      ·
        replace hf := ms_iF c3 hf
        refine lv_aload_n hx hb dX12_waysIn_18 rfl (lv_at hl 1 rfl) (hp_n (n := 19) rfl ?_)
        refine lv_iload_n hx hb dX12_waysIn_19 rfl (lv_at hl 2 rfl) (hp_n (n := 20) rfl ?_)
        refine lv_iload_n hx hb dX12_waysIn_20 rfl (lv_at hl 3 rfl) (hp_n (n := 21) rfl ?_)
        refine lv_iload hx hb dX12_waysIn_21 (lv_at hl 0 rfl) (hp_n (n := 23) rfl ?_)
        obtain ⟨σh6, qh6, hf⟩ := ms_bE hf
        refine m_cv (pc' := 26) (a := a0) (ρ := ρ) Bh2 (hp_runV (As := [.int a1, .int a2, .int rh2]) (rest := []) C Bh2 (ihM Γ l α a0 ρ σ hM a1 a2 rh2 σh6 qh6) lb_X12_waysIn lv_X12_waysIn lk_X12_142 hM.1 rfl (by omega) rfl hl.1 rfl (Nat.le_of_ble_eq_true rfl) dX12_waysIn_23 ⟨Nat.le_refl _, Nat.le_refl _⟩) rfl (fun αh6 Hh6 Lh6 Bh6 Mh6 => ?_)
        refine lv_aload_n hx hb dX12_waysIn_26 rfl (lv_at hl 1 rfl) (hp_n (n := 27) rfl ?_)
        refine lv_iload_n hx hb dX12_waysIn_27 rfl (lv_at hl 2 rfl) (hp_n (n := 28) rfl ?_)
        refine lv_iload hx hb dX12_waysIn_28 (lv_at hl 0 rfl) (hp_n (n := 30) rfl ?_)
        refine lv_iadd hx hb dX12_waysIn_30 (hp_n (n := 31) rfl ?_)
        refine lv_iload_n hx hb dX12_waysIn_31 rfl (lv_at hl 4 rfl) (hp_n (n := 32) rfl ?_)
        refine lv_iload hx hb dX12_waysIn_32 (lv_at hl 0 rfl) (hp_n (n := 34) rfl ?_)
        refine lv_isub hx hb dX12_waysIn_34 (hp_n (n := 35) rfl ?_)
        obtain ⟨σh7, qh7, hf⟩ := ms_bE hf
        refine m_cv (pc' := 38) (a := a0) (ρ := ρ) Bh6 (hp_runV (As := [.int (a1 + rh2), .int (a3 - rh2)]) (rest := []) C Bh6 (m_X12_asks n Γ l αh6 a0 ρ σh6 Mh6 (a1 + rh2) (a3 - rh2) σh7 qh7) lb_X12_asks lv_X12_asks lk_X12_146 Mh6.1 rfl (by omega) rfl hl.1 rfl (Nat.le_of_ble_eq_true rfl) dX12_waysIn_35 ⟨Nat.le_refl _, Nat.le_refl _⟩) rfl (fun αh7 Hh7 Lh7 Bh7 Mh7 => ?_)
        refine lv_goto (tgt := 64) hx hb dX12_waysIn_38 (by decide) ?_
        cases hf
        exact q_vret C Bh7 hr hlk ⟨Bh7.2.2, Mh7⟩ dX12_waysIn_64
    ·
      replace hf := ms_iT c1 hf
      cases hf
      exact q_vret C B hr hlk ⟨B.2.2, hM⟩ dX12_waysIn_5
def f_X12_inclusion (n : Nat) (σ : ms_T) (a1 : Int32) (a2 : Int32) : Option ms_T :=
  ms_l (ms_sI σ 657 (0 : Int32)) fun σh1 =>
  ms_b (f_X12_waysIn n 40 σh1 (0 : Int32) a1 a2) fun σh2 =>
  some σh2
set_option maxRecDepth 100000 in
set_option maxHeartbeats 4000000 in
theorem m_X12_inclusion (n : Nat) (Γ : hp_G) (l : Launch) (α : hp_T) (a0 : Nat) (ρ : Nat → Nat) (σ : ms_T) (hM : hm_M α a0 ρ σ) (a1 : Int32) (a2 : Int32) (res : ms_T) (hf : f_X12_inclusion n σ a1 a2 = some res) : Met l yX12_inclusion (hp_ws yX12_inclusion cX12_inclusion 3 none) (hp_rm 41 0 0) (hp_Pc Γ α [.ref a0, .int a1, .int a2]) (hp_Qv Γ (fun β => mo α β ∧ hm_M β a0 ρ res)) 0 0 (hp_A Γ) := by
  unfold f_X12_inclusion at hf
  refine hp_start (by decide) ?_
  intro p e s m below meth c C hr hlk B0 hnm
  have C : hp_C Γ p m c cX12_inclusion 3 s ([.ref a0, .int a1, .int a2] : List Value).toArray RX12 := C
  have hx := C.1.1
  have hb := C.1.2.1
  have hown := C.1.2.2.2.1
  have hts := C.1.2.2.2.2
  have B : hp_B Γ mo s α α s.heap [] := ⟨B0.1, B0.2.1, mo_rf⟩
  have hl := lv_entry ([.ref a0, .int a1, .int a2]) (n := 3) (Nat.le_of_ble_eq_true rfl)
  show W p l e (hp_rm 41 0 0) s m ([.ref a0, .int a1, .int a2] : List Value).toArray below meth c s.heap [] 0 0 (MQ below (hp_Qv Γ (fun β => mo α β ∧ hm_M β a0 ρ res)) ([.ref a0, .int a1, .int a2] : List Value).toArray s 0 0 (hp_A Γ)) (entryFrame m ([.ref a0, .int a1, .int a2] : List Value).toArray 3)
  rw [lg_entry_eq]
  generalize (lg_sl ([.ref a0, .int a1, .int a2]) ++ List.replicate (3 - (lg_sl ([.ref a0, .int a1, .int a2])).length) Slot.unset).toArray = ls at hl ⊢
  have hl : lv_has ls 3 [(0, .ref a0), (1, .int a1), (2, .int a2)] := hl
  refine lv_aload_n hx hb dX12_inclusion_0 rfl (lv_at hl 0 rfl) (hp_n (n := 1) rfl ?_)
  refine lv_iconst (v := 0) hx hb dX12_inclusion_1 (by decide) (hp_n (n := 2) rfl ?_)
  refine m_puti (k := 7) (φ := 657) (pc' := 5) C B hM fl_X12_139 rfl rfl rfl rfl rfl dX12_inclusion_2 rfl (fun αh1 Hh1 Lh1 σh1 eh1 Bh1 Mh1 => ?_)
  replace hf := ms_lE eh1 hf
  refine lv_aload_n hx hb dX12_inclusion_5 rfl (lv_at hl 0 rfl) (hp_n (n := 6) rfl ?_)
  refine lv_iconst (v := 0) hx hb dX12_inclusion_6 (by decide) (hp_n (n := 7) rfl ?_)
  refine lv_iload_n hx hb dX12_inclusion_7 rfl (lv_at hl 1 rfl) (hp_n (n := 8) rfl ?_)
  refine lv_iload_n hx hb dX12_inclusion_8 rfl (lv_at hl 2 rfl) (hp_n (n := 9) rfl ?_)
  obtain ⟨σh2, qh2, hf⟩ := ms_bE hf
  refine m_cv (pc' := 12) (a := a0) (ρ := ρ) Bh1 (hp_runV (As := [.int (0 : Int32), .int a1, .int a2]) (rest := []) C Bh1 (m_X12_waysIn n 40 Γ l αh1 a0 ρ σh1 Mh1 (0 : Int32) a1 a2 σh2 qh2) lb_X12_waysIn lv_X12_waysIn lk_X12_142 Mh1.1 rfl (by decide) rfl hl.1 rfl (Nat.le_of_ble_eq_true rfl) dX12_inclusion_9 ⟨Nat.le_refl _, Nat.le_refl _⟩) rfl (fun αh2 Hh2 Lh2 Bh2 Mh2 => ?_)
  cases hf
  exact q_vret C Bh2 hr hlk ⟨Bh2.2.2, Mh2⟩ dX12_inclusion_12
def f_X12_growsIn (n : Nat) : Nat → ms_T → Int32 → Int32 → Int32 → Int32 → Option ms_T
  | 0, _, _, _, _, _ => none
  | d + 1, σ, a1, a2, a3, a4 =>
    if a2 = a3 then
      if a4 = 0 then
        ms_b (f_X12_asks n σ a1 a3) fun σh9 =>
        some σh9
      else
        some σ
    else
      ms_b (f_X12_part0 n a3) fun rh2 =>
      if rh2 < a2 then
        ms_b ((f_X12_growsIn n d) σ (a1 + rh2) (a2 - rh2) (a3 - rh2) (0 : Int32)) fun σh4 =>
        ms_b (f_X12_asks n σh4 a1 rh2) fun σh5 =>
        some σh5
      else
        ms_b ((f_X12_growsIn n d) σ a1 a2 rh2 a4) fun σh6 =>
        ms_b (f_X12_asks n σh6 (a1 + rh2) (a3 - rh2)) fun σh7 =>
        some σh7
set_option maxRecDepth 100000 in
set_option maxHeartbeats 4000000 in
theorem m_X12_growsIn (n : Nat) : ∀ (d : Nat) (Γ : hp_G) (l : Launch) (α : hp_T) (a0 : Nat) (ρ : Nat → Nat) (σ : ms_T) (hM : hm_M α a0 ρ σ) (a1 : Int32) (a2 : Int32) (a3 : Int32) (a4 : Int32) (res : ms_T) (hf : f_X12_growsIn n d σ a1 a2 a3 a4 = some res), Met l yX12_growsIn (hp_ws yX12_growsIn cX12_growsIn 6 none) (hp_rm (d + 0) 0 0) (hp_Pc Γ α [.ref a0, .int a1, .int a2, .int a3, .int a4]) (hp_Qv Γ (fun β => mo α β ∧ hm_M β a0 ρ res)) 0 0 (hp_A Γ) := by
  intro d
  induction d with
  | zero => intro Γ l α a0 ρ σ hM a1 a2 a3 a4 res hf; rw [f_X12_growsIn.eq_1] at hf; cases hf
  | succ d ihM =>
    intro Γ l α a0 ρ σ hM a1 a2 a3 a4 res hf
    rw [f_X12_growsIn.eq_2] at hf
    refine hp_start (by decide) ?_
    intro p e s m below meth c C hr hlk B0 hnm
    have C : hp_C Γ p m c cX12_growsIn 6 s ([.ref a0, .int a1, .int a2, .int a3, .int a4] : List Value).toArray RX12 := C
    have hx := C.1.1
    have hb := C.1.2.1
    have hown := C.1.2.2.2.1
    have hts := C.1.2.2.2.2
    have B : hp_B Γ mo s α α s.heap [] := ⟨B0.1, B0.2.1, mo_rf⟩
    have hl := lv_entry ([.ref a0, .int a1, .int a2, .int a3, .int a4]) (n := 6) (Nat.le_of_ble_eq_true rfl)
    show W p l e (hp_rm (d + 1 + 0) 0 0) s m ([.ref a0, .int a1, .int a2, .int a3, .int a4] : List Value).toArray below meth c s.heap [] 0 0 (MQ below (hp_Qv Γ (fun β => mo α β ∧ hm_M β a0 ρ res)) ([.ref a0, .int a1, .int a2, .int a3, .int a4] : List Value).toArray s 0 0 (hp_A Γ)) (entryFrame m ([.ref a0, .int a1, .int a2, .int a3, .int a4] : List Value).toArray 6)
    rw [lg_entry_eq]
    generalize (lg_sl ([.ref a0, .int a1, .int a2, .int a3, .int a4]) ++ List.replicate (6 - (lg_sl ([.ref a0, .int a1, .int a2, .int a3, .int a4])).length) Slot.unset).toArray = ls at hl ⊢
    have hl : lv_has ls 6 [(0, .ref a0), (1, .int a1), (2, .int a2), (3, .int a3), (4, .int a4)] := hl
    refine lv_iload_n hx hb dX12_growsIn_0 rfl (lv_at hl 2 rfl) (hp_n (n := 1) rfl ?_)
    refine lv_iload_n hx hb dX12_growsIn_1 rfl (lv_at hl 3 rfl) (hp_n (n := 2) rfl ?_)
    refine lv_icmp_ne (tgt := 17) hx hb dX12_growsIn_2 (by decide) (fun c1 => ?_) (fun c1 => hp_n (n := 5) rfl ?_)
    ·
      replace hf := ms_iF c1 hf
      refine lv_iload_n hx hb dX12_growsIn_17 rfl (lv_at hl 3 rfl) (hp_n (n := 18) rfl ?_)
      obtain ⟨rh2, qh2, hf⟩ := ms_bE hf
      refine m_cp (pc' := 21) B (hp_runS (As := [.int a3]) (rest := []) C B (m_X12_part0 n Γ l α a3 rh2 qh2) lb_X12_part0 ls_X12_part0 lk_X12_128 rfl (by omega) rfl hl.1 rfl (Nat.le_of_ble_eq_true rfl) dX12_growsIn_18 ⟨Nat.le_refl _, Nat.le_refl _⟩) rfl (fun Hh2 Lh2 Bh2 => ?_)
      refine lv_istore (lv' := [(5, .int rh2), (0, .ref a0), (1, .int a1), (2, .int a2), (3, .int a3), (4, .int a4)]) hx hb dX12_growsIn_21 hl (by decide) rfl (fun ls hl => hp_n (n := 23) rfl ?_)
      refine lv_iload_n hx hb dX12_growsIn_23 rfl (lv_at hl 3 rfl) (hp_n (n := 24) rfl ?_)
      refine lv_iload hx hb dX12_growsIn_24 (lv_at hl 0 rfl) (hp_n (n := 26) rfl ?_)
      refine lv_icmp_gt (tgt := 54) hx hb dX12_growsIn_26 (by decide) (fun c3 => ?_) (fun c3 => hp_n (n := 29) rfl ?_)
      ·
        replace hf := ms_iT c3 hf
        refine lv_aload_n hx hb dX12_growsIn_54 rfl (lv_at hl 1 rfl) (hp_n (n := 55) rfl ?_)
        refine lv_iload_n hx hb dX12_growsIn_55 rfl (lv_at hl 2 rfl) (hp_n (n := 56) rfl ?_)
        refine lv_iload hx hb dX12_growsIn_56 (lv_at hl 0 rfl) (hp_n (n := 58) rfl ?_)
        refine lv_iadd hx hb dX12_growsIn_58 (hp_n (n := 59) rfl ?_)
        refine lv_iload_n hx hb dX12_growsIn_59 rfl (lv_at hl 3 rfl) (hp_n (n := 60) rfl ?_)
        refine lv_iload hx hb dX12_growsIn_60 (lv_at hl 0 rfl) (hp_n (n := 62) rfl ?_)
        refine lv_isub hx hb dX12_growsIn_62 (hp_n (n := 63) rfl ?_)
        refine lv_iload_n hx hb dX12_growsIn_63 rfl (lv_at hl 4 rfl) (hp_n (n := 64) rfl ?_)
        refine lv_iload hx hb dX12_growsIn_64 (lv_at hl 0 rfl) (hp_n (n := 66) rfl ?_)
        refine lv_isub hx hb dX12_growsIn_66 (hp_n (n := 67) rfl ?_)
        refine lv_iconst (v := 0) hx hb dX12_growsIn_67 (by decide) (hp_n (n := 68) rfl ?_)
        obtain ⟨σh4, qh4, hf⟩ := ms_bE hf
        refine m_cv (pc' := 71) (a := a0) (ρ := ρ) Bh2 (hp_runV (As := [.int (a1 + rh2), .int (a2 - rh2), .int (a3 - rh2), .int (0 : Int32)]) (rest := []) C Bh2 (ihM Γ l α a0 ρ σ hM (a1 + rh2) (a2 - rh2) (a3 - rh2) (0 : Int32) σh4 qh4) lb_X12_growsIn lv_X12_growsIn lk_X12_150 hM.1 rfl (by omega) rfl hl.1 rfl (Nat.le_of_ble_eq_true rfl) dX12_growsIn_68 ⟨Nat.le_refl _, Nat.le_refl _⟩) rfl (fun αh4 Hh4 Lh4 Bh4 Mh4 => ?_)
        refine lv_aload_n hx hb dX12_growsIn_71 rfl (lv_at hl 1 rfl) (hp_n (n := 72) rfl ?_)
        refine lv_iload_n hx hb dX12_growsIn_72 rfl (lv_at hl 2 rfl) (hp_n (n := 73) rfl ?_)
        refine lv_iload hx hb dX12_growsIn_73 (lv_at hl 0 rfl) (hp_n (n := 75) rfl ?_)
        obtain ⟨σh5, qh5, hf⟩ := ms_bE hf
        refine m_cv (pc' := 78) (a := a0) (ρ := ρ) Bh4 (hp_runV (As := [.int a1, .int rh2]) (rest := []) C Bh4 (m_X12_asks n Γ l αh4 a0 ρ σh4 Mh4 a1 rh2 σh5 qh5) lb_X12_asks lv_X12_asks lk_X12_146 Mh4.1 rfl (by omega) rfl hl.1 rfl (Nat.le_of_ble_eq_true rfl) dX12_growsIn_75 ⟨Nat.le_refl _, Nat.le_refl _⟩) rfl (fun αh5 Hh5 Lh5 Bh5 Mh5 => ?_)
        cases hf
        exact q_vret C Bh5 hr hlk ⟨Bh5.2.2, Mh5⟩ dX12_growsIn_78
      ·
        replace hf := ms_iF c3 hf
        refine lv_aload_n hx hb dX12_growsIn_29 rfl (lv_at hl 1 rfl) (hp_n (n := 30) rfl ?_)
        refine lv_iload_n hx hb dX12_growsIn_30 rfl (lv_at hl 2 rfl) (hp_n (n := 31) rfl ?_)
        refine lv_iload_n hx hb dX12_growsIn_31 rfl (lv_at hl 3 rfl) (hp_n (n := 32) rfl ?_)
        refine lv_iload hx hb dX12_growsIn_32 (lv_at hl 0 rfl) (hp_n (n := 34) rfl ?_)
        refine lv_iload hx hb dX12_growsIn_34 (lv_at hl 5 rfl) (hp_n (n := 36) rfl ?_)
        obtain ⟨σh6, qh6, hf⟩ := ms_bE hf
        refine m_cv (pc' := 39) (a := a0) (ρ := ρ) Bh2 (hp_runV (As := [.int a1, .int a2, .int rh2, .int a4]) (rest := []) C Bh2 (ihM Γ l α a0 ρ σ hM a1 a2 rh2 a4 σh6 qh6) lb_X12_growsIn lv_X12_growsIn lk_X12_150 hM.1 rfl (by omega) rfl hl.1 rfl (Nat.le_of_ble_eq_true rfl) dX12_growsIn_36 ⟨Nat.le_refl _, Nat.le_refl _⟩) rfl (fun αh6 Hh6 Lh6 Bh6 Mh6 => ?_)
        refine lv_aload_n hx hb dX12_growsIn_39 rfl (lv_at hl 1 rfl) (hp_n (n := 40) rfl ?_)
        refine lv_iload_n hx hb dX12_growsIn_40 rfl (lv_at hl 2 rfl) (hp_n (n := 41) rfl ?_)
        refine lv_iload hx hb dX12_growsIn_41 (lv_at hl 0 rfl) (hp_n (n := 43) rfl ?_)
        refine lv_iadd hx hb dX12_growsIn_43 (hp_n (n := 44) rfl ?_)
        refine lv_iload_n hx hb dX12_growsIn_44 rfl (lv_at hl 4 rfl) (hp_n (n := 45) rfl ?_)
        refine lv_iload hx hb dX12_growsIn_45 (lv_at hl 0 rfl) (hp_n (n := 47) rfl ?_)
        refine lv_isub hx hb dX12_growsIn_47 (hp_n (n := 48) rfl ?_)
        obtain ⟨σh7, qh7, hf⟩ := ms_bE hf
        refine m_cv (pc' := 51) (a := a0) (ρ := ρ) Bh6 (hp_runV (As := [.int (a1 + rh2), .int (a3 - rh2)]) (rest := []) C Bh6 (m_X12_asks n Γ l αh6 a0 ρ σh6 Mh6 (a1 + rh2) (a3 - rh2) σh7 qh7) lb_X12_asks lv_X12_asks lk_X12_146 Mh6.1 rfl (by omega) rfl hl.1 rfl (Nat.le_of_ble_eq_true rfl) dX12_growsIn_48 ⟨Nat.le_refl _, Nat.le_refl _⟩) rfl (fun αh7 Hh7 Lh7 Bh7 Mh7 => ?_)
        refine lv_goto (tgt := 78) hx hb dX12_growsIn_51 (by decide) ?_
        cases hf
        exact q_vret C Bh7 hr hlk ⟨Bh7.2.2, Mh7⟩ dX12_growsIn_78
    ·
      replace hf := ms_iT c1 hf
      refine lv_iload hx hb dX12_growsIn_5 (lv_at hl 4 rfl) (hp_n (n := 7) rfl ?_)
      refine lv_if_ne (tgt := 16) hx hb dX12_growsIn_7 (by decide) (fun c8 => ?_) (fun c8 => hp_n (n := 10) rfl ?_)
      ·
        replace hf := ms_iF c8 hf
        cases hf
        exact q_vret C B hr hlk ⟨B.2.2, hM⟩ dX12_growsIn_16
      ·
        replace hf := ms_iT c8 hf
        refine lv_aload_n hx hb dX12_growsIn_10 rfl (lv_at hl 0 rfl) (hp_n (n := 11) rfl ?_)
        refine lv_iload_n hx hb dX12_growsIn_11 rfl (lv_at hl 1 rfl) (hp_n (n := 12) rfl ?_)
        refine lv_iload_n hx hb dX12_growsIn_12 rfl (lv_at hl 3 rfl) (hp_n (n := 13) rfl ?_)
        obtain ⟨σh9, qh9, hf⟩ := ms_bE hf
        refine m_cv (pc' := 16) (a := a0) (ρ := ρ) B (hp_runV (As := [.int a1, .int a3]) (rest := []) C B (m_X12_asks n Γ l α a0 ρ σ hM a1 a3 σh9 qh9) lb_X12_asks lv_X12_asks lk_X12_146 hM.1 rfl (by omega) rfl hl.1 rfl (Nat.le_of_ble_eq_true rfl) dX12_growsIn_13 ⟨Nat.le_refl _, Nat.le_refl _⟩) rfl (fun αh9 Hh9 Lh9 Bh9 Mh9 => ?_)
        cases hf
        exact q_vret C Bh9 hr hlk ⟨Bh9.2.2, Mh9⟩ dX12_growsIn_16
def f_X12_growth (n : Nat) (σ : ms_T) (a1 : Int32) (a2 : Int32) : Option ms_T :=
  ms_l (ms_sI σ 657 (0 : Int32)) fun σh1 =>
  if a1 ≤ 0 then
    some σh1
  else
    if a2 ≤ a1 then
      some σh1
    else
      ms_b (f_X12_growsIn n 40 σh1 (0 : Int32) a1 a2 (1 : Int32)) fun σh4 =>
      some σh4
set_option maxRecDepth 100000 in
set_option maxHeartbeats 4000000 in
theorem m_X12_growth (n : Nat) (Γ : hp_G) (l : Launch) (α : hp_T) (a0 : Nat) (ρ : Nat → Nat) (σ : ms_T) (hM : hm_M α a0 ρ σ) (a1 : Int32) (a2 : Int32) (res : ms_T) (hf : f_X12_growth n σ a1 a2 = some res) : Met l yX12_growth (hp_ws yX12_growth cX12_growth 3 none) (hp_rm 41 0 0) (hp_Pc Γ α [.ref a0, .int a1, .int a2]) (hp_Qv Γ (fun β => mo α β ∧ hm_M β a0 ρ res)) 0 0 (hp_A Γ) := by
  unfold f_X12_growth at hf
  refine hp_start (by decide) ?_
  intro p e s m below meth c C hr hlk B0 hnm
  have C : hp_C Γ p m c cX12_growth 3 s ([.ref a0, .int a1, .int a2] : List Value).toArray RX12 := C
  have hx := C.1.1
  have hb := C.1.2.1
  have hown := C.1.2.2.2.1
  have hts := C.1.2.2.2.2
  have B : hp_B Γ mo s α α s.heap [] := ⟨B0.1, B0.2.1, mo_rf⟩
  have hl := lv_entry ([.ref a0, .int a1, .int a2]) (n := 3) (Nat.le_of_ble_eq_true rfl)
  show W p l e (hp_rm 41 0 0) s m ([.ref a0, .int a1, .int a2] : List Value).toArray below meth c s.heap [] 0 0 (MQ below (hp_Qv Γ (fun β => mo α β ∧ hm_M β a0 ρ res)) ([.ref a0, .int a1, .int a2] : List Value).toArray s 0 0 (hp_A Γ)) (entryFrame m ([.ref a0, .int a1, .int a2] : List Value).toArray 3)
  rw [lg_entry_eq]
  generalize (lg_sl ([.ref a0, .int a1, .int a2]) ++ List.replicate (3 - (lg_sl ([.ref a0, .int a1, .int a2])).length) Slot.unset).toArray = ls at hl ⊢
  have hl : lv_has ls 3 [(0, .ref a0), (1, .int a1), (2, .int a2)] := hl
  refine lv_aload_n hx hb dX12_growth_0 rfl (lv_at hl 0 rfl) (hp_n (n := 1) rfl ?_)
  refine lv_iconst (v := 0) hx hb dX12_growth_1 (by decide) (hp_n (n := 2) rfl ?_)
  refine m_puti (k := 7) (φ := 657) (pc' := 5) C B hM fl_X12_139 rfl rfl rfl rfl rfl dX12_growth_2 rfl (fun αh1 Hh1 Lh1 σh1 eh1 Bh1 Mh1 => ?_)
  replace hf := ms_lE eh1 hf
  refine lv_iload_n hx hb dX12_growth_5 rfl (lv_at hl 1 rfl) (hp_n (n := 6) rfl ?_)
  refine lv_if_le (tgt := 22) hx hb dX12_growth_6 (by decide) (fun c2 => ?_) (fun c2 => hp_n (n := 9) rfl ?_)
  ·
    replace hf := ms_iT c2 hf
    cases hf
    exact q_vret C Bh1 hr hlk ⟨Bh1.2.2, Mh1⟩ dX12_growth_22
  ·
    replace hf := ms_iF c2 hf
    refine lv_iload_n hx hb dX12_growth_9 rfl (lv_at hl 1 rfl) (hp_n (n := 10) rfl ?_)
    refine lv_iload_n hx hb dX12_growth_10 rfl (lv_at hl 2 rfl) (hp_n (n := 11) rfl ?_)
    refine lv_icmp_ge (tgt := 22) hx hb dX12_growth_11 (by decide) (fun c3 => ?_) (fun c3 => hp_n (n := 14) rfl ?_)
    ·
      replace hf := ms_iT c3 hf
      cases hf
      exact q_vret C Bh1 hr hlk ⟨Bh1.2.2, Mh1⟩ dX12_growth_22
    ·
      replace hf := ms_iF c3 hf
      refine lv_aload_n hx hb dX12_growth_14 rfl (lv_at hl 0 rfl) (hp_n (n := 15) rfl ?_)
      refine lv_iconst (v := 0) hx hb dX12_growth_15 (by decide) (hp_n (n := 16) rfl ?_)
      refine lv_iload_n hx hb dX12_growth_16 rfl (lv_at hl 1 rfl) (hp_n (n := 17) rfl ?_)
      refine lv_iload_n hx hb dX12_growth_17 rfl (lv_at hl 2 rfl) (hp_n (n := 18) rfl ?_)
      refine lv_iconst (v := 1) hx hb dX12_growth_18 (by decide) (hp_n (n := 19) rfl ?_)
      obtain ⟨σh4, qh4, hf⟩ := ms_bE hf
      refine m_cv (pc' := 22) (a := a0) (ρ := ρ) Bh1 (hp_runV (As := [.int (0 : Int32), .int a1, .int a2, .int (1 : Int32)]) (rest := []) C Bh1 (m_X12_growsIn n 40 Γ l αh1 a0 ρ σh1 Mh1 (0 : Int32) a1 a2 (1 : Int32) σh4 qh4) lb_X12_growsIn lv_X12_growsIn lk_X12_150 Mh1.1 rfl (by decide) rfl hl.1 rfl (Nat.le_of_ble_eq_true rfl) dX12_growth_19 ⟨Nat.le_refl _, Nat.le_refl _⟩) rfl (fun αh4 Hh4 Lh4 Bh4 Mh4 => ?_)
      cases hf
      exact q_vret C Bh4 hr hlk ⟨Bh4.2.2, Mh4⟩ dX12_growth_22
def f_X12_hasAny_J31 (n : Nat) (rec2 : Int32 → Int32 → Int32 → Int32 → Option Int32) (v0_h3 : Int32) (v1_h3 : Int32) (v2_h3 : Int32) (v3_h3 : Int32) : Option Int32 :=
  ms_l (v3_h3 + 1) fun x4 =>
  rec2 v0_h3 v1_h3 v2_h3 x4
def f_X12_hasAny_L2 (n : Nat) : Nat → Int32 → Int32 → Int32 → Int32 → Option Int32
  | 0, _, _, _, _ => none
  | k2 + 1, v0_h1, v1_h1, v2_h1, v3_h1 =>
    if (30 : Int32) ≤ v3_h1 then
      some (0 : Int32)
    else
      if ((v0_h1 >>> (v3_h1 &&& 31)) &&& (1 : Int32)) = (1 : Int32) then
        if v3_h1 < v1_h1 then
          f_X12_hasAny_J31 n (f_X12_hasAny_L2 n k2) v0_h1 v1_h1 v2_h1 v3_h1
        else
          if v2_h1 ≤ (v3_h1 - v1_h1) then
            f_X12_hasAny_J31 n (f_X12_hasAny_L2 n k2) v0_h1 v1_h1 v2_h1 v3_h1
          else
            some (1 : Int32)
      else
        f_X12_hasAny_J31 n (f_X12_hasAny_L2 n k2) v0_h1 v1_h1 v2_h1 v3_h1
def f_X12_hasAny (n : Nat) (a0 : Int32) (a1 : Int32) (a2 : Int32) : Option Int32 :=
  f_X12_hasAny_L2 n n a0 a1 a2 (0 : Int32)
set_option maxRecDepth 100000 in
set_option maxHeartbeats 4000000 in
theorem m_X12_hasAny (n : Nat) (Γ : hp_G) (l : Launch) (α : hp_T) (a0 : Int32) (a1 : Int32) (a2 : Int32) (res : Int32) (hf : f_X12_hasAny n a0 a1 a2 = some res) : Met l yX12_hasAny (hp_ws yX12_hasAny cX12_hasAny 4 (some .boolean)) (hp_rm 0 0 0) (hp_Pc Γ α [.int a0, .int a1, .int a2]) (hp_Qi Γ (fun r β => β = α ∧ r = res)) 0 0 (hp_A Γ) := by
  unfold f_X12_hasAny at hf
  refine hp_start (by decide) ?_
  intro p e s m below meth c C hr hlk B0 hnm
  have C : hp_C Γ p m c cX12_hasAny 4 s ([.int a0, .int a1, .int a2] : List Value).toArray RX12 := C
  have hx := C.1.1
  have hb := C.1.2.1
  have hown := C.1.2.2.2.1
  have hts := C.1.2.2.2.2
  have B : hp_B Γ (fun _ _ => True) s α α s.heap [] := ⟨B0.1, B0.2.1, trivial⟩
  have hl := lv_entry ([.int a0, .int a1, .int a2]) (n := 4) (Nat.le_of_ble_eq_true rfl)
  show W p l e (hp_rm 0 0 0) s m ([.int a0, .int a1, .int a2] : List Value).toArray below meth c s.heap [] 0 0 (MQ below (hp_Qi Γ (fun r β => β = α ∧ r = res)) ([.int a0, .int a1, .int a2] : List Value).toArray s 0 0 (hp_A Γ)) (entryFrame m ([.int a0, .int a1, .int a2] : List Value).toArray 4)
  rw [lg_entry_eq]
  generalize (lg_sl ([.int a0, .int a1, .int a2]) ++ List.replicate (4 - (lg_sl ([.int a0, .int a1, .int a2])).length) Slot.unset).toArray = ls at hl ⊢
  have hl : lv_has ls 4 [(0, .int a0), (1, .int a1), (2, .int a2)] := hl
  refine lv_iconst (v := 0) hx hb dX12_hasAny_0 (by decide) (hp_n (n := 1) rfl ?_)
  have J2 : ∀ (k2 : Nat) (Hh1 : Heap) (Lh1 : List Loc) (Bh1 : hp_B Γ (fun _ _ => True) s α α Hh1 Lh1) (v0_h1 : Int32) (v1_h1 : Int32) (v2_h1 : Int32) (v3_h1 : Int32) (ls : Array Slot) (hl : lv_has ls 4 [(0, .int v0_h1), (1, .int v1_h1), (2, .int v2_h1), (3, .int v3_h1)]) (hf : f_X12_hasAny_L2 n k2 v0_h1 v1_h1 v2_h1 v3_h1 = some res), W p l e (hp_rm 0 0 0) s m ([.int a0, .int a1, .int a2] : List Value).toArray below meth c Hh1 Lh1 0 0 (MQ below (hp_Qi Γ (fun r β => β = α ∧ r = res)) ([.int a0, .int a1, .int a2] : List Value).toArray s 0 0 (hp_A Γ)) (F0 m 2 ls []) := by
    intro k2
    induction k2 with
    | zero => intro Hh1 Lh1 Bh1 v0_h1 v1_h1 v2_h1 v3_h1 ls hl hf; rw [f_X12_hasAny_L2.eq_1] at hf; cases hf
    | succ k2 ih2 =>
      intro Hh1 Lh1 Bh1 v0_h1 v1_h1 v2_h1 v3_h1 ls hl hf
      rw [f_X12_hasAny_L2.eq_2] at hf
      refine lv_iload_n hx hb dX12_hasAny_2 rfl (lv_at hl 3 rfl) (hp_n (n := 3) rfl ?_)
      refine lv_bipush (v := 30) hx hb dX12_hasAny_3 (by decide) (hp_n (n := 5) rfl ?_)
      refine lv_icmp_ge (tgt := 37) hx hb dX12_hasAny_5 (by decide) (fun c2 => ?_) (fun c2 => hp_n (n := 8) rfl ?_)
      ·
        replace hf := ms_iT c2 hf
        refine lv_iconst (v := 0) hx hb dX12_hasAny_37 (by decide) (hp_n (n := 38) rfl ?_)
        cases hf
        exact q_zret C Bh1 hr hlk (by decide) ⟨rfl, rfl⟩ dX12_hasAny_38
      ·
        replace hf := ms_iF c2 hf
        refine lv_iload_n hx hb dX12_hasAny_8 rfl (lv_at hl 0 rfl) (hp_n (n := 9) rfl ?_)
        refine lv_iload_n hx hb dX12_hasAny_9 rfl (lv_at hl 3 rfl) (hp_n (n := 10) rfl ?_)
        refine lv_ishr hx hb dX12_hasAny_10 (hp_n (n := 11) rfl ?_)
        refine lv_iconst (v := 1) hx hb dX12_hasAny_11 (by decide) (hp_n (n := 12) rfl ?_)
        refine lv_iand hx hb dX12_hasAny_12 (hp_n (n := 13) rfl ?_)
        refine lv_iconst (v := 1) hx hb dX12_hasAny_13 (by decide) (hp_n (n := 14) rfl ?_)
        have J31 : ∀ (Hh3 : Heap) (Lh3 : List Loc) (Bh3 : hp_B Γ (fun _ _ => True) s α α Hh3 Lh3) (v0_h3 : Int32) (v1_h3 : Int32) (v2_h3 : Int32) (v3_h3 : Int32) (ls : Array Slot) (hl : lv_has ls 4 [(0, .int v0_h3), (1, .int v1_h3), (2, .int v2_h3), (3, .int v3_h3)]) (hf : f_X12_hasAny_J31 n (f_X12_hasAny_L2 n k2) v0_h3 v1_h3 v2_h3 v3_h3 = some res), W p l e (hp_rm 0 0 0) s m ([.int a0, .int a1, .int a2] : List Value).toArray below meth c Hh3 Lh3 0 0 (MQ below (hp_Qi Γ (fun r β => β = α ∧ r = res)) ([.int a0, .int a1, .int a2] : List Value).toArray s 0 0 (hp_A Γ)) (F0 m 31 ls []) := by
          intro Hh3 Lh3 Bh3 v0_h3 v1_h3 v2_h3 v3_h3 ls hl hf
          unfold f_X12_hasAny_J31 at hf
          obtain ⟨x4, ex4⟩ : ∃ y : Int32, y = v3_h3 + 1 := ⟨_, rfl⟩
          replace hf := ms_lE ex4 hf
          refine lv_iinc (v := x4) (lv' := [(3, .int x4), (0, .int v0_h3), (1, .int v1_h3), (2, .int v2_h3)]) hx hb dX12_hasAny_31 hl (k := 3) rfl (by rw [ex4]; rfl) (by decide) rfl (fun ls hl => hp_n (n := 34) rfl ?_)
          refine lv_goto (tgt := 2) hx hb dX12_hasAny_34 (by decide) ?_
          exact ih2 Hh3 Lh3 Bh3 v0_h3 v1_h3 v2_h3 x4 ls (lv_sub hl [1, 2, 3, 0] rfl) hf
        refine lv_icmp_ne (tgt := 31) hx hb dX12_hasAny_14 (by decide) (fun c5 => ?_) (fun c5 => hp_n (n := 17) rfl ?_)
        ·
          replace hf := ms_iF c5 hf
          exact J31 Hh1 Lh1 Bh1 v0_h1 v1_h1 v2_h1 v3_h1 ls (lv_sub hl [0, 1, 2, 3] rfl) hf
        ·
          replace hf := ms_iT c5 hf
          refine lv_iload_n hx hb dX12_hasAny_17 rfl (lv_at hl 3 rfl) (hp_n (n := 18) rfl ?_)
          refine lv_iload_n hx hb dX12_hasAny_18 rfl (lv_at hl 1 rfl) (hp_n (n := 19) rfl ?_)
          refine lv_icmp_lt (tgt := 31) hx hb dX12_hasAny_19 (by decide) (fun c6 => ?_) (fun c6 => hp_n (n := 22) rfl ?_)
          ·
            replace hf := ms_iT c6 hf
            exact J31 Hh1 Lh1 Bh1 v0_h1 v1_h1 v2_h1 v3_h1 ls (lv_sub hl [0, 1, 2, 3] rfl) hf
          ·
            replace hf := ms_iF c6 hf
            refine lv_iload_n hx hb dX12_hasAny_22 rfl (lv_at hl 3 rfl) (hp_n (n := 23) rfl ?_)
            refine lv_iload_n hx hb dX12_hasAny_23 rfl (lv_at hl 1 rfl) (hp_n (n := 24) rfl ?_)
            refine lv_isub hx hb dX12_hasAny_24 (hp_n (n := 25) rfl ?_)
            refine lv_iload_n hx hb dX12_hasAny_25 rfl (lv_at hl 2 rfl) (hp_n (n := 26) rfl ?_)
            refine lv_icmp_ge (tgt := 31) hx hb dX12_hasAny_26 (by decide) (fun c7 => ?_) (fun c7 => hp_n (n := 29) rfl ?_)
            ·
              replace hf := ms_iT c7 hf
              exact J31 Hh1 Lh1 Bh1 v0_h1 v1_h1 v2_h1 v3_h1 ls (lv_sub hl [0, 1, 2, 3] rfl) hf
            ·
              replace hf := ms_iF c7 hf
              refine lv_iconst (v := 1) hx hb dX12_hasAny_29 (by decide) (hp_n (n := 30) rfl ?_)
              cases hf
              exact q_zret C Bh1 hr hlk (by decide) ⟨rfl, rfl⟩ dX12_hasAny_30
  refine lv_istore_n (lv' := [(3, .int (0 : Int32)), (0, .int a0), (1, .int a1), (2, .int a2)]) hx hb dX12_hasAny_1 rfl hl (by decide) rfl (fun ls hl => hp_n (n := 2) rfl ?_)
  exact J2 n s.heap [] B a0 a1 a2 (0 : Int32) ls (lv_sub hl [1, 2, 3, 0] rfl) hf
def f_X12_bundlesIn (n : Nat) : Nat → ms_T → Int32 → Int32 → Int32 → Option ms_T
  | 0, _, _, _, _ => none
  | d + 1, σ, a1, a2, a3 =>
    ms_b (f_X12_hasAny n a1 a2 a3) fun rh1 =>
    if rh1 = 0 then
      ms_b (f_X12_asks n σ a2 a3) fun σh7 =>
      some σh7
    else
      if a3 = (1 : Int32) then
        some σ
      else
        ms_b (f_X12_part0 n a3) fun rh4 =>
        ms_b ((f_X12_bundlesIn n d) σ a1 a2 rh4) fun σh5 =>
        ms_b ((f_X12_bundlesIn n d) σh5 a1 (a2 + rh4) (a3 - rh4)) fun σh6 =>
        some σh6
set_option maxRecDepth 100000 in
set_option maxHeartbeats 4000000 in
theorem m_X12_bundlesIn (n : Nat) : ∀ (d : Nat) (Γ : hp_G) (l : Launch) (α : hp_T) (a0 : Nat) (ρ : Nat → Nat) (σ : ms_T) (hM : hm_M α a0 ρ σ) (a1 : Int32) (a2 : Int32) (a3 : Int32) (res : ms_T) (hf : f_X12_bundlesIn n d σ a1 a2 a3 = some res), Met l yX12_bundlesIn (hp_ws yX12_bundlesIn cX12_bundlesIn 5 none) (hp_rm (d + 0) 0 0) (hp_Pc Γ α [.ref a0, .int a1, .int a2, .int a3]) (hp_Qv Γ (fun β => mo α β ∧ hm_M β a0 ρ res)) 0 0 (hp_A Γ) := by
  intro d
  induction d with
  | zero => intro Γ l α a0 ρ σ hM a1 a2 a3 res hf; rw [f_X12_bundlesIn.eq_1] at hf; cases hf
  | succ d ihM =>
    intro Γ l α a0 ρ σ hM a1 a2 a3 res hf
    rw [f_X12_bundlesIn.eq_2] at hf
    refine hp_start (by decide) ?_
    intro p e s m below meth c C hr hlk B0 hnm
    have C : hp_C Γ p m c cX12_bundlesIn 5 s ([.ref a0, .int a1, .int a2, .int a3] : List Value).toArray RX12 := C
    have hx := C.1.1
    have hb := C.1.2.1
    have hown := C.1.2.2.2.1
    have hts := C.1.2.2.2.2
    have B : hp_B Γ mo s α α s.heap [] := ⟨B0.1, B0.2.1, mo_rf⟩
    have hl := lv_entry ([.ref a0, .int a1, .int a2, .int a3]) (n := 5) (Nat.le_of_ble_eq_true rfl)
    show W p l e (hp_rm (d + 1 + 0) 0 0) s m ([.ref a0, .int a1, .int a2, .int a3] : List Value).toArray below meth c s.heap [] 0 0 (MQ below (hp_Qv Γ (fun β => mo α β ∧ hm_M β a0 ρ res)) ([.ref a0, .int a1, .int a2, .int a3] : List Value).toArray s 0 0 (hp_A Γ)) (entryFrame m ([.ref a0, .int a1, .int a2, .int a3] : List Value).toArray 5)
    rw [lg_entry_eq]
    generalize (lg_sl ([.ref a0, .int a1, .int a2, .int a3]) ++ List.replicate (5 - (lg_sl ([.ref a0, .int a1, .int a2, .int a3])).length) Slot.unset).toArray = ls at hl ⊢
    have hl : lv_has ls 5 [(0, .ref a0), (1, .int a1), (2, .int a2), (3, .int a3)] := hl
    refine lv_iload_n hx hb dX12_bundlesIn_0 rfl (lv_at hl 1 rfl) (hp_n (n := 1) rfl ?_)
    refine lv_iload_n hx hb dX12_bundlesIn_1 rfl (lv_at hl 2 rfl) (hp_n (n := 2) rfl ?_)
    refine lv_iload_n hx hb dX12_bundlesIn_2 rfl (lv_at hl 3 rfl) (hp_n (n := 3) rfl ?_)
    obtain ⟨rh1, qh1, hf⟩ := ms_bE hf
    refine m_cp (pc' := 6) B (hp_runS (As := [.int a1, .int a2, .int a3]) (rest := []) C B (m_X12_hasAny n Γ l α a1 a2 a3 rh1 qh1) lb_X12_hasAny ls_X12_hasAny lk_X12_154 rfl (by omega) rfl hl.1 rfl (Nat.le_of_ble_eq_true rfl) dX12_bundlesIn_3 ⟨Nat.le_refl _, Nat.le_refl _⟩) rfl (fun Hh1 Lh1 Bh1 => ?_)
    refine lv_if_ne (tgt := 16) hx hb dX12_bundlesIn_6 (by decide) (fun c2 => ?_) (fun c2 => hp_n (n := 9) rfl ?_)
    ·
      replace hf := ms_iF c2 hf
      refine lv_iload_n hx hb dX12_bundlesIn_16 rfl (lv_at hl 3 rfl) (hp_n (n := 17) rfl ?_)
      refine lv_iconst (v := 1) hx hb dX12_bundlesIn_17 (by decide) (hp_n (n := 18) rfl ?_)
      refine lv_icmp_ne (tgt := 22) hx hb dX12_bundlesIn_18 (by decide) (fun c3 => ?_) (fun c3 => hp_n (n := 21) rfl ?_)
      ·
        replace hf := ms_iF c3 hf
        refine lv_iload_n hx hb dX12_bundlesIn_22 rfl (lv_at hl 3 rfl) (hp_n (n := 23) rfl ?_)
        obtain ⟨rh4, qh4, hf⟩ := ms_bE hf
        refine m_cp (pc' := 26) Bh1 (hp_runS (As := [.int a3]) (rest := []) C Bh1 (m_X12_part0 n Γ l α a3 rh4 qh4) lb_X12_part0 ls_X12_part0 lk_X12_128 rfl (by omega) rfl hl.1 rfl (Nat.le_of_ble_eq_true rfl) dX12_bundlesIn_23 ⟨Nat.le_refl _, Nat.le_refl _⟩) rfl (fun Hh4 Lh4 Bh4 => ?_)
        refine lv_istore (lv' := [(4, .int rh4), (0, .ref a0), (1, .int a1), (2, .int a2), (3, .int a3)]) hx hb dX12_bundlesIn_26 hl (by decide) rfl (fun ls hl => hp_n (n := 28) rfl ?_)
        refine lv_aload_n hx hb dX12_bundlesIn_28 rfl (lv_at hl 1 rfl) (hp_n (n := 29) rfl ?_)
        refine lv_iload_n hx hb dX12_bundlesIn_29 rfl (lv_at hl 2 rfl) (hp_n (n := 30) rfl ?_)
        refine lv_iload_n hx hb dX12_bundlesIn_30 rfl (lv_at hl 3 rfl) (hp_n (n := 31) rfl ?_)
        refine lv_iload hx hb dX12_bundlesIn_31 (lv_at hl 0 rfl) (hp_n (n := 33) rfl ?_)
        obtain ⟨σh5, qh5, hf⟩ := ms_bE hf
        refine m_cv (pc' := 36) (a := a0) (ρ := ρ) Bh4 (hp_runV (As := [.int a1, .int a2, .int rh4]) (rest := []) C Bh4 (ihM Γ l α a0 ρ σ hM a1 a2 rh4 σh5 qh5) lb_X12_bundlesIn lv_X12_bundlesIn lk_X12_157 hM.1 rfl (by omega) rfl hl.1 rfl (Nat.le_of_ble_eq_true rfl) dX12_bundlesIn_33 ⟨Nat.le_refl _, Nat.le_refl _⟩) rfl (fun αh5 Hh5 Lh5 Bh5 Mh5 => ?_)
        refine lv_aload_n hx hb dX12_bundlesIn_36 rfl (lv_at hl 1 rfl) (hp_n (n := 37) rfl ?_)
        refine lv_iload_n hx hb dX12_bundlesIn_37 rfl (lv_at hl 2 rfl) (hp_n (n := 38) rfl ?_)
        refine lv_iload_n hx hb dX12_bundlesIn_38 rfl (lv_at hl 3 rfl) (hp_n (n := 39) rfl ?_)
        refine lv_iload hx hb dX12_bundlesIn_39 (lv_at hl 0 rfl) (hp_n (n := 41) rfl ?_)
        refine lv_iadd hx hb dX12_bundlesIn_41 (hp_n (n := 42) rfl ?_)
        refine lv_iload_n hx hb dX12_bundlesIn_42 rfl (lv_at hl 4 rfl) (hp_n (n := 43) rfl ?_)
        refine lv_iload hx hb dX12_bundlesIn_43 (lv_at hl 0 rfl) (hp_n (n := 45) rfl ?_)
        refine lv_isub hx hb dX12_bundlesIn_45 (hp_n (n := 46) rfl ?_)
        obtain ⟨σh6, qh6, hf⟩ := ms_bE hf
        refine m_cv (pc' := 49) (a := a0) (ρ := ρ) Bh5 (hp_runV (As := [.int a1, .int (a2 + rh4), .int (a3 - rh4)]) (rest := []) C Bh5 (ihM Γ l αh5 a0 ρ σh5 Mh5 a1 (a2 + rh4) (a3 - rh4) σh6 qh6) lb_X12_bundlesIn lv_X12_bundlesIn lk_X12_157 Mh5.1 rfl (by omega) rfl hl.1 rfl (Nat.le_of_ble_eq_true rfl) dX12_bundlesIn_46 ⟨Nat.le_refl _, Nat.le_refl _⟩) rfl (fun αh6 Hh6 Lh6 Bh6 Mh6 => ?_)
        cases hf
        exact q_vret C Bh6 hr hlk ⟨Bh6.2.2, Mh6⟩ dX12_bundlesIn_49
      ·
        replace hf := ms_iT c3 hf
        cases hf
        exact q_vret C Bh1 hr hlk ⟨Bh1.2.2, hM⟩ dX12_bundlesIn_21
    ·
      replace hf := ms_iT c2 hf
      refine lv_aload_n hx hb dX12_bundlesIn_9 rfl (lv_at hl 0 rfl) (hp_n (n := 10) rfl ?_)
      refine lv_iload_n hx hb dX12_bundlesIn_10 rfl (lv_at hl 2 rfl) (hp_n (n := 11) rfl ?_)
      refine lv_iload_n hx hb dX12_bundlesIn_11 rfl (lv_at hl 3 rfl) (hp_n (n := 12) rfl ?_)
      obtain ⟨σh7, qh7, hf⟩ := ms_bE hf
      refine m_cv (pc' := 15) (a := a0) (ρ := ρ) Bh1 (hp_runV (As := [.int a2, .int a3]) (rest := []) C Bh1 (m_X12_asks n Γ l α a0 ρ σ hM a2 a3 σh7 qh7) lb_X12_asks lv_X12_asks lk_X12_146 hM.1 rfl (by omega) rfl hl.1 rfl (Nat.le_of_ble_eq_true rfl) dX12_bundlesIn_12 ⟨Nat.le_refl _, Nat.le_refl _⟩) rfl (fun αh7 Hh7 Lh7 Bh7 Mh7 => ?_)
      cases hf
      exact q_vret C Bh7 hr hlk ⟨Bh7.2.2, Mh7⟩ dX12_bundlesIn_15
def f_X12_bundleOf (n : Nat) (σ : ms_T) (a1 : Int32) (a2 : Int32) : Option ms_T :=
  ms_l (ms_sI σ 657 (0 : Int32)) fun σh1 =>
  ms_b (f_X12_bundlesIn n 40 σh1 a1 (0 : Int32) a2) fun σh2 =>
  some σh2
set_option maxRecDepth 100000 in
set_option maxHeartbeats 4000000 in
theorem m_X12_bundleOf (n : Nat) (Γ : hp_G) (l : Launch) (α : hp_T) (a0 : Nat) (ρ : Nat → Nat) (σ : ms_T) (hM : hm_M α a0 ρ σ) (a1 : Int32) (a2 : Int32) (res : ms_T) (hf : f_X12_bundleOf n σ a1 a2 = some res) : Met l yX12_bundleOf (hp_ws yX12_bundleOf cX12_bundleOf 3 none) (hp_rm 41 0 0) (hp_Pc Γ α [.ref a0, .int a1, .int a2]) (hp_Qv Γ (fun β => mo α β ∧ hm_M β a0 ρ res)) 0 0 (hp_A Γ) := by
  unfold f_X12_bundleOf at hf
  refine hp_start (by decide) ?_
  intro p e s m below meth c C hr hlk B0 hnm
  have C : hp_C Γ p m c cX12_bundleOf 3 s ([.ref a0, .int a1, .int a2] : List Value).toArray RX12 := C
  have hx := C.1.1
  have hb := C.1.2.1
  have hown := C.1.2.2.2.1
  have hts := C.1.2.2.2.2
  have B : hp_B Γ mo s α α s.heap [] := ⟨B0.1, B0.2.1, mo_rf⟩
  have hl := lv_entry ([.ref a0, .int a1, .int a2]) (n := 3) (Nat.le_of_ble_eq_true rfl)
  show W p l e (hp_rm 41 0 0) s m ([.ref a0, .int a1, .int a2] : List Value).toArray below meth c s.heap [] 0 0 (MQ below (hp_Qv Γ (fun β => mo α β ∧ hm_M β a0 ρ res)) ([.ref a0, .int a1, .int a2] : List Value).toArray s 0 0 (hp_A Γ)) (entryFrame m ([.ref a0, .int a1, .int a2] : List Value).toArray 3)
  rw [lg_entry_eq]
  generalize (lg_sl ([.ref a0, .int a1, .int a2]) ++ List.replicate (3 - (lg_sl ([.ref a0, .int a1, .int a2])).length) Slot.unset).toArray = ls at hl ⊢
  have hl : lv_has ls 3 [(0, .ref a0), (1, .int a1), (2, .int a2)] := hl
  refine lv_aload_n hx hb dX12_bundleOf_0 rfl (lv_at hl 0 rfl) (hp_n (n := 1) rfl ?_)
  refine lv_iconst (v := 0) hx hb dX12_bundleOf_1 (by decide) (hp_n (n := 2) rfl ?_)
  refine m_puti (k := 7) (φ := 657) (pc' := 5) C B hM fl_X12_139 rfl rfl rfl rfl rfl dX12_bundleOf_2 rfl (fun αh1 Hh1 Lh1 σh1 eh1 Bh1 Mh1 => ?_)
  replace hf := ms_lE eh1 hf
  refine lv_aload_n hx hb dX12_bundleOf_5 rfl (lv_at hl 0 rfl) (hp_n (n := 6) rfl ?_)
  refine lv_iload_n hx hb dX12_bundleOf_6 rfl (lv_at hl 1 rfl) (hp_n (n := 7) rfl ?_)
  refine lv_iconst (v := 0) hx hb dX12_bundleOf_7 (by decide) (hp_n (n := 8) rfl ?_)
  refine lv_iload_n hx hb dX12_bundleOf_8 rfl (lv_at hl 2 rfl) (hp_n (n := 9) rfl ?_)
  obtain ⟨σh2, qh2, hf⟩ := ms_bE hf
  refine m_cv (pc' := 12) (a := a0) (ρ := ρ) Bh1 (hp_runV (As := [.int a1, .int (0 : Int32), .int a2]) (rest := []) C Bh1 (m_X12_bundlesIn n 40 Γ l αh1 a0 ρ σh1 Mh1 a1 (0 : Int32) a2 σh2 qh2) lb_X12_bundlesIn lv_X12_bundlesIn lk_X12_157 Mh1.1 rfl (by decide) rfl hl.1 rfl (Nat.le_of_ble_eq_true rfl) dX12_bundleOf_9 ⟨Nat.le_refl _, Nat.le_refl _⟩) rfl (fun αh2 Hh2 Lh2 Bh2 Mh2 => ?_)
  cases hf
  exact q_vret C Bh2 hr hlk ⟨Bh2.2.2, Mh2⟩ dX12_bundleOf_12
def f_X12_peaksOf_J35 (n : Nat) (rec10 : ms_T → Int32 → Int32 → Int32 → Option ms_T) (σh5 : ms_T) (v1_h5 : Int32) (v2_h5 : Int32) (v3_h5 : Int32) : Option ms_T :=
  ms_l ((v3_h5 / (2 : Int32))) fun x6 =>
  rec10 σh5 v1_h5 v2_h5 x6
def f_X12_peaksOf_L10 (n : Nat) : Nat → ms_T → Int32 → Int32 → Int32 → Option ms_T
  | 0, _, _, _, _ => none
  | k10 + 1, σh2, v1_h2, v2_h2, v3_h2 =>
    if v3_h2 ≤ 0 then
      some σh2
    else
      ms_n v3_h2 <|
      if ((v1_h2 / v3_h2) - (v1_h2 / v3_h2) / (2 : Int32) * (2 : Int32)) = 0 then
        f_X12_peaksOf_J35 n (f_X12_peaksOf_L10 n k10) σh2 v1_h2 v2_h2 v3_h2
      else
        ms_b (f_X12_asks n σh2 v2_h2 v3_h2) fun σh8 =>
        ms_l ((v2_h2 + v3_h2)) fun x9 =>
        f_X12_peaksOf_J35 n (f_X12_peaksOf_L10 n k10) σh8 v1_h2 x9 v3_h2
def f_X12_peaksOf (n : Nat) (σ : ms_T) (a1 : Int32) : Option ms_T :=
  ms_l (ms_sI σ 657 (0 : Int32)) fun σh1 =>
  f_X12_peaksOf_L10 n n σh1 a1 (0 : Int32) (1073741824 : Int32)
set_option maxRecDepth 100000 in
set_option maxHeartbeats 4000000 in
theorem m_X12_peaksOf (n : Nat) (Γ : hp_G) (l : Launch) (α : hp_T) (a0 : Nat) (ρ : Nat → Nat) (σ : ms_T) (hM : hm_M α a0 ρ σ) (a1 : Int32) (res : ms_T) (hf : f_X12_peaksOf n σ a1 = some res) : Met l yX12_peaksOf (hp_ws yX12_peaksOf cX12_peaksOf 4 none) (hp_rm 1 0 0) (hp_Pc Γ α [.ref a0, .int a1]) (hp_Qv Γ (fun β => mo α β ∧ hm_M β a0 ρ res)) 0 0 (hp_A Γ) := by
  unfold f_X12_peaksOf at hf
  refine hp_start (by decide) ?_
  intro p e s m below meth c C hr hlk B0 hnm
  have C : hp_C Γ p m c cX12_peaksOf 4 s ([.ref a0, .int a1] : List Value).toArray RX12 := C
  have hx := C.1.1
  have hb := C.1.2.1
  have hown := C.1.2.2.2.1
  have hts := C.1.2.2.2.2
  have B : hp_B Γ mo s α α s.heap [] := ⟨B0.1, B0.2.1, mo_rf⟩
  have hl := lv_entry ([.ref a0, .int a1]) (n := 4) (Nat.le_of_ble_eq_true rfl)
  show W p l e (hp_rm 1 0 0) s m ([.ref a0, .int a1] : List Value).toArray below meth c s.heap [] 0 0 (MQ below (hp_Qv Γ (fun β => mo α β ∧ hm_M β a0 ρ res)) ([.ref a0, .int a1] : List Value).toArray s 0 0 (hp_A Γ)) (entryFrame m ([.ref a0, .int a1] : List Value).toArray 4)
  rw [lg_entry_eq]
  generalize (lg_sl ([.ref a0, .int a1]) ++ List.replicate (4 - (lg_sl ([.ref a0, .int a1])).length) Slot.unset).toArray = ls at hl ⊢
  have hl : lv_has ls 4 [(0, .ref a0), (1, .int a1)] := hl
  refine lv_aload_n hx hb dX12_peaksOf_0 rfl (lv_at hl 0 rfl) (hp_n (n := 1) rfl ?_)
  refine lv_iconst (v := 0) hx hb dX12_peaksOf_1 (by decide) (hp_n (n := 2) rfl ?_)
  refine m_puti (k := 7) (φ := 657) (pc' := 5) C B hM fl_X12_139 rfl rfl rfl rfl rfl dX12_peaksOf_2 rfl (fun αh1 Hh1 Lh1 σh1 eh1 Bh1 Mh1 => ?_)
  replace hf := ms_lE eh1 hf
  refine lv_iconst (v := 0) hx hb dX12_peaksOf_5 (by decide) (hp_n (n := 6) rfl ?_)
  refine lv_istore_n (lv' := [(2, .int (0 : Int32)), (0, .ref a0), (1, .int a1)]) hx hb dX12_peaksOf_6 rfl hl (by decide) rfl (fun ls hl => hp_n (n := 7) rfl ?_)
  refine lv_ldc hx hb hown (hts _ kc_X12_160) dX12_peaksOf_7 (hp_n (n := 9) rfl ?_)
  have J10 : ∀ (k10 : Nat) (αh2 : hp_T) (Hh2 : Heap) (Lh2 : List Loc) (Bh2 : hp_B Γ mo s α αh2 Hh2 Lh2) (σh2 : ms_T) (Mh2 : hm_M αh2 a0 ρ σh2) (v1_h2 : Int32) (v2_h2 : Int32) (v3_h2 : Int32) (ls : Array Slot) (hl : lv_has ls 4 [(0, .ref a0), (1, .int v1_h2), (2, .int v2_h2), (3, .int v3_h2)]) (hf : f_X12_peaksOf_L10 n k10 σh2 v1_h2 v2_h2 v3_h2 = some res), W p l e (hp_rm 1 0 0) s m ([.ref a0, .int a1] : List Value).toArray below meth c Hh2 Lh2 0 0 (MQ below (hp_Qv Γ (fun β => mo α β ∧ hm_M β a0 ρ res)) ([.ref a0, .int a1] : List Value).toArray s 0 0 (hp_A Γ)) (F0 m 10 ls []) := by
    intro k10
    induction k10 with
    | zero => intro αh2 Hh2 Lh2 Bh2 σh2 Mh2 v1_h2 v2_h2 v3_h2 ls hl hf; rw [f_X12_peaksOf_L10.eq_1] at hf; cases hf
    | succ k10 ih10 =>
      intro αh2 Hh2 Lh2 Bh2 σh2 Mh2 v1_h2 v2_h2 v3_h2 ls hl hf
      rw [f_X12_peaksOf_L10.eq_2] at hf
      refine lv_iload_n hx hb dX12_peaksOf_10 rfl (lv_at hl 3 rfl) (hp_n (n := 11) rfl ?_)
      refine lv_if_le (tgt := 42) hx hb dX12_peaksOf_11 (by decide) (fun c3 => ?_) (fun c3 => hp_n (n := 14) rfl ?_)
      ·
        replace hf := ms_iT c3 hf
        cases hf
        exact q_vret C Bh2 hr hlk ⟨Bh2.2.2, Mh2⟩ dX12_peaksOf_42
      ·
        replace hf := ms_iF c3 hf
        refine lv_iload_n hx hb dX12_peaksOf_14 rfl (lv_at hl 1 rfl) (hp_n (n := 15) rfl ?_)
        refine lv_iload_n hx hb dX12_peaksOf_15 rfl (lv_at hl 3 rfl) (hp_n (n := 16) rfl ?_)
        obtain ⟨g4, hf⟩ := ms_nE hf
        refine lv_idiv hx hb dX12_peaksOf_16 g4 (hp_n (n := 17) rfl ?_)
        refine lv_iconst (v := 2) hx hb dX12_peaksOf_17 (by decide) (hp_n (n := 18) rfl ?_)
        refine lv_irem hx hb dX12_peaksOf_18 (by decide) (hp_n (n := 19) rfl ?_)
        have J35 : ∀ (αh5 : hp_T) (Hh5 : Heap) (Lh5 : List Loc) (Bh5 : hp_B Γ mo s α αh5 Hh5 Lh5) (σh5 : ms_T) (Mh5 : hm_M αh5 a0 ρ σh5) (v1_h5 : Int32) (v2_h5 : Int32) (v3_h5 : Int32) (ls : Array Slot) (hl : lv_has ls 4 [(0, .ref a0), (1, .int v1_h5), (2, .int v2_h5), (3, .int v3_h5)]) (hf : f_X12_peaksOf_J35 n (f_X12_peaksOf_L10 n k10) σh5 v1_h5 v2_h5 v3_h5 = some res), W p l e (hp_rm 1 0 0) s m ([.ref a0, .int a1] : List Value).toArray below meth c Hh5 Lh5 0 0 (MQ below (hp_Qv Γ (fun β => mo α β ∧ hm_M β a0 ρ res)) ([.ref a0, .int a1] : List Value).toArray s 0 0 (hp_A Γ)) (F0 m 35 ls []) := by
          intro αh5 Hh5 Lh5 Bh5 σh5 Mh5 v1_h5 v2_h5 v3_h5 ls hl hf
          unfold f_X12_peaksOf_J35 at hf
          refine lv_iload_n hx hb dX12_peaksOf_35 rfl (lv_at hl 3 rfl) (hp_n (n := 36) rfl ?_)
          refine lv_iconst (v := 2) hx hb dX12_peaksOf_36 (by decide) (hp_n (n := 37) rfl ?_)
          refine lv_idiv hx hb dX12_peaksOf_37 (by decide) (hp_n (n := 38) rfl ?_)
          refine lv_topi (fun x6 ex6 => ?_)
          replace hf := ms_lE ex6 hf
          refine lv_istore_n (lv' := [(3, .int x6), (0, .ref a0), (1, .int v1_h5), (2, .int v2_h5)]) hx hb dX12_peaksOf_38 rfl hl (by decide) rfl (fun ls hl => hp_n (n := 39) rfl ?_)
          refine lv_goto (tgt := 10) hx hb dX12_peaksOf_39 (by decide) ?_
          exact ih10 αh5 Hh5 Lh5 Bh5 σh5 Mh5 v1_h5 v2_h5 x6 ls (lv_sub hl [1, 2, 3, 0] rfl) hf
        refine lv_if_ne (tgt := 25) hx hb dX12_peaksOf_19 (by decide) (fun c7 => ?_) (fun c7 => hp_n (n := 22) rfl ?_)
        ·
          replace hf := ms_iF c7 hf
          refine lv_aload_n hx hb dX12_peaksOf_25 rfl (lv_at hl 0 rfl) (hp_n (n := 26) rfl ?_)
          refine lv_iload_n hx hb dX12_peaksOf_26 rfl (lv_at hl 2 rfl) (hp_n (n := 27) rfl ?_)
          refine lv_iload_n hx hb dX12_peaksOf_27 rfl (lv_at hl 3 rfl) (hp_n (n := 28) rfl ?_)
          obtain ⟨σh8, qh8, hf⟩ := ms_bE hf
          refine m_cv (pc' := 31) (a := a0) (ρ := ρ) Bh2 (hp_runV (As := [.int v2_h2, .int v3_h2]) (rest := []) C Bh2 (m_X12_asks n Γ l αh2 a0 ρ σh2 Mh2 v2_h2 v3_h2 σh8 qh8) lb_X12_asks lv_X12_asks lk_X12_146 Mh2.1 rfl (by decide) rfl hl.1 rfl (Nat.le_of_ble_eq_true rfl) dX12_peaksOf_28 ⟨Nat.le_refl _, Nat.le_refl _⟩) rfl (fun αh8 Hh8 Lh8 Bh8 Mh8 => ?_)
          refine lv_iload_n hx hb dX12_peaksOf_31 rfl (lv_at hl 2 rfl) (hp_n (n := 32) rfl ?_)
          refine lv_iload_n hx hb dX12_peaksOf_32 rfl (lv_at hl 3 rfl) (hp_n (n := 33) rfl ?_)
          refine lv_iadd hx hb dX12_peaksOf_33 (hp_n (n := 34) rfl ?_)
          refine lv_topi (fun x9 ex9 => ?_)
          replace hf := ms_lE ex9 hf
          refine lv_istore_n (lv' := [(2, .int x9), (0, .ref a0), (1, .int v1_h2), (3, .int v3_h2)]) hx hb dX12_peaksOf_34 rfl hl (by decide) rfl (fun ls hl => hp_n (n := 35) rfl ?_)
          exact J35 αh8 Hh8 Lh8 Bh8 σh8 Mh8 v1_h2 x9 v3_h2 ls (lv_sub hl [1, 2, 0, 3] rfl) hf
        ·
          replace hf := ms_iT c7 hf
          refine lv_goto (tgt := 35) hx hb dX12_peaksOf_22 (by decide) ?_
          exact J35 αh2 Hh2 Lh2 Bh2 σh2 Mh2 v1_h2 v2_h2 v3_h2 ls (lv_sub hl [0, 1, 2, 3] rfl) hf
  refine lv_istore_n (lv' := [(3, .int (1073741824 : Int32)), (2, .int (0 : Int32)), (0, .ref a0), (1, .int a1)]) hx hb dX12_peaksOf_9 rfl hl (by decide) rfl (fun ls hl => hp_n (n := 10) rfl ?_)
  exact J10 n αh1 Hh1 Lh1 Bh1 σh1 Mh1 a1 (0 : Int32) (1073741824 : Int32) ls (lv_sub hl [2, 3, 1, 0] rfl) hf
def f_X12_fetches_L2 (n : Nat) : Nat → ms_T → Int32 → Int32 → Option ms_T
  | 0, _, _, _ => none
  | k2 + 1, σh1, v1_h1, v2_h1 =>
    if (ms_I σh1 657) ≤ v2_h1 then
      some σh1
    else
      ms_g v2_h1 128 <|
      ms_g v2_h1 128 <|
      ms_b (f_X12_treeMark n 40 σh1 v1_h1 (ms_E σh1 42 (v2_h1).toNatClampNeg) (ms_E σh1 43 (v2_h1).toNatClampNeg)) fun rh5 =>
      ms_g v2_h1 128 <|
      ms_l (ms_sE σh1 44 (v2_h1).toNatClampNeg rh5) fun σh7 =>
      ms_l (v2_h1 + 1) fun x8 =>
      (f_X12_fetches_L2 n k2) σh7 v1_h1 x8
def f_X12_fetches (n : Nat) (σ : ms_T) (a1 : Int32) : Option ms_T :=
  f_X12_fetches_L2 n n σ a1 (0 : Int32)
set_option maxRecDepth 100000 in
set_option maxHeartbeats 4000000 in
theorem m_X12_fetches (n : Nat) (Γ : hp_G) (l : Launch) (α : hp_T) (a0 : Nat) (ρ : Nat → Nat) (σ : ms_T) (hM : hm_M α a0 ρ σ) (a1 : Int32) (res : ms_T) (hf : f_X12_fetches n σ a1 = some res) : Met l yX12_fetches (hp_ws yX12_fetches cX12_fetches 3 none) (hp_rm 42 0 0) (hp_Pc Γ α [.ref a0, .int a1]) (hp_Qv Γ (fun β => mo α β ∧ hm_M β a0 ρ res)) 0 0 (hp_A Γ) := by
  unfold f_X12_fetches at hf
  refine hp_start (by decide) ?_
  intro p e s m below meth c C hr hlk B0 hnm
  have C : hp_C Γ p m c cX12_fetches 3 s ([.ref a0, .int a1] : List Value).toArray RX12 := C
  have hx := C.1.1
  have hb := C.1.2.1
  have hown := C.1.2.2.2.1
  have hts := C.1.2.2.2.2
  have B : hp_B Γ mo s α α s.heap [] := ⟨B0.1, B0.2.1, mo_rf⟩
  have hl := lv_entry ([.ref a0, .int a1]) (n := 3) (Nat.le_of_ble_eq_true rfl)
  show W p l e (hp_rm 42 0 0) s m ([.ref a0, .int a1] : List Value).toArray below meth c s.heap [] 0 0 (MQ below (hp_Qv Γ (fun β => mo α β ∧ hm_M β a0 ρ res)) ([.ref a0, .int a1] : List Value).toArray s 0 0 (hp_A Γ)) (entryFrame m ([.ref a0, .int a1] : List Value).toArray 3)
  rw [lg_entry_eq]
  generalize (lg_sl ([.ref a0, .int a1]) ++ List.replicate (3 - (lg_sl ([.ref a0, .int a1])).length) Slot.unset).toArray = ls at hl ⊢
  have hl : lv_has ls 3 [(0, .ref a0), (1, .int a1)] := hl
  refine lv_iconst (v := 0) hx hb dX12_fetches_0 (by decide) (hp_n (n := 1) rfl ?_)
  have J2 : ∀ (k2 : Nat) (αh1 : hp_T) (Hh1 : Heap) (Lh1 : List Loc) (Bh1 : hp_B Γ mo s α αh1 Hh1 Lh1) (σh1 : ms_T) (Mh1 : hm_M αh1 a0 ρ σh1) (v1_h1 : Int32) (v2_h1 : Int32) (ls : Array Slot) (hl : lv_has ls 3 [(0, .ref a0), (1, .int v1_h1), (2, .int v2_h1)]) (hf : f_X12_fetches_L2 n k2 σh1 v1_h1 v2_h1 = some res), W p l e (hp_rm 42 0 0) s m ([.ref a0, .int a1] : List Value).toArray below meth c Hh1 Lh1 0 0 (MQ below (hp_Qv Γ (fun β => mo α β ∧ hm_M β a0 ρ res)) ([.ref a0, .int a1] : List Value).toArray s 0 0 (hp_A Γ)) (F0 m 2 ls []) := by
    intro k2
    induction k2 with
    | zero => intro αh1 Hh1 Lh1 Bh1 σh1 Mh1 v1_h1 v2_h1 ls hl hf; rw [f_X12_fetches_L2.eq_1] at hf; cases hf
    | succ k2 ih2 =>
      intro αh1 Hh1 Lh1 Bh1 σh1 Mh1 v1_h1 v2_h1 ls hl hf
      rw [f_X12_fetches_L2.eq_2] at hf
      refine lv_iload_n hx hb dX12_fetches_2 rfl (lv_at hl 2 rfl) (hp_n (n := 3) rfl ?_)
      refine lv_aload_n hx hb dX12_fetches_3 rfl (lv_at hl 0 rfl) (hp_n (n := 4) rfl ?_)
      refine m_geti (k := 7) (φ := 657) (pc' := 7) C Bh1 Mh1 fl_X12_139 rfl rfl dX12_fetches_4 rfl ?_
      refine lv_icmp_ge (tgt := 39) hx hb dX12_fetches_7 (by decide) (fun c2 => ?_) (fun c2 => hp_n (n := 10) rfl ?_)
      ·
        replace hf := ms_iT c2 hf
        cases hf
        exact q_vret C Bh1 hr hlk ⟨Bh1.2.2, Mh1⟩ dX12_fetches_39
      ·
        replace hf := ms_iF c2 hf
        refine lv_aload_n hx hb dX12_fetches_10 rfl (lv_at hl 0 rfl) (hp_n (n := 11) rfl ?_)
        refine m_getr (κ := 44) (k := 6) (pc' := 14) C Bh1 Mh1 fl_X12_22 rfl (by decide) dX12_fetches_11 rfl ?_
        refine lv_iload_n hx hb dX12_fetches_14 rfl (lv_at hl 2 rfl) (hp_n (n := 15) rfl ?_)
        refine lv_aload_n hx hb dX12_fetches_15 rfl (lv_at hl 0 rfl) (hp_n (n := 16) rfl ?_)
        refine lv_iload_n hx hb dX12_fetches_16 rfl (lv_at hl 1 rfl) (hp_n (n := 17) rfl ?_)
        refine lv_aload_n hx hb dX12_fetches_17 rfl (lv_at hl 0 rfl) (hp_n (n := 18) rfl ?_)
        refine m_getr (κ := 42) (k := 4) (pc' := 21) C Bh1 Mh1 fl_X12_16 rfl (by decide) dX12_fetches_18 rfl ?_
        refine lv_iload_n hx hb dX12_fetches_21 rfl (lv_at hl 2 rfl) (hp_n (n := 22) rfl ?_)
        obtain ⟨g3, hf⟩ := ms_gE hf
        refine m_ial (κ := 42) (φ := 654) (n := 128) (pc' := 23) C Bh1 Mh1 (by decide) (by decide) rfl g3 dX12_fetches_22 rfl ?_
        refine lv_aload_n hx hb dX12_fetches_23 rfl (lv_at hl 0 rfl) (hp_n (n := 24) rfl ?_)
        refine m_getr (κ := 43) (k := 5) (pc' := 27) C Bh1 Mh1 fl_X12_19 rfl (by decide) dX12_fetches_24 rfl ?_
        refine lv_iload_n hx hb dX12_fetches_27 rfl (lv_at hl 2 rfl) (hp_n (n := 28) rfl ?_)
        obtain ⟨g4, hf⟩ := ms_gE hf
        refine m_ial (κ := 43) (φ := 655) (n := 128) (pc' := 29) C Bh1 Mh1 (by decide) (by decide) rfl g4 dX12_fetches_28 rfl ?_
        obtain ⟨rh5, qh5, hf⟩ := ms_bE hf
        refine m_cp (pc' := 32) Bh1 (hp_runV (As := [.int v1_h1, .int (ms_E σh1 42 (v2_h1).toNatClampNeg), .int (ms_E σh1 43 (v2_h1).toNatClampNeg)]) (rest := [.int v2_h1, .ref (ρ 44)]) C Bh1 (m_X12_treeMark n 40 Γ l αh1 a0 ρ σh1 Mh1 v1_h1 (ms_E σh1 42 (v2_h1).toNatClampNeg) (ms_E σh1 43 (v2_h1).toNatClampNeg) rh5 qh5) lb_X12_treeMark lv_X12_treeMark lk_X12_132 Mh1.1 rfl (by decide) rfl hl.1 rfl (Nat.le_of_ble_eq_true rfl) dX12_fetches_29 ⟨Nat.le_refl _, Nat.le_refl _⟩) rfl (fun Hh5 Lh5 Bh5 => ?_)
        obtain ⟨g6, hf⟩ := ms_gE hf
        refine m_ias (κ := 44) (φ := 656) (n := 128) (pc' := 33) C Bh5 Mh1 (by decide) (by decide) rfl g6 dX12_fetches_32 rfl (fun αh7 Hh7 Lh7 σh7 eh7 Bh7 Mh7 => ?_)
        replace hf := ms_lE eh7 hf
        obtain ⟨x8, ex8⟩ : ∃ y : Int32, y = v2_h1 + 1 := ⟨_, rfl⟩
        replace hf := ms_lE ex8 hf
        refine lv_iinc (v := x8) (lv' := [(2, .int x8), (0, .ref a0), (1, .int v1_h1)]) hx hb dX12_fetches_33 hl (k := 2) rfl (by rw [ex8]; rfl) (by decide) rfl (fun ls hl => hp_n (n := 36) rfl ?_)
        refine lv_goto (tgt := 2) hx hb dX12_fetches_36 (by decide) ?_
        exact ih2 αh7 Hh7 Lh7 Bh7 σh7 Mh7 v1_h1 x8 ls (lv_sub hl [1, 2, 0] rfl) hf
  refine lv_istore_n (lv' := [(2, .int (0 : Int32)), (0, .ref a0), (1, .int a1)]) hx hb dX12_fetches_1 rfl hl (by decide) rfl (fun ls hl => hp_n (n := 2) rfl ?_)
  exact J2 n α s.heap [] B σ hM a1 (0 : Int32) ls (lv_sub hl [1, 2, 0] rfl) hf
def f_X12_pads_L7 (n : Nat) : Nat → ms_T → Int32 → Option (Int32 × ms_T)
  | 0, _, _ => none
  | k7 + 1, σh2, v2_h2 =>
    if (ms_I σh2 657) ≤ v2_h2 then
      ms_g (2 : Int32) 1980 <|
      ms_l (ms_sE σh2 40 ((2 : Int32)).toNatClampNeg (ms_I σh2 657)) fun σh5 =>
      some ((ms_I σh5 657), σh5)
    else
      ms_g v2_h2 128 <|
      ms_g ((8 : Int32) + v2_h2) 1980 <|
      ms_l (ms_sE σh2 40 (((8 : Int32) + v2_h2)).toNatClampNeg (ms_E σh2 44 (v2_h2).toNatClampNeg)) fun σh8 =>
      ms_l (v2_h2 + 1) fun x9 =>
      (f_X12_pads_L7 n k7) σh8 x9
def f_X12_pads (n : Nat) (σ : ms_T) (a1 : Int32) : Option (Int32 × ms_T) :=
  ms_b (f_X12_fetches n σ a1) fun σh1 =>
  f_X12_pads_L7 n n σh1 (0 : Int32)
set_option maxRecDepth 100000 in
set_option maxHeartbeats 4000000 in
theorem m_X12_pads (n : Nat) (Γ : hp_G) (l : Launch) (α : hp_T) (a0 : Nat) (ρ : Nat → Nat) (σ : ms_T) (hM : hm_M α a0 ρ σ) (a1 : Int32) (res : (Int32 × ms_T)) (hf : f_X12_pads n σ a1 = some res) : Met l yX12_pads (hp_ws yX12_pads cX12_pads 3 (some .int)) (hp_rm 43 0 0) (hp_Pc Γ α [.ref a0, .int a1]) (hp_Qi Γ (fun r β => r = res.1 ∧ mo α β ∧ hm_M β a0 ρ res.2)) 0 0 (hp_A Γ) := by
  unfold f_X12_pads at hf
  refine hp_start (by decide) ?_
  intro p e s m below meth c C hr hlk B0 hnm
  have C : hp_C Γ p m c cX12_pads 3 s ([.ref a0, .int a1] : List Value).toArray RX12 := C
  have hx := C.1.1
  have hb := C.1.2.1
  have hown := C.1.2.2.2.1
  have hts := C.1.2.2.2.2
  have B : hp_B Γ mo s α α s.heap [] := ⟨B0.1, B0.2.1, mo_rf⟩
  have hl := lv_entry ([.ref a0, .int a1]) (n := 3) (Nat.le_of_ble_eq_true rfl)
  show W p l e (hp_rm 43 0 0) s m ([.ref a0, .int a1] : List Value).toArray below meth c s.heap [] 0 0 (MQ below (hp_Qi Γ (fun r β => r = res.1 ∧ mo α β ∧ hm_M β a0 ρ res.2)) ([.ref a0, .int a1] : List Value).toArray s 0 0 (hp_A Γ)) (entryFrame m ([.ref a0, .int a1] : List Value).toArray 3)
  rw [lg_entry_eq]
  generalize (lg_sl ([.ref a0, .int a1]) ++ List.replicate (3 - (lg_sl ([.ref a0, .int a1])).length) Slot.unset).toArray = ls at hl ⊢
  have hl : lv_has ls 3 [(0, .ref a0), (1, .int a1)] := hl
  refine lv_aload_n hx hb dX12_pads_0 rfl (lv_at hl 0 rfl) (hp_n (n := 1) rfl ?_)
  refine lv_iload_n hx hb dX12_pads_1 rfl (lv_at hl 1 rfl) (hp_n (n := 2) rfl ?_)
  obtain ⟨σh1, qh1, hf⟩ := ms_bE hf
  refine m_cv (pc' := 5) (a := a0) (ρ := ρ) B (hp_runV (As := [.int a1]) (rest := []) C B (m_X12_fetches n Γ l α a0 ρ σ hM a1 σh1 qh1) lb_X12_fetches lv_X12_fetches lk_X12_161 hM.1 rfl (by decide) rfl hl.1 rfl (Nat.le_of_ble_eq_true rfl) dX12_pads_2 ⟨Nat.le_refl _, Nat.le_refl _⟩) rfl (fun αh1 Hh1 Lh1 Bh1 Mh1 => ?_)
  refine lv_iconst (v := 0) hx hb dX12_pads_5 (by decide) (hp_n (n := 6) rfl ?_)
  have J7 : ∀ (k7 : Nat) (αh2 : hp_T) (Hh2 : Heap) (Lh2 : List Loc) (Bh2 : hp_B Γ mo s α αh2 Hh2 Lh2) (σh2 : ms_T) (Mh2 : hm_M αh2 a0 ρ σh2) (v2_h2 : Int32) (ls : Array Slot) (hl : lv_has ls 3 [(0, .ref a0), (2, .int v2_h2)]) (hf : f_X12_pads_L7 n k7 σh2 v2_h2 = some res), W p l e (hp_rm 43 0 0) s m ([.ref a0, .int a1] : List Value).toArray below meth c Hh2 Lh2 0 0 (MQ below (hp_Qi Γ (fun r β => r = res.1 ∧ mo α β ∧ hm_M β a0 ρ res.2)) ([.ref a0, .int a1] : List Value).toArray s 0 0 (hp_A Γ)) (F0 m 7 ls []) := by
    intro k7
    induction k7 with
    | zero => intro αh2 Hh2 Lh2 Bh2 σh2 Mh2 v2_h2 ls hl hf; rw [f_X12_pads_L7.eq_1] at hf; cases hf
    | succ k7 ih7 =>
      intro αh2 Hh2 Lh2 Bh2 σh2 Mh2 v2_h2 ls hl hf
      rw [f_X12_pads_L7.eq_2] at hf
      refine lv_iload_n hx hb dX12_pads_7 rfl (lv_at hl 1 rfl) (hp_n (n := 8) rfl ?_)
      refine lv_aload_n hx hb dX12_pads_8 rfl (lv_at hl 0 rfl) (hp_n (n := 9) rfl ?_)
      refine m_geti (k := 7) (φ := 657) (pc' := 12) C Bh2 Mh2 fl_X12_139 rfl rfl dX12_pads_9 rfl ?_
      refine lv_icmp_ge (tgt := 36) hx hb dX12_pads_12 (by decide) (fun c3 => ?_) (fun c3 => hp_n (n := 15) rfl ?_)
      ·
        replace hf := ms_iT c3 hf
        refine lv_aload_n hx hb dX12_pads_36 rfl (lv_at hl 0 rfl) (hp_n (n := 37) rfl ?_)
        refine m_getr (κ := 40) (k := 0) (pc' := 40) C Bh2 Mh2 fl_X12_7 rfl (by decide) dX12_pads_37 rfl ?_
        refine lv_iconst (v := 2) hx hb dX12_pads_40 (by decide) (hp_n (n := 41) rfl ?_)
        refine lv_aload_n hx hb dX12_pads_41 rfl (lv_at hl 0 rfl) (hp_n (n := 42) rfl ?_)
        refine m_geti (k := 7) (φ := 657) (pc' := 45) C Bh2 Mh2 fl_X12_139 rfl rfl dX12_pads_42 rfl ?_
        obtain ⟨g4, hf⟩ := ms_gE hf
        refine m_ias (κ := 40) (φ := 650) (n := 1980) (pc' := 46) C Bh2 Mh2 (by decide) (by decide) rfl g4 dX12_pads_45 rfl (fun αh5 Hh5 Lh5 σh5 eh5 Bh5 Mh5 => ?_)
        replace hf := ms_lE eh5 hf
        refine lv_aload_n hx hb dX12_pads_46 rfl (lv_at hl 0 rfl) (hp_n (n := 47) rfl ?_)
        refine m_geti (k := 7) (φ := 657) (pc' := 50) C Bh5 Mh5 fl_X12_139 rfl rfl dX12_pads_47 rfl ?_
        cases hf
        exact q_iret C Bh5 hr hlk ⟨rfl, Bh5.2.2, Mh5⟩ dX12_pads_50
      ·
        replace hf := ms_iF c3 hf
        refine lv_aload_n hx hb dX12_pads_15 rfl (lv_at hl 0 rfl) (hp_n (n := 16) rfl ?_)
        refine m_getr (κ := 40) (k := 0) (pc' := 19) C Bh2 Mh2 fl_X12_7 rfl (by decide) dX12_pads_16 rfl ?_
        refine lv_bipush (v := 8) hx hb dX12_pads_19 (by decide) (hp_n (n := 21) rfl ?_)
        refine lv_iload_n hx hb dX12_pads_21 rfl (lv_at hl 1 rfl) (hp_n (n := 22) rfl ?_)
        refine lv_iadd hx hb dX12_pads_22 (hp_n (n := 23) rfl ?_)
        refine lv_aload_n hx hb dX12_pads_23 rfl (lv_at hl 0 rfl) (hp_n (n := 24) rfl ?_)
        refine m_getr (κ := 44) (k := 6) (pc' := 27) C Bh2 Mh2 fl_X12_22 rfl (by decide) dX12_pads_24 rfl ?_
        refine lv_iload_n hx hb dX12_pads_27 rfl (lv_at hl 1 rfl) (hp_n (n := 28) rfl ?_)
        obtain ⟨g6, hf⟩ := ms_gE hf
        refine m_ial (κ := 44) (φ := 656) (n := 128) (pc' := 29) C Bh2 Mh2 (by decide) (by decide) rfl g6 dX12_pads_28 rfl ?_
        obtain ⟨g7, hf⟩ := ms_gE hf
        refine m_ias (κ := 40) (φ := 650) (n := 1980) (pc' := 30) C Bh2 Mh2 (by decide) (by decide) rfl g7 dX12_pads_29 rfl (fun αh8 Hh8 Lh8 σh8 eh8 Bh8 Mh8 => ?_)
        replace hf := ms_lE eh8 hf
        obtain ⟨x9, ex9⟩ : ∃ y : Int32, y = v2_h2 + 1 := ⟨_, rfl⟩
        replace hf := ms_lE ex9 hf
        refine lv_iinc (v := x9) (lv' := [(2, .int x9), (0, .ref a0)]) hx hb dX12_pads_30 hl (k := 1) rfl (by rw [ex9]; rfl) (by decide) rfl (fun ls hl => hp_n (n := 33) rfl ?_)
        refine lv_goto (tgt := 7) hx hb dX12_pads_33 (by decide) ?_
        exact ih7 αh8 Hh8 Lh8 Bh8 σh8 Mh8 x9 ls (lv_sub hl [1, 0] rfl) hf
  refine lv_istore_n (lv' := [(2, .int (0 : Int32)), (0, .ref a0), (1, .int a1)]) hx hb dX12_pads_6 rfl hl (by decide) rfl (fun ls hl => hp_n (n := 7) rfl ?_)
  exact J7 n αh1 Hh1 Lh1 Bh1 σh1 Mh1 (0 : Int32) ls (lv_sub hl [1, 0] rfl) hf
def f_X12_fromPad_L2 (n : Nat) : Nat → ms_T → Int32 → Option (Int32 × ms_T)
  | 0, _, _ => none
  | k2 + 1, σh1, v1_h1 =>
    ms_g (2 : Int32) 1980 <|
    if (ms_E σh1 40 ((2 : Int32)).toNatClampNeg) ≤ v1_h1 then
      ms_g (2 : Int32) 1980 <|
      some ((ms_E σh1 40 ((2 : Int32)).toNatClampNeg), σh1)
    else
      ms_g ((8 : Int32) + v1_h1) 1980 <|
      ms_g v1_h1 128 <|
      ms_l (ms_sE σh1 44 (v1_h1).toNatClampNeg (ms_E σh1 40 (((8 : Int32) + v1_h1)).toNatClampNeg)) fun σh7 =>
      ms_l (v1_h1 + 1) fun x8 =>
      (f_X12_fromPad_L2 n k2) σh7 x8
def f_X12_fromPad (n : Nat) (σ : ms_T) : Option (Int32 × ms_T) :=
  f_X12_fromPad_L2 n n σ (0 : Int32)
set_option maxRecDepth 100000 in
set_option maxHeartbeats 4000000 in
theorem m_X12_fromPad (n : Nat) (Γ : hp_G) (l : Launch) (α : hp_T) (a0 : Nat) (ρ : Nat → Nat) (σ : ms_T) (hM : hm_M α a0 ρ σ)  (res : (Int32 × ms_T)) (hf : f_X12_fromPad n σ = some res) : Met l yX12_fromPad (hp_ws yX12_fromPad cX12_fromPad 2 (some .int)) (hp_rm 0 0 0) (hp_Pc Γ α [.ref a0]) (hp_Qi Γ (fun r β => r = res.1 ∧ mo α β ∧ hm_M β a0 ρ res.2)) 0 0 (hp_A Γ) := by
  unfold f_X12_fromPad at hf
  refine hp_start (by decide) ?_
  intro p e s m below meth c C hr hlk B0 hnm
  have C : hp_C Γ p m c cX12_fromPad 2 s ([.ref a0] : List Value).toArray RX12 := C
  have hx := C.1.1
  have hb := C.1.2.1
  have hown := C.1.2.2.2.1
  have hts := C.1.2.2.2.2
  have B : hp_B Γ mo s α α s.heap [] := ⟨B0.1, B0.2.1, mo_rf⟩
  have hl := lv_entry ([.ref a0]) (n := 2) (Nat.le_of_ble_eq_true rfl)
  show W p l e (hp_rm 0 0 0) s m ([.ref a0] : List Value).toArray below meth c s.heap [] 0 0 (MQ below (hp_Qi Γ (fun r β => r = res.1 ∧ mo α β ∧ hm_M β a0 ρ res.2)) ([.ref a0] : List Value).toArray s 0 0 (hp_A Γ)) (entryFrame m ([.ref a0] : List Value).toArray 2)
  rw [lg_entry_eq]
  generalize (lg_sl ([.ref a0]) ++ List.replicate (2 - (lg_sl ([.ref a0])).length) Slot.unset).toArray = ls at hl ⊢
  have hl : lv_has ls 2 [(0, .ref a0)] := hl
  refine lv_iconst (v := 0) hx hb dX12_fromPad_0 (by decide) (hp_n (n := 1) rfl ?_)
  have J2 : ∀ (k2 : Nat) (αh1 : hp_T) (Hh1 : Heap) (Lh1 : List Loc) (Bh1 : hp_B Γ mo s α αh1 Hh1 Lh1) (σh1 : ms_T) (Mh1 : hm_M αh1 a0 ρ σh1) (v1_h1 : Int32) (ls : Array Slot) (hl : lv_has ls 2 [(0, .ref a0), (1, .int v1_h1)]) (hf : f_X12_fromPad_L2 n k2 σh1 v1_h1 = some res), W p l e (hp_rm 0 0 0) s m ([.ref a0] : List Value).toArray below meth c Hh1 Lh1 0 0 (MQ below (hp_Qi Γ (fun r β => r = res.1 ∧ mo α β ∧ hm_M β a0 ρ res.2)) ([.ref a0] : List Value).toArray s 0 0 (hp_A Γ)) (F0 m 2 ls []) := by
    intro k2
    induction k2 with
    | zero => intro αh1 Hh1 Lh1 Bh1 σh1 Mh1 v1_h1 ls hl hf; rw [f_X12_fromPad_L2.eq_1] at hf; cases hf
    | succ k2 ih2 =>
      intro αh1 Hh1 Lh1 Bh1 σh1 Mh1 v1_h1 ls hl hf
      rw [f_X12_fromPad_L2.eq_2] at hf
      refine lv_iload_n hx hb dX12_fromPad_2 rfl (lv_at hl 1 rfl) (hp_n (n := 3) rfl ?_)
      refine lv_aload_n hx hb dX12_fromPad_3 rfl (lv_at hl 0 rfl) (hp_n (n := 4) rfl ?_)
      refine m_getr (κ := 40) (k := 0) (pc' := 7) C Bh1 Mh1 fl_X12_7 rfl (by decide) dX12_fromPad_4 rfl ?_
      refine lv_iconst (v := 2) hx hb dX12_fromPad_7 (by decide) (hp_n (n := 8) rfl ?_)
      obtain ⟨g2, hf⟩ := ms_gE hf
      refine m_ial (κ := 40) (φ := 650) (n := 1980) (pc' := 9) C Bh1 Mh1 (by decide) (by decide) rfl g2 dX12_fromPad_8 rfl ?_
      refine lv_icmp_ge (tgt := 33) hx hb dX12_fromPad_9 (by decide) (fun c3 => ?_) (fun c3 => hp_n (n := 12) rfl ?_)
      ·
        replace hf := ms_iT c3 hf
        refine lv_aload_n hx hb dX12_fromPad_33 rfl (lv_at hl 0 rfl) (hp_n (n := 34) rfl ?_)
        refine m_getr (κ := 40) (k := 0) (pc' := 37) C Bh1 Mh1 fl_X12_7 rfl (by decide) dX12_fromPad_34 rfl ?_
        refine lv_iconst (v := 2) hx hb dX12_fromPad_37 (by decide) (hp_n (n := 38) rfl ?_)
        obtain ⟨g4, hf⟩ := ms_gE hf
        refine m_ial (κ := 40) (φ := 650) (n := 1980) (pc' := 39) C Bh1 Mh1 (by decide) (by decide) rfl g4 dX12_fromPad_38 rfl ?_
        cases hf
        exact q_iret C Bh1 hr hlk ⟨rfl, Bh1.2.2, Mh1⟩ dX12_fromPad_39
      ·
        replace hf := ms_iF c3 hf
        refine lv_aload_n hx hb dX12_fromPad_12 rfl (lv_at hl 0 rfl) (hp_n (n := 13) rfl ?_)
        refine m_getr (κ := 44) (k := 6) (pc' := 16) C Bh1 Mh1 fl_X12_22 rfl (by decide) dX12_fromPad_13 rfl ?_
        refine lv_iload_n hx hb dX12_fromPad_16 rfl (lv_at hl 1 rfl) (hp_n (n := 17) rfl ?_)
        refine lv_aload_n hx hb dX12_fromPad_17 rfl (lv_at hl 0 rfl) (hp_n (n := 18) rfl ?_)
        refine m_getr (κ := 40) (k := 0) (pc' := 21) C Bh1 Mh1 fl_X12_7 rfl (by decide) dX12_fromPad_18 rfl ?_
        refine lv_bipush (v := 8) hx hb dX12_fromPad_21 (by decide) (hp_n (n := 23) rfl ?_)
        refine lv_iload_n hx hb dX12_fromPad_23 rfl (lv_at hl 1 rfl) (hp_n (n := 24) rfl ?_)
        refine lv_iadd hx hb dX12_fromPad_24 (hp_n (n := 25) rfl ?_)
        obtain ⟨g5, hf⟩ := ms_gE hf
        refine m_ial (κ := 40) (φ := 650) (n := 1980) (pc' := 26) C Bh1 Mh1 (by decide) (by decide) rfl g5 dX12_fromPad_25 rfl ?_
        obtain ⟨g6, hf⟩ := ms_gE hf
        refine m_ias (κ := 44) (φ := 656) (n := 128) (pc' := 27) C Bh1 Mh1 (by decide) (by decide) rfl g6 dX12_fromPad_26 rfl (fun αh7 Hh7 Lh7 σh7 eh7 Bh7 Mh7 => ?_)
        replace hf := ms_lE eh7 hf
        obtain ⟨x8, ex8⟩ : ∃ y : Int32, y = v1_h1 + 1 := ⟨_, rfl⟩
        replace hf := ms_lE ex8 hf
        refine lv_iinc (v := x8) (lv' := [(1, .int x8), (0, .ref a0)]) hx hb dX12_fromPad_27 hl (k := 1) rfl (by rw [ex8]; rfl) (by decide) rfl (fun ls hl => hp_n (n := 30) rfl ?_)
        refine lv_goto (tgt := 2) hx hb dX12_fromPad_30 (by decide) ?_
        exact ih2 αh7 Hh7 Lh7 Bh7 σh7 Mh7 x8 ls (lv_sub hl [1, 0] rfl) hf
  refine lv_istore_n (lv' := [(1, .int (0 : Int32)), (0, .ref a0)]) hx hb dX12_fromPad_1 rfl hl (by decide) rfl (fun ls hl => hp_n (n := 2) rfl ?_)
  exact J2 n α s.heap [] B σ hM (0 : Int32) ls (lv_sub hl [1, 0] rfl) hf
def f_X12_foldsIn (n : Nat) : Nat → ms_T → Int32 → Int32 → Int32 → Option (Int32 × ms_T)
  | 0, _, _, _, _ => none
  | d + 1, σ, a1, a2, a3 =>
    if a3 = (1 : Int32) then
      some (a1, σ)
    else
      ms_b (f_X12_part0 n a3) fun rh2 =>
      if rh2 ≤ a2 then
        ms_c ((f_X12_foldsIn n d) σ a1 (a2 - rh2) (a3 - rh2)) fun rh4 σh4 =>
        ms_l (ms_sI σh4 658 ((ms_I σh4 658) + (1 : Int32))) fun σh5 =>
        ms_g ((ms_I σh5 658) - (1 : Int32)) 128 <|
        ms_b (f_X12_both n σh5 (ms_E σh5 44 (((ms_I σh5 658) - (1 : Int32))).toNatClampNeg) rh4) fun rh7 =>
        some (rh7, σh5)
      else
        ms_c ((f_X12_foldsIn n d) σ a1 a2 rh2) fun rh8 σh8 =>
        ms_l (ms_sI σh8 658 ((ms_I σh8 658) + (1 : Int32))) fun σh9 =>
        ms_g ((ms_I σh9 658) - (1 : Int32)) 128 <|
        ms_b (f_X12_both n σh9 rh8 (ms_E σh9 44 (((ms_I σh9 658) - (1 : Int32))).toNatClampNeg)) fun rh11 =>
        some (rh11, σh9)
set_option maxRecDepth 100000 in
set_option maxHeartbeats 4000000 in
theorem m_X12_foldsIn (n : Nat) : ∀ (d : Nat) (Γ : hp_G) (l : Launch) (α : hp_T) (a0 : Nat) (ρ : Nat → Nat) (σ : ms_T) (hM : hm_M α a0 ρ σ) (a1 : Int32) (a2 : Int32) (a3 : Int32) (res : (Int32 × ms_T)) (hf : f_X12_foldsIn n d σ a1 a2 a3 = some res), Met l yX12_foldsIn (hp_ws yX12_foldsIn cX12_foldsIn 6 (some .int)) (hp_rm (d + 1) 0 0) (hp_Pc Γ α [.ref a0, .int a1, .int a2, .int a3]) (hp_Qi Γ (fun r β => r = res.1 ∧ mo α β ∧ hm_M β a0 ρ res.2)) 0 0 (hp_A Γ) := by
  intro d
  induction d with
  | zero => intro Γ l α a0 ρ σ hM a1 a2 a3 res hf; rw [f_X12_foldsIn.eq_1] at hf; cases hf
  | succ d ihM =>
    intro Γ l α a0 ρ σ hM a1 a2 a3 res hf
    rw [f_X12_foldsIn.eq_2] at hf
    refine hp_start (by decide) ?_
    intro p e s m below meth c C hr hlk B0 hnm
    have C : hp_C Γ p m c cX12_foldsIn 6 s ([.ref a0, .int a1, .int a2, .int a3] : List Value).toArray RX12 := C
    have hx := C.1.1
    have hb := C.1.2.1
    have hown := C.1.2.2.2.1
    have hts := C.1.2.2.2.2
    have B : hp_B Γ mo s α α s.heap [] := ⟨B0.1, B0.2.1, mo_rf⟩
    have hl := lv_entry ([.ref a0, .int a1, .int a2, .int a3]) (n := 6) (Nat.le_of_ble_eq_true rfl)
    show W p l e (hp_rm (d + 1 + 1) 0 0) s m ([.ref a0, .int a1, .int a2, .int a3] : List Value).toArray below meth c s.heap [] 0 0 (MQ below (hp_Qi Γ (fun r β => r = res.1 ∧ mo α β ∧ hm_M β a0 ρ res.2)) ([.ref a0, .int a1, .int a2, .int a3] : List Value).toArray s 0 0 (hp_A Γ)) (entryFrame m ([.ref a0, .int a1, .int a2, .int a3] : List Value).toArray 6)
    rw [lg_entry_eq]
    generalize (lg_sl ([.ref a0, .int a1, .int a2, .int a3]) ++ List.replicate (6 - (lg_sl ([.ref a0, .int a1, .int a2, .int a3])).length) Slot.unset).toArray = ls at hl ⊢
    have hl : lv_has ls 6 [(0, .ref a0), (1, .int a1), (2, .int a2), (3, .int a3)] := hl
    refine lv_iload_n hx hb dX12_foldsIn_0 rfl (lv_at hl 3 rfl) (hp_n (n := 1) rfl ?_)
    refine lv_iconst (v := 1) hx hb dX12_foldsIn_1 (by decide) (hp_n (n := 2) rfl ?_)
    refine lv_icmp_ne (tgt := 7) hx hb dX12_foldsIn_2 (by decide) (fun c1 => ?_) (fun c1 => hp_n (n := 5) rfl ?_)
    ·
      replace hf := ms_iF c1 hf
      refine lv_iload_n hx hb dX12_foldsIn_7 rfl (lv_at hl 3 rfl) (hp_n (n := 8) rfl ?_)
      obtain ⟨rh2, qh2, hf⟩ := ms_bE hf
      refine m_cp (pc' := 11) B (hp_runS (As := [.int a3]) (rest := []) C B (m_X12_part0 n Γ l α a3 rh2 qh2) lb_X12_part0 ls_X12_part0 lk_X12_128 rfl (by omega) rfl hl.1 rfl (Nat.le_of_ble_eq_true rfl) dX12_foldsIn_8 ⟨Nat.le_refl _, Nat.le_refl _⟩) rfl (fun Hh2 Lh2 Bh2 => ?_)
      refine lv_istore (lv' := [(4, .int rh2), (0, .ref a0), (1, .int a1), (2, .int a2), (3, .int a3)]) hx hb dX12_foldsIn_11 hl (by decide) rfl (fun ls hl => hp_n (n := 13) rfl ?_)
      refine lv_iload_n hx hb dX12_foldsIn_13 rfl (lv_at hl 3 rfl) (hp_n (n := 14) rfl ?_)
      refine lv_iload hx hb dX12_foldsIn_14 (lv_at hl 0 rfl) (hp_n (n := 16) rfl ?_)
      refine lv_icmp_ge (tgt := 57) hx hb dX12_foldsIn_16 (by decide) (fun c3 => ?_) (fun c3 => hp_n (n := 19) rfl ?_)
      ·
        replace hf := ms_iT c3 hf
        refine lv_aload_n hx hb dX12_foldsIn_57 rfl (lv_at hl 1 rfl) (hp_n (n := 58) rfl ?_)
        refine lv_iload_n hx hb dX12_foldsIn_58 rfl (lv_at hl 2 rfl) (hp_n (n := 59) rfl ?_)
        refine lv_iload_n hx hb dX12_foldsIn_59 rfl (lv_at hl 3 rfl) (hp_n (n := 60) rfl ?_)
        refine lv_iload hx hb dX12_foldsIn_60 (lv_at hl 0 rfl) (hp_n (n := 62) rfl ?_)
        refine lv_isub hx hb dX12_foldsIn_62 (hp_n (n := 63) rfl ?_)
        refine lv_iload_n hx hb dX12_foldsIn_63 rfl (lv_at hl 4 rfl) (hp_n (n := 64) rfl ?_)
        refine lv_iload hx hb dX12_foldsIn_64 (lv_at hl 0 rfl) (hp_n (n := 66) rfl ?_)
        refine lv_isub hx hb dX12_foldsIn_66 (hp_n (n := 67) rfl ?_)
        obtain ⟨rh4, σh4, qh4, hf⟩ := ms_cE hf
        refine m_ci (pc' := 70) (a := a0) (ρ := ρ) Bh2 (hp_runV (As := [.int a1, .int (a2 - rh2), .int (a3 - rh2)]) (rest := []) C Bh2 (ihM Γ l α a0 ρ σ hM a1 (a2 - rh2) (a3 - rh2) (rh4, σh4) qh4) lb_X12_foldsIn lv_X12_foldsIn lk_X12_165 hM.1 rfl (by omega) rfl hl.1 rfl (Nat.le_of_ble_eq_true rfl) dX12_foldsIn_67 ⟨Nat.le_refl _, Nat.le_refl _⟩) rfl (fun αh4 Hh4 Lh4 Bh4 Mh4 => ?_)
        refine lv_istore (lv' := [(5, .int rh4), (4, .int rh2), (0, .ref a0), (1, .int a1), (2, .int a2), (3, .int a3)]) hx hb dX12_foldsIn_70 hl (by decide) rfl (fun ls hl => hp_n (n := 72) rfl ?_)
        refine lv_aload_n hx hb dX12_foldsIn_72 rfl (lv_at hl 2 rfl) (hp_n (n := 73) rfl ?_)
        refine lv_dup hx hb dX12_foldsIn_73 rfl (hp_n (n := 74) rfl ?_)
        refine m_geti (k := 8) (φ := 658) (pc' := 77) C Bh4 Mh4 fl_X12_168 rfl rfl dX12_foldsIn_74 rfl ?_
        refine lv_iconst (v := 1) hx hb dX12_foldsIn_77 (by decide) (hp_n (n := 78) rfl ?_)
        refine lv_iadd hx hb dX12_foldsIn_78 (hp_n (n := 79) rfl ?_)
        refine m_puti (k := 8) (φ := 658) (pc' := 82) C Bh4 Mh4 fl_X12_168 rfl rfl rfl rfl rfl dX12_foldsIn_79 rfl (fun αh5 Hh5 Lh5 σh5 eh5 Bh5 Mh5 => ?_)
        replace hf := ms_lE eh5 hf
        refine lv_aload_n hx hb dX12_foldsIn_82 rfl (lv_at hl 2 rfl) (hp_n (n := 83) rfl ?_)
        refine lv_aload_n hx hb dX12_foldsIn_83 rfl (lv_at hl 2 rfl) (hp_n (n := 84) rfl ?_)
        refine m_getr (κ := 44) (k := 6) (pc' := 87) C Bh5 Mh5 fl_X12_22 rfl (by decide) dX12_foldsIn_84 rfl ?_
        refine lv_aload_n hx hb dX12_foldsIn_87 rfl (lv_at hl 2 rfl) (hp_n (n := 88) rfl ?_)
        refine m_geti (k := 8) (φ := 658) (pc' := 91) C Bh5 Mh5 fl_X12_168 rfl rfl dX12_foldsIn_88 rfl ?_
        refine lv_iconst (v := 1) hx hb dX12_foldsIn_91 (by decide) (hp_n (n := 92) rfl ?_)
        refine lv_isub hx hb dX12_foldsIn_92 (hp_n (n := 93) rfl ?_)
        obtain ⟨g6, hf⟩ := ms_gE hf
        refine m_ial (κ := 44) (φ := 656) (n := 128) (pc' := 94) C Bh5 Mh5 (by decide) (by decide) rfl g6 dX12_foldsIn_93 rfl ?_
        refine lv_iload hx hb dX12_foldsIn_94 (lv_at hl 0 rfl) (hp_n (n := 96) rfl ?_)
        obtain ⟨rh7, qh7, hf⟩ := ms_bE hf
        refine m_cp (pc' := 99) Bh5 (hp_runV (As := [.int (ms_E σh5 44 (((ms_I σh5 658) - (1 : Int32))).toNatClampNeg), .int rh4]) (rest := []) C Bh5 (m_X12_both n Γ l αh5 a0 ρ σh5 Mh5 (ms_E σh5 44 (((ms_I σh5 658) - (1 : Int32))).toNatClampNeg) rh4 rh7 qh7) lb_X12_both lv_X12_both lk_X12_136 Mh5.1 rfl (by omega) rfl hl.1 rfl (Nat.le_of_ble_eq_true rfl) dX12_foldsIn_96 ⟨Nat.le_refl _, Nat.le_refl _⟩) rfl (fun Hh7 Lh7 Bh7 => ?_)
        cases hf
        exact q_iret C Bh7 hr hlk ⟨rfl, Bh7.2.2, Mh5⟩ dX12_foldsIn_99
      ·
        replace hf := ms_iF c3 hf
        refine lv_aload_n hx hb dX12_foldsIn_19 rfl (lv_at hl 1 rfl) (hp_n (n := 20) rfl ?_)
        refine lv_iload_n hx hb dX12_foldsIn_20 rfl (lv_at hl 2 rfl) (hp_n (n := 21) rfl ?_)
        refine lv_iload_n hx hb dX12_foldsIn_21 rfl (lv_at hl 3 rfl) (hp_n (n := 22) rfl ?_)
        refine lv_iload hx hb dX12_foldsIn_22 (lv_at hl 0 rfl) (hp_n (n := 24) rfl ?_)
        obtain ⟨rh8, σh8, qh8, hf⟩ := ms_cE hf
        refine m_ci (pc' := 27) (a := a0) (ρ := ρ) Bh2 (hp_runV (As := [.int a1, .int a2, .int rh2]) (rest := []) C Bh2 (ihM Γ l α a0 ρ σ hM a1 a2 rh2 (rh8, σh8) qh8) lb_X12_foldsIn lv_X12_foldsIn lk_X12_165 hM.1 rfl (by omega) rfl hl.1 rfl (Nat.le_of_ble_eq_true rfl) dX12_foldsIn_24 ⟨Nat.le_refl _, Nat.le_refl _⟩) rfl (fun αh8 Hh8 Lh8 Bh8 Mh8 => ?_)
        refine lv_istore (lv' := [(5, .int rh8), (4, .int rh2), (0, .ref a0), (1, .int a1), (2, .int a2), (3, .int a3)]) hx hb dX12_foldsIn_27 hl (by decide) rfl (fun ls hl => hp_n (n := 29) rfl ?_)
        refine lv_aload_n hx hb dX12_foldsIn_29 rfl (lv_at hl 2 rfl) (hp_n (n := 30) rfl ?_)
        refine lv_dup hx hb dX12_foldsIn_30 rfl (hp_n (n := 31) rfl ?_)
        refine m_geti (k := 8) (φ := 658) (pc' := 34) C Bh8 Mh8 fl_X12_168 rfl rfl dX12_foldsIn_31 rfl ?_
        refine lv_iconst (v := 1) hx hb dX12_foldsIn_34 (by decide) (hp_n (n := 35) rfl ?_)
        refine lv_iadd hx hb dX12_foldsIn_35 (hp_n (n := 36) rfl ?_)
        refine m_puti (k := 8) (φ := 658) (pc' := 39) C Bh8 Mh8 fl_X12_168 rfl rfl rfl rfl rfl dX12_foldsIn_36 rfl (fun αh9 Hh9 Lh9 σh9 eh9 Bh9 Mh9 => ?_)
        replace hf := ms_lE eh9 hf
        refine lv_aload_n hx hb dX12_foldsIn_39 rfl (lv_at hl 2 rfl) (hp_n (n := 40) rfl ?_)
        refine lv_iload hx hb dX12_foldsIn_40 (lv_at hl 0 rfl) (hp_n (n := 42) rfl ?_)
        refine lv_aload_n hx hb dX12_foldsIn_42 rfl (lv_at hl 2 rfl) (hp_n (n := 43) rfl ?_)
        refine m_getr (κ := 44) (k := 6) (pc' := 46) C Bh9 Mh9 fl_X12_22 rfl (by decide) dX12_foldsIn_43 rfl ?_
        refine lv_aload_n hx hb dX12_foldsIn_46 rfl (lv_at hl 2 rfl) (hp_n (n := 47) rfl ?_)
        refine m_geti (k := 8) (φ := 658) (pc' := 50) C Bh9 Mh9 fl_X12_168 rfl rfl dX12_foldsIn_47 rfl ?_
        refine lv_iconst (v := 1) hx hb dX12_foldsIn_50 (by decide) (hp_n (n := 51) rfl ?_)
        refine lv_isub hx hb dX12_foldsIn_51 (hp_n (n := 52) rfl ?_)
        obtain ⟨g10, hf⟩ := ms_gE hf
        refine m_ial (κ := 44) (φ := 656) (n := 128) (pc' := 53) C Bh9 Mh9 (by decide) (by decide) rfl g10 dX12_foldsIn_52 rfl ?_
        obtain ⟨rh11, qh11, hf⟩ := ms_bE hf
        refine m_cp (pc' := 56) Bh9 (hp_runV (As := [.int rh8, .int (ms_E σh9 44 (((ms_I σh9 658) - (1 : Int32))).toNatClampNeg)]) (rest := []) C Bh9 (m_X12_both n Γ l αh9 a0 ρ σh9 Mh9 rh8 (ms_E σh9 44 (((ms_I σh9 658) - (1 : Int32))).toNatClampNeg) rh11 qh11) lb_X12_both lv_X12_both lk_X12_136 Mh9.1 rfl (by omega) rfl hl.1 rfl (Nat.le_of_ble_eq_true rfl) dX12_foldsIn_53 ⟨Nat.le_refl _, Nat.le_refl _⟩) rfl (fun Hh11 Lh11 Bh11 => ?_)
        cases hf
        exact q_iret C Bh11 hr hlk ⟨rfl, Bh11.2.2, Mh9⟩ dX12_foldsIn_56
    ·
      replace hf := ms_iT c1 hf
      refine lv_iload_n hx hb dX12_foldsIn_5 rfl (lv_at hl 1 rfl) (hp_n (n := 6) rfl ?_)
      cases hf
      exact q_iret C B hr hlk ⟨rfl, B.2.2, hM⟩ dX12_foldsIn_6
def f_X12_folded (n : Nat) (σ : ms_T) (a1 : Int32) (a2 : Int32) (a3 : Int32) : Option (Int32 × ms_T) :=
  ms_l (ms_sI σ 658 (0 : Int32)) fun σh1 =>
  ms_c (f_X12_foldsIn n 40 σh1 a1 a2 a3) fun rh2 σh2 =>
  some (rh2, σh2)
set_option maxRecDepth 100000 in
set_option maxHeartbeats 4000000 in
theorem m_X12_folded (n : Nat) (Γ : hp_G) (l : Launch) (α : hp_T) (a0 : Nat) (ρ : Nat → Nat) (σ : ms_T) (hM : hm_M α a0 ρ σ) (a1 : Int32) (a2 : Int32) (a3 : Int32) (res : (Int32 × ms_T)) (hf : f_X12_folded n σ a1 a2 a3 = some res) : Met l yX12_folded (hp_ws yX12_folded cX12_folded 4 (some .int)) (hp_rm 42 0 0) (hp_Pc Γ α [.ref a0, .int a1, .int a2, .int a3]) (hp_Qi Γ (fun r β => r = res.1 ∧ mo α β ∧ hm_M β a0 ρ res.2)) 0 0 (hp_A Γ) := by
  unfold f_X12_folded at hf
  refine hp_start (by decide) ?_
  intro p e s m below meth c C hr hlk B0 hnm
  have C : hp_C Γ p m c cX12_folded 4 s ([.ref a0, .int a1, .int a2, .int a3] : List Value).toArray RX12 := C
  have hx := C.1.1
  have hb := C.1.2.1
  have hown := C.1.2.2.2.1
  have hts := C.1.2.2.2.2
  have B : hp_B Γ mo s α α s.heap [] := ⟨B0.1, B0.2.1, mo_rf⟩
  have hl := lv_entry ([.ref a0, .int a1, .int a2, .int a3]) (n := 4) (Nat.le_of_ble_eq_true rfl)
  show W p l e (hp_rm 42 0 0) s m ([.ref a0, .int a1, .int a2, .int a3] : List Value).toArray below meth c s.heap [] 0 0 (MQ below (hp_Qi Γ (fun r β => r = res.1 ∧ mo α β ∧ hm_M β a0 ρ res.2)) ([.ref a0, .int a1, .int a2, .int a3] : List Value).toArray s 0 0 (hp_A Γ)) (entryFrame m ([.ref a0, .int a1, .int a2, .int a3] : List Value).toArray 4)
  rw [lg_entry_eq]
  generalize (lg_sl ([.ref a0, .int a1, .int a2, .int a3]) ++ List.replicate (4 - (lg_sl ([.ref a0, .int a1, .int a2, .int a3])).length) Slot.unset).toArray = ls at hl ⊢
  have hl : lv_has ls 4 [(0, .ref a0), (1, .int a1), (2, .int a2), (3, .int a3)] := hl
  refine lv_aload_n hx hb dX12_folded_0 rfl (lv_at hl 0 rfl) (hp_n (n := 1) rfl ?_)
  refine lv_iconst (v := 0) hx hb dX12_folded_1 (by decide) (hp_n (n := 2) rfl ?_)
  refine m_puti (k := 8) (φ := 658) (pc' := 5) C B hM fl_X12_168 rfl rfl rfl rfl rfl dX12_folded_2 rfl (fun αh1 Hh1 Lh1 σh1 eh1 Bh1 Mh1 => ?_)
  replace hf := ms_lE eh1 hf
  refine lv_aload_n hx hb dX12_folded_5 rfl (lv_at hl 0 rfl) (hp_n (n := 6) rfl ?_)
  refine lv_iload_n hx hb dX12_folded_6 rfl (lv_at hl 1 rfl) (hp_n (n := 7) rfl ?_)
  refine lv_iload_n hx hb dX12_folded_7 rfl (lv_at hl 2 rfl) (hp_n (n := 8) rfl ?_)
  refine lv_iload_n hx hb dX12_folded_8 rfl (lv_at hl 3 rfl) (hp_n (n := 9) rfl ?_)
  obtain ⟨rh2, σh2, qh2, hf⟩ := ms_cE hf
  refine m_ci (pc' := 12) (a := a0) (ρ := ρ) Bh1 (hp_runV (As := [.int a1, .int a2, .int a3]) (rest := []) C Bh1 (m_X12_foldsIn n 40 Γ l αh1 a0 ρ σh1 Mh1 a1 a2 a3 (rh2, σh2) qh2) lb_X12_foldsIn lv_X12_foldsIn lk_X12_165 Mh1.1 rfl (by decide) rfl hl.1 rfl (Nat.le_of_ble_eq_true rfl) dX12_folded_9 ⟨Nat.le_refl _, Nat.le_refl _⟩) rfl (fun αh2 Hh2 Lh2 Bh2 Mh2 => ?_)
  cases hf
  exact q_iret C Bh2 hr hlk ⟨rfl, Bh2.2.2, Mh2⟩ dX12_folded_12
def f_X12_why (n : Nat) (σ : ms_T) (a1 : Int32) (a2 : Int32) (a3 : Int32) : Option Int32 :=
  if a2 ≤ a1 then
    if a1 ≤ a2 then
      if a3 = 0 then
        some (3 : Int32)
      else
        some (0 : Int32)
    else
      some (2 : Int32)
  else
    some (1 : Int32)
set_option maxRecDepth 100000 in
set_option maxHeartbeats 4000000 in
theorem m_X12_why (n : Nat) (Γ : hp_G) (l : Launch) (α : hp_T) (a0 : Nat) (ρ : Nat → Nat) (σ : ms_T) (hM : hm_M α a0 ρ σ) (a1 : Int32) (a2 : Int32) (a3 : Int32) (res : Int32) (hf : f_X12_why n σ a1 a2 a3 = some res) : Met l yX12_why (hp_ws yX12_why cX12_why 4 (some .int)) (hp_rm 0 0 0) (hp_Pc Γ α [.ref a0, .int a1, .int a2, .int a3]) (hp_Qi Γ (fun r β => β = α ∧ r = res)) 0 0 (hp_A Γ) := by
  unfold f_X12_why at hf
  refine hp_start (by decide) ?_
  intro p e s m below meth c C hr hlk B0 hnm
  have C : hp_C Γ p m c cX12_why 4 s ([.ref a0, .int a1, .int a2, .int a3] : List Value).toArray RX12 := C
  have hx := C.1.1
  have hb := C.1.2.1
  have hown := C.1.2.2.2.1
  have hts := C.1.2.2.2.2
  have B : hp_B Γ (fun _ _ => True) s α α s.heap [] := ⟨B0.1, B0.2.1, trivial⟩
  have hl := lv_entry ([.ref a0, .int a1, .int a2, .int a3]) (n := 4) (Nat.le_of_ble_eq_true rfl)
  show W p l e (hp_rm 0 0 0) s m ([.ref a0, .int a1, .int a2, .int a3] : List Value).toArray below meth c s.heap [] 0 0 (MQ below (hp_Qi Γ (fun r β => β = α ∧ r = res)) ([.ref a0, .int a1, .int a2, .int a3] : List Value).toArray s 0 0 (hp_A Γ)) (entryFrame m ([.ref a0, .int a1, .int a2, .int a3] : List Value).toArray 4)
  rw [lg_entry_eq]
  generalize (lg_sl ([.ref a0, .int a1, .int a2, .int a3]) ++ List.replicate (4 - (lg_sl ([.ref a0, .int a1, .int a2, .int a3])).length) Slot.unset).toArray = ls at hl ⊢
  have hl : lv_has ls 4 [(0, .ref a0), (1, .int a1), (2, .int a2), (3, .int a3)] := hl
  refine lv_iload_n hx hb dX12_why_0 rfl (lv_at hl 1 rfl) (hp_n (n := 1) rfl ?_)
  refine lv_iload_n hx hb dX12_why_1 rfl (lv_at hl 2 rfl) (hp_n (n := 2) rfl ?_)
  refine lv_icmp_ge (tgt := 9) hx hb dX12_why_2 (by decide) (fun c1 => ?_) (fun c1 => hp_n (n := 5) rfl ?_)
  ·
    replace hf := ms_iT c1 hf
    refine lv_iload_n hx hb dX12_why_9 rfl (lv_at hl 1 rfl) (hp_n (n := 10) rfl ?_)
    refine lv_iload_n hx hb dX12_why_10 rfl (lv_at hl 2 rfl) (hp_n (n := 11) rfl ?_)
    refine lv_icmp_le (tgt := 18) hx hb dX12_why_11 (by decide) (fun c2 => ?_) (fun c2 => hp_n (n := 14) rfl ?_)
    ·
      replace hf := ms_iT c2 hf
      refine lv_iload_n hx hb dX12_why_18 rfl (lv_at hl 3 rfl) (hp_n (n := 19) rfl ?_)
      refine lv_if_eq (tgt := 26) hx hb dX12_why_19 (by decide) (fun c3 => ?_) (fun c3 => hp_n (n := 22) rfl ?_)
      ·
        replace hf := ms_iT c3 hf
        refine lv_iconst (v := 3) hx hb dX12_why_26 (by decide) (hp_n (n := 27) rfl ?_)
        cases hf
        exact q_iret C B hr hlk ⟨rfl, rfl⟩ dX12_why_27
      ·
        replace hf := ms_iF c3 hf
        refine lv_iconst (v := 0) hx hb dX12_why_22 (by decide) (hp_n (n := 23) rfl ?_)
        refine lv_goto (tgt := 27) hx hb dX12_why_23 (by decide) ?_
        cases hf
        exact q_iret C B hr hlk ⟨rfl, rfl⟩ dX12_why_27
    ·
      replace hf := ms_iF c2 hf
      refine lv_iconst (v := 2) hx hb dX12_why_14 (by decide) (hp_n (n := 15) rfl ?_)
      refine lv_goto (tgt := 27) hx hb dX12_why_15 (by decide) ?_
      cases hf
      exact q_iret C B hr hlk ⟨rfl, rfl⟩ dX12_why_27
  ·
    replace hf := ms_iF c1 hf
    refine lv_iconst (v := 1) hx hb dX12_why_5 (by decide) (hp_n (n := 6) rfl ?_)
    refine lv_goto (tgt := 27) hx hb dX12_why_6 (by decide) ?_
    cases hf
    exact q_iret C B hr hlk ⟨rfl, rfl⟩ dX12_why_27
def f_X12_whyIn_J41 (n : Nat) (σh3 : ms_T) (w0_h3 : Int32) (w1_h3 : Int32) (w2_h3 : Int32) : Option (Int32 × ms_T) :=
  ms_b (f_X12_why n σh3 w2_h3 w1_h3 w0_h3) fun rh4 =>
  some (rh4, σh3)
def f_X12_whyIn_J36 (n : Nat) (σh5 : ms_T) (w0_h5 : Int32) (w1_h5 : Int32) : Option (Int32 × ms_T) :=
  f_X12_whyIn_J41 n σh5 (1 : Int32) w0_h5 w1_h5
def f_X12_whyIn (n : Nat) (σ : ms_T) (a1 : Int32) (a2 : Int32) (a3 : Int32) (a4 : Int32) (a5 : Int32) : Option (Int32 × ms_T) :=
  ms_b (f_X12_inclusion n σ a3 a4) fun σh1 =>
  ms_l ((ms_I σh1 657)) fun x2 =>
  if a1 = x2 then
    ms_c (f_X12_folded n σh1 a2 a3 a4) fun rh7 σh7 =>
    if rh7 = a5 then
      f_X12_whyIn_J36 n σh7 x2 a1
    else
      f_X12_whyIn_J41 n σh7 (0 : Int32) x2 a1
  else
    f_X12_whyIn_J36 n σh1 x2 a1
set_option maxRecDepth 100000 in
set_option maxHeartbeats 4000000 in
theorem m_X12_whyIn (n : Nat) (Γ : hp_G) (l : Launch) (α : hp_T) (a0 : Nat) (ρ : Nat → Nat) (σ : ms_T) (hM : hm_M α a0 ρ σ) (a1 : Int32) (a2 : Int32) (a3 : Int32) (a4 : Int32) (a5 : Int32) (res : (Int32 × ms_T)) (hf : f_X12_whyIn n σ a1 a2 a3 a4 a5 = some res) : Met l yX12_whyIn (hp_ws yX12_whyIn cX12_whyIn 7 (some .int)) (hp_rm 43 0 0) (hp_Pc Γ α [.ref a0, .int a1, .int a2, .int a3, .int a4, .int a5]) (hp_Qi Γ (fun r β => r = res.1 ∧ mo α β ∧ hm_M β a0 ρ res.2)) 0 0 (hp_A Γ) := by
  unfold f_X12_whyIn at hf
  refine hp_start (by decide) ?_
  intro p e s m below meth c C hr hlk B0 hnm
  have C : hp_C Γ p m c cX12_whyIn 7 s ([.ref a0, .int a1, .int a2, .int a3, .int a4, .int a5] : List Value).toArray RX12 := C
  have hx := C.1.1
  have hb := C.1.2.1
  have hown := C.1.2.2.2.1
  have hts := C.1.2.2.2.2
  have B : hp_B Γ mo s α α s.heap [] := ⟨B0.1, B0.2.1, mo_rf⟩
  have hl := lv_entry ([.ref a0, .int a1, .int a2, .int a3, .int a4, .int a5]) (n := 7) (Nat.le_of_ble_eq_true rfl)
  show W p l e (hp_rm 43 0 0) s m ([.ref a0, .int a1, .int a2, .int a3, .int a4, .int a5] : List Value).toArray below meth c s.heap [] 0 0 (MQ below (hp_Qi Γ (fun r β => r = res.1 ∧ mo α β ∧ hm_M β a0 ρ res.2)) ([.ref a0, .int a1, .int a2, .int a3, .int a4, .int a5] : List Value).toArray s 0 0 (hp_A Γ)) (entryFrame m ([.ref a0, .int a1, .int a2, .int a3, .int a4, .int a5] : List Value).toArray 7)
  rw [lg_entry_eq]
  generalize (lg_sl ([.ref a0, .int a1, .int a2, .int a3, .int a4, .int a5]) ++ List.replicate (7 - (lg_sl ([.ref a0, .int a1, .int a2, .int a3, .int a4, .int a5])).length) Slot.unset).toArray = ls at hl ⊢
  have hl : lv_has ls 7 [(0, .ref a0), (1, .int a1), (2, .int a2), (3, .int a3), (4, .int a4), (5, .int a5)] := hl
  refine lv_aload_n hx hb dX12_whyIn_0 rfl (lv_at hl 0 rfl) (hp_n (n := 1) rfl ?_)
  refine lv_iload_n hx hb dX12_whyIn_1 rfl (lv_at hl 3 rfl) (hp_n (n := 2) rfl ?_)
  refine lv_iload hx hb dX12_whyIn_2 (lv_at hl 4 rfl) (hp_n (n := 4) rfl ?_)
  obtain ⟨σh1, qh1, hf⟩ := ms_bE hf
  refine m_cv (pc' := 7) (a := a0) (ρ := ρ) B (hp_runV (As := [.int a3, .int a4]) (rest := []) C B (m_X12_inclusion n Γ l α a0 ρ σ hM a3 a4 σh1 qh1) lb_X12_inclusion lv_X12_inclusion lk_X12_171 hM.1 rfl (by decide) rfl hl.1 rfl (Nat.le_of_ble_eq_true rfl) dX12_whyIn_4 ⟨Nat.le_refl _, Nat.le_refl _⟩) rfl (fun αh1 Hh1 Lh1 Bh1 Mh1 => ?_)
  refine lv_aload_n hx hb dX12_whyIn_7 rfl (lv_at hl 0 rfl) (hp_n (n := 8) rfl ?_)
  refine m_geti (k := 7) (φ := 657) (pc' := 11) C Bh1 Mh1 fl_X12_139 rfl rfl dX12_whyIn_8 rfl ?_
  refine lv_topi (fun x2 ex2 => ?_)
  replace hf := ms_lE ex2 hf
  refine lv_istore (lv' := [(6, .int x2), (0, .ref a0), (1, .int a1), (2, .int a2), (3, .int a3), (4, .int a4), (5, .int a5)]) hx hb dX12_whyIn_11 hl (by decide) rfl (fun ls hl => hp_n (n := 13) rfl ?_)
  refine lv_aload_n hx hb dX12_whyIn_13 rfl (lv_at hl 1 rfl) (hp_n (n := 14) rfl ?_)
  refine lv_iload_n hx hb dX12_whyIn_14 rfl (lv_at hl 2 rfl) (hp_n (n := 15) rfl ?_)
  refine lv_iload hx hb dX12_whyIn_15 (lv_at hl 0 rfl) (hp_n (n := 17) rfl ?_)
  refine lv_iload_n hx hb dX12_whyIn_17 rfl (lv_at hl 2 rfl) (hp_n (n := 18) rfl ?_)
  refine lv_iload hx hb dX12_whyIn_18 (lv_at hl 0 rfl) (hp_n (n := 20) rfl ?_)
  have J41 : ∀ (αh3 : hp_T) (Hh3 : Heap) (Lh3 : List Loc) (Bh3 : hp_B Γ mo s α αh3 Hh3 Lh3) (σh3 : ms_T) (Mh3 : hm_M αh3 a0 ρ σh3) (w0_h3 : Int32) (w1_h3 : Int32) (w2_h3 : Int32) (ls : Array Slot) (hl : lv_has ls 7 []) (hf : f_X12_whyIn_J41 n σh3 w0_h3 w1_h3 w2_h3 = some res), W p l e (hp_rm 43 0 0) s m ([.ref a0, .int a1, .int a2, .int a3, .int a4, .int a5] : List Value).toArray below meth c Hh3 Lh3 0 0 (MQ below (hp_Qi Γ (fun r β => r = res.1 ∧ mo α β ∧ hm_M β a0 ρ res.2)) ([.ref a0, .int a1, .int a2, .int a3, .int a4, .int a5] : List Value).toArray s 0 0 (hp_A Γ)) (F0 m 41 ls [.int w0_h3, .int w1_h3, .int w2_h3, .ref a0]) := by
    intro αh3 Hh3 Lh3 Bh3 σh3 Mh3 w0_h3 w1_h3 w2_h3 ls hl hf
    unfold f_X12_whyIn_J41 at hf
    obtain ⟨rh4, qh4, hf⟩ := ms_bE hf
    refine m_cp (pc' := 44) Bh3 (hp_runV (As := [.int w2_h3, .int w1_h3, .int w0_h3]) (rest := []) C Bh3 (m_X12_why n Γ l αh3 a0 ρ σh3 Mh3 w2_h3 w1_h3 w0_h3 rh4 qh4) lb_X12_why lv_X12_why lk_X12_177 Mh3.1 rfl (by decide) rfl hl.1 rfl (Nat.le_of_ble_eq_true rfl) dX12_whyIn_41 ⟨Nat.le_refl _, Nat.le_refl _⟩) rfl (fun Hh4 Lh4 Bh4 => ?_)
    cases hf
    exact q_iret C Bh4 hr hlk ⟨rfl, Bh4.2.2, Mh3⟩ dX12_whyIn_44
  have J36 : ∀ (αh5 : hp_T) (Hh5 : Heap) (Lh5 : List Loc) (Bh5 : hp_B Γ mo s α αh5 Hh5 Lh5) (σh5 : ms_T) (Mh5 : hm_M αh5 a0 ρ σh5) (w0_h5 : Int32) (w1_h5 : Int32) (ls : Array Slot) (hl : lv_has ls 7 []) (hf : f_X12_whyIn_J36 n σh5 w0_h5 w1_h5 = some res), W p l e (hp_rm 43 0 0) s m ([.ref a0, .int a1, .int a2, .int a3, .int a4, .int a5] : List Value).toArray below meth c Hh5 Lh5 0 0 (MQ below (hp_Qi Γ (fun r β => r = res.1 ∧ mo α β ∧ hm_M β a0 ρ res.2)) ([.ref a0, .int a1, .int a2, .int a3, .int a4, .int a5] : List Value).toArray s 0 0 (hp_A Γ)) (F0 m 36 ls [.int w0_h5, .int w1_h5, .ref a0]) := by
    intro αh5 Hh5 Lh5 Bh5 σh5 Mh5 w0_h5 w1_h5 ls hl hf
    unfold f_X12_whyIn_J36 at hf
    refine lv_iconst (v := 1) hx hb dX12_whyIn_36 (by decide) (hp_n (n := 37) rfl ?_)
    refine lv_goto (tgt := 41) hx hb dX12_whyIn_37 (by decide) ?_
    exact J41 αh5 Hh5 Lh5 Bh5 σh5 Mh5 (1 : Int32) w0_h5 w1_h5 ls (lv_sub hl [] rfl) hf
  refine lv_icmp_ne (tgt := 36) hx hb dX12_whyIn_20 (by decide) (fun c6 => ?_) (fun c6 => hp_n (n := 23) rfl ?_)
  ·
    replace hf := ms_iF c6 hf
    exact J36 αh1 Hh1 Lh1 Bh1 σh1 Mh1 x2 a1 ls (lv_sub hl [] rfl) hf
  ·
    replace hf := ms_iT c6 hf
    refine lv_aload_n hx hb dX12_whyIn_23 rfl (lv_at hl 1 rfl) (hp_n (n := 24) rfl ?_)
    refine lv_iload_n hx hb dX12_whyIn_24 rfl (lv_at hl 3 rfl) (hp_n (n := 25) rfl ?_)
    refine lv_iload_n hx hb dX12_whyIn_25 rfl (lv_at hl 4 rfl) (hp_n (n := 26) rfl ?_)
    refine lv_iload hx hb dX12_whyIn_26 (lv_at hl 5 rfl) (hp_n (n := 28) rfl ?_)
    obtain ⟨rh7, σh7, qh7, hf⟩ := ms_cE hf
    refine m_ci (pc' := 31) (a := a0) (ρ := ρ) Bh1 (hp_runV (As := [.int a2, .int a3, .int a4]) (rest := [.int x2, .int a1, .ref a0]) C Bh1 (m_X12_folded n Γ l αh1 a0 ρ σh1 Mh1 a2 a3 a4 (rh7, σh7) qh7) lb_X12_folded lv_X12_folded lk_X12_174 Mh1.1 rfl (by decide) rfl hl.1 rfl (Nat.le_of_ble_eq_true rfl) dX12_whyIn_28 ⟨Nat.le_refl _, Nat.le_refl _⟩) rfl (fun αh7 Hh7 Lh7 Bh7 Mh7 => ?_)
    refine lv_iload hx hb dX12_whyIn_31 (lv_at hl 6 rfl) (hp_n (n := 33) rfl ?_)
    refine lv_icmp_ne (tgt := 40) hx hb dX12_whyIn_33 (by decide) (fun c8 => ?_) (fun c8 => hp_n (n := 36) rfl ?_)
    ·
      replace hf := ms_iF c8 hf
      refine lv_iconst (v := 0) hx hb dX12_whyIn_40 (by decide) (hp_n (n := 41) rfl ?_)
      exact J41 αh7 Hh7 Lh7 Bh7 σh7 Mh7 (0 : Int32) x2 a1 ls (lv_sub hl [] rfl) hf
    ·
      replace hf := ms_iT c8 hf
      exact J36 αh7 Hh7 Lh7 Bh7 σh7 Mh7 x2 a1 ls (lv_sub hl [] rfl) hf
def f_X12_foldsGrowth_J157 (n : Nat) (recM : ms_T → Int32 → Int32 → Int32 → Int32 → Option ms_T) (σh3 : ms_T) : Option ms_T :=
  ms_l (ms_sI σh3 658 ((ms_I σh3 658) + (1 : Int32))) fun σh4 =>
  some σh4
def f_X12_foldsGrowth_J50 (n : Nat) (recM : ms_T → Int32 → Int32 → Int32 → Int32 → Option ms_T) (σh20 : ms_T) (w0_h20 : Int32) (w1_h20 : Int32) : Option ms_T :=
  ms_l (ms_sI σh20 658 (w1_h20 + w0_h20)) fun σh21 =>
  some σh21
def f_X12_foldsGrowth_J24 (n : Nat) (recM : ms_T → Int32 → Int32 → Int32 → Int32 → Option ms_T) (σh17 : ms_T) (v4_h17 : Int32) (w0_h17 : Int32) : Option ms_T :=
  ms_l (ms_sI σh17 659 w0_h17) fun σh18 =>
  ms_l (ms_sI σh18 660 (ms_I σh18 659)) fun σh19 =>
  if v4_h17 = 0 then
    f_X12_foldsGrowth_J50 n recM σh19 (1 : Int32) (ms_I σh19 658)
  else
    f_X12_foldsGrowth_J50 n recM σh19 (0 : Int32) (ms_I σh19 658)
def f_X12_foldsGrowth (n : Nat) : Nat → ms_T → Int32 → Int32 → Int32 → Int32 → Option ms_T
  | 0, _, _, _, _, _ => none
  | d + 1, σ, a1, a2, a3, a4 =>
    if a2 = a3 then
      if a4 = 0 then
        ms_g (ms_I σ 658) 128 <|
        f_X12_foldsGrowth_J24 n (f_X12_foldsGrowth n d) σ a4 (ms_E σ 44 ((ms_I σ 658)).toNatClampNeg)
      else
        f_X12_foldsGrowth_J24 n (f_X12_foldsGrowth n d) σ a4 a1
    else
      ms_b (f_X12_part0 n a3) fun rh2 =>
      if rh2 < a2 then
        ms_b ((f_X12_foldsGrowth n d) σ a1 (a2 - rh2) (a3 - rh2) (0 : Int32)) fun σh6 =>
        ms_g (ms_I σh6 658) 128 <|
        ms_b (f_X12_both n σh6 (ms_E σh6 44 ((ms_I σh6 658)).toNatClampNeg) (ms_I σh6 659)) fun rh8 =>
        ms_l (ms_sI σh6 659 rh8) fun σh9 =>
        ms_g (ms_I σh9 658) 128 <|
        ms_b (f_X12_both n σh9 (ms_E σh9 44 ((ms_I σh9 658)).toNatClampNeg) (ms_I σh9 660)) fun rh11 =>
        ms_l (ms_sI σh9 660 rh11) fun σh12 =>
        f_X12_foldsGrowth_J157 n (f_X12_foldsGrowth n d) σh12
      else
        ms_b ((f_X12_foldsGrowth n d) σ a1 a2 rh2 a4) fun σh13 =>
        ms_g (ms_I σh13 658) 128 <|
        ms_b (f_X12_both n σh13 (ms_I σh13 660) (ms_E σh13 44 ((ms_I σh13 658)).toNatClampNeg)) fun rh15 =>
        ms_l (ms_sI σh13 660 rh15) fun σh16 =>
        f_X12_foldsGrowth_J157 n (f_X12_foldsGrowth n d) σh16
set_option maxRecDepth 100000 in
set_option maxHeartbeats 4000000 in
theorem m_X12_foldsGrowth (n : Nat) : ∀ (d : Nat) (Γ : hp_G) (l : Launch) (α : hp_T) (a0 : Nat) (ρ : Nat → Nat) (σ : ms_T) (hM : hm_M α a0 ρ σ) (a1 : Int32) (a2 : Int32) (a3 : Int32) (a4 : Int32) (res : ms_T) (hf : f_X12_foldsGrowth n d σ a1 a2 a3 a4 = some res), Met l yX12_foldsGrowth (hp_ws yX12_foldsGrowth cX12_foldsGrowth 6 none) (hp_rm (d + 1) 0 0) (hp_Pc Γ α [.ref a0, .int a1, .int a2, .int a3, .int a4]) (hp_Qv Γ (fun β => mo α β ∧ hm_M β a0 ρ res)) 0 0 (hp_A Γ) := by
  intro d
  induction d with
  | zero => intro Γ l α a0 ρ σ hM a1 a2 a3 a4 res hf; rw [f_X12_foldsGrowth.eq_1] at hf; cases hf
  | succ d ihM =>
    intro Γ l α a0 ρ σ hM a1 a2 a3 a4 res hf
    rw [f_X12_foldsGrowth.eq_2] at hf
    refine hp_start (by decide) ?_
    intro p e s m below meth c C hr hlk B0 hnm
    have C : hp_C Γ p m c cX12_foldsGrowth 6 s ([.ref a0, .int a1, .int a2, .int a3, .int a4] : List Value).toArray RX12 := C
    have hx := C.1.1
    have hb := C.1.2.1
    have hown := C.1.2.2.2.1
    have hts := C.1.2.2.2.2
    have B : hp_B Γ mo s α α s.heap [] := ⟨B0.1, B0.2.1, mo_rf⟩
    have hl := lv_entry ([.ref a0, .int a1, .int a2, .int a3, .int a4]) (n := 6) (Nat.le_of_ble_eq_true rfl)
    show W p l e (hp_rm (d + 1 + 1) 0 0) s m ([.ref a0, .int a1, .int a2, .int a3, .int a4] : List Value).toArray below meth c s.heap [] 0 0 (MQ below (hp_Qv Γ (fun β => mo α β ∧ hm_M β a0 ρ res)) ([.ref a0, .int a1, .int a2, .int a3, .int a4] : List Value).toArray s 0 0 (hp_A Γ)) (entryFrame m ([.ref a0, .int a1, .int a2, .int a3, .int a4] : List Value).toArray 6)
    rw [lg_entry_eq]
    generalize (lg_sl ([.ref a0, .int a1, .int a2, .int a3, .int a4]) ++ List.replicate (6 - (lg_sl ([.ref a0, .int a1, .int a2, .int a3, .int a4])).length) Slot.unset).toArray = ls at hl ⊢
    have hl : lv_has ls 6 [(0, .ref a0), (1, .int a1), (2, .int a2), (3, .int a3), (4, .int a4)] := hl
    refine lv_iload_n hx hb dX12_foldsGrowth_0 rfl (lv_at hl 2 rfl) (hp_n (n := 1) rfl ?_)
    refine lv_iload_n hx hb dX12_foldsGrowth_1 rfl (lv_at hl 3 rfl) (hp_n (n := 2) rfl ?_)
    refine lv_icmp_ne (tgt := 55) hx hb dX12_foldsGrowth_2 (by decide) (fun c1 => ?_) (fun c1 => hp_n (n := 5) rfl ?_)
    ·
      replace hf := ms_iF c1 hf
      refine lv_iload_n hx hb dX12_foldsGrowth_55 rfl (lv_at hl 3 rfl) (hp_n (n := 56) rfl ?_)
      obtain ⟨rh2, qh2, hf⟩ := ms_bE hf
      refine m_cp (pc' := 59) B (hp_runS (As := [.int a3]) (rest := []) C B (m_X12_part0 n Γ l α a3 rh2 qh2) lb_X12_part0 ls_X12_part0 lk_X12_128 rfl (by omega) rfl hl.1 rfl (Nat.le_of_ble_eq_true rfl) dX12_foldsGrowth_56 ⟨Nat.le_refl _, Nat.le_refl _⟩) rfl (fun Hh2 Lh2 Bh2 => ?_)
      refine lv_istore (lv' := [(5, .int rh2), (0, .ref a0), (1, .int a1), (2, .int a2), (3, .int a3), (4, .int a4)]) hx hb dX12_foldsGrowth_59 hl (by decide) rfl (fun ls hl => hp_n (n := 61) rfl ?_)
      refine lv_iload_n hx hb dX12_foldsGrowth_61 rfl (lv_at hl 3 rfl) (hp_n (n := 62) rfl ?_)
      refine lv_iload hx hb dX12_foldsGrowth_62 (lv_at hl 0 rfl) (hp_n (n := 64) rfl ?_)
      have J157 : ∀ (αh3 : hp_T) (Hh3 : Heap) (Lh3 : List Loc) (Bh3 : hp_B Γ mo s α αh3 Hh3 Lh3) (σh3 : ms_T) (Mh3 : hm_M αh3 a0 ρ σh3) (ls : Array Slot) (hl : lv_has ls 6 [(0, .ref a0)]) (hf : f_X12_foldsGrowth_J157 n (f_X12_foldsGrowth n d) σh3 = some res), W p l e (hp_rm (d + 1 + 1) 0 0) s m ([.ref a0, .int a1, .int a2, .int a3, .int a4] : List Value).toArray below meth c Hh3 Lh3 0 0 (MQ below (hp_Qv Γ (fun β => mo α β ∧ hm_M β a0 ρ res)) ([.ref a0, .int a1, .int a2, .int a3, .int a4] : List Value).toArray s 0 0 (hp_A Γ)) (F0 m 157 ls []) := by
        intro αh3 Hh3 Lh3 Bh3 σh3 Mh3 ls hl hf
        unfold f_X12_foldsGrowth_J157 at hf
        refine lv_aload_n hx hb dX12_foldsGrowth_157 rfl (lv_at hl 0 rfl) (hp_n (n := 158) rfl ?_)
        refine lv_dup hx hb dX12_foldsGrowth_158 rfl (hp_n (n := 159) rfl ?_)
        refine m_geti (k := 8) (φ := 658) (pc' := 162) C Bh3 Mh3 fl_X12_168 rfl rfl dX12_foldsGrowth_159 rfl ?_
        refine lv_iconst (v := 1) hx hb dX12_foldsGrowth_162 (by decide) (hp_n (n := 163) rfl ?_)
        refine lv_iadd hx hb dX12_foldsGrowth_163 (hp_n (n := 164) rfl ?_)
        refine m_puti (k := 8) (φ := 658) (pc' := 167) C Bh3 Mh3 fl_X12_168 rfl rfl rfl rfl rfl dX12_foldsGrowth_164 rfl (fun αh4 Hh4 Lh4 σh4 eh4 Bh4 Mh4 => ?_)
        replace hf := ms_lE eh4 hf
        cases hf
        exact q_vret C Bh4 hr hlk ⟨Bh4.2.2, Mh4⟩ dX12_foldsGrowth_167
      refine lv_icmp_gt (tgt := 101) hx hb dX12_foldsGrowth_64 (by decide) (fun c5 => ?_) (fun c5 => hp_n (n := 67) rfl ?_)
      ·
        replace hf := ms_iT c5 hf
        refine lv_aload_n hx hb dX12_foldsGrowth_101 rfl (lv_at hl 1 rfl) (hp_n (n := 102) rfl ?_)
        refine lv_iload_n hx hb dX12_foldsGrowth_102 rfl (lv_at hl 2 rfl) (hp_n (n := 103) rfl ?_)
        refine lv_iload_n hx hb dX12_foldsGrowth_103 rfl (lv_at hl 3 rfl) (hp_n (n := 104) rfl ?_)
        refine lv_iload hx hb dX12_foldsGrowth_104 (lv_at hl 0 rfl) (hp_n (n := 106) rfl ?_)
        refine lv_isub hx hb dX12_foldsGrowth_106 (hp_n (n := 107) rfl ?_)
        refine lv_iload_n hx hb dX12_foldsGrowth_107 rfl (lv_at hl 4 rfl) (hp_n (n := 108) rfl ?_)
        refine lv_iload hx hb dX12_foldsGrowth_108 (lv_at hl 0 rfl) (hp_n (n := 110) rfl ?_)
        refine lv_isub hx hb dX12_foldsGrowth_110 (hp_n (n := 111) rfl ?_)
        refine lv_iconst (v := 0) hx hb dX12_foldsGrowth_111 (by decide) (hp_n (n := 112) rfl ?_)
        obtain ⟨σh6, qh6, hf⟩ := ms_bE hf
        refine m_cv (pc' := 115) (a := a0) (ρ := ρ) Bh2 (hp_runV (As := [.int a1, .int (a2 - rh2), .int (a3 - rh2), .int (0 : Int32)]) (rest := []) C Bh2 (ihM Γ l α a0 ρ σ hM a1 (a2 - rh2) (a3 - rh2) (0 : Int32) σh6 qh6) lb_X12_foldsGrowth lv_X12_foldsGrowth lk_X12_187 hM.1 rfl (by omega) rfl hl.1 rfl (Nat.le_of_ble_eq_true rfl) dX12_foldsGrowth_112 ⟨Nat.le_refl _, Nat.le_refl _⟩) rfl (fun αh6 Hh6 Lh6 Bh6 Mh6 => ?_)
        refine lv_aload_n hx hb dX12_foldsGrowth_115 rfl (lv_at hl 1 rfl) (hp_n (n := 116) rfl ?_)
        refine lv_aload_n hx hb dX12_foldsGrowth_116 rfl (lv_at hl 1 rfl) (hp_n (n := 117) rfl ?_)
        refine lv_aload_n hx hb dX12_foldsGrowth_117 rfl (lv_at hl 1 rfl) (hp_n (n := 118) rfl ?_)
        refine m_getr (κ := 44) (k := 6) (pc' := 121) C Bh6 Mh6 fl_X12_22 rfl (by decide) dX12_foldsGrowth_118 rfl ?_
        refine lv_aload_n hx hb dX12_foldsGrowth_121 rfl (lv_at hl 1 rfl) (hp_n (n := 122) rfl ?_)
        refine m_geti (k := 8) (φ := 658) (pc' := 125) C Bh6 Mh6 fl_X12_168 rfl rfl dX12_foldsGrowth_122 rfl ?_
        obtain ⟨g7, hf⟩ := ms_gE hf
        refine m_ial (κ := 44) (φ := 656) (n := 128) (pc' := 126) C Bh6 Mh6 (by decide) (by decide) rfl g7 dX12_foldsGrowth_125 rfl ?_
        refine lv_aload_n hx hb dX12_foldsGrowth_126 rfl (lv_at hl 1 rfl) (hp_n (n := 127) rfl ?_)
        refine m_geti (k := 9) (φ := 659) (pc' := 130) C Bh6 Mh6 fl_X12_181 rfl rfl dX12_foldsGrowth_127 rfl ?_
        obtain ⟨rh8, qh8, hf⟩ := ms_bE hf
        refine m_cp (pc' := 133) Bh6 (hp_runV (As := [.int (ms_E σh6 44 ((ms_I σh6 658)).toNatClampNeg), .int (ms_I σh6 659)]) (rest := [.ref a0]) C Bh6 (m_X12_both n Γ l αh6 a0 ρ σh6 Mh6 (ms_E σh6 44 ((ms_I σh6 658)).toNatClampNeg) (ms_I σh6 659) rh8 qh8) lb_X12_both lv_X12_both lk_X12_136 Mh6.1 rfl (by omega) rfl hl.1 rfl (Nat.le_of_ble_eq_true rfl) dX12_foldsGrowth_130 ⟨Nat.le_refl _, Nat.le_refl _⟩) rfl (fun Hh8 Lh8 Bh8 => ?_)
        refine m_puti (k := 9) (φ := 659) (pc' := 136) C Bh8 Mh6 fl_X12_181 rfl rfl rfl rfl rfl dX12_foldsGrowth_133 rfl (fun αh9 Hh9 Lh9 σh9 eh9 Bh9 Mh9 => ?_)
        replace hf := ms_lE eh9 hf
        refine lv_aload_n hx hb dX12_foldsGrowth_136 rfl (lv_at hl 1 rfl) (hp_n (n := 137) rfl ?_)
        refine lv_aload_n hx hb dX12_foldsGrowth_137 rfl (lv_at hl 1 rfl) (hp_n (n := 138) rfl ?_)
        refine lv_aload_n hx hb dX12_foldsGrowth_138 rfl (lv_at hl 1 rfl) (hp_n (n := 139) rfl ?_)
        refine m_getr (κ := 44) (k := 6) (pc' := 142) C Bh9 Mh9 fl_X12_22 rfl (by decide) dX12_foldsGrowth_139 rfl ?_
        refine lv_aload_n hx hb dX12_foldsGrowth_142 rfl (lv_at hl 1 rfl) (hp_n (n := 143) rfl ?_)
        refine m_geti (k := 8) (φ := 658) (pc' := 146) C Bh9 Mh9 fl_X12_168 rfl rfl dX12_foldsGrowth_143 rfl ?_
        obtain ⟨g10, hf⟩ := ms_gE hf
        refine m_ial (κ := 44) (φ := 656) (n := 128) (pc' := 147) C Bh9 Mh9 (by decide) (by decide) rfl g10 dX12_foldsGrowth_146 rfl ?_
        refine lv_aload_n hx hb dX12_foldsGrowth_147 rfl (lv_at hl 1 rfl) (hp_n (n := 148) rfl ?_)
        refine m_geti (k := 10) (φ := 660) (pc' := 151) C Bh9 Mh9 fl_X12_184 rfl rfl dX12_foldsGrowth_148 rfl ?_
        obtain ⟨rh11, qh11, hf⟩ := ms_bE hf
        refine m_cp (pc' := 154) Bh9 (hp_runV (As := [.int (ms_E σh9 44 ((ms_I σh9 658)).toNatClampNeg), .int (ms_I σh9 660)]) (rest := [.ref a0]) C Bh9 (m_X12_both n Γ l αh9 a0 ρ σh9 Mh9 (ms_E σh9 44 ((ms_I σh9 658)).toNatClampNeg) (ms_I σh9 660) rh11 qh11) lb_X12_both lv_X12_both lk_X12_136 Mh9.1 rfl (by omega) rfl hl.1 rfl (Nat.le_of_ble_eq_true rfl) dX12_foldsGrowth_151 ⟨Nat.le_refl _, Nat.le_refl _⟩) rfl (fun Hh11 Lh11 Bh11 => ?_)
        refine m_puti (k := 10) (φ := 660) (pc' := 157) C Bh11 Mh9 fl_X12_184 rfl rfl rfl rfl rfl dX12_foldsGrowth_154 rfl (fun αh12 Hh12 Lh12 σh12 eh12 Bh12 Mh12 => ?_)
        replace hf := ms_lE eh12 hf
        exact J157 αh12 Hh12 Lh12 Bh12 σh12 Mh12 ls (lv_sub hl [1] rfl) hf
      ·
        replace hf := ms_iF c5 hf
        refine lv_aload_n hx hb dX12_foldsGrowth_67 rfl (lv_at hl 1 rfl) (hp_n (n := 68) rfl ?_)
        refine lv_iload_n hx hb dX12_foldsGrowth_68 rfl (lv_at hl 2 rfl) (hp_n (n := 69) rfl ?_)
        refine lv_iload_n hx hb dX12_foldsGrowth_69 rfl (lv_at hl 3 rfl) (hp_n (n := 70) rfl ?_)
        refine lv_iload hx hb dX12_foldsGrowth_70 (lv_at hl 0 rfl) (hp_n (n := 72) rfl ?_)
        refine lv_iload hx hb dX12_foldsGrowth_72 (lv_at hl 5 rfl) (hp_n (n := 74) rfl ?_)
        obtain ⟨σh13, qh13, hf⟩ := ms_bE hf
        refine m_cv (pc' := 77) (a := a0) (ρ := ρ) Bh2 (hp_runV (As := [.int a1, .int a2, .int rh2, .int a4]) (rest := []) C Bh2 (ihM Γ l α a0 ρ σ hM a1 a2 rh2 a4 σh13 qh13) lb_X12_foldsGrowth lv_X12_foldsGrowth lk_X12_187 hM.1 rfl (by omega) rfl hl.1 rfl (Nat.le_of_ble_eq_true rfl) dX12_foldsGrowth_74 ⟨Nat.le_refl _, Nat.le_refl _⟩) rfl (fun αh13 Hh13 Lh13 Bh13 Mh13 => ?_)
        refine lv_aload_n hx hb dX12_foldsGrowth_77 rfl (lv_at hl 1 rfl) (hp_n (n := 78) rfl ?_)
        refine lv_aload_n hx hb dX12_foldsGrowth_78 rfl (lv_at hl 1 rfl) (hp_n (n := 79) rfl ?_)
        refine lv_aload_n hx hb dX12_foldsGrowth_79 rfl (lv_at hl 1 rfl) (hp_n (n := 80) rfl ?_)
        refine m_geti (k := 10) (φ := 660) (pc' := 83) C Bh13 Mh13 fl_X12_184 rfl rfl dX12_foldsGrowth_80 rfl ?_
        refine lv_aload_n hx hb dX12_foldsGrowth_83 rfl (lv_at hl 1 rfl) (hp_n (n := 84) rfl ?_)
        refine m_getr (κ := 44) (k := 6) (pc' := 87) C Bh13 Mh13 fl_X12_22 rfl (by decide) dX12_foldsGrowth_84 rfl ?_
        refine lv_aload_n hx hb dX12_foldsGrowth_87 rfl (lv_at hl 1 rfl) (hp_n (n := 88) rfl ?_)
        refine m_geti (k := 8) (φ := 658) (pc' := 91) C Bh13 Mh13 fl_X12_168 rfl rfl dX12_foldsGrowth_88 rfl ?_
        obtain ⟨g14, hf⟩ := ms_gE hf
        refine m_ial (κ := 44) (φ := 656) (n := 128) (pc' := 92) C Bh13 Mh13 (by decide) (by decide) rfl g14 dX12_foldsGrowth_91 rfl ?_
        obtain ⟨rh15, qh15, hf⟩ := ms_bE hf
        refine m_cp (pc' := 95) Bh13 (hp_runV (As := [.int (ms_I σh13 660), .int (ms_E σh13 44 ((ms_I σh13 658)).toNatClampNeg)]) (rest := [.ref a0]) C Bh13 (m_X12_both n Γ l αh13 a0 ρ σh13 Mh13 (ms_I σh13 660) (ms_E σh13 44 ((ms_I σh13 658)).toNatClampNeg) rh15 qh15) lb_X12_both lv_X12_both lk_X12_136 Mh13.1 rfl (by omega) rfl hl.1 rfl (Nat.le_of_ble_eq_true rfl) dX12_foldsGrowth_92 ⟨Nat.le_refl _, Nat.le_refl _⟩) rfl (fun Hh15 Lh15 Bh15 => ?_)
        refine m_puti (k := 10) (φ := 660) (pc' := 98) C Bh15 Mh13 fl_X12_184 rfl rfl rfl rfl rfl dX12_foldsGrowth_95 rfl (fun αh16 Hh16 Lh16 σh16 eh16 Bh16 Mh16 => ?_)
        replace hf := ms_lE eh16 hf
        refine lv_goto (tgt := 157) hx hb dX12_foldsGrowth_98 (by decide) ?_
        exact J157 αh16 Hh16 Lh16 Bh16 σh16 Mh16 ls (lv_sub hl [1] rfl) hf
    ·
      replace hf := ms_iT c1 hf
      refine lv_aload_n hx hb dX12_foldsGrowth_5 rfl (lv_at hl 0 rfl) (hp_n (n := 6) rfl ?_)
      refine lv_iload hx hb dX12_foldsGrowth_6 (lv_at hl 4 rfl) (hp_n (n := 8) rfl ?_)
      have J24 : ∀ (αh17 : hp_T) (Hh17 : Heap) (Lh17 : List Loc) (Bh17 : hp_B Γ mo s α αh17 Hh17 Lh17) (σh17 : ms_T) (Mh17 : hm_M αh17 a0 ρ σh17) (v4_h17 : Int32) (w0_h17 : Int32) (ls : Array Slot) (hl : lv_has ls 6 [(0, .ref a0), (4, .int v4_h17)]) (hf : f_X12_foldsGrowth_J24 n (f_X12_foldsGrowth n d) σh17 v4_h17 w0_h17 = some res), W p l e (hp_rm (d + 1 + 1) 0 0) s m ([.ref a0, .int a1, .int a2, .int a3, .int a4] : List Value).toArray below meth c Hh17 Lh17 0 0 (MQ below (hp_Qv Γ (fun β => mo α β ∧ hm_M β a0 ρ res)) ([.ref a0, .int a1, .int a2, .int a3, .int a4] : List Value).toArray s 0 0 (hp_A Γ)) (F0 m 24 ls [.int w0_h17, .ref a0]) := by
        intro αh17 Hh17 Lh17 Bh17 σh17 Mh17 v4_h17 w0_h17 ls hl hf
        unfold f_X12_foldsGrowth_J24 at hf
        refine m_puti (k := 9) (φ := 659) (pc' := 27) C Bh17 Mh17 fl_X12_181 rfl rfl rfl rfl rfl dX12_foldsGrowth_24 rfl (fun αh18 Hh18 Lh18 σh18 eh18 Bh18 Mh18 => ?_)
        replace hf := ms_lE eh18 hf
        refine lv_aload_n hx hb dX12_foldsGrowth_27 rfl (lv_at hl 0 rfl) (hp_n (n := 28) rfl ?_)
        refine lv_aload_n hx hb dX12_foldsGrowth_28 rfl (lv_at hl 0 rfl) (hp_n (n := 29) rfl ?_)
        refine m_geti (k := 9) (φ := 659) (pc' := 32) C Bh18 Mh18 fl_X12_181 rfl rfl dX12_foldsGrowth_29 rfl ?_
        refine m_puti (k := 10) (φ := 660) (pc' := 35) C Bh18 Mh18 fl_X12_184 rfl rfl rfl rfl rfl dX12_foldsGrowth_32 rfl (fun αh19 Hh19 Lh19 σh19 eh19 Bh19 Mh19 => ?_)
        replace hf := ms_lE eh19 hf
        refine lv_aload_n hx hb dX12_foldsGrowth_35 rfl (lv_at hl 0 rfl) (hp_n (n := 36) rfl ?_)
        refine lv_dup hx hb dX12_foldsGrowth_36 rfl (hp_n (n := 37) rfl ?_)
        refine m_geti (k := 8) (φ := 658) (pc' := 40) C Bh19 Mh19 fl_X12_168 rfl rfl dX12_foldsGrowth_37 rfl ?_
        refine lv_iload hx hb dX12_foldsGrowth_40 (lv_at hl 1 rfl) (hp_n (n := 42) rfl ?_)
        have J50 : ∀ (αh20 : hp_T) (Hh20 : Heap) (Lh20 : List Loc) (Bh20 : hp_B Γ mo s α αh20 Hh20 Lh20) (σh20 : ms_T) (Mh20 : hm_M αh20 a0 ρ σh20) (w0_h20 : Int32) (w1_h20 : Int32) (ls : Array Slot) (hl : lv_has ls 6 []) (hf : f_X12_foldsGrowth_J50 n (f_X12_foldsGrowth n d) σh20 w0_h20 w1_h20 = some res), W p l e (hp_rm (d + 1 + 1) 0 0) s m ([.ref a0, .int a1, .int a2, .int a3, .int a4] : List Value).toArray below meth c Hh20 Lh20 0 0 (MQ below (hp_Qv Γ (fun β => mo α β ∧ hm_M β a0 ρ res)) ([.ref a0, .int a1, .int a2, .int a3, .int a4] : List Value).toArray s 0 0 (hp_A Γ)) (F0 m 50 ls [.int w0_h20, .int w1_h20, .ref a0]) := by
          intro αh20 Hh20 Lh20 Bh20 σh20 Mh20 w0_h20 w1_h20 ls hl hf
          unfold f_X12_foldsGrowth_J50 at hf
          refine lv_iadd hx hb dX12_foldsGrowth_50 (hp_n (n := 51) rfl ?_)
          refine m_puti (k := 8) (φ := 658) (pc' := 54) C Bh20 Mh20 fl_X12_168 rfl rfl rfl rfl rfl dX12_foldsGrowth_51 rfl (fun αh21 Hh21 Lh21 σh21 eh21 Bh21 Mh21 => ?_)
          replace hf := ms_lE eh21 hf
          cases hf
          exact q_vret C Bh21 hr hlk ⟨Bh21.2.2, Mh21⟩ dX12_foldsGrowth_54
        refine lv_if_eq (tgt := 49) hx hb dX12_foldsGrowth_42 (by decide) (fun c22 => ?_) (fun c22 => hp_n (n := 45) rfl ?_)
        ·
          replace hf := ms_iT c22 hf
          refine lv_iconst (v := 1) hx hb dX12_foldsGrowth_49 (by decide) (hp_n (n := 50) rfl ?_)
          exact J50 αh19 Hh19 Lh19 Bh19 σh19 Mh19 (1 : Int32) (ms_I σh19 658) ls (lv_sub hl [] rfl) hf
        ·
          replace hf := ms_iF c22 hf
          refine lv_iconst (v := 0) hx hb dX12_foldsGrowth_45 (by decide) (hp_n (n := 46) rfl ?_)
          refine lv_goto (tgt := 50) hx hb dX12_foldsGrowth_46 (by decide) ?_
          exact J50 αh19 Hh19 Lh19 Bh19 σh19 Mh19 (0 : Int32) (ms_I σh19 658) ls (lv_sub hl [] rfl) hf
      refine lv_if_eq (tgt := 15) hx hb dX12_foldsGrowth_8 (by decide) (fun c23 => ?_) (fun c23 => hp_n (n := 11) rfl ?_)
      ·
        replace hf := ms_iT c23 hf
        refine lv_aload_n hx hb dX12_foldsGrowth_15 rfl (lv_at hl 0 rfl) (hp_n (n := 16) rfl ?_)
        refine m_getr (κ := 44) (k := 6) (pc' := 19) C B hM fl_X12_22 rfl (by decide) dX12_foldsGrowth_16 rfl ?_
        refine lv_aload_n hx hb dX12_foldsGrowth_19 rfl (lv_at hl 0 rfl) (hp_n (n := 20) rfl ?_)
        refine m_geti (k := 8) (φ := 658) (pc' := 23) C B hM fl_X12_168 rfl rfl dX12_foldsGrowth_20 rfl ?_
        obtain ⟨g24, hf⟩ := ms_gE hf
        refine m_ial (κ := 44) (φ := 656) (n := 128) (pc' := 24) C B hM (by decide) (by decide) rfl g24 dX12_foldsGrowth_23 rfl ?_
        exact J24 α s.heap [] B σ hM a4 (ms_E σ 44 ((ms_I σ 658)).toNatClampNeg) ls (lv_sub hl [0, 4] rfl) hf
      ·
        replace hf := ms_iF c23 hf
        refine lv_iload_n hx hb dX12_foldsGrowth_11 rfl (lv_at hl 1 rfl) (hp_n (n := 12) rfl ?_)
        refine lv_goto (tgt := 24) hx hb dX12_foldsGrowth_12 (by decide) ?_
        exact J24 α s.heap [] B σ hM a4 a1 ls (lv_sub hl [0, 4] rfl) hf
end JN5_0
section JN5_1
def f_X12_whyGrown_J39 (n : Nat) (σh3 : ms_T) (v2_h3 : Int32) (v3_h3 : Int32) (v4_h3 : Int32) (v5_h3 : Int32) : Option (Int32 × ms_T) :=
  if v2_h3 = v4_h3 then
    if v3_h3 = v5_h3 then
      some ((0 : Int32), σh3)
    else
      some ((3 : Int32), σh3)
  else
    if v2_h3 = 0 then
      some ((0 : Int32), σh3)
    else
      ms_l (ms_sI σh3 658 (0 : Int32)) fun σh6 =>
      ms_b (f_X12_foldsGrowth n 40 σh6 v3_h3 v2_h3 v4_h3 (1 : Int32)) fun σh7 =>
      if (ms_I σh7 659) = v3_h3 then
        if (ms_I σh7 660) = v5_h3 then
          some ((0 : Int32), σh7)
        else
          some ((4 : Int32), σh7)
      else
        some ((3 : Int32), σh7)
def f_X12_whyGrown (n : Nat) (σ : ms_T) (a1 : Int32) (a2 : Int32) (a3 : Int32) (a4 : Int32) (a5 : Int32) : Option (Int32 × ms_T) :=
  ms_b (f_X12_growth n σ a2 a4) fun σh1 =>
  if a1 = (ms_I σh1 657) then
    if a2 = 0 then
      if a3 = 0 then
        f_X12_whyGrown_J39 n σh1 a2 a3 a4 a5
      else
        some ((3 : Int32), σh1)
    else
      f_X12_whyGrown_J39 n σh1 a2 a3 a4 a5
  else
    if (ms_I σh1 657) ≤ a1 then
      some ((2 : Int32), σh1)
    else
      some ((1 : Int32), σh1)
set_option maxRecDepth 100000 in
set_option maxHeartbeats 4000000 in
theorem m_X12_whyGrown (n : Nat) (Γ : hp_G) (l : Launch) (α : hp_T) (a0 : Nat) (ρ : Nat → Nat) (σ : ms_T) (hM : hm_M α a0 ρ σ) (a1 : Int32) (a2 : Int32) (a3 : Int32) (a4 : Int32) (a5 : Int32) (res : (Int32 × ms_T)) (hf : f_X12_whyGrown n σ a1 a2 a3 a4 a5 = some res) : Met l yX12_whyGrown (hp_ws yX12_whyGrown cX12_whyGrown 6 (some .int)) (hp_rm 42 0 0) (hp_Pc Γ α [.ref a0, .int a1, .int a2, .int a3, .int a4, .int a5]) (hp_Qi Γ (fun r β => r = res.1 ∧ mo α β ∧ hm_M β a0 ρ res.2)) 0 0 (hp_A Γ) := by
  unfold f_X12_whyGrown at hf
  refine hp_start (by decide) ?_
  intro p e s m below meth c C hr hlk B0 hnm
  have C : hp_C Γ p m c cX12_whyGrown 6 s ([.ref a0, .int a1, .int a2, .int a3, .int a4, .int a5] : List Value).toArray RX12 := C
  have hx := C.1.1
  have hb := C.1.2.1
  have hown := C.1.2.2.2.1
  have hts := C.1.2.2.2.2
  have B : hp_B Γ mo s α α s.heap [] := ⟨B0.1, B0.2.1, mo_rf⟩
  have hl := lv_entry ([.ref a0, .int a1, .int a2, .int a3, .int a4, .int a5]) (n := 6) (Nat.le_of_ble_eq_true rfl)
  show W p l e (hp_rm 42 0 0) s m ([.ref a0, .int a1, .int a2, .int a3, .int a4, .int a5] : List Value).toArray below meth c s.heap [] 0 0 (MQ below (hp_Qi Γ (fun r β => r = res.1 ∧ mo α β ∧ hm_M β a0 ρ res.2)) ([.ref a0, .int a1, .int a2, .int a3, .int a4, .int a5] : List Value).toArray s 0 0 (hp_A Γ)) (entryFrame m ([.ref a0, .int a1, .int a2, .int a3, .int a4, .int a5] : List Value).toArray 6)
  rw [lg_entry_eq]
  generalize (lg_sl ([.ref a0, .int a1, .int a2, .int a3, .int a4, .int a5]) ++ List.replicate (6 - (lg_sl ([.ref a0, .int a1, .int a2, .int a3, .int a4, .int a5])).length) Slot.unset).toArray = ls at hl ⊢
  have hl : lv_has ls 6 [(0, .ref a0), (1, .int a1), (2, .int a2), (3, .int a3), (4, .int a4), (5, .int a5)] := hl
  refine lv_aload_n hx hb dX12_whyGrown_0 rfl (lv_at hl 0 rfl) (hp_n (n := 1) rfl ?_)
  refine lv_iload_n hx hb dX12_whyGrown_1 rfl (lv_at hl 2 rfl) (hp_n (n := 2) rfl ?_)
  refine lv_iload hx hb dX12_whyGrown_2 (lv_at hl 4 rfl) (hp_n (n := 4) rfl ?_)
  obtain ⟨σh1, qh1, hf⟩ := ms_bE hf
  refine m_cv (pc' := 7) (a := a0) (ρ := ρ) B (hp_runV (As := [.int a2, .int a4]) (rest := []) C B (m_X12_growth n Γ l α a0 ρ σ hM a2 a4 σh1 qh1) lb_X12_growth lv_X12_growth lk_X12_190 hM.1 rfl (by decide) rfl hl.1 rfl (Nat.le_of_ble_eq_true rfl) dX12_whyGrown_4 ⟨Nat.le_refl _, Nat.le_refl _⟩) rfl (fun αh1 Hh1 Lh1 Bh1 Mh1 => ?_)
  refine lv_iload_n hx hb dX12_whyGrown_7 rfl (lv_at hl 1 rfl) (hp_n (n := 8) rfl ?_)
  refine lv_aload_n hx hb dX12_whyGrown_8 rfl (lv_at hl 0 rfl) (hp_n (n := 9) rfl ?_)
  refine m_geti (k := 7) (φ := 657) (pc' := 12) C Bh1 Mh1 fl_X12_139 rfl rfl dX12_whyGrown_9 rfl ?_
  refine lv_icmp_eq (tgt := 29) hx hb dX12_whyGrown_12 (by decide) (fun c2 => ?_) (fun c2 => hp_n (n := 15) rfl ?_)
  ·
    replace hf := ms_iT c2 hf
    refine lv_iload_n hx hb dX12_whyGrown_29 rfl (lv_at hl 2 rfl) (hp_n (n := 30) rfl ?_)
    have J39 : ∀ (αh3 : hp_T) (Hh3 : Heap) (Lh3 : List Loc) (Bh3 : hp_B Γ mo s α αh3 Hh3 Lh3) (σh3 : ms_T) (Mh3 : hm_M αh3 a0 ρ σh3) (v2_h3 : Int32) (v3_h3 : Int32) (v4_h3 : Int32) (v5_h3 : Int32) (ls : Array Slot) (hl : lv_has ls 6 [(0, .ref a0), (2, .int v2_h3), (3, .int v3_h3), (4, .int v4_h3), (5, .int v5_h3)]) (hf : f_X12_whyGrown_J39 n σh3 v2_h3 v3_h3 v4_h3 v5_h3 = some res), W p l e (hp_rm 42 0 0) s m ([.ref a0, .int a1, .int a2, .int a3, .int a4, .int a5] : List Value).toArray below meth c Hh3 Lh3 0 0 (MQ below (hp_Qi Γ (fun r β => r = res.1 ∧ mo α β ∧ hm_M β a0 ρ res.2)) ([.ref a0, .int a1, .int a2, .int a3, .int a4, .int a5] : List Value).toArray s 0 0 (hp_A Γ)) (F0 m 39 ls []) := by
      intro αh3 Hh3 Lh3 Bh3 σh3 Mh3 v2_h3 v3_h3 v4_h3 v5_h3 ls hl hf
      unfold f_X12_whyGrown_J39 at hf
      refine lv_iload_n hx hb dX12_whyGrown_39 rfl (lv_at hl 1 rfl) (hp_n (n := 40) rfl ?_)
      refine lv_iload hx hb dX12_whyGrown_40 (lv_at hl 3 rfl) (hp_n (n := 42) rfl ?_)
      refine lv_icmp_ne (tgt := 57) hx hb dX12_whyGrown_42 (by decide) (fun c4 => ?_) (fun c4 => hp_n (n := 45) rfl ?_)
      ·
        replace hf := ms_iF c4 hf
        refine lv_iload_n hx hb dX12_whyGrown_57 rfl (lv_at hl 1 rfl) (hp_n (n := 58) rfl ?_)
        refine lv_if_ne (tgt := 63) hx hb dX12_whyGrown_58 (by decide) (fun c5 => ?_) (fun c5 => hp_n (n := 61) rfl ?_)
        ·
          replace hf := ms_iF c5 hf
          refine lv_aload_n hx hb dX12_whyGrown_63 rfl (lv_at hl 0 rfl) (hp_n (n := 64) rfl ?_)
          refine lv_iconst (v := 0) hx hb dX12_whyGrown_64 (by decide) (hp_n (n := 65) rfl ?_)
          refine m_puti (k := 8) (φ := 658) (pc' := 68) C Bh3 Mh3 fl_X12_168 rfl rfl rfl rfl rfl dX12_whyGrown_65 rfl (fun αh6 Hh6 Lh6 σh6 eh6 Bh6 Mh6 => ?_)
          replace hf := ms_lE eh6 hf
          refine lv_aload_n hx hb dX12_whyGrown_68 rfl (lv_at hl 0 rfl) (hp_n (n := 69) rfl ?_)
          refine lv_iload_n hx hb dX12_whyGrown_69 rfl (lv_at hl 2 rfl) (hp_n (n := 70) rfl ?_)
          refine lv_iload_n hx hb dX12_whyGrown_70 rfl (lv_at hl 1 rfl) (hp_n (n := 71) rfl ?_)
          refine lv_iload hx hb dX12_whyGrown_71 (lv_at hl 3 rfl) (hp_n (n := 73) rfl ?_)
          refine lv_iconst (v := 1) hx hb dX12_whyGrown_73 (by decide) (hp_n (n := 74) rfl ?_)
          obtain ⟨σh7, qh7, hf⟩ := ms_bE hf
          refine m_cv (pc' := 77) (a := a0) (ρ := ρ) Bh6 (hp_runV (As := [.int v3_h3, .int v2_h3, .int v4_h3, .int (1 : Int32)]) (rest := []) C Bh6 (m_X12_foldsGrowth n 40 Γ l αh6 a0 ρ σh6 Mh6 v3_h3 v2_h3 v4_h3 (1 : Int32) σh7 qh7) lb_X12_foldsGrowth lv_X12_foldsGrowth lk_X12_187 Mh6.1 rfl (by decide) rfl hl.1 rfl (Nat.le_of_ble_eq_true rfl) dX12_whyGrown_74 ⟨Nat.le_refl _, Nat.le_refl _⟩) rfl (fun αh7 Hh7 Lh7 Bh7 Mh7 => ?_)
          refine lv_aload_n hx hb dX12_whyGrown_77 rfl (lv_at hl 0 rfl) (hp_n (n := 78) rfl ?_)
          refine m_geti (k := 9) (φ := 659) (pc' := 81) C Bh7 Mh7 fl_X12_181 rfl rfl dX12_whyGrown_78 rfl ?_
          refine lv_iload_n hx hb dX12_whyGrown_81 rfl (lv_at hl 2 rfl) (hp_n (n := 82) rfl ?_)
          refine lv_icmp_eq (tgt := 89) hx hb dX12_whyGrown_82 (by decide) (fun c8 => ?_) (fun c8 => hp_n (n := 85) rfl ?_)
          ·
            replace hf := ms_iT c8 hf
            refine lv_aload_n hx hb dX12_whyGrown_89 rfl (lv_at hl 0 rfl) (hp_n (n := 90) rfl ?_)
            refine m_geti (k := 10) (φ := 660) (pc' := 93) C Bh7 Mh7 fl_X12_184 rfl rfl dX12_whyGrown_90 rfl ?_
            refine lv_iload hx hb dX12_whyGrown_93 (lv_at hl 4 rfl) (hp_n (n := 95) rfl ?_)
            refine lv_icmp_eq (tgt := 102) hx hb dX12_whyGrown_95 (by decide) (fun c9 => ?_) (fun c9 => hp_n (n := 98) rfl ?_)
            ·
              replace hf := ms_iT c9 hf
              refine lv_iconst (v := 0) hx hb dX12_whyGrown_102 (by decide) (hp_n (n := 103) rfl ?_)
              cases hf
              exact q_iret C Bh7 hr hlk ⟨rfl, Bh7.2.2, Mh7⟩ dX12_whyGrown_103
            ·
              replace hf := ms_iF c9 hf
              refine lv_iconst (v := 4) hx hb dX12_whyGrown_98 (by decide) (hp_n (n := 99) rfl ?_)
              refine lv_goto (tgt := 103) hx hb dX12_whyGrown_99 (by decide) ?_
              cases hf
              exact q_iret C Bh7 hr hlk ⟨rfl, Bh7.2.2, Mh7⟩ dX12_whyGrown_103
          ·
            replace hf := ms_iF c8 hf
            refine lv_iconst (v := 3) hx hb dX12_whyGrown_85 (by decide) (hp_n (n := 86) rfl ?_)
            refine lv_goto (tgt := 103) hx hb dX12_whyGrown_86 (by decide) ?_
            cases hf
            exact q_iret C Bh7 hr hlk ⟨rfl, Bh7.2.2, Mh7⟩ dX12_whyGrown_103
        ·
          replace hf := ms_iT c5 hf
          refine lv_iconst (v := 0) hx hb dX12_whyGrown_61 (by decide) (hp_n (n := 62) rfl ?_)
          cases hf
          exact q_iret C Bh3 hr hlk ⟨rfl, Bh3.2.2, Mh3⟩ dX12_whyGrown_62
      ·
        replace hf := ms_iT c4 hf
        refine lv_iload_n hx hb dX12_whyGrown_45 rfl (lv_at hl 2 rfl) (hp_n (n := 46) rfl ?_)
        refine lv_iload hx hb dX12_whyGrown_46 (lv_at hl 4 rfl) (hp_n (n := 48) rfl ?_)
        refine lv_icmp_ne (tgt := 55) hx hb dX12_whyGrown_48 (by decide) (fun c10 => ?_) (fun c10 => hp_n (n := 51) rfl ?_)
        ·
          replace hf := ms_iF c10 hf
          refine lv_iconst (v := 3) hx hb dX12_whyGrown_55 (by decide) (hp_n (n := 56) rfl ?_)
          cases hf
          exact q_iret C Bh3 hr hlk ⟨rfl, Bh3.2.2, Mh3⟩ dX12_whyGrown_56
        ·
          replace hf := ms_iT c10 hf
          refine lv_iconst (v := 0) hx hb dX12_whyGrown_51 (by decide) (hp_n (n := 52) rfl ?_)
          refine lv_goto (tgt := 56) hx hb dX12_whyGrown_52 (by decide) ?_
          cases hf
          exact q_iret C Bh3 hr hlk ⟨rfl, Bh3.2.2, Mh3⟩ dX12_whyGrown_56
    refine lv_if_ne (tgt := 39) hx hb dX12_whyGrown_30 (by decide) (fun c11 => ?_) (fun c11 => hp_n (n := 33) rfl ?_)
    ·
      replace hf := ms_iF c11 hf
      exact J39 αh1 Hh1 Lh1 Bh1 σh1 Mh1 a2 a3 a4 a5 ls (lv_sub hl [0, 2, 3, 4, 5] rfl) hf
    ·
      replace hf := ms_iT c11 hf
      refine lv_iload_n hx hb dX12_whyGrown_33 rfl (lv_at hl 3 rfl) (hp_n (n := 34) rfl ?_)
      refine lv_if_eq (tgt := 39) hx hb dX12_whyGrown_34 (by decide) (fun c12 => ?_) (fun c12 => hp_n (n := 37) rfl ?_)
      ·
        replace hf := ms_iT c12 hf
        exact J39 αh1 Hh1 Lh1 Bh1 σh1 Mh1 a2 a3 a4 a5 ls (lv_sub hl [0, 2, 3, 4, 5] rfl) hf
      ·
        replace hf := ms_iF c12 hf
        refine lv_iconst (v := 3) hx hb dX12_whyGrown_37 (by decide) (hp_n (n := 38) rfl ?_)
        cases hf
        exact q_iret C Bh1 hr hlk ⟨rfl, Bh1.2.2, Mh1⟩ dX12_whyGrown_38
  ·
    replace hf := ms_iF c2 hf
    refine lv_iload_n hx hb dX12_whyGrown_15 rfl (lv_at hl 1 rfl) (hp_n (n := 16) rfl ?_)
    refine lv_aload_n hx hb dX12_whyGrown_16 rfl (lv_at hl 0 rfl) (hp_n (n := 17) rfl ?_)
    refine m_geti (k := 7) (φ := 657) (pc' := 20) C Bh1 Mh1 fl_X12_139 rfl rfl dX12_whyGrown_17 rfl ?_
    refine lv_icmp_ge (tgt := 27) hx hb dX12_whyGrown_20 (by decide) (fun c13 => ?_) (fun c13 => hp_n (n := 23) rfl ?_)
    ·
      replace hf := ms_iT c13 hf
      refine lv_iconst (v := 2) hx hb dX12_whyGrown_27 (by decide) (hp_n (n := 28) rfl ?_)
      cases hf
      exact q_iret C Bh1 hr hlk ⟨rfl, Bh1.2.2, Mh1⟩ dX12_whyGrown_28
    ·
      replace hf := ms_iF c13 hf
      refine lv_iconst (v := 1) hx hb dX12_whyGrown_23 (by decide) (hp_n (n := 24) rfl ?_)
      refine lv_goto (tgt := 28) hx hb dX12_whyGrown_24 (by decide) ?_
      cases hf
      exact q_iret C Bh1 hr hlk ⟨rfl, Bh1.2.2, Mh1⟩ dX12_whyGrown_28
def f_X12_foldsBundle (n : Nat) : Nat → ms_T → Int32 → Int32 → Int32 → Option (Int32 × ms_T)
  | 0, _, _, _, _ => none
  | d + 1, σ, a1, a2, a3 =>
    ms_b (f_X12_hasAny n a1 a2 a3) fun rh1 =>
    if rh1 = 0 then
      ms_l (ms_sI σ 658 ((ms_I σ 658) + (1 : Int32))) fun σh10 =>
      ms_g ((ms_I σh10 658) - (1 : Int32)) 128 <|
      some ((ms_E σh10 44 (((ms_I σh10 658) - (1 : Int32))).toNatClampNeg), σh10)
    else
      if a3 = (1 : Int32) then
        ms_l (ms_sI σ 661 ((ms_I σ 661) + (1 : Int32))) fun σh8 =>
        ms_g ((ms_I σh8 661) - (1 : Int32)) 128 <|
        some ((ms_E σh8 44 (((ms_I σh8 661) - (1 : Int32))).toNatClampNeg), σh8)
      else
        ms_b (f_X12_part0 n a3) fun rh4 =>
        ms_c ((f_X12_foldsBundle n d) σ a1 a2 rh4) fun rh5 σh5 =>
        ms_c ((f_X12_foldsBundle n d) σh5 a1 (a2 + rh4) (a3 - rh4)) fun rh6 σh6 =>
        ms_b (f_X12_both n σh6 rh5 rh6) fun rh7 =>
        some (rh7, σh6)
set_option maxRecDepth 100000 in
set_option maxHeartbeats 4000000 in
theorem m_X12_foldsBundle (n : Nat) : ∀ (d : Nat) (Γ : hp_G) (l : Launch) (α : hp_T) (a0 : Nat) (ρ : Nat → Nat) (σ : ms_T) (hM : hm_M α a0 ρ σ) (a1 : Int32) (a2 : Int32) (a3 : Int32) (res : (Int32 × ms_T)) (hf : f_X12_foldsBundle n d σ a1 a2 a3 = some res), Met l yX12_foldsBundle (hp_ws yX12_foldsBundle cX12_foldsBundle 6 (some .int)) (hp_rm (d + 1) 0 0) (hp_Pc Γ α [.ref a0, .int a1, .int a2, .int a3]) (hp_Qi Γ (fun r β => r = res.1 ∧ mo α β ∧ hm_M β a0 ρ res.2)) 0 0 (hp_A Γ) := by
  intro d
  induction d with
  | zero => intro Γ l α a0 ρ σ hM a1 a2 a3 res hf; rw [f_X12_foldsBundle.eq_1] at hf; cases hf
  | succ d ihM =>
    intro Γ l α a0 ρ σ hM a1 a2 a3 res hf
    rw [f_X12_foldsBundle.eq_2] at hf
    refine hp_start (by decide) ?_
    intro p e s m below meth c C hr hlk B0 hnm
    have C : hp_C Γ p m c cX12_foldsBundle 6 s ([.ref a0, .int a1, .int a2, .int a3] : List Value).toArray RX12 := C
    have hx := C.1.1
    have hb := C.1.2.1
    have hown := C.1.2.2.2.1
    have hts := C.1.2.2.2.2
    have B : hp_B Γ mo s α α s.heap [] := ⟨B0.1, B0.2.1, mo_rf⟩
    have hl := lv_entry ([.ref a0, .int a1, .int a2, .int a3]) (n := 6) (Nat.le_of_ble_eq_true rfl)
    show W p l e (hp_rm (d + 1 + 1) 0 0) s m ([.ref a0, .int a1, .int a2, .int a3] : List Value).toArray below meth c s.heap [] 0 0 (MQ below (hp_Qi Γ (fun r β => r = res.1 ∧ mo α β ∧ hm_M β a0 ρ res.2)) ([.ref a0, .int a1, .int a2, .int a3] : List Value).toArray s 0 0 (hp_A Γ)) (entryFrame m ([.ref a0, .int a1, .int a2, .int a3] : List Value).toArray 6)
    rw [lg_entry_eq]
    generalize (lg_sl ([.ref a0, .int a1, .int a2, .int a3]) ++ List.replicate (6 - (lg_sl ([.ref a0, .int a1, .int a2, .int a3])).length) Slot.unset).toArray = ls at hl ⊢
    have hl : lv_has ls 6 [(0, .ref a0), (1, .int a1), (2, .int a2), (3, .int a3)] := hl
    refine lv_iload_n hx hb dX12_foldsBundle_0 rfl (lv_at hl 1 rfl) (hp_n (n := 1) rfl ?_)
    refine lv_iload_n hx hb dX12_foldsBundle_1 rfl (lv_at hl 2 rfl) (hp_n (n := 2) rfl ?_)
    refine lv_iload_n hx hb dX12_foldsBundle_2 rfl (lv_at hl 3 rfl) (hp_n (n := 3) rfl ?_)
    obtain ⟨rh1, qh1, hf⟩ := ms_bE hf
    refine m_cp (pc' := 6) B (hp_runS (As := [.int a1, .int a2, .int a3]) (rest := []) C B (m_X12_hasAny n Γ l α a1 a2 a3 rh1 qh1) lb_X12_hasAny ls_X12_hasAny lk_X12_154 rfl (by omega) rfl hl.1 rfl (Nat.le_of_ble_eq_true rfl) dX12_foldsBundle_3 ⟨Nat.le_refl _, Nat.le_refl _⟩) rfl (fun Hh1 Lh1 Bh1 => ?_)
    refine lv_if_ne (tgt := 31) hx hb dX12_foldsBundle_6 (by decide) (fun c2 => ?_) (fun c2 => hp_n (n := 9) rfl ?_)
    ·
      replace hf := ms_iF c2 hf
      refine lv_iload_n hx hb dX12_foldsBundle_31 rfl (lv_at hl 3 rfl) (hp_n (n := 32) rfl ?_)
      refine lv_iconst (v := 1) hx hb dX12_foldsBundle_32 (by decide) (hp_n (n := 33) rfl ?_)
      refine lv_icmp_ne (tgt := 58) hx hb dX12_foldsBundle_33 (by decide) (fun c3 => ?_) (fun c3 => hp_n (n := 36) rfl ?_)
      ·
        replace hf := ms_iF c3 hf
        refine lv_iload_n hx hb dX12_foldsBundle_58 rfl (lv_at hl 3 rfl) (hp_n (n := 59) rfl ?_)
        obtain ⟨rh4, qh4, hf⟩ := ms_bE hf
        refine m_cp (pc' := 62) Bh1 (hp_runS (As := [.int a3]) (rest := []) C Bh1 (m_X12_part0 n Γ l α a3 rh4 qh4) lb_X12_part0 ls_X12_part0 lk_X12_128 rfl (by omega) rfl hl.1 rfl (Nat.le_of_ble_eq_true rfl) dX12_foldsBundle_59 ⟨Nat.le_refl _, Nat.le_refl _⟩) rfl (fun Hh4 Lh4 Bh4 => ?_)
        refine lv_istore (lv' := [(4, .int rh4), (0, .ref a0), (1, .int a1), (2, .int a2), (3, .int a3)]) hx hb dX12_foldsBundle_62 hl (by decide) rfl (fun ls hl => hp_n (n := 64) rfl ?_)
        refine lv_aload_n hx hb dX12_foldsBundle_64 rfl (lv_at hl 1 rfl) (hp_n (n := 65) rfl ?_)
        refine lv_iload_n hx hb dX12_foldsBundle_65 rfl (lv_at hl 2 rfl) (hp_n (n := 66) rfl ?_)
        refine lv_iload_n hx hb dX12_foldsBundle_66 rfl (lv_at hl 3 rfl) (hp_n (n := 67) rfl ?_)
        refine lv_iload hx hb dX12_foldsBundle_67 (lv_at hl 0 rfl) (hp_n (n := 69) rfl ?_)
        obtain ⟨rh5, σh5, qh5, hf⟩ := ms_cE hf
        refine m_ci (pc' := 72) (a := a0) (ρ := ρ) Bh4 (hp_runV (As := [.int a1, .int a2, .int rh4]) (rest := []) C Bh4 (ihM Γ l α a0 ρ σ hM a1 a2 rh4 (rh5, σh5) qh5) lb_X12_foldsBundle lv_X12_foldsBundle lk_X12_196 hM.1 rfl (by omega) rfl hl.1 rfl (Nat.le_of_ble_eq_true rfl) dX12_foldsBundle_69 ⟨Nat.le_refl _, Nat.le_refl _⟩) rfl (fun αh5 Hh5 Lh5 Bh5 Mh5 => ?_)
        refine lv_istore (lv' := [(5, .int rh5), (4, .int rh4), (0, .ref a0), (1, .int a1), (2, .int a2), (3, .int a3)]) hx hb dX12_foldsBundle_72 hl (by decide) rfl (fun ls hl => hp_n (n := 74) rfl ?_)
        refine lv_aload_n hx hb dX12_foldsBundle_74 rfl (lv_at hl 2 rfl) (hp_n (n := 75) rfl ?_)
        refine lv_iload hx hb dX12_foldsBundle_75 (lv_at hl 0 rfl) (hp_n (n := 77) rfl ?_)
        refine lv_aload_n hx hb dX12_foldsBundle_77 rfl (lv_at hl 2 rfl) (hp_n (n := 78) rfl ?_)
        refine lv_iload_n hx hb dX12_foldsBundle_78 rfl (lv_at hl 3 rfl) (hp_n (n := 79) rfl ?_)
        refine lv_iload_n hx hb dX12_foldsBundle_79 rfl (lv_at hl 4 rfl) (hp_n (n := 80) rfl ?_)
        refine lv_iload hx hb dX12_foldsBundle_80 (lv_at hl 1 rfl) (hp_n (n := 82) rfl ?_)
        refine lv_iadd hx hb dX12_foldsBundle_82 (hp_n (n := 83) rfl ?_)
        refine lv_iload_n hx hb dX12_foldsBundle_83 rfl (lv_at hl 5 rfl) (hp_n (n := 84) rfl ?_)
        refine lv_iload hx hb dX12_foldsBundle_84 (lv_at hl 1 rfl) (hp_n (n := 86) rfl ?_)
        refine lv_isub hx hb dX12_foldsBundle_86 (hp_n (n := 87) rfl ?_)
        obtain ⟨rh6, σh6, qh6, hf⟩ := ms_cE hf
        refine m_ci (pc' := 90) (a := a0) (ρ := ρ) Bh5 (hp_runV (As := [.int a1, .int (a2 + rh4), .int (a3 - rh4)]) (rest := [.int rh5, .ref a0]) C Bh5 (ihM Γ l αh5 a0 ρ σh5 Mh5 a1 (a2 + rh4) (a3 - rh4) (rh6, σh6) qh6) lb_X12_foldsBundle lv_X12_foldsBundle lk_X12_196 Mh5.1 rfl (by omega) rfl hl.1 rfl (Nat.le_of_ble_eq_true rfl) dX12_foldsBundle_87 ⟨Nat.le_refl _, Nat.le_refl _⟩) rfl (fun αh6 Hh6 Lh6 Bh6 Mh6 => ?_)
        obtain ⟨rh7, qh7, hf⟩ := ms_bE hf
        refine m_cp (pc' := 93) Bh6 (hp_runV (As := [.int rh5, .int rh6]) (rest := []) C Bh6 (m_X12_both n Γ l αh6 a0 ρ σh6 Mh6 rh5 rh6 rh7 qh7) lb_X12_both lv_X12_both lk_X12_136 Mh6.1 rfl (by omega) rfl hl.1 rfl (Nat.le_of_ble_eq_true rfl) dX12_foldsBundle_90 ⟨Nat.le_refl _, Nat.le_refl _⟩) rfl (fun Hh7 Lh7 Bh7 => ?_)
        cases hf
        exact q_iret C Bh7 hr hlk ⟨rfl, Bh7.2.2, Mh6⟩ dX12_foldsBundle_93
      ·
        replace hf := ms_iT c3 hf
        refine lv_aload_n hx hb dX12_foldsBundle_36 rfl (lv_at hl 0 rfl) (hp_n (n := 37) rfl ?_)
        refine lv_dup hx hb dX12_foldsBundle_37 rfl (hp_n (n := 38) rfl ?_)
        refine m_geti (k := 11) (φ := 661) (pc' := 41) C Bh1 hM fl_X12_193 rfl rfl dX12_foldsBundle_38 rfl ?_
        refine lv_iconst (v := 1) hx hb dX12_foldsBundle_41 (by decide) (hp_n (n := 42) rfl ?_)
        refine lv_iadd hx hb dX12_foldsBundle_42 (hp_n (n := 43) rfl ?_)
        refine m_puti (k := 11) (φ := 661) (pc' := 46) C Bh1 hM fl_X12_193 rfl rfl rfl rfl rfl dX12_foldsBundle_43 rfl (fun αh8 Hh8 Lh8 σh8 eh8 Bh8 Mh8 => ?_)
        replace hf := ms_lE eh8 hf
        refine lv_aload_n hx hb dX12_foldsBundle_46 rfl (lv_at hl 0 rfl) (hp_n (n := 47) rfl ?_)
        refine m_getr (κ := 44) (k := 6) (pc' := 50) C Bh8 Mh8 fl_X12_22 rfl (by decide) dX12_foldsBundle_47 rfl ?_
        refine lv_aload_n hx hb dX12_foldsBundle_50 rfl (lv_at hl 0 rfl) (hp_n (n := 51) rfl ?_)
        refine m_geti (k := 11) (φ := 661) (pc' := 54) C Bh8 Mh8 fl_X12_193 rfl rfl dX12_foldsBundle_51 rfl ?_
        refine lv_iconst (v := 1) hx hb dX12_foldsBundle_54 (by decide) (hp_n (n := 55) rfl ?_)
        refine lv_isub hx hb dX12_foldsBundle_55 (hp_n (n := 56) rfl ?_)
        obtain ⟨g9, hf⟩ := ms_gE hf
        refine m_ial (κ := 44) (φ := 656) (n := 128) (pc' := 57) C Bh8 Mh8 (by decide) (by decide) rfl g9 dX12_foldsBundle_56 rfl ?_
        cases hf
        exact q_iret C Bh8 hr hlk ⟨rfl, Bh8.2.2, Mh8⟩ dX12_foldsBundle_57
    ·
      replace hf := ms_iT c2 hf
      refine lv_aload_n hx hb dX12_foldsBundle_9 rfl (lv_at hl 0 rfl) (hp_n (n := 10) rfl ?_)
      refine lv_dup hx hb dX12_foldsBundle_10 rfl (hp_n (n := 11) rfl ?_)
      refine m_geti (k := 8) (φ := 658) (pc' := 14) C Bh1 hM fl_X12_168 rfl rfl dX12_foldsBundle_11 rfl ?_
      refine lv_iconst (v := 1) hx hb dX12_foldsBundle_14 (by decide) (hp_n (n := 15) rfl ?_)
      refine lv_iadd hx hb dX12_foldsBundle_15 (hp_n (n := 16) rfl ?_)
      refine m_puti (k := 8) (φ := 658) (pc' := 19) C Bh1 hM fl_X12_168 rfl rfl rfl rfl rfl dX12_foldsBundle_16 rfl (fun αh10 Hh10 Lh10 σh10 eh10 Bh10 Mh10 => ?_)
      replace hf := ms_lE eh10 hf
      refine lv_aload_n hx hb dX12_foldsBundle_19 rfl (lv_at hl 0 rfl) (hp_n (n := 20) rfl ?_)
      refine m_getr (κ := 44) (k := 6) (pc' := 23) C Bh10 Mh10 fl_X12_22 rfl (by decide) dX12_foldsBundle_20 rfl ?_
      refine lv_aload_n hx hb dX12_foldsBundle_23 rfl (lv_at hl 0 rfl) (hp_n (n := 24) rfl ?_)
      refine m_geti (k := 8) (φ := 658) (pc' := 27) C Bh10 Mh10 fl_X12_168 rfl rfl dX12_foldsBundle_24 rfl ?_
      refine lv_iconst (v := 1) hx hb dX12_foldsBundle_27 (by decide) (hp_n (n := 28) rfl ?_)
      refine lv_isub hx hb dX12_foldsBundle_28 (hp_n (n := 29) rfl ?_)
      obtain ⟨g11, hf⟩ := ms_gE hf
      refine m_ial (κ := 44) (φ := 656) (n := 128) (pc' := 30) C Bh10 Mh10 (by decide) (by decide) rfl g11 dX12_foldsBundle_29 rfl ?_
      cases hf
      exact q_iret C Bh10 hr hlk ⟨rfl, Bh10.2.2, Mh10⟩ dX12_foldsBundle_30
def f_X12_whyByRecord (n : Nat) (σ : ms_T) (a1 : Int32) (a2 : Int32) (a3 : Int32) (a4 : Int32) (a5 : Int32) : Option (Int32 × ms_T) :=
  ms_b (f_X12_growth n σ a2 a4) fun σh1 =>
  ms_b (f_X12_fetches n σh1 a1) fun σh2 =>
  ms_c (f_X12_whyGrown n σh2 (ms_I σh2 657) a2 a3 a4 a5) fun rh3 σh3 =>
  some (rh3, σh3)
set_option maxRecDepth 100000 in
set_option maxHeartbeats 4000000 in
theorem m_X12_whyByRecord (n : Nat) (Γ : hp_G) (l : Launch) (α : hp_T) (a0 : Nat) (ρ : Nat → Nat) (σ : ms_T) (hM : hm_M α a0 ρ σ) (a1 : Int32) (a2 : Int32) (a3 : Int32) (a4 : Int32) (a5 : Int32) (res : (Int32 × ms_T)) (hf : f_X12_whyByRecord n σ a1 a2 a3 a4 a5 = some res) : Met l yX12_whyByRecord (hp_ws yX12_whyByRecord cX12_whyByRecord 6 (some .int)) (hp_rm 43 0 0) (hp_Pc Γ α [.ref a0, .int a1, .int a2, .int a3, .int a4, .int a5]) (hp_Qi Γ (fun r β => r = res.1 ∧ mo α β ∧ hm_M β a0 ρ res.2)) 0 0 (hp_A Γ) := by
  unfold f_X12_whyByRecord at hf
  refine hp_start (by decide) ?_
  intro p e s m below meth c C hr hlk B0 hnm
  have C : hp_C Γ p m c cX12_whyByRecord 6 s ([.ref a0, .int a1, .int a2, .int a3, .int a4, .int a5] : List Value).toArray RX12 := C
  have hx := C.1.1
  have hb := C.1.2.1
  have hown := C.1.2.2.2.1
  have hts := C.1.2.2.2.2
  have B : hp_B Γ mo s α α s.heap [] := ⟨B0.1, B0.2.1, mo_rf⟩
  have hl := lv_entry ([.ref a0, .int a1, .int a2, .int a3, .int a4, .int a5]) (n := 6) (Nat.le_of_ble_eq_true rfl)
  show W p l e (hp_rm 43 0 0) s m ([.ref a0, .int a1, .int a2, .int a3, .int a4, .int a5] : List Value).toArray below meth c s.heap [] 0 0 (MQ below (hp_Qi Γ (fun r β => r = res.1 ∧ mo α β ∧ hm_M β a0 ρ res.2)) ([.ref a0, .int a1, .int a2, .int a3, .int a4, .int a5] : List Value).toArray s 0 0 (hp_A Γ)) (entryFrame m ([.ref a0, .int a1, .int a2, .int a3, .int a4, .int a5] : List Value).toArray 6)
  rw [lg_entry_eq]
  generalize (lg_sl ([.ref a0, .int a1, .int a2, .int a3, .int a4, .int a5]) ++ List.replicate (6 - (lg_sl ([.ref a0, .int a1, .int a2, .int a3, .int a4, .int a5])).length) Slot.unset).toArray = ls at hl ⊢
  have hl : lv_has ls 6 [(0, .ref a0), (1, .int a1), (2, .int a2), (3, .int a3), (4, .int a4), (5, .int a5)] := hl
  refine lv_aload_n hx hb dX12_whyByRecord_0 rfl (lv_at hl 0 rfl) (hp_n (n := 1) rfl ?_)
  refine lv_iload_n hx hb dX12_whyByRecord_1 rfl (lv_at hl 2 rfl) (hp_n (n := 2) rfl ?_)
  refine lv_iload hx hb dX12_whyByRecord_2 (lv_at hl 4 rfl) (hp_n (n := 4) rfl ?_)
  obtain ⟨σh1, qh1, hf⟩ := ms_bE hf
  refine m_cv (pc' := 7) (a := a0) (ρ := ρ) B (hp_runV (As := [.int a2, .int a4]) (rest := []) C B (m_X12_growth n Γ l α a0 ρ σ hM a2 a4 σh1 qh1) lb_X12_growth lv_X12_growth lk_X12_190 hM.1 rfl (by decide) rfl hl.1 rfl (Nat.le_of_ble_eq_true rfl) dX12_whyByRecord_4 ⟨Nat.le_refl _, Nat.le_refl _⟩) rfl (fun αh1 Hh1 Lh1 Bh1 Mh1 => ?_)
  refine lv_aload_n hx hb dX12_whyByRecord_7 rfl (lv_at hl 0 rfl) (hp_n (n := 8) rfl ?_)
  refine lv_iload_n hx hb dX12_whyByRecord_8 rfl (lv_at hl 1 rfl) (hp_n (n := 9) rfl ?_)
  obtain ⟨σh2, qh2, hf⟩ := ms_bE hf
  refine m_cv (pc' := 12) (a := a0) (ρ := ρ) Bh1 (hp_runV (As := [.int a1]) (rest := []) C Bh1 (m_X12_fetches n Γ l αh1 a0 ρ σh1 Mh1 a1 σh2 qh2) lb_X12_fetches lv_X12_fetches lk_X12_161 Mh1.1 rfl (by decide) rfl hl.1 rfl (Nat.le_of_ble_eq_true rfl) dX12_whyByRecord_9 ⟨Nat.le_refl _, Nat.le_refl _⟩) rfl (fun αh2 Hh2 Lh2 Bh2 Mh2 => ?_)
  refine lv_aload_n hx hb dX12_whyByRecord_12 rfl (lv_at hl 0 rfl) (hp_n (n := 13) rfl ?_)
  refine lv_aload_n hx hb dX12_whyByRecord_13 rfl (lv_at hl 0 rfl) (hp_n (n := 14) rfl ?_)
  refine m_geti (k := 7) (φ := 657) (pc' := 17) C Bh2 Mh2 fl_X12_139 rfl rfl dX12_whyByRecord_14 rfl ?_
  refine lv_iload_n hx hb dX12_whyByRecord_17 rfl (lv_at hl 2 rfl) (hp_n (n := 18) rfl ?_)
  refine lv_iload_n hx hb dX12_whyByRecord_18 rfl (lv_at hl 3 rfl) (hp_n (n := 19) rfl ?_)
  refine lv_iload hx hb dX12_whyByRecord_19 (lv_at hl 4 rfl) (hp_n (n := 21) rfl ?_)
  refine lv_iload hx hb dX12_whyByRecord_21 (lv_at hl 5 rfl) (hp_n (n := 23) rfl ?_)
  obtain ⟨rh3, σh3, qh3, hf⟩ := ms_cE hf
  refine m_ci (pc' := 26) (a := a0) (ρ := ρ) Bh2 (hp_runV (As := [.int (ms_I σh2 657), .int a2, .int a3, .int a4, .int a5]) (rest := []) C Bh2 (m_X12_whyGrown n Γ l αh2 a0 ρ σh2 Mh2 (ms_I σh2 657) a2 a3 a4 a5 (rh3, σh3) qh3) lb_X12_whyGrown lv_X12_whyGrown lk_X12_199 Mh2.1 rfl (by decide) rfl hl.1 rfl (Nat.le_of_ble_eq_true rfl) dX12_whyByRecord_23 ⟨Nat.le_refl _, Nat.le_refl _⟩) rfl (fun αh3 Hh3 Lh3 Bh3 Mh3 => ?_)
  cases hf
  exact q_iret C Bh3 hr hlk ⟨rfl, Bh3.2.2, Mh3⟩ dX12_whyByRecord_26
def f_X12_type_L102 (n : Nat) : Nat → ms_T → Int32 → Int32 → Option (Int32 × ms_T)
  | 0, _, _, _ => none
  | k102 + 1, σh4, v3_h4, v5_h4 =>
    if v3_h4 ≤ v5_h4 then
      ms_l (ms_sI σh4 664 v3_h4) fun σh6 =>
      some (v3_h4, σh6)
    else
      ms_g v5_h4 8 <|
      ms_g v5_h4 8 <|
      ms_l (ms_sE σh4 45 (v5_h4).toNatClampNeg (ms_E σh4 46 (v5_h4).toNatClampNeg)) fun σh9 =>
      ms_l (v5_h4 + 1) fun x10 =>
      (f_X12_type_L102 n k102) σh9 v3_h4 x10
def f_X12_type_J99 (n : Nat) (σh3 : ms_T) (v3_h3 : Int32) : Option (Int32 × ms_T) :=
  f_X12_type_L102 n n σh3 v3_h3 (0 : Int32)
def f_X12_type_J91 (n : Nat) (rec13 : ms_T → Int32 → Int32 → Int32 → Int32 → Int32 → Option (Int32 × ms_T)) (σh19 : ms_T) (v1_h19 : Int32) (v2_h19 : Int32) (v4_h19 : Int32) (v5_h19 : Int32) (w0_h19 : Int32) (w1_h19 : Int32) : Option (Int32 × ms_T) :=
  ms_l ((w1_h19 + w0_h19)) fun x20 =>
  ms_l (v5_h19 + 1) fun x21 =>
  rec13 σh19 v1_h19 v2_h19 x20 v4_h19 x21
def f_X12_type_J69 (n : Nat) (rec13 : ms_T → Int32 → Int32 → Int32 → Int32 → Int32 → Option (Int32 × ms_T)) (σh16 : ms_T) (v1_h16 : Int32) (v2_h16 : Int32) (v3_h16 : Int32) (v5_h16 : Int32) (v6_h16 : Int32) (w0_h16 : Int32) : Option (Int32 × ms_T) :=
  ms_g v5_h16 8 <|
  ms_l (ms_sE σh16 46 (v5_h16).toNatClampNeg v6_h16) fun σh18 =>
  if w0_h16 = 0 then
    f_X12_type_J91 n rec13 σh18 v1_h16 v2_h16 w0_h16 v5_h16 (0 : Int32) v3_h16
  else
    f_X12_type_J91 n rec13 σh18 v1_h16 v2_h16 w0_h16 v5_h16 (1 : Int32) v3_h16
def f_X12_type_J37 (n : Nat) (rec13 : ms_T → Int32 → Int32 → Int32 → Int32 → Int32 → Option (Int32 × ms_T)) (σh13 : ms_T) (v1_h13 : Int32) (v2_h13 : Int32) (v3_h13 : Int32) (v5_h13 : Int32) (w0_h13 : Int32) : Option (Int32 × ms_T) :=
  ms_l ((((w0_h13).toUInt32 >>> ((((5 : Int32) * (v5_h13 - v5_h13 / (6 : Int32) * (6 : Int32)))).toUInt32 &&& Int32.toUInt32 31)).toInt32 &&& (31 : Int32))) fun x14 =>
  if x14 ≤ (26 : Int32) then
    if x14 ≤ 0 then
      f_X12_type_J69 n rec13 σh13 v1_h13 v2_h13 v3_h13 v5_h13 x14 (0 : Int32)
    else
      f_X12_type_J69 n rec13 σh13 v1_h13 v2_h13 v3_h13 v5_h13 x14 (1 : Int32)
  else
    some ((-1 : Int32), σh13)
def f_X12_type_L13 (n : Nat) : Nat → ms_T → Int32 → Int32 → Int32 → Int32 → Int32 → Option (Int32 × ms_T)
  | 0, _, _, _, _, _, _ => none
  | k13 + 1, σh2, v1_h2, v2_h2, v3_h2, v4_h2, v5_h2 =>
    if (8 : Int32) ≤ v5_h2 then
      f_X12_type_J99 n σh2 v3_h2
    else
      if v4_h2 = 0 then
        f_X12_type_J99 n σh2 v3_h2
      else
        if (6 : Int32) ≤ v5_h2 then
          f_X12_type_J37 n (f_X12_type_L13 n k13) σh2 v1_h2 v2_h2 v3_h2 v5_h2 v2_h2
        else
          f_X12_type_J37 n (f_X12_type_L13 n k13) σh2 v1_h2 v2_h2 v3_h2 v5_h2 v1_h2
def f_X12_type (n : Nat) (σ : ms_T) (a1 : Int32) (a2 : Int32) : Option (Int32 × ms_T) :=
  ms_l (ms_sI σ 653 (0 : Int32)) fun σh1 =>
  f_X12_type_L13 n n σh1 a1 a2 (0 : Int32) (1 : Int32) (0 : Int32)
set_option maxRecDepth 100000 in
set_option maxHeartbeats 4000000 in
theorem m_X12_type (n : Nat) (Γ : hp_G) (l : Launch) (α : hp_T) (a0 : Nat) (ρ : Nat → Nat) (σ : ms_T) (hM : hm_M α a0 ρ σ) (a1 : Int32) (a2 : Int32) (res : (Int32 × ms_T)) (hf : f_X12_type n σ a1 a2 = some res) : Met l yX12_type (hp_ws yX12_type cX12_type 7 (some .int)) (hp_rm 0 0 0) (hp_Pc Γ α [.ref a0, .int a1, .int a2]) (hp_Qi Γ (fun r β => r = res.1 ∧ mo α β ∧ hm_M β a0 ρ res.2)) 0 0 (hp_A Γ) := by
  unfold f_X12_type at hf
  refine hp_start (by decide) ?_
  intro p e s m below meth c C hr hlk B0 hnm
  have C : hp_C Γ p m c cX12_type 7 s ([.ref a0, .int a1, .int a2] : List Value).toArray RX12 := C
  have hx := C.1.1
  have hb := C.1.2.1
  have hown := C.1.2.2.2.1
  have hts := C.1.2.2.2.2
  have B : hp_B Γ mo s α α s.heap [] := ⟨B0.1, B0.2.1, mo_rf⟩
  have hl := lv_entry ([.ref a0, .int a1, .int a2]) (n := 7) (Nat.le_of_ble_eq_true rfl)
  show W p l e (hp_rm 0 0 0) s m ([.ref a0, .int a1, .int a2] : List Value).toArray below meth c s.heap [] 0 0 (MQ below (hp_Qi Γ (fun r β => r = res.1 ∧ mo α β ∧ hm_M β a0 ρ res.2)) ([.ref a0, .int a1, .int a2] : List Value).toArray s 0 0 (hp_A Γ)) (entryFrame m ([.ref a0, .int a1, .int a2] : List Value).toArray 7)
  rw [lg_entry_eq]
  generalize (lg_sl ([.ref a0, .int a1, .int a2]) ++ List.replicate (7 - (lg_sl ([.ref a0, .int a1, .int a2])).length) Slot.unset).toArray = ls at hl ⊢
  have hl : lv_has ls 7 [(0, .ref a0), (1, .int a1), (2, .int a2)] := hl
  refine lv_aload_n hx hb dX12_type_0 rfl (lv_at hl 0 rfl) (hp_n (n := 1) rfl ?_)
  refine lv_iconst (v := 0) hx hb dX12_type_1 (by decide) (hp_n (n := 2) rfl ?_)
  refine m_puti (k := 3) (φ := 653) (pc' := 5) C B hM fl_X12_106 rfl rfl rfl rfl rfl dX12_type_2 rfl (fun αh1 Hh1 Lh1 σh1 eh1 Bh1 Mh1 => ?_)
  replace hf := ms_lE eh1 hf
  refine lv_iconst (v := 0) hx hb dX12_type_5 (by decide) (hp_n (n := 6) rfl ?_)
  refine lv_istore_n (lv' := [(3, .int (0 : Int32)), (0, .ref a0), (1, .int a1), (2, .int a2)]) hx hb dX12_type_6 rfl hl (by decide) rfl (fun ls hl => hp_n (n := 7) rfl ?_)
  refine lv_iconst (v := 1) hx hb dX12_type_7 (by decide) (hp_n (n := 8) rfl ?_)
  refine lv_istore (lv' := [(4, .int (1 : Int32)), (3, .int (0 : Int32)), (0, .ref a0), (1, .int a1), (2, .int a2)]) hx hb dX12_type_8 hl (by decide) rfl (fun ls hl => hp_n (n := 10) rfl ?_)
  refine lv_iconst (v := 0) hx hb dX12_type_10 (by decide) (hp_n (n := 11) rfl ?_)
  have J13 : ∀ (k13 : Nat) (αh2 : hp_T) (Hh2 : Heap) (Lh2 : List Loc) (Bh2 : hp_B Γ mo s α αh2 Hh2 Lh2) (σh2 : ms_T) (Mh2 : hm_M αh2 a0 ρ σh2) (v1_h2 : Int32) (v2_h2 : Int32) (v3_h2 : Int32) (v4_h2 : Int32) (v5_h2 : Int32) (ls : Array Slot) (hl : lv_has ls 7 [(0, .ref a0), (1, .int v1_h2), (2, .int v2_h2), (3, .int v3_h2), (4, .int v4_h2), (5, .int v5_h2)]) (hf : f_X12_type_L13 n k13 σh2 v1_h2 v2_h2 v3_h2 v4_h2 v5_h2 = some res), W p l e (hp_rm 0 0 0) s m ([.ref a0, .int a1, .int a2] : List Value).toArray below meth c Hh2 Lh2 0 0 (MQ below (hp_Qi Γ (fun r β => r = res.1 ∧ mo α β ∧ hm_M β a0 ρ res.2)) ([.ref a0, .int a1, .int a2] : List Value).toArray s 0 0 (hp_A Γ)) (F0 m 13 ls []) := by
    intro k13
    induction k13 with
    | zero => intro αh2 Hh2 Lh2 Bh2 σh2 Mh2 v1_h2 v2_h2 v3_h2 v4_h2 v5_h2 ls hl hf; rw [f_X12_type_L13.eq_1] at hf; cases hf
    | succ k13 ih13 =>
      intro αh2 Hh2 Lh2 Bh2 σh2 Mh2 v1_h2 v2_h2 v3_h2 v4_h2 v5_h2 ls hl hf
      rw [f_X12_type_L13.eq_2] at hf
      refine lv_iload hx hb dX12_type_13 (lv_at hl 5 rfl) (hp_n (n := 15) rfl ?_)
      refine lv_bipush (v := 8) hx hb dX12_type_15 (by decide) (hp_n (n := 17) rfl ?_)
      have J99 : ∀ (αh3 : hp_T) (Hh3 : Heap) (Lh3 : List Loc) (Bh3 : hp_B Γ mo s α αh3 Hh3 Lh3) (σh3 : ms_T) (Mh3 : hm_M αh3 a0 ρ σh3) (v3_h3 : Int32) (ls : Array Slot) (hl : lv_has ls 7 [(0, .ref a0), (3, .int v3_h3)]) (hf : f_X12_type_J99 n σh3 v3_h3 = some res), W p l e (hp_rm 0 0 0) s m ([.ref a0, .int a1, .int a2] : List Value).toArray below meth c Hh3 Lh3 0 0 (MQ below (hp_Qi Γ (fun r β => r = res.1 ∧ mo α β ∧ hm_M β a0 ρ res.2)) ([.ref a0, .int a1, .int a2] : List Value).toArray s 0 0 (hp_A Γ)) (F0 m 99 ls []) := by
        intro αh3 Hh3 Lh3 Bh3 σh3 Mh3 v3_h3 ls hl hf
        unfold f_X12_type_J99 at hf
        refine lv_iconst (v := 0) hx hb dX12_type_99 (by decide) (hp_n (n := 100) rfl ?_)
        have J102 : ∀ (k102 : Nat) (αh4 : hp_T) (Hh4 : Heap) (Lh4 : List Loc) (Bh4 : hp_B Γ mo s α αh4 Hh4 Lh4) (σh4 : ms_T) (Mh4 : hm_M αh4 a0 ρ σh4) (v3_h4 : Int32) (v5_h4 : Int32) (ls : Array Slot) (hl : lv_has ls 7 [(0, .ref a0), (3, .int v3_h4), (5, .int v5_h4)]) (hf : f_X12_type_L102 n k102 σh4 v3_h4 v5_h4 = some res), W p l e (hp_rm 0 0 0) s m ([.ref a0, .int a1, .int a2] : List Value).toArray below meth c Hh4 Lh4 0 0 (MQ below (hp_Qi Γ (fun r β => r = res.1 ∧ mo α β ∧ hm_M β a0 ρ res.2)) ([.ref a0, .int a1, .int a2] : List Value).toArray s 0 0 (hp_A Γ)) (F0 m 102 ls []) := by
          intro k102
          induction k102 with
          | zero => intro αh4 Hh4 Lh4 Bh4 σh4 Mh4 v3_h4 v5_h4 ls hl hf; rw [f_X12_type_L102.eq_1] at hf; cases hf
          | succ k102 ih102 =>
            intro αh4 Hh4 Lh4 Bh4 σh4 Mh4 v3_h4 v5_h4 ls hl hf
            rw [f_X12_type_L102.eq_2] at hf
            refine lv_iload hx hb dX12_type_102 (lv_at hl 2 rfl) (hp_n (n := 104) rfl ?_)
            refine lv_iload_n hx hb dX12_type_104 rfl (lv_at hl 1 rfl) (hp_n (n := 105) rfl ?_)
            refine lv_icmp_ge (tgt := 128) hx hb dX12_type_105 (by decide) (fun c5 => ?_) (fun c5 => hp_n (n := 108) rfl ?_)
            ·
              replace hf := ms_iT c5 hf
              refine lv_aload_n hx hb dX12_type_128 rfl (lv_at hl 0 rfl) (hp_n (n := 129) rfl ?_)
              refine lv_iload_n hx hb dX12_type_129 rfl (lv_at hl 1 rfl) (hp_n (n := 130) rfl ?_)
              refine m_puti (k := 14) (φ := 664) (pc' := 133) C Bh4 Mh4 fl_X12_203 rfl rfl rfl rfl rfl dX12_type_130 rfl (fun αh6 Hh6 Lh6 σh6 eh6 Bh6 Mh6 => ?_)
              replace hf := ms_lE eh6 hf
              refine lv_iload_n hx hb dX12_type_133 rfl (lv_at hl 1 rfl) (hp_n (n := 134) rfl ?_)
              cases hf
              exact q_iret C Bh6 hr hlk ⟨rfl, Bh6.2.2, Mh6⟩ dX12_type_134
            ·
              replace hf := ms_iF c5 hf
              refine lv_aload_n hx hb dX12_type_108 rfl (lv_at hl 0 rfl) (hp_n (n := 109) rfl ?_)
              refine m_getr (κ := 45) (k := 12) (pc' := 112) C Bh4 Mh4 fl_X12_25 rfl (by decide) dX12_type_109 rfl ?_
              refine lv_iload hx hb dX12_type_112 (lv_at hl 2 rfl) (hp_n (n := 114) rfl ?_)
              refine lv_aload_n hx hb dX12_type_114 rfl (lv_at hl 0 rfl) (hp_n (n := 115) rfl ?_)
              refine m_getr (κ := 46) (k := 13) (pc' := 118) C Bh4 Mh4 fl_X12_28 rfl (by decide) dX12_type_115 rfl ?_
              refine lv_iload hx hb dX12_type_118 (lv_at hl 2 rfl) (hp_n (n := 120) rfl ?_)
              obtain ⟨g7, hf⟩ := ms_gE hf
              refine m_ial (κ := 46) (φ := 663) (n := 8) (pc' := 121) C Bh4 Mh4 (by decide) (by decide) rfl g7 dX12_type_120 rfl ?_
              obtain ⟨g8, hf⟩ := ms_gE hf
              refine m_ias (κ := 45) (φ := 662) (n := 8) (pc' := 122) C Bh4 Mh4 (by decide) (by decide) rfl g8 dX12_type_121 rfl (fun αh9 Hh9 Lh9 σh9 eh9 Bh9 Mh9 => ?_)
              replace hf := ms_lE eh9 hf
              obtain ⟨x10, ex10⟩ : ∃ y : Int32, y = v5_h4 + 1 := ⟨_, rfl⟩
              replace hf := ms_lE ex10 hf
              refine lv_iinc (v := x10) (lv' := [(5, .int x10), (0, .ref a0), (3, .int v3_h4)]) hx hb dX12_type_122 hl (k := 2) rfl (by rw [ex10]; rfl) (by decide) rfl (fun ls hl => hp_n (n := 125) rfl ?_)
              refine lv_goto (tgt := 102) hx hb dX12_type_125 (by decide) ?_
              exact ih102 αh9 Hh9 Lh9 Bh9 σh9 Mh9 v3_h4 x10 ls (lv_sub hl [1, 2, 0] rfl) hf
        refine lv_istore (lv' := [(5, .int (0 : Int32)), (0, .ref a0), (3, .int v3_h3)]) hx hb dX12_type_100 hl (by decide) rfl (fun ls hl => hp_n (n := 102) rfl ?_)
        exact J102 n αh3 Hh3 Lh3 Bh3 σh3 Mh3 v3_h3 (0 : Int32) ls (lv_sub hl [1, 2, 0] rfl) hf
      refine lv_icmp_ge (tgt := 99) hx hb dX12_type_17 (by decide) (fun c11 => ?_) (fun c11 => hp_n (n := 20) rfl ?_)
      ·
        replace hf := ms_iT c11 hf
        exact J99 αh2 Hh2 Lh2 Bh2 σh2 Mh2 v3_h2 ls (lv_sub hl [0, 3] rfl) hf
      ·
        replace hf := ms_iF c11 hf
        refine lv_iload hx hb dX12_type_20 (lv_at hl 4 rfl) (hp_n (n := 22) rfl ?_)
        refine lv_if_eq (tgt := 99) hx hb dX12_type_22 (by decide) (fun c12 => ?_) (fun c12 => hp_n (n := 25) rfl ?_)
        ·
          replace hf := ms_iT c12 hf
          exact J99 αh2 Hh2 Lh2 Bh2 σh2 Mh2 v3_h2 ls (lv_sub hl [0, 3] rfl) hf
        ·
          replace hf := ms_iF c12 hf
          refine lv_iload hx hb dX12_type_25 (lv_at hl 5 rfl) (hp_n (n := 27) rfl ?_)
          refine lv_bipush (v := 6) hx hb dX12_type_27 (by decide) (hp_n (n := 29) rfl ?_)
          have J37 : ∀ (αh13 : hp_T) (Hh13 : Heap) (Lh13 : List Loc) (Bh13 : hp_B Γ mo s α αh13 Hh13 Lh13) (σh13 : ms_T) (Mh13 : hm_M αh13 a0 ρ σh13) (v1_h13 : Int32) (v2_h13 : Int32) (v3_h13 : Int32) (v5_h13 : Int32) (w0_h13 : Int32) (ls : Array Slot) (hl : lv_has ls 7 [(0, .ref a0), (1, .int v1_h13), (2, .int v2_h13), (3, .int v3_h13), (5, .int v5_h13)]) (hf : f_X12_type_J37 n (f_X12_type_L13 n k13) σh13 v1_h13 v2_h13 v3_h13 v5_h13 w0_h13 = some res), W p l e (hp_rm 0 0 0) s m ([.ref a0, .int a1, .int a2] : List Value).toArray below meth c Hh13 Lh13 0 0 (MQ below (hp_Qi Γ (fun r β => r = res.1 ∧ mo α β ∧ hm_M β a0 ρ res.2)) ([.ref a0, .int a1, .int a2] : List Value).toArray s 0 0 (hp_A Γ)) (F0 m 37 ls [.int w0_h13]) := by
            intro αh13 Hh13 Lh13 Bh13 σh13 Mh13 v1_h13 v2_h13 v3_h13 v5_h13 w0_h13 ls hl hf
            unfold f_X12_type_J37 at hf
            refine lv_iconst (v := 5) hx hb dX12_type_37 (by decide) (hp_n (n := 38) rfl ?_)
            refine lv_iload hx hb dX12_type_38 (lv_at hl 4 rfl) (hp_n (n := 40) rfl ?_)
            refine lv_bipush (v := 6) hx hb dX12_type_40 (by decide) (hp_n (n := 42) rfl ?_)
            refine lv_irem hx hb dX12_type_42 (by decide) (hp_n (n := 43) rfl ?_)
            refine lv_imul hx hb dX12_type_43 (hp_n (n := 44) rfl ?_)
            refine lv_iushr hx hb dX12_type_44 rfl (hp_n (n := 45) rfl ?_)
            refine lv_bipush (v := 31) hx hb dX12_type_45 (by decide) (hp_n (n := 47) rfl ?_)
            refine lv_iand hx hb dX12_type_47 (hp_n (n := 48) rfl ?_)
            refine lv_topi (fun x14 ex14 => ?_)
            replace hf := ms_lE ex14 hf
            refine lv_istore (lv' := [(6, .int x14), (0, .ref a0), (1, .int v1_h13), (2, .int v2_h13), (3, .int v3_h13), (5, .int v5_h13)]) hx hb dX12_type_48 hl (by decide) rfl (fun ls hl => hp_n (n := 50) rfl ?_)
            refine lv_iload hx hb dX12_type_50 (lv_at hl 0 rfl) (hp_n (n := 52) rfl ?_)
            refine lv_bipush (v := 26) hx hb dX12_type_52 (by decide) (hp_n (n := 54) rfl ?_)
            refine lv_icmp_le (tgt := 59) hx hb dX12_type_54 (by decide) (fun c15 => ?_) (fun c15 => hp_n (n := 57) rfl ?_)
            ·
              replace hf := ms_iT c15 hf
              refine lv_iload hx hb dX12_type_59 (lv_at hl 0 rfl) (hp_n (n := 61) rfl ?_)
              have J69 : ∀ (αh16 : hp_T) (Hh16 : Heap) (Lh16 : List Loc) (Bh16 : hp_B Γ mo s α αh16 Hh16 Lh16) (σh16 : ms_T) (Mh16 : hm_M αh16 a0 ρ σh16) (v1_h16 : Int32) (v2_h16 : Int32) (v3_h16 : Int32) (v5_h16 : Int32) (v6_h16 : Int32) (w0_h16 : Int32) (ls : Array Slot) (hl : lv_has ls 7 [(0, .ref a0), (1, .int v1_h16), (2, .int v2_h16), (3, .int v3_h16), (5, .int v5_h16), (6, .int v6_h16)]) (hf : f_X12_type_J69 n (f_X12_type_L13 n k13) σh16 v1_h16 v2_h16 v3_h16 v5_h16 v6_h16 w0_h16 = some res), W p l e (hp_rm 0 0 0) s m ([.ref a0, .int a1, .int a2] : List Value).toArray below meth c Hh16 Lh16 0 0 (MQ below (hp_Qi Γ (fun r β => r = res.1 ∧ mo α β ∧ hm_M β a0 ρ res.2)) ([.ref a0, .int a1, .int a2] : List Value).toArray s 0 0 (hp_A Γ)) (F0 m 69 ls [.int w0_h16]) := by
                intro αh16 Hh16 Lh16 Bh16 σh16 Mh16 v1_h16 v2_h16 v3_h16 v5_h16 v6_h16 w0_h16 ls hl hf
                unfold f_X12_type_J69 at hf
                refine lv_istore (lv' := [(4, .int w0_h16), (0, .ref a0), (1, .int v1_h16), (2, .int v2_h16), (3, .int v3_h16), (5, .int v5_h16), (6, .int v6_h16)]) hx hb dX12_type_69 hl (by decide) rfl (fun ls hl => hp_n (n := 71) rfl ?_)
                refine lv_aload_n hx hb dX12_type_71 rfl (lv_at hl 1 rfl) (hp_n (n := 72) rfl ?_)
                refine m_getr (κ := 46) (k := 13) (pc' := 75) C Bh16 Mh16 fl_X12_28 rfl (by decide) dX12_type_72 rfl ?_
                refine lv_iload hx hb dX12_type_75 (lv_at hl 5 rfl) (hp_n (n := 77) rfl ?_)
                refine lv_iload hx hb dX12_type_77 (lv_at hl 6 rfl) (hp_n (n := 79) rfl ?_)
                obtain ⟨g17, hf⟩ := ms_gE hf
                refine m_ias (κ := 46) (φ := 663) (n := 8) (pc' := 80) C Bh16 Mh16 (by decide) (by decide) rfl g17 dX12_type_79 rfl (fun αh18 Hh18 Lh18 σh18 eh18 Bh18 Mh18 => ?_)
                replace hf := ms_lE eh18 hf
                refine lv_iload_n hx hb dX12_type_80 rfl (lv_at hl 4 rfl) (hp_n (n := 81) rfl ?_)
                refine lv_iload hx hb dX12_type_81 (lv_at hl 0 rfl) (hp_n (n := 83) rfl ?_)
                have J91 : ∀ (αh19 : hp_T) (Hh19 : Heap) (Lh19 : List Loc) (Bh19 : hp_B Γ mo s α αh19 Hh19 Lh19) (σh19 : ms_T) (Mh19 : hm_M αh19 a0 ρ σh19) (v1_h19 : Int32) (v2_h19 : Int32) (v4_h19 : Int32) (v5_h19 : Int32) (w0_h19 : Int32) (w1_h19 : Int32) (ls : Array Slot) (hl : lv_has ls 7 [(0, .ref a0), (1, .int v1_h19), (2, .int v2_h19), (4, .int v4_h19), (5, .int v5_h19)]) (hf : f_X12_type_J91 n (f_X12_type_L13 n k13) σh19 v1_h19 v2_h19 v4_h19 v5_h19 w0_h19 w1_h19 = some res), W p l e (hp_rm 0 0 0) s m ([.ref a0, .int a1, .int a2] : List Value).toArray below meth c Hh19 Lh19 0 0 (MQ below (hp_Qi Γ (fun r β => r = res.1 ∧ mo α β ∧ hm_M β a0 ρ res.2)) ([.ref a0, .int a1, .int a2] : List Value).toArray s 0 0 (hp_A Γ)) (F0 m 91 ls [.int w0_h19, .int w1_h19]) := by
                  intro αh19 Hh19 Lh19 Bh19 σh19 Mh19 v1_h19 v2_h19 v4_h19 v5_h19 w0_h19 w1_h19 ls hl hf
                  unfold f_X12_type_J91 at hf
                  refine lv_iadd hx hb dX12_type_91 (hp_n (n := 92) rfl ?_)
                  refine lv_topi (fun x20 ex20 => ?_)
                  replace hf := ms_lE ex20 hf
                  refine lv_istore_n (lv' := [(3, .int x20), (0, .ref a0), (1, .int v1_h19), (2, .int v2_h19), (4, .int v4_h19), (5, .int v5_h19)]) hx hb dX12_type_92 rfl hl (by decide) rfl (fun ls hl => hp_n (n := 93) rfl ?_)
                  obtain ⟨x21, ex21⟩ : ∃ y : Int32, y = v5_h19 + 1 := ⟨_, rfl⟩
                  replace hf := ms_lE ex21 hf
                  refine lv_iinc (v := x21) (lv' := [(5, .int x21), (3, .int x20), (0, .ref a0), (1, .int v1_h19), (2, .int v2_h19), (4, .int v4_h19)]) hx hb dX12_type_93 hl (k := 5) rfl (by rw [ex21]; rfl) (by decide) rfl (fun ls hl => hp_n (n := 96) rfl ?_)
                  refine lv_goto (tgt := 13) hx hb dX12_type_96 (by decide) ?_
                  exact ih13 αh19 Hh19 Lh19 Bh19 σh19 Mh19 v1_h19 v2_h19 x20 v4_h19 x21 ls (lv_sub hl [2, 3, 4, 1, 5, 0] rfl) hf
                refine lv_if_eq (tgt := 90) hx hb dX12_type_83 (by decide) (fun c22 => ?_) (fun c22 => hp_n (n := 86) rfl ?_)
                ·
                  replace hf := ms_iT c22 hf
                  refine lv_iconst (v := 0) hx hb dX12_type_90 (by decide) (hp_n (n := 91) rfl ?_)
                  exact J91 αh18 Hh18 Lh18 Bh18 σh18 Mh18 v1_h16 v2_h16 w0_h16 v5_h16 (0 : Int32) v3_h16 ls (lv_sub hl [1, 2, 3, 0, 5] rfl) hf
                ·
                  replace hf := ms_iF c22 hf
                  refine lv_iconst (v := 1) hx hb dX12_type_86 (by decide) (hp_n (n := 87) rfl ?_)
                  refine lv_goto (tgt := 91) hx hb dX12_type_87 (by decide) ?_
                  exact J91 αh18 Hh18 Lh18 Bh18 σh18 Mh18 v1_h16 v2_h16 w0_h16 v5_h16 (1 : Int32) v3_h16 ls (lv_sub hl [1, 2, 3, 0, 5] rfl) hf
              refine lv_if_le (tgt := 68) hx hb dX12_type_61 (by decide) (fun c23 => ?_) (fun c23 => hp_n (n := 64) rfl ?_)
              ·
                replace hf := ms_iT c23 hf
                refine lv_iconst (v := 0) hx hb dX12_type_68 (by decide) (hp_n (n := 69) rfl ?_)
                exact J69 αh13 Hh13 Lh13 Bh13 σh13 Mh13 v1_h13 v2_h13 v3_h13 v5_h13 x14 (0 : Int32) ls (lv_sub hl [1, 2, 3, 4, 5, 0] rfl) hf
              ·
                replace hf := ms_iF c23 hf
                refine lv_iconst (v := 1) hx hb dX12_type_64 (by decide) (hp_n (n := 65) rfl ?_)
                refine lv_goto (tgt := 69) hx hb dX12_type_65 (by decide) ?_
                exact J69 αh13 Hh13 Lh13 Bh13 σh13 Mh13 v1_h13 v2_h13 v3_h13 v5_h13 x14 (1 : Int32) ls (lv_sub hl [1, 2, 3, 4, 5, 0] rfl) hf
            ·
              replace hf := ms_iF c15 hf
              refine lv_iconst (v := (-1)) hx hb dX12_type_57 (by decide) (hp_n (n := 58) rfl ?_)
              cases hf
              exact q_iret C Bh13 hr hlk ⟨rfl, Bh13.2.2, Mh13⟩ dX12_type_58
          refine lv_icmp_ge (tgt := 36) hx hb dX12_type_29 (by decide) (fun c24 => ?_) (fun c24 => hp_n (n := 32) rfl ?_)
          ·
            replace hf := ms_iT c24 hf
            refine lv_iload_n hx hb dX12_type_36 rfl (lv_at hl 2 rfl) (hp_n (n := 37) rfl ?_)
            exact J37 αh2 Hh2 Lh2 Bh2 σh2 Mh2 v1_h2 v2_h2 v3_h2 v5_h2 v2_h2 ls (lv_sub hl [0, 1, 2, 3, 5] rfl) hf
          ·
            replace hf := ms_iF c24 hf
            refine lv_iload_n hx hb dX12_type_32 rfl (lv_at hl 1 rfl) (hp_n (n := 33) rfl ?_)
            refine lv_goto (tgt := 37) hx hb dX12_type_33 (by decide) ?_
            exact J37 αh2 Hh2 Lh2 Bh2 σh2 Mh2 v1_h2 v2_h2 v3_h2 v5_h2 v1_h2 ls (lv_sub hl [0, 1, 2, 3, 5] rfl) hf
  refine lv_istore (lv' := [(5, .int (0 : Int32)), (4, .int (1 : Int32)), (3, .int (0 : Int32)), (0, .ref a0), (1, .int a1), (2, .int a2)]) hx hb dX12_type_11 hl (by decide) rfl (fun ls hl => hp_n (n := 13) rfl ?_)
  exact J13 n αh1 Hh1 Lh1 Bh1 σh1 Mh1 a1 a2 (0 : Int32) (1 : Int32) (0 : Int32) ls (lv_sub hl [3, 4, 5, 2, 1, 0] rfl) hf
def f_X12_hand_L2 (n : Nat) : Nat → ms_T → Int32 → Option ms_T
  | 0, _, _ => none
  | k2 + 1, σh1, v1_h1 =>
    if (ms_I σh1 664) ≤ v1_h1 then
      ms_l (ms_sI σh1 665 (ms_I σh1 664)) fun σh3 =>
      some σh3
    else
      ms_g v1_h1 8 <|
      ms_g v1_h1 8 <|
      ms_l (ms_sE σh1 46 (v1_h1).toNatClampNeg (ms_E σh1 45 (v1_h1).toNatClampNeg)) fun σh6 =>
      ms_l (v1_h1 + 1) fun x7 =>
      (f_X12_hand_L2 n k2) σh6 x7
def f_X12_hand (n : Nat) (σ : ms_T) : Option ms_T :=
  f_X12_hand_L2 n n σ (0 : Int32)
set_option maxRecDepth 100000 in
set_option maxHeartbeats 4000000 in
theorem m_X12_hand (n : Nat) (Γ : hp_G) (l : Launch) (α : hp_T) (a0 : Nat) (ρ : Nat → Nat) (σ : ms_T) (hM : hm_M α a0 ρ σ)  (res : ms_T) (hf : f_X12_hand n σ = some res) : Met l yX12_hand (hp_ws yX12_hand cX12_hand 2 none) (hp_rm 0 0 0) (hp_Pc Γ α [.ref a0]) (hp_Qv Γ (fun β => mo α β ∧ hm_M β a0 ρ res)) 0 0 (hp_A Γ) := by
  unfold f_X12_hand at hf
  refine hp_start (by decide) ?_
  intro p e s m below meth c C hr hlk B0 hnm
  have C : hp_C Γ p m c cX12_hand 2 s ([.ref a0] : List Value).toArray RX12 := C
  have hx := C.1.1
  have hb := C.1.2.1
  have hown := C.1.2.2.2.1
  have hts := C.1.2.2.2.2
  have B : hp_B Γ mo s α α s.heap [] := ⟨B0.1, B0.2.1, mo_rf⟩
  have hl := lv_entry ([.ref a0]) (n := 2) (Nat.le_of_ble_eq_true rfl)
  show W p l e (hp_rm 0 0 0) s m ([.ref a0] : List Value).toArray below meth c s.heap [] 0 0 (MQ below (hp_Qv Γ (fun β => mo α β ∧ hm_M β a0 ρ res)) ([.ref a0] : List Value).toArray s 0 0 (hp_A Γ)) (entryFrame m ([.ref a0] : List Value).toArray 2)
  rw [lg_entry_eq]
  generalize (lg_sl ([.ref a0]) ++ List.replicate (2 - (lg_sl ([.ref a0])).length) Slot.unset).toArray = ls at hl ⊢
  have hl : lv_has ls 2 [(0, .ref a0)] := hl
  refine lv_iconst (v := 0) hx hb dX12_hand_0 (by decide) (hp_n (n := 1) rfl ?_)
  have J2 : ∀ (k2 : Nat) (αh1 : hp_T) (Hh1 : Heap) (Lh1 : List Loc) (Bh1 : hp_B Γ mo s α αh1 Hh1 Lh1) (σh1 : ms_T) (Mh1 : hm_M αh1 a0 ρ σh1) (v1_h1 : Int32) (ls : Array Slot) (hl : lv_has ls 2 [(0, .ref a0), (1, .int v1_h1)]) (hf : f_X12_hand_L2 n k2 σh1 v1_h1 = some res), W p l e (hp_rm 0 0 0) s m ([.ref a0] : List Value).toArray below meth c Hh1 Lh1 0 0 (MQ below (hp_Qv Γ (fun β => mo α β ∧ hm_M β a0 ρ res)) ([.ref a0] : List Value).toArray s 0 0 (hp_A Γ)) (F0 m 2 ls []) := by
    intro k2
    induction k2 with
    | zero => intro αh1 Hh1 Lh1 Bh1 σh1 Mh1 v1_h1 ls hl hf; rw [f_X12_hand_L2.eq_1] at hf; cases hf
    | succ k2 ih2 =>
      intro αh1 Hh1 Lh1 Bh1 σh1 Mh1 v1_h1 ls hl hf
      rw [f_X12_hand_L2.eq_2] at hf
      refine lv_iload_n hx hb dX12_hand_2 rfl (lv_at hl 1 rfl) (hp_n (n := 3) rfl ?_)
      refine lv_aload_n hx hb dX12_hand_3 rfl (lv_at hl 0 rfl) (hp_n (n := 4) rfl ?_)
      refine m_geti (k := 14) (φ := 664) (pc' := 7) C Bh1 Mh1 fl_X12_203 rfl rfl dX12_hand_4 rfl ?_
      refine lv_icmp_ge (tgt := 28) hx hb dX12_hand_7 (by decide) (fun c2 => ?_) (fun c2 => hp_n (n := 10) rfl ?_)
      ·
        replace hf := ms_iT c2 hf
        refine lv_aload_n hx hb dX12_hand_28 rfl (lv_at hl 0 rfl) (hp_n (n := 29) rfl ?_)
        refine lv_aload_n hx hb dX12_hand_29 rfl (lv_at hl 0 rfl) (hp_n (n := 30) rfl ?_)
        refine m_geti (k := 14) (φ := 664) (pc' := 33) C Bh1 Mh1 fl_X12_203 rfl rfl dX12_hand_30 rfl ?_
        refine m_puti (k := 15) (φ := 665) (pc' := 36) C Bh1 Mh1 fl_X12_206 rfl rfl rfl rfl rfl dX12_hand_33 rfl (fun αh3 Hh3 Lh3 σh3 eh3 Bh3 Mh3 => ?_)
        replace hf := ms_lE eh3 hf
        cases hf
        exact q_vret C Bh3 hr hlk ⟨Bh3.2.2, Mh3⟩ dX12_hand_36
      ·
        replace hf := ms_iF c2 hf
        refine lv_aload_n hx hb dX12_hand_10 rfl (lv_at hl 0 rfl) (hp_n (n := 11) rfl ?_)
        refine m_getr (κ := 46) (k := 13) (pc' := 14) C Bh1 Mh1 fl_X12_28 rfl (by decide) dX12_hand_11 rfl ?_
        refine lv_iload_n hx hb dX12_hand_14 rfl (lv_at hl 1 rfl) (hp_n (n := 15) rfl ?_)
        refine lv_aload_n hx hb dX12_hand_15 rfl (lv_at hl 0 rfl) (hp_n (n := 16) rfl ?_)
        refine m_getr (κ := 45) (k := 12) (pc' := 19) C Bh1 Mh1 fl_X12_25 rfl (by decide) dX12_hand_16 rfl ?_
        refine lv_iload_n hx hb dX12_hand_19 rfl (lv_at hl 1 rfl) (hp_n (n := 20) rfl ?_)
        obtain ⟨g4, hf⟩ := ms_gE hf
        refine m_ial (κ := 45) (φ := 662) (n := 8) (pc' := 21) C Bh1 Mh1 (by decide) (by decide) rfl g4 dX12_hand_20 rfl ?_
        obtain ⟨g5, hf⟩ := ms_gE hf
        refine m_ias (κ := 46) (φ := 663) (n := 8) (pc' := 22) C Bh1 Mh1 (by decide) (by decide) rfl g5 dX12_hand_21 rfl (fun αh6 Hh6 Lh6 σh6 eh6 Bh6 Mh6 => ?_)
        replace hf := ms_lE eh6 hf
        obtain ⟨x7, ex7⟩ : ∃ y : Int32, y = v1_h1 + 1 := ⟨_, rfl⟩
        replace hf := ms_lE ex7 hf
        refine lv_iinc (v := x7) (lv' := [(1, .int x7), (0, .ref a0)]) hx hb dX12_hand_22 hl (k := 1) rfl (by rw [ex7]; rfl) (by decide) rfl (fun ls hl => hp_n (n := 25) rfl ?_)
        refine lv_goto (tgt := 2) hx hb dX12_hand_25 (by decide) ?_
        exact ih2 αh6 Hh6 Lh6 Bh6 σh6 Mh6 x7 ls (lv_sub hl [1, 0] rfl) hf
  refine lv_istore_n (lv' := [(1, .int (0 : Int32)), (0, .ref a0)]) hx hb dX12_hand_1 rfl hl (by decide) rfl (fun ls hl => hp_n (n := 2) rfl ?_)
  exact J2 n α s.heap [] B σ hM (0 : Int32) ls (lv_sub hl [1, 0] rfl) hf
def f_X12_adds_L43 (n : Nat) : Nat → ms_T → Int32 → Int32 → Int32 → Option (Int32 × ms_T)
  | 0, _, _, _, _ => none
  | k43 + 1, σh7, v1_h7, v2_h7, v3_h7 =>
    if (ms_I σh7 665) ≤ v3_h7 then
      ms_l (((72 : Int32) + v1_h7)) fun x9 =>
      ms_g x9 1980 <|
      ms_g x9 1980 <|
      ms_l (ms_sE σh7 40 (x9).toNatClampNeg ((ms_E σh7 40 (x9).toNatClampNeg) + (1 : Int32))) fun σh12 =>
      ms_g (4 : Int32) 1980 <|
      ms_g (4 : Int32) 1980 <|
      ms_l (ms_sE σh12 40 ((4 : Int32)).toNatClampNeg ((ms_E σh12 40 ((4 : Int32)).toNatClampNeg) + (1 : Int32))) fun σh15 =>
      ms_b (f_X12_sizeOf n σh15 v1_h7) fun rh16 =>
      some ((rh16 - (1 : Int32)), σh15)
    else
      ms_g v3_h7 8 <|
      ms_g (((444 : Int32) + ((8 : Int32) * v2_h7)) + v3_h7) 1980 <|
      ms_l (ms_sE σh7 40 ((((444 : Int32) + ((8 : Int32) * v2_h7)) + v3_h7)).toNatClampNeg (ms_E σh7 46 (v3_h7).toNatClampNeg)) fun σh19 =>
      ms_l (v3_h7 + 1) fun x20 =>
      (f_X12_adds_L43 n k43) σh19 v1_h7 v2_h7 x20
def f_X12_adds (n : Nat) (σ : ms_T) (a1 : Int32) : Option (Int32 × ms_T) :=
  ms_b (f_X12_sizeOf n σ a1) fun rh1 =>
  if rh1 = (48 : Int32) then
    ms_c (f_X12_refuse n σ (3 : Int32)) fun rh21 σh21 =>
    some (rh21, σh21)
  else
    ms_b (f_X12_sizeOf n σ a1) fun rh3 =>
    ms_l ((((48 : Int32) * a1) + rh3)) fun x4 =>
    ms_g ((252 : Int32) + x4) 1980 <|
    ms_l (ms_sE σ 40 (((252 : Int32) + x4)).toNatClampNeg (ms_I σ 665)) fun σh6 =>
    f_X12_adds_L43 n n σh6 a1 x4 (0 : Int32)
set_option maxRecDepth 100000 in
set_option maxHeartbeats 4000000 in
theorem m_X12_adds (n : Nat) (Γ : hp_G) (l : Launch) (α : hp_T) (a0 : Nat) (ρ : Nat → Nat) (σ : ms_T) (hM : hm_M α a0 ρ σ) (a1 : Int32) (res : (Int32 × ms_T)) (hf : f_X12_adds n σ a1 = some res) : Met l yX12_adds (hp_ws yX12_adds cX12_adds 4 (some .int)) (hp_rm 1 0 0) (hp_Pc Γ α [.ref a0, .int a1]) (hp_Qi Γ (fun r β => r = res.1 ∧ mo α β ∧ hm_M β a0 ρ res.2)) 0 0 (hp_A Γ) := by
  unfold f_X12_adds at hf
  refine hp_start (by decide) ?_
  intro p e s m below meth c C hr hlk B0 hnm
  have C : hp_C Γ p m c cX12_adds 4 s ([.ref a0, .int a1] : List Value).toArray RX12 := C
  have hx := C.1.1
  have hb := C.1.2.1
  have hown := C.1.2.2.2.1
  have hts := C.1.2.2.2.2
  have B : hp_B Γ mo s α α s.heap [] := ⟨B0.1, B0.2.1, mo_rf⟩
  have hl := lv_entry ([.ref a0, .int a1]) (n := 4) (Nat.le_of_ble_eq_true rfl)
  show W p l e (hp_rm 1 0 0) s m ([.ref a0, .int a1] : List Value).toArray below meth c s.heap [] 0 0 (MQ below (hp_Qi Γ (fun r β => r = res.1 ∧ mo α β ∧ hm_M β a0 ρ res.2)) ([.ref a0, .int a1] : List Value).toArray s 0 0 (hp_A Γ)) (entryFrame m ([.ref a0, .int a1] : List Value).toArray 4)
  rw [lg_entry_eq]
  generalize (lg_sl ([.ref a0, .int a1]) ++ List.replicate (4 - (lg_sl ([.ref a0, .int a1])).length) Slot.unset).toArray = ls at hl ⊢
  have hl : lv_has ls 4 [(0, .ref a0), (1, .int a1)] := hl
  refine lv_aload_n hx hb dX12_adds_0 rfl (lv_at hl 0 rfl) (hp_n (n := 1) rfl ?_)
  refine lv_iload_n hx hb dX12_adds_1 rfl (lv_at hl 1 rfl) (hp_n (n := 2) rfl ?_)
  obtain ⟨rh1, qh1, hf⟩ := ms_bE hf
  refine m_cp (pc' := 5) B (hp_runV (As := [.int a1]) (rest := []) C B (m_X12_sizeOf n Γ l α a0 ρ σ hM a1 rh1 qh1) lb_X12_sizeOf lv_X12_sizeOf lk_X12_209 hM.1 rfl (by decide) rfl hl.1 rfl (Nat.le_of_ble_eq_true rfl) dX12_adds_2 ⟨Nat.le_refl _, Nat.le_refl _⟩) rfl (fun Hh1 Lh1 Bh1 => ?_)
  refine lv_bipush (v := 48) hx hb dX12_adds_5 (by decide) (hp_n (n := 7) rfl ?_)
  refine lv_icmp_ne (tgt := 16) hx hb dX12_adds_7 (by decide) (fun c2 => ?_) (fun c2 => hp_n (n := 10) rfl ?_)
  ·
    replace hf := ms_iF c2 hf
    refine lv_bipush (v := 48) hx hb dX12_adds_16 (by decide) (hp_n (n := 18) rfl ?_)
    refine lv_iload_n hx hb dX12_adds_18 rfl (lv_at hl 1 rfl) (hp_n (n := 19) rfl ?_)
    refine lv_imul hx hb dX12_adds_19 (hp_n (n := 20) rfl ?_)
    refine lv_aload_n hx hb dX12_adds_20 rfl (lv_at hl 0 rfl) (hp_n (n := 21) rfl ?_)
    refine lv_iload_n hx hb dX12_adds_21 rfl (lv_at hl 1 rfl) (hp_n (n := 22) rfl ?_)
    obtain ⟨rh3, qh3, hf⟩ := ms_bE hf
    refine m_cp (pc' := 25) Bh1 (hp_runV (As := [.int a1]) (rest := [.int ((48 : Int32) * a1)]) C Bh1 (m_X12_sizeOf n Γ l α a0 ρ σ hM a1 rh3 qh3) lb_X12_sizeOf lv_X12_sizeOf lk_X12_209 hM.1 rfl (by decide) rfl hl.1 rfl (Nat.le_of_ble_eq_true rfl) dX12_adds_22 ⟨Nat.le_refl _, Nat.le_refl _⟩) rfl (fun Hh3 Lh3 Bh3 => ?_)
    refine lv_iadd hx hb dX12_adds_25 (hp_n (n := 26) rfl ?_)
    refine lv_topi (fun x4 ex4 => ?_)
    replace hf := ms_lE ex4 hf
    refine lv_istore_n (lv' := [(2, .int x4), (0, .ref a0), (1, .int a1)]) hx hb dX12_adds_26 rfl hl (by decide) rfl (fun ls hl => hp_n (n := 27) rfl ?_)
    refine lv_aload_n hx hb dX12_adds_27 rfl (lv_at hl 1 rfl) (hp_n (n := 28) rfl ?_)
    refine m_getr (κ := 40) (k := 0) (pc' := 31) C Bh3 hM fl_X12_7 rfl (by decide) dX12_adds_28 rfl ?_
    refine lv_sipush (v := 252) hx hb dX12_adds_31 (by decide) (hp_n (n := 34) rfl ?_)
    refine lv_iload_n hx hb dX12_adds_34 rfl (lv_at hl 0 rfl) (hp_n (n := 35) rfl ?_)
    refine lv_iadd hx hb dX12_adds_35 (hp_n (n := 36) rfl ?_)
    refine lv_aload_n hx hb dX12_adds_36 rfl (lv_at hl 1 rfl) (hp_n (n := 37) rfl ?_)
    refine m_geti (k := 15) (φ := 665) (pc' := 40) C Bh3 hM fl_X12_206 rfl rfl dX12_adds_37 rfl ?_
    obtain ⟨g5, hf⟩ := ms_gE hf
    refine m_ias (κ := 40) (φ := 650) (n := 1980) (pc' := 41) C Bh3 hM (by decide) (by decide) rfl g5 dX12_adds_40 rfl (fun αh6 Hh6 Lh6 σh6 eh6 Bh6 Mh6 => ?_)
    replace hf := ms_lE eh6 hf
    refine lv_iconst (v := 0) hx hb dX12_adds_41 (by decide) (hp_n (n := 42) rfl ?_)
    have J43 : ∀ (k43 : Nat) (αh7 : hp_T) (Hh7 : Heap) (Lh7 : List Loc) (Bh7 : hp_B Γ mo s α αh7 Hh7 Lh7) (σh7 : ms_T) (Mh7 : hm_M αh7 a0 ρ σh7) (v1_h7 : Int32) (v2_h7 : Int32) (v3_h7 : Int32) (ls : Array Slot) (hl : lv_has ls 4 [(0, .ref a0), (1, .int v1_h7), (2, .int v2_h7), (3, .int v3_h7)]) (hf : f_X12_adds_L43 n k43 σh7 v1_h7 v2_h7 v3_h7 = some res), W p l e (hp_rm 1 0 0) s m ([.ref a0, .int a1] : List Value).toArray below meth c Hh7 Lh7 0 0 (MQ below (hp_Qi Γ (fun r β => r = res.1 ∧ mo α β ∧ hm_M β a0 ρ res.2)) ([.ref a0, .int a1] : List Value).toArray s 0 0 (hp_A Γ)) (F0 m 43 ls []) := by
      intro k43
      induction k43 with
      | zero => intro αh7 Hh7 Lh7 Bh7 σh7 Mh7 v1_h7 v2_h7 v3_h7 ls hl hf; rw [f_X12_adds_L43.eq_1] at hf; cases hf
      | succ k43 ih43 =>
        intro αh7 Hh7 Lh7 Bh7 σh7 Mh7 v1_h7 v2_h7 v3_h7 ls hl hf
        rw [f_X12_adds_L43.eq_2] at hf
        refine lv_iload_n hx hb dX12_adds_43 rfl (lv_at hl 3 rfl) (hp_n (n := 44) rfl ?_)
        refine lv_aload_n hx hb dX12_adds_44 rfl (lv_at hl 0 rfl) (hp_n (n := 45) rfl ?_)
        refine m_geti (k := 15) (φ := 665) (pc' := 48) C Bh7 Mh7 fl_X12_206 rfl rfl dX12_adds_45 rfl ?_
        refine lv_icmp_ge (tgt := 78) hx hb dX12_adds_48 (by decide) (fun c8 => ?_) (fun c8 => hp_n (n := 51) rfl ?_)
        ·
          replace hf := ms_iT c8 hf
          refine lv_aload_n hx hb dX12_adds_78 rfl (lv_at hl 0 rfl) (hp_n (n := 79) rfl ?_)
          refine m_getr (κ := 40) (k := 0) (pc' := 82) C Bh7 Mh7 fl_X12_7 rfl (by decide) dX12_adds_79 rfl ?_
          refine lv_bipush (v := 72) hx hb dX12_adds_82 (by decide) (hp_n (n := 84) rfl ?_)
          refine lv_iload_n hx hb dX12_adds_84 rfl (lv_at hl 1 rfl) (hp_n (n := 85) rfl ?_)
          refine lv_iadd hx hb dX12_adds_85 (hp_n (n := 86) rfl ?_)
          refine lv_topi (fun x9 ex9 => ?_)
          replace hf := ms_lE ex9 hf
          refine lv_dup2_11 hx hb dX12_adds_86 rfl rfl (hp_n (n := 87) rfl ?_)
          obtain ⟨g10, hf⟩ := ms_gE hf
          refine m_ial (κ := 40) (φ := 650) (n := 1980) (pc' := 88) C Bh7 Mh7 (by decide) (by decide) rfl g10 dX12_adds_87 rfl ?_
          refine lv_iconst (v := 1) hx hb dX12_adds_88 (by decide) (hp_n (n := 89) rfl ?_)
          refine lv_iadd hx hb dX12_adds_89 (hp_n (n := 90) rfl ?_)
          obtain ⟨g11, hf⟩ := ms_gE hf
          refine m_ias (κ := 40) (φ := 650) (n := 1980) (pc' := 91) C Bh7 Mh7 (by decide) (by decide) rfl g11 dX12_adds_90 rfl (fun αh12 Hh12 Lh12 σh12 eh12 Bh12 Mh12 => ?_)
          replace hf := ms_lE eh12 hf
          refine lv_aload_n hx hb dX12_adds_91 rfl (lv_at hl 0 rfl) (hp_n (n := 92) rfl ?_)
          refine m_getr (κ := 40) (k := 0) (pc' := 95) C Bh12 Mh12 fl_X12_7 rfl (by decide) dX12_adds_92 rfl ?_
          refine lv_iconst (v := 4) hx hb dX12_adds_95 (by decide) (hp_n (n := 96) rfl ?_)
          refine lv_dup2_11 hx hb dX12_adds_96 rfl rfl (hp_n (n := 97) rfl ?_)
          obtain ⟨g13, hf⟩ := ms_gE hf
          refine m_ial (κ := 40) (φ := 650) (n := 1980) (pc' := 98) C Bh12 Mh12 (by decide) (by decide) rfl g13 dX12_adds_97 rfl ?_
          refine lv_iconst (v := 1) hx hb dX12_adds_98 (by decide) (hp_n (n := 99) rfl ?_)
          refine lv_iadd hx hb dX12_adds_99 (hp_n (n := 100) rfl ?_)
          obtain ⟨g14, hf⟩ := ms_gE hf
          refine m_ias (κ := 40) (φ := 650) (n := 1980) (pc' := 101) C Bh12 Mh12 (by decide) (by decide) rfl g14 dX12_adds_100 rfl (fun αh15 Hh15 Lh15 σh15 eh15 Bh15 Mh15 => ?_)
          replace hf := ms_lE eh15 hf
          refine lv_aload_n hx hb dX12_adds_101 rfl (lv_at hl 0 rfl) (hp_n (n := 102) rfl ?_)
          refine lv_iload_n hx hb dX12_adds_102 rfl (lv_at hl 1 rfl) (hp_n (n := 103) rfl ?_)
          obtain ⟨rh16, qh16, hf⟩ := ms_bE hf
          refine m_cp (pc' := 106) Bh15 (hp_runV (As := [.int v1_h7]) (rest := []) C Bh15 (m_X12_sizeOf n Γ l αh15 a0 ρ σh15 Mh15 v1_h7 rh16 qh16) lb_X12_sizeOf lv_X12_sizeOf lk_X12_209 Mh15.1 rfl (by decide) rfl hl.1 rfl (Nat.le_of_ble_eq_true rfl) dX12_adds_103 ⟨Nat.le_refl _, Nat.le_refl _⟩) rfl (fun Hh16 Lh16 Bh16 => ?_)
          refine lv_iconst (v := 1) hx hb dX12_adds_106 (by decide) (hp_n (n := 107) rfl ?_)
          refine lv_isub hx hb dX12_adds_107 (hp_n (n := 108) rfl ?_)
          cases hf
          exact q_iret C Bh16 hr hlk ⟨rfl, Bh16.2.2, Mh15⟩ dX12_adds_108
        ·
          replace hf := ms_iF c8 hf
          refine lv_aload_n hx hb dX12_adds_51 rfl (lv_at hl 0 rfl) (hp_n (n := 52) rfl ?_)
          refine m_getr (κ := 40) (k := 0) (pc' := 55) C Bh7 Mh7 fl_X12_7 rfl (by decide) dX12_adds_52 rfl ?_
          refine lv_sipush (v := 444) hx hb dX12_adds_55 (by decide) (hp_n (n := 58) rfl ?_)
          refine lv_bipush (v := 8) hx hb dX12_adds_58 (by decide) (hp_n (n := 60) rfl ?_)
          refine lv_iload_n hx hb dX12_adds_60 rfl (lv_at hl 2 rfl) (hp_n (n := 61) rfl ?_)
          refine lv_imul hx hb dX12_adds_61 (hp_n (n := 62) rfl ?_)
          refine lv_iadd hx hb dX12_adds_62 (hp_n (n := 63) rfl ?_)
          refine lv_iload_n hx hb dX12_adds_63 rfl (lv_at hl 3 rfl) (hp_n (n := 64) rfl ?_)
          refine lv_iadd hx hb dX12_adds_64 (hp_n (n := 65) rfl ?_)
          refine lv_aload_n hx hb dX12_adds_65 rfl (lv_at hl 0 rfl) (hp_n (n := 66) rfl ?_)
          refine m_getr (κ := 46) (k := 13) (pc' := 69) C Bh7 Mh7 fl_X12_28 rfl (by decide) dX12_adds_66 rfl ?_
          refine lv_iload_n hx hb dX12_adds_69 rfl (lv_at hl 3 rfl) (hp_n (n := 70) rfl ?_)
          obtain ⟨g17, hf⟩ := ms_gE hf
          refine m_ial (κ := 46) (φ := 663) (n := 8) (pc' := 71) C Bh7 Mh7 (by decide) (by decide) rfl g17 dX12_adds_70 rfl ?_
          obtain ⟨g18, hf⟩ := ms_gE hf
          refine m_ias (κ := 40) (φ := 650) (n := 1980) (pc' := 72) C Bh7 Mh7 (by decide) (by decide) rfl g18 dX12_adds_71 rfl (fun αh19 Hh19 Lh19 σh19 eh19 Bh19 Mh19 => ?_)
          replace hf := ms_lE eh19 hf
          obtain ⟨x20, ex20⟩ : ∃ y : Int32, y = v3_h7 + 1 := ⟨_, rfl⟩
          replace hf := ms_lE ex20 hf
          refine lv_iinc (v := x20) (lv' := [(3, .int x20), (0, .ref a0), (1, .int v1_h7), (2, .int v2_h7)]) hx hb dX12_adds_72 hl (k := 3) rfl (by rw [ex20]; rfl) (by decide) rfl (fun ls hl => hp_n (n := 75) rfl ?_)
          refine lv_goto (tgt := 43) hx hb dX12_adds_75 (by decide) ?_
          exact ih43 αh19 Hh19 Lh19 Bh19 σh19 Mh19 v1_h7 v2_h7 x20 ls (lv_sub hl [1, 2, 3, 0] rfl) hf
    refine lv_istore_n (lv' := [(3, .int (0 : Int32)), (2, .int x4), (0, .ref a0), (1, .int a1)]) hx hb dX12_adds_42 rfl hl (by decide) rfl (fun ls hl => hp_n (n := 43) rfl ?_)
    exact J43 n αh6 Hh6 Lh6 Bh6 σh6 Mh6 a1 x4 (0 : Int32) ls (lv_sub hl [2, 3, 1, 0] rfl) hf
  ·
    replace hf := ms_iT c2 hf
    refine lv_aload_n hx hb dX12_adds_10 rfl (lv_at hl 0 rfl) (hp_n (n := 11) rfl ?_)
    refine lv_iconst (v := 3) hx hb dX12_adds_11 (by decide) (hp_n (n := 12) rfl ?_)
    obtain ⟨rh21, σh21, qh21, hf⟩ := ms_cE hf
    refine m_ci (pc' := 15) (a := a0) (ρ := ρ) Bh1 (hp_runV (As := [.int (3 : Int32)]) (rest := []) C Bh1 (m_X12_refuse n Γ l α a0 ρ σ hM (3 : Int32) (rh21, σh21) qh21) lb_X12_refuse lv_X12_refuse lk_X12_212 hM.1 rfl (by decide) rfl hl.1 rfl (Nat.le_of_ble_eq_true rfl) dX12_adds_12 ⟨Nat.le_refl _, Nat.le_refl _⟩) rfl (fun αh21 Hh21 Lh21 Bh21 Mh21 => ?_)
    cases hf
    exact q_iret C Bh21 hr hlk ⟨rfl, Bh21.2.2, Mh21⟩ dX12_adds_15
def f_X12_forks_L82 (n : Nat) (rec41 : ms_T → Int32 → Int32 → Int32 → Int32 → Option (Int32 × ms_T)) : Nat → ms_T → Int32 → Int32 → Int32 → Int32 → Int32 → Option (Int32 × ms_T)
  | 0, _, _, _, _, _, _ => none
  | k82 + 1, σh20, v1_h20, v2_h20, v3_h20, v4_h20, v5_h20 =>
    if (8 : Int32) ≤ v5_h20 then
      ms_l (v4_h20 + 1) fun x22 =>
      rec41 σh20 v1_h20 v2_h20 v3_h20 x22
    else
      ms_g (((444 : Int32) + ((8 : Int32) * (((48 : Int32) * v1_h20) + v4_h20))) + v5_h20) 1980 <|
      ms_g (((444 : Int32) + ((8 : Int32) * (((48 : Int32) * v3_h20) + v4_h20))) + v5_h20) 1980 <|
      ms_l (ms_sE σh20 40 ((((444 : Int32) + ((8 : Int32) * (((48 : Int32) * v3_h20) + v4_h20))) + v5_h20)).toNatClampNeg (ms_E σh20 40 ((((444 : Int32) + ((8 : Int32) * (((48 : Int32) * v1_h20) + v4_h20))) + v5_h20)).toNatClampNeg)) fun σh25 =>
      ms_l (v5_h20 + 1) fun x26 =>
      (f_X12_forks_L82 n rec41 k82) σh25 v1_h20 v2_h20 v3_h20 v4_h20 x26
def f_X12_forks_L41 (n : Nat) : Nat → ms_T → Int32 → Int32 → Int32 → Int32 → Option (Int32 × ms_T)
  | 0, _, _, _, _, _ => none
  | k41 + 1, σh7, v1_h7, v2_h7, v3_h7, v4_h7 =>
    if v2_h7 ≤ v4_h7 then
      ms_g ((72 : Int32) + v3_h7) 1980 <|
      ms_l (ms_sE σh7 40 (((72 : Int32) + v3_h7)).toNatClampNeg v2_h7) fun σh10 =>
      ms_g (0 : Int32) 1980 <|
      ms_g (0 : Int32) 1980 <|
      ms_l (ms_sE σh10 40 ((0 : Int32)).toNatClampNeg ((ms_E σh10 40 ((0 : Int32)).toNatClampNeg) + (1 : Int32))) fun σh13 =>
      ms_g (4 : Int32) 1980 <|
      ms_g (4 : Int32) 1980 <|
      ms_l (ms_sE σh13 40 ((4 : Int32)).toNatClampNeg ((ms_E σh13 40 ((4 : Int32)).toNatClampNeg) + (1 : Int32))) fun σh16 =>
      some (v3_h7, σh16)
    else
      ms_g (((252 : Int32) + ((48 : Int32) * v1_h7)) + v4_h7) 1980 <|
      ms_g (((252 : Int32) + ((48 : Int32) * v3_h7)) + v4_h7) 1980 <|
      ms_l (ms_sE σh7 40 ((((252 : Int32) + ((48 : Int32) * v3_h7)) + v4_h7)).toNatClampNeg (ms_E σh7 40 ((((252 : Int32) + ((48 : Int32) * v1_h7)) + v4_h7)).toNatClampNeg)) fun σh19 =>
      f_X12_forks_L82 n (f_X12_forks_L41 n k41) n σh19 v1_h7 v2_h7 v3_h7 v4_h7 (0 : Int32)
def f_X12_forks (n : Nat) (σ : ms_T) (a1 : Int32) (a2 : Int32) : Option (Int32 × ms_T) :=
  ms_b (f_X12_sizeOf n σ a1) fun rh1 =>
  if a2 ≤ rh1 then
    ms_g (0 : Int32) 1980 <|
    if (ms_E σ 40 ((0 : Int32)).toNatClampNeg) = (4 : Int32) then
      ms_c (f_X12_refuse n σ (3 : Int32)) fun rh27 σh27 =>
      some (rh27, σh27)
    else
      ms_g (0 : Int32) 1980 <|
      ms_l ((ms_E σ 40 ((0 : Int32)).toNatClampNeg)) fun x6 =>
      f_X12_forks_L41 n n σ a1 a2 x6 (0 : Int32)
  else
    ms_c (f_X12_refuse n σ (5 : Int32)) fun rh28 σh28 =>
    some (rh28, σh28)
set_option maxRecDepth 100000 in
set_option maxHeartbeats 4000000 in
theorem m_X12_forks (n : Nat) (Γ : hp_G) (l : Launch) (α : hp_T) (a0 : Nat) (ρ : Nat → Nat) (σ : ms_T) (hM : hm_M α a0 ρ σ) (a1 : Int32) (a2 : Int32) (res : (Int32 × ms_T)) (hf : f_X12_forks n σ a1 a2 = some res) : Met l yX12_forks (hp_ws yX12_forks cX12_forks 6 (some .int)) (hp_rm 1 0 0) (hp_Pc Γ α [.ref a0, .int a1, .int a2]) (hp_Qi Γ (fun r β => r = res.1 ∧ mo α β ∧ hm_M β a0 ρ res.2)) 0 0 (hp_A Γ) := by
  unfold f_X12_forks at hf
  refine hp_start (by decide) ?_
  intro p e s m below meth c C hr hlk B0 hnm
  have C : hp_C Γ p m c cX12_forks 6 s ([.ref a0, .int a1, .int a2] : List Value).toArray RX12 := C
  have hx := C.1.1
  have hb := C.1.2.1
  have hown := C.1.2.2.2.1
  have hts := C.1.2.2.2.2
  have B : hp_B Γ mo s α α s.heap [] := ⟨B0.1, B0.2.1, mo_rf⟩
  have hl := lv_entry ([.ref a0, .int a1, .int a2]) (n := 6) (Nat.le_of_ble_eq_true rfl)
  show W p l e (hp_rm 1 0 0) s m ([.ref a0, .int a1, .int a2] : List Value).toArray below meth c s.heap [] 0 0 (MQ below (hp_Qi Γ (fun r β => r = res.1 ∧ mo α β ∧ hm_M β a0 ρ res.2)) ([.ref a0, .int a1, .int a2] : List Value).toArray s 0 0 (hp_A Γ)) (entryFrame m ([.ref a0, .int a1, .int a2] : List Value).toArray 6)
  rw [lg_entry_eq]
  generalize (lg_sl ([.ref a0, .int a1, .int a2]) ++ List.replicate (6 - (lg_sl ([.ref a0, .int a1, .int a2])).length) Slot.unset).toArray = ls at hl ⊢
  have hl : lv_has ls 6 [(0, .ref a0), (1, .int a1), (2, .int a2)] := hl
  refine lv_iload_n hx hb dX12_forks_0 rfl (lv_at hl 2 rfl) (hp_n (n := 1) rfl ?_)
  refine lv_aload_n hx hb dX12_forks_1 rfl (lv_at hl 0 rfl) (hp_n (n := 2) rfl ?_)
  refine lv_iload_n hx hb dX12_forks_2 rfl (lv_at hl 1 rfl) (hp_n (n := 3) rfl ?_)
  obtain ⟨rh1, qh1, hf⟩ := ms_bE hf
  refine m_cp (pc' := 6) B (hp_runV (As := [.int a1]) (rest := [.int a2]) C B (m_X12_sizeOf n Γ l α a0 ρ σ hM a1 rh1 qh1) lb_X12_sizeOf lv_X12_sizeOf lk_X12_209 hM.1 rfl (by decide) rfl hl.1 rfl (Nat.le_of_ble_eq_true rfl) dX12_forks_3 ⟨Nat.le_refl _, Nat.le_refl _⟩) rfl (fun Hh1 Lh1 Bh1 => ?_)
  refine lv_icmp_le (tgt := 15) hx hb dX12_forks_6 (by decide) (fun c2 => ?_) (fun c2 => hp_n (n := 9) rfl ?_)
  ·
    replace hf := ms_iT c2 hf
    refine lv_aload_n hx hb dX12_forks_15 rfl (lv_at hl 0 rfl) (hp_n (n := 16) rfl ?_)
    refine m_getr (κ := 40) (k := 0) (pc' := 19) C Bh1 hM fl_X12_7 rfl (by decide) dX12_forks_16 rfl ?_
    refine lv_iconst (v := 0) hx hb dX12_forks_19 (by decide) (hp_n (n := 20) rfl ?_)
    obtain ⟨g3, hf⟩ := ms_gE hf
    refine m_ial (κ := 40) (φ := 650) (n := 1980) (pc' := 21) C Bh1 hM (by decide) (by decide) rfl g3 dX12_forks_20 rfl ?_
    refine lv_iconst (v := 4) hx hb dX12_forks_21 (by decide) (hp_n (n := 22) rfl ?_)
    refine lv_icmp_ne (tgt := 31) hx hb dX12_forks_22 (by decide) (fun c4 => ?_) (fun c4 => hp_n (n := 25) rfl ?_)
    ·
      replace hf := ms_iF c4 hf
      refine lv_aload_n hx hb dX12_forks_31 rfl (lv_at hl 0 rfl) (hp_n (n := 32) rfl ?_)
      refine m_getr (κ := 40) (k := 0) (pc' := 35) C Bh1 hM fl_X12_7 rfl (by decide) dX12_forks_32 rfl ?_
      refine lv_iconst (v := 0) hx hb dX12_forks_35 (by decide) (hp_n (n := 36) rfl ?_)
      obtain ⟨g5, hf⟩ := ms_gE hf
      refine m_ial (κ := 40) (φ := 650) (n := 1980) (pc' := 37) C Bh1 hM (by decide) (by decide) rfl g5 dX12_forks_36 rfl ?_
      refine lv_topi (fun x6 ex6 => ?_)
      replace hf := ms_lE ex6 hf
      refine lv_istore_n (lv' := [(3, .int x6), (0, .ref a0), (1, .int a1), (2, .int a2)]) hx hb dX12_forks_37 rfl hl (by decide) rfl (fun ls hl => hp_n (n := 38) rfl ?_)
      refine lv_iconst (v := 0) hx hb dX12_forks_38 (by decide) (hp_n (n := 39) rfl ?_)
      have J41 : ∀ (k41 : Nat) (αh7 : hp_T) (Hh7 : Heap) (Lh7 : List Loc) (Bh7 : hp_B Γ mo s α αh7 Hh7 Lh7) (σh7 : ms_T) (Mh7 : hm_M αh7 a0 ρ σh7) (v1_h7 : Int32) (v2_h7 : Int32) (v3_h7 : Int32) (v4_h7 : Int32) (ls : Array Slot) (hl : lv_has ls 6 [(0, .ref a0), (1, .int v1_h7), (2, .int v2_h7), (3, .int v3_h7), (4, .int v4_h7)]) (hf : f_X12_forks_L41 n k41 σh7 v1_h7 v2_h7 v3_h7 v4_h7 = some res), W p l e (hp_rm 1 0 0) s m ([.ref a0, .int a1, .int a2] : List Value).toArray below meth c Hh7 Lh7 0 0 (MQ below (hp_Qi Γ (fun r β => r = res.1 ∧ mo α β ∧ hm_M β a0 ρ res.2)) ([.ref a0, .int a1, .int a2] : List Value).toArray s 0 0 (hp_A Γ)) (F0 m 41 ls []) := by
        intro k41
        induction k41 with
        | zero => intro αh7 Hh7 Lh7 Bh7 σh7 Mh7 v1_h7 v2_h7 v3_h7 v4_h7 ls hl hf; rw [f_X12_forks_L41.eq_1] at hf; cases hf
        | succ k41 ih41 =>
          intro αh7 Hh7 Lh7 Bh7 σh7 Mh7 v1_h7 v2_h7 v3_h7 v4_h7 ls hl hf
          rw [f_X12_forks_L41.eq_2] at hf
          refine lv_iload hx hb dX12_forks_41 (lv_at hl 4 rfl) (hp_n (n := 43) rfl ?_)
          refine lv_iload_n hx hb dX12_forks_43 rfl (lv_at hl 2 rfl) (hp_n (n := 44) rfl ?_)
          refine lv_icmp_ge (tgt := 145) hx hb dX12_forks_44 (by decide) (fun c8 => ?_) (fun c8 => hp_n (n := 47) rfl ?_)
          ·
            replace hf := ms_iT c8 hf
            refine lv_aload_n hx hb dX12_forks_145 rfl (lv_at hl 0 rfl) (hp_n (n := 146) rfl ?_)
            refine m_getr (κ := 40) (k := 0) (pc' := 149) C Bh7 Mh7 fl_X12_7 rfl (by decide) dX12_forks_146 rfl ?_
            refine lv_bipush (v := 72) hx hb dX12_forks_149 (by decide) (hp_n (n := 151) rfl ?_)
            refine lv_iload_n hx hb dX12_forks_151 rfl (lv_at hl 3 rfl) (hp_n (n := 152) rfl ?_)
            refine lv_iadd hx hb dX12_forks_152 (hp_n (n := 153) rfl ?_)
            refine lv_iload_n hx hb dX12_forks_153 rfl (lv_at hl 2 rfl) (hp_n (n := 154) rfl ?_)
            obtain ⟨g9, hf⟩ := ms_gE hf
            refine m_ias (κ := 40) (φ := 650) (n := 1980) (pc' := 155) C Bh7 Mh7 (by decide) (by decide) rfl g9 dX12_forks_154 rfl (fun αh10 Hh10 Lh10 σh10 eh10 Bh10 Mh10 => ?_)
            replace hf := ms_lE eh10 hf
            refine lv_aload_n hx hb dX12_forks_155 rfl (lv_at hl 0 rfl) (hp_n (n := 156) rfl ?_)
            refine m_getr (κ := 40) (k := 0) (pc' := 159) C Bh10 Mh10 fl_X12_7 rfl (by decide) dX12_forks_156 rfl ?_
            refine lv_iconst (v := 0) hx hb dX12_forks_159 (by decide) (hp_n (n := 160) rfl ?_)
            refine lv_dup2_11 hx hb dX12_forks_160 rfl rfl (hp_n (n := 161) rfl ?_)
            obtain ⟨g11, hf⟩ := ms_gE hf
            refine m_ial (κ := 40) (φ := 650) (n := 1980) (pc' := 162) C Bh10 Mh10 (by decide) (by decide) rfl g11 dX12_forks_161 rfl ?_
            refine lv_iconst (v := 1) hx hb dX12_forks_162 (by decide) (hp_n (n := 163) rfl ?_)
            refine lv_iadd hx hb dX12_forks_163 (hp_n (n := 164) rfl ?_)
            obtain ⟨g12, hf⟩ := ms_gE hf
            refine m_ias (κ := 40) (φ := 650) (n := 1980) (pc' := 165) C Bh10 Mh10 (by decide) (by decide) rfl g12 dX12_forks_164 rfl (fun αh13 Hh13 Lh13 σh13 eh13 Bh13 Mh13 => ?_)
            replace hf := ms_lE eh13 hf
            refine lv_aload_n hx hb dX12_forks_165 rfl (lv_at hl 0 rfl) (hp_n (n := 166) rfl ?_)
            refine m_getr (κ := 40) (k := 0) (pc' := 169) C Bh13 Mh13 fl_X12_7 rfl (by decide) dX12_forks_166 rfl ?_
            refine lv_iconst (v := 4) hx hb dX12_forks_169 (by decide) (hp_n (n := 170) rfl ?_)
            refine lv_dup2_11 hx hb dX12_forks_170 rfl rfl (hp_n (n := 171) rfl ?_)
            obtain ⟨g14, hf⟩ := ms_gE hf
            refine m_ial (κ := 40) (φ := 650) (n := 1980) (pc' := 172) C Bh13 Mh13 (by decide) (by decide) rfl g14 dX12_forks_171 rfl ?_
            refine lv_iconst (v := 1) hx hb dX12_forks_172 (by decide) (hp_n (n := 173) rfl ?_)
            refine lv_iadd hx hb dX12_forks_173 (hp_n (n := 174) rfl ?_)
            obtain ⟨g15, hf⟩ := ms_gE hf
            refine m_ias (κ := 40) (φ := 650) (n := 1980) (pc' := 175) C Bh13 Mh13 (by decide) (by decide) rfl g15 dX12_forks_174 rfl (fun αh16 Hh16 Lh16 σh16 eh16 Bh16 Mh16 => ?_)
            replace hf := ms_lE eh16 hf
            refine lv_iload_n hx hb dX12_forks_175 rfl (lv_at hl 3 rfl) (hp_n (n := 176) rfl ?_)
            cases hf
            exact q_iret C Bh16 hr hlk ⟨rfl, Bh16.2.2, Mh16⟩ dX12_forks_176
          ·
            replace hf := ms_iF c8 hf
            refine lv_aload_n hx hb dX12_forks_47 rfl (lv_at hl 0 rfl) (hp_n (n := 48) rfl ?_)
            refine m_getr (κ := 40) (k := 0) (pc' := 51) C Bh7 Mh7 fl_X12_7 rfl (by decide) dX12_forks_48 rfl ?_
            refine lv_sipush (v := 252) hx hb dX12_forks_51 (by decide) (hp_n (n := 54) rfl ?_)
            refine lv_bipush (v := 48) hx hb dX12_forks_54 (by decide) (hp_n (n := 56) rfl ?_)
            refine lv_iload_n hx hb dX12_forks_56 rfl (lv_at hl 3 rfl) (hp_n (n := 57) rfl ?_)
            refine lv_imul hx hb dX12_forks_57 (hp_n (n := 58) rfl ?_)
            refine lv_iadd hx hb dX12_forks_58 (hp_n (n := 59) rfl ?_)
            refine lv_iload hx hb dX12_forks_59 (lv_at hl 4 rfl) (hp_n (n := 61) rfl ?_)
            refine lv_iadd hx hb dX12_forks_61 (hp_n (n := 62) rfl ?_)
            refine lv_aload_n hx hb dX12_forks_62 rfl (lv_at hl 0 rfl) (hp_n (n := 63) rfl ?_)
            refine m_getr (κ := 40) (k := 0) (pc' := 66) C Bh7 Mh7 fl_X12_7 rfl (by decide) dX12_forks_63 rfl ?_
            refine lv_sipush (v := 252) hx hb dX12_forks_66 (by decide) (hp_n (n := 69) rfl ?_)
            refine lv_bipush (v := 48) hx hb dX12_forks_69 (by decide) (hp_n (n := 71) rfl ?_)
            refine lv_iload_n hx hb dX12_forks_71 rfl (lv_at hl 1 rfl) (hp_n (n := 72) rfl ?_)
            refine lv_imul hx hb dX12_forks_72 (hp_n (n := 73) rfl ?_)
            refine lv_iadd hx hb dX12_forks_73 (hp_n (n := 74) rfl ?_)
            refine lv_iload hx hb dX12_forks_74 (lv_at hl 4 rfl) (hp_n (n := 76) rfl ?_)
            refine lv_iadd hx hb dX12_forks_76 (hp_n (n := 77) rfl ?_)
            obtain ⟨g17, hf⟩ := ms_gE hf
            refine m_ial (κ := 40) (φ := 650) (n := 1980) (pc' := 78) C Bh7 Mh7 (by decide) (by decide) rfl g17 dX12_forks_77 rfl ?_
            obtain ⟨g18, hf⟩ := ms_gE hf
            refine m_ias (κ := 40) (φ := 650) (n := 1980) (pc' := 79) C Bh7 Mh7 (by decide) (by decide) rfl g18 dX12_forks_78 rfl (fun αh19 Hh19 Lh19 σh19 eh19 Bh19 Mh19 => ?_)
            replace hf := ms_lE eh19 hf
            refine lv_iconst (v := 0) hx hb dX12_forks_79 (by decide) (hp_n (n := 80) rfl ?_)
            have J82 : ∀ (k82 : Nat) (αh20 : hp_T) (Hh20 : Heap) (Lh20 : List Loc) (Bh20 : hp_B Γ mo s α αh20 Hh20 Lh20) (σh20 : ms_T) (Mh20 : hm_M αh20 a0 ρ σh20) (v1_h20 : Int32) (v2_h20 : Int32) (v3_h20 : Int32) (v4_h20 : Int32) (v5_h20 : Int32) (ls : Array Slot) (hl : lv_has ls 6 [(0, .ref a0), (1, .int v1_h20), (2, .int v2_h20), (3, .int v3_h20), (4, .int v4_h20), (5, .int v5_h20)]) (hf : f_X12_forks_L82 n (f_X12_forks_L41 n k41) k82 σh20 v1_h20 v2_h20 v3_h20 v4_h20 v5_h20 = some res), W p l e (hp_rm 1 0 0) s m ([.ref a0, .int a1, .int a2] : List Value).toArray below meth c Hh20 Lh20 0 0 (MQ below (hp_Qi Γ (fun r β => r = res.1 ∧ mo α β ∧ hm_M β a0 ρ res.2)) ([.ref a0, .int a1, .int a2] : List Value).toArray s 0 0 (hp_A Γ)) (F0 m 82 ls []) := by
              intro k82
              induction k82 with
              | zero => intro αh20 Hh20 Lh20 Bh20 σh20 Mh20 v1_h20 v2_h20 v3_h20 v4_h20 v5_h20 ls hl hf; rw [f_X12_forks_L82.eq_1] at hf; cases hf
              | succ k82 ih82 =>
                intro αh20 Hh20 Lh20 Bh20 σh20 Mh20 v1_h20 v2_h20 v3_h20 v4_h20 v5_h20 ls hl hf
                rw [f_X12_forks_L82.eq_2] at hf
                refine lv_iload hx hb dX12_forks_82 (lv_at hl 5 rfl) (hp_n (n := 84) rfl ?_)
                refine lv_bipush (v := 8) hx hb dX12_forks_84 (by decide) (hp_n (n := 86) rfl ?_)
                refine lv_icmp_ge (tgt := 139) hx hb dX12_forks_86 (by decide) (fun c21 => ?_) (fun c21 => hp_n (n := 89) rfl ?_)
                ·
                  replace hf := ms_iT c21 hf
                  obtain ⟨x22, ex22⟩ : ∃ y : Int32, y = v4_h20 + 1 := ⟨_, rfl⟩
                  replace hf := ms_lE ex22 hf
                  refine lv_iinc (v := x22) (lv' := [(4, .int x22), (0, .ref a0), (1, .int v1_h20), (2, .int v2_h20), (3, .int v3_h20), (5, .int v5_h20)]) hx hb dX12_forks_139 hl (k := 4) rfl (by rw [ex22]; rfl) (by decide) rfl (fun ls hl => hp_n (n := 142) rfl ?_)
                  refine lv_goto (tgt := 41) hx hb dX12_forks_142 (by decide) ?_
                  exact ih41 αh20 Hh20 Lh20 Bh20 σh20 Mh20 v1_h20 v2_h20 v3_h20 x22 ls (lv_sub hl [1, 2, 3, 4, 0] rfl) hf
                ·
                  replace hf := ms_iF c21 hf
                  refine lv_aload_n hx hb dX12_forks_89 rfl (lv_at hl 0 rfl) (hp_n (n := 90) rfl ?_)
                  refine m_getr (κ := 40) (k := 0) (pc' := 93) C Bh20 Mh20 fl_X12_7 rfl (by decide) dX12_forks_90 rfl ?_
                  refine lv_sipush (v := 444) hx hb dX12_forks_93 (by decide) (hp_n (n := 96) rfl ?_)
                  refine lv_bipush (v := 8) hx hb dX12_forks_96 (by decide) (hp_n (n := 98) rfl ?_)
                  refine lv_bipush (v := 48) hx hb dX12_forks_98 (by decide) (hp_n (n := 100) rfl ?_)
                  refine lv_iload_n hx hb dX12_forks_100 rfl (lv_at hl 3 rfl) (hp_n (n := 101) rfl ?_)
                  refine lv_imul hx hb dX12_forks_101 (hp_n (n := 102) rfl ?_)
                  refine lv_iload hx hb dX12_forks_102 (lv_at hl 4 rfl) (hp_n (n := 104) rfl ?_)
                  refine lv_iadd hx hb dX12_forks_104 (hp_n (n := 105) rfl ?_)
                  refine lv_imul hx hb dX12_forks_105 (hp_n (n := 106) rfl ?_)
                  refine lv_iadd hx hb dX12_forks_106 (hp_n (n := 107) rfl ?_)
                  refine lv_iload hx hb dX12_forks_107 (lv_at hl 5 rfl) (hp_n (n := 109) rfl ?_)
                  refine lv_iadd hx hb dX12_forks_109 (hp_n (n := 110) rfl ?_)
                  refine lv_aload_n hx hb dX12_forks_110 rfl (lv_at hl 0 rfl) (hp_n (n := 111) rfl ?_)
                  refine m_getr (κ := 40) (k := 0) (pc' := 114) C Bh20 Mh20 fl_X12_7 rfl (by decide) dX12_forks_111 rfl ?_
                  refine lv_sipush (v := 444) hx hb dX12_forks_114 (by decide) (hp_n (n := 117) rfl ?_)
                  refine lv_bipush (v := 8) hx hb dX12_forks_117 (by decide) (hp_n (n := 119) rfl ?_)
                  refine lv_bipush (v := 48) hx hb dX12_forks_119 (by decide) (hp_n (n := 121) rfl ?_)
                  refine lv_iload_n hx hb dX12_forks_121 rfl (lv_at hl 1 rfl) (hp_n (n := 122) rfl ?_)
                  refine lv_imul hx hb dX12_forks_122 (hp_n (n := 123) rfl ?_)
                  refine lv_iload hx hb dX12_forks_123 (lv_at hl 4 rfl) (hp_n (n := 125) rfl ?_)
                  refine lv_iadd hx hb dX12_forks_125 (hp_n (n := 126) rfl ?_)
                  refine lv_imul hx hb dX12_forks_126 (hp_n (n := 127) rfl ?_)
                  refine lv_iadd hx hb dX12_forks_127 (hp_n (n := 128) rfl ?_)
                  refine lv_iload hx hb dX12_forks_128 (lv_at hl 5 rfl) (hp_n (n := 130) rfl ?_)
                  refine lv_iadd hx hb dX12_forks_130 (hp_n (n := 131) rfl ?_)
                  obtain ⟨g23, hf⟩ := ms_gE hf
                  refine m_ial (κ := 40) (φ := 650) (n := 1980) (pc' := 132) C Bh20 Mh20 (by decide) (by decide) rfl g23 dX12_forks_131 rfl ?_
                  obtain ⟨g24, hf⟩ := ms_gE hf
                  refine m_ias (κ := 40) (φ := 650) (n := 1980) (pc' := 133) C Bh20 Mh20 (by decide) (by decide) rfl g24 dX12_forks_132 rfl (fun αh25 Hh25 Lh25 σh25 eh25 Bh25 Mh25 => ?_)
                  replace hf := ms_lE eh25 hf
                  obtain ⟨x26, ex26⟩ : ∃ y : Int32, y = v5_h20 + 1 := ⟨_, rfl⟩
                  replace hf := ms_lE ex26 hf
                  refine lv_iinc (v := x26) (lv' := [(5, .int x26), (0, .ref a0), (1, .int v1_h20), (2, .int v2_h20), (3, .int v3_h20), (4, .int v4_h20)]) hx hb dX12_forks_133 hl (k := 5) rfl (by rw [ex26]; rfl) (by decide) rfl (fun ls hl => hp_n (n := 136) rfl ?_)
                  refine lv_goto (tgt := 82) hx hb dX12_forks_136 (by decide) ?_
                  exact ih82 αh25 Hh25 Lh25 Bh25 σh25 Mh25 v1_h20 v2_h20 v3_h20 v4_h20 x26 ls (lv_sub hl [1, 2, 3, 4, 5, 0] rfl) hf
            refine lv_istore (lv' := [(5, .int (0 : Int32)), (0, .ref a0), (1, .int v1_h7), (2, .int v2_h7), (3, .int v3_h7), (4, .int v4_h7)]) hx hb dX12_forks_80 hl (by decide) rfl (fun ls hl => hp_n (n := 82) rfl ?_)
            exact J82 n αh19 Hh19 Lh19 Bh19 σh19 Mh19 v1_h7 v2_h7 v3_h7 v4_h7 (0 : Int32) ls (lv_sub hl [1, 2, 3, 4, 5, 0] rfl) hf
      refine lv_istore (lv' := [(4, .int (0 : Int32)), (3, .int x6), (0, .ref a0), (1, .int a1), (2, .int a2)]) hx hb dX12_forks_39 hl (by decide) rfl (fun ls hl => hp_n (n := 41) rfl ?_)
      exact J41 n α Hh1 Lh1 Bh1 σ hM a1 a2 x6 (0 : Int32) ls (lv_sub hl [2, 3, 4, 1, 0] rfl) hf
    ·
      replace hf := ms_iT c4 hf
      refine lv_aload_n hx hb dX12_forks_25 rfl (lv_at hl 0 rfl) (hp_n (n := 26) rfl ?_)
      refine lv_iconst (v := 3) hx hb dX12_forks_26 (by decide) (hp_n (n := 27) rfl ?_)
      obtain ⟨rh27, σh27, qh27, hf⟩ := ms_cE hf
      refine m_ci (pc' := 30) (a := a0) (ρ := ρ) Bh1 (hp_runV (As := [.int (3 : Int32)]) (rest := []) C Bh1 (m_X12_refuse n Γ l α a0 ρ σ hM (3 : Int32) (rh27, σh27) qh27) lb_X12_refuse lv_X12_refuse lk_X12_212 hM.1 rfl (by decide) rfl hl.1 rfl (Nat.le_of_ble_eq_true rfl) dX12_forks_27 ⟨Nat.le_refl _, Nat.le_refl _⟩) rfl (fun αh27 Hh27 Lh27 Bh27 Mh27 => ?_)
      cases hf
      exact q_iret C Bh27 hr hlk ⟨rfl, Bh27.2.2, Mh27⟩ dX12_forks_30
  ·
    replace hf := ms_iF c2 hf
    refine lv_aload_n hx hb dX12_forks_9 rfl (lv_at hl 0 rfl) (hp_n (n := 10) rfl ?_)
    refine lv_iconst (v := 5) hx hb dX12_forks_10 (by decide) (hp_n (n := 11) rfl ?_)
    obtain ⟨rh28, σh28, qh28, hf⟩ := ms_cE hf
    refine m_ci (pc' := 14) (a := a0) (ρ := ρ) Bh1 (hp_runV (As := [.int (5 : Int32)]) (rest := []) C Bh1 (m_X12_refuse n Γ l α a0 ρ σ hM (5 : Int32) (rh28, σh28) qh28) lb_X12_refuse lv_X12_refuse lk_X12_212 hM.1 rfl (by decide) rfl hl.1 rfl (Nat.le_of_ble_eq_true rfl) dX12_forks_11 ⟨Nat.le_refl _, Nat.le_refl _⟩) rfl (fun αh28 Hh28 Lh28 Bh28 Mh28 => ?_)
    cases hf
    exact q_iret C Bh28 hr hlk ⟨rfl, Bh28.2.2, Mh28⟩ dX12_forks_14
def f_X12_freezes_L98 (n : Nat) : Nat → ms_T → Int32 → Int32 → Option (Int32 × ms_T)
  | 0, _, _, _ => none
  | k98 + 1, σh20, v2_h20, v3_h20 =>
    if (ms_I σh20 657) ≤ v3_h20 then
      ms_g (3 : Int32) 1980 <|
      ms_g (3 : Int32) 1980 <|
      ms_l (ms_sE σh20 40 ((3 : Int32)).toNatClampNeg ((ms_E σh20 40 ((3 : Int32)).toNatClampNeg) + (1 : Int32))) fun σh24 =>
      ms_g (4 : Int32) 1980 <|
      ms_g (4 : Int32) 1980 <|
      ms_l (ms_sE σh24 40 ((4 : Int32)).toNatClampNeg ((ms_E σh24 40 ((4 : Int32)).toNatClampNeg) + (1 : Int32))) fun σh27 =>
      ms_g (3 : Int32) 1980 <|
      some (((ms_E σh27 40 ((3 : Int32)).toNatClampNeg) - (1 : Int32)), σh27)
    else
      ms_g v3_h20 128 <|
      ms_g ((v2_h20 + (4 : Int32)) + v3_h20) 1980 <|
      ms_l (ms_sE σh20 40 (((v2_h20 + (4 : Int32)) + v3_h20)).toNatClampNeg (ms_E σh20 44 (v3_h20).toNatClampNeg)) fun σh31 =>
      ms_l (v3_h20 + 1) fun x32 =>
      (f_X12_freezes_L98 n k98) σh31 v2_h20 x32
def f_X12_freezes (n : Nat) (σ : ms_T) (a1 : Int32) : Option (Int32 × ms_T) :=
  ms_g (3 : Int32) 1980 <|
  if (ms_E σ 40 ((3 : Int32)).toNatClampNeg) = (16 : Int32) then
    ms_c (f_X12_refuse n σ (3 : Int32)) fun rh33 σh33 =>
    some (rh33, σh33)
  else
    ms_g (3 : Int32) 1980 <|
    ms_l (((92 : Int32) + ((10 : Int32) * (ms_E σ 40 ((3 : Int32)).toNatClampNeg)))) fun x4 =>
    ms_g x4 1980 <|
    ms_l (ms_sE σ 40 (x4).toNatClampNeg a1) fun σh6 =>
    ms_b (f_X12_sizeOf n σh6 a1) fun rh7 =>
    ms_g (x4 + (1 : Int32)) 1980 <|
    ms_l (ms_sE σh6 40 ((x4 + (1 : Int32))).toNatClampNeg rh7) fun σh9 =>
    ms_b (f_X12_sizeOf n σh9 a1) fun rh10 =>
    ms_b (f_X12_headOf n σh9 a1 rh10) fun rh11 =>
    ms_g (x4 + (2 : Int32)) 1980 <|
    ms_l (ms_sE σh9 40 ((x4 + (2 : Int32))).toNatClampNeg rh11) fun σh13 =>
    ms_g (4 : Int32) 1980 <|
    ms_g (x4 + (3 : Int32)) 1980 <|
    ms_l (ms_sE σh13 40 ((x4 + (3 : Int32))).toNatClampNeg (ms_E σh13 40 ((4 : Int32)).toNatClampNeg)) fun σh16 =>
    ms_b (f_X12_sizeOf n σh16 a1) fun rh17 =>
    ms_b (f_X12_peaksOf n σh16 rh17) fun σh18 =>
    ms_b (f_X12_fetches n σh18 a1) fun σh19 =>
    f_X12_freezes_L98 n n σh19 x4 (0 : Int32)
set_option maxRecDepth 100000 in
set_option maxHeartbeats 4000000 in
theorem m_X12_freezes (n : Nat) (Γ : hp_G) (l : Launch) (α : hp_T) (a0 : Nat) (ρ : Nat → Nat) (σ : ms_T) (hM : hm_M α a0 ρ σ) (a1 : Int32) (res : (Int32 × ms_T)) (hf : f_X12_freezes n σ a1 = some res) : Met l yX12_freezes (hp_ws yX12_freezes cX12_freezes 4 (some .int)) (hp_rm 43 0 0) (hp_Pc Γ α [.ref a0, .int a1]) (hp_Qi Γ (fun r β => r = res.1 ∧ mo α β ∧ hm_M β a0 ρ res.2)) 0 0 (hp_A Γ) := by
  unfold f_X12_freezes at hf
  refine hp_start (by decide) ?_
  intro p e s m below meth c C hr hlk B0 hnm
  have C : hp_C Γ p m c cX12_freezes 4 s ([.ref a0, .int a1] : List Value).toArray RX12 := C
  have hx := C.1.1
  have hb := C.1.2.1
  have hown := C.1.2.2.2.1
  have hts := C.1.2.2.2.2
  have B : hp_B Γ mo s α α s.heap [] := ⟨B0.1, B0.2.1, mo_rf⟩
  have hl := lv_entry ([.ref a0, .int a1]) (n := 4) (Nat.le_of_ble_eq_true rfl)
  show W p l e (hp_rm 43 0 0) s m ([.ref a0, .int a1] : List Value).toArray below meth c s.heap [] 0 0 (MQ below (hp_Qi Γ (fun r β => r = res.1 ∧ mo α β ∧ hm_M β a0 ρ res.2)) ([.ref a0, .int a1] : List Value).toArray s 0 0 (hp_A Γ)) (entryFrame m ([.ref a0, .int a1] : List Value).toArray 4)
  rw [lg_entry_eq]
  generalize (lg_sl ([.ref a0, .int a1]) ++ List.replicate (4 - (lg_sl ([.ref a0, .int a1])).length) Slot.unset).toArray = ls at hl ⊢
  have hl : lv_has ls 4 [(0, .ref a0), (1, .int a1)] := hl
  refine lv_aload_n hx hb dX12_freezes_0 rfl (lv_at hl 0 rfl) (hp_n (n := 1) rfl ?_)
  refine m_getr (κ := 40) (k := 0) (pc' := 4) C B hM fl_X12_7 rfl (by decide) dX12_freezes_1 rfl ?_
  refine lv_iconst (v := 3) hx hb dX12_freezes_4 (by decide) (hp_n (n := 5) rfl ?_)
  obtain ⟨g1, hf⟩ := ms_gE hf
  refine m_ial (κ := 40) (φ := 650) (n := 1980) (pc' := 6) C B hM (by decide) (by decide) rfl g1 dX12_freezes_5 rfl ?_
  refine lv_bipush (v := 16) hx hb dX12_freezes_6 (by decide) (hp_n (n := 8) rfl ?_)
  refine lv_icmp_ne (tgt := 17) hx hb dX12_freezes_8 (by decide) (fun c2 => ?_) (fun c2 => hp_n (n := 11) rfl ?_)
  ·
    replace hf := ms_iF c2 hf
    refine lv_bipush (v := 92) hx hb dX12_freezes_17 (by decide) (hp_n (n := 19) rfl ?_)
    refine lv_bipush (v := 10) hx hb dX12_freezes_19 (by decide) (hp_n (n := 21) rfl ?_)
    refine lv_aload_n hx hb dX12_freezes_21 rfl (lv_at hl 0 rfl) (hp_n (n := 22) rfl ?_)
    refine m_getr (κ := 40) (k := 0) (pc' := 25) C B hM fl_X12_7 rfl (by decide) dX12_freezes_22 rfl ?_
    refine lv_iconst (v := 3) hx hb dX12_freezes_25 (by decide) (hp_n (n := 26) rfl ?_)
    obtain ⟨g3, hf⟩ := ms_gE hf
    refine m_ial (κ := 40) (φ := 650) (n := 1980) (pc' := 27) C B hM (by decide) (by decide) rfl g3 dX12_freezes_26 rfl ?_
    refine lv_imul hx hb dX12_freezes_27 (hp_n (n := 28) rfl ?_)
    refine lv_iadd hx hb dX12_freezes_28 (hp_n (n := 29) rfl ?_)
    refine lv_topi (fun x4 ex4 => ?_)
    replace hf := ms_lE ex4 hf
    refine lv_istore_n (lv' := [(2, .int x4), (0, .ref a0), (1, .int a1)]) hx hb dX12_freezes_29 rfl hl (by decide) rfl (fun ls hl => hp_n (n := 30) rfl ?_)
    refine lv_aload_n hx hb dX12_freezes_30 rfl (lv_at hl 1 rfl) (hp_n (n := 31) rfl ?_)
    refine m_getr (κ := 40) (k := 0) (pc' := 34) C B hM fl_X12_7 rfl (by decide) dX12_freezes_31 rfl ?_
    refine lv_iload_n hx hb dX12_freezes_34 rfl (lv_at hl 0 rfl) (hp_n (n := 35) rfl ?_)
    refine lv_iload_n hx hb dX12_freezes_35 rfl (lv_at hl 2 rfl) (hp_n (n := 36) rfl ?_)
    obtain ⟨g5, hf⟩ := ms_gE hf
    refine m_ias (κ := 40) (φ := 650) (n := 1980) (pc' := 37) C B hM (by decide) (by decide) rfl g5 dX12_freezes_36 rfl (fun αh6 Hh6 Lh6 σh6 eh6 Bh6 Mh6 => ?_)
    replace hf := ms_lE eh6 hf
    refine lv_aload_n hx hb dX12_freezes_37 rfl (lv_at hl 1 rfl) (hp_n (n := 38) rfl ?_)
    refine m_getr (κ := 40) (k := 0) (pc' := 41) C Bh6 Mh6 fl_X12_7 rfl (by decide) dX12_freezes_38 rfl ?_
    refine lv_iload_n hx hb dX12_freezes_41 rfl (lv_at hl 0 rfl) (hp_n (n := 42) rfl ?_)
    refine lv_iconst (v := 1) hx hb dX12_freezes_42 (by decide) (hp_n (n := 43) rfl ?_)
    refine lv_iadd hx hb dX12_freezes_43 (hp_n (n := 44) rfl ?_)
    refine lv_aload_n hx hb dX12_freezes_44 rfl (lv_at hl 1 rfl) (hp_n (n := 45) rfl ?_)
    refine lv_iload_n hx hb dX12_freezes_45 rfl (lv_at hl 2 rfl) (hp_n (n := 46) rfl ?_)
    obtain ⟨rh7, qh7, hf⟩ := ms_bE hf
    refine m_cp (pc' := 49) Bh6 (hp_runV (As := [.int a1]) (rest := [.int (x4 + (1 : Int32)), .ref (ρ 40)]) C Bh6 (m_X12_sizeOf n Γ l αh6 a0 ρ σh6 Mh6 a1 rh7 qh7) lb_X12_sizeOf lv_X12_sizeOf lk_X12_209 Mh6.1 rfl (by decide) rfl hl.1 rfl (Nat.le_of_ble_eq_true rfl) dX12_freezes_46 ⟨Nat.le_refl _, Nat.le_refl _⟩) rfl (fun Hh7 Lh7 Bh7 => ?_)
    obtain ⟨g8, hf⟩ := ms_gE hf
    refine m_ias (κ := 40) (φ := 650) (n := 1980) (pc' := 50) C Bh7 Mh6 (by decide) (by decide) rfl g8 dX12_freezes_49 rfl (fun αh9 Hh9 Lh9 σh9 eh9 Bh9 Mh9 => ?_)
    replace hf := ms_lE eh9 hf
    refine lv_aload_n hx hb dX12_freezes_50 rfl (lv_at hl 1 rfl) (hp_n (n := 51) rfl ?_)
    refine m_getr (κ := 40) (k := 0) (pc' := 54) C Bh9 Mh9 fl_X12_7 rfl (by decide) dX12_freezes_51 rfl ?_
    refine lv_iload_n hx hb dX12_freezes_54 rfl (lv_at hl 0 rfl) (hp_n (n := 55) rfl ?_)
    refine lv_iconst (v := 2) hx hb dX12_freezes_55 (by decide) (hp_n (n := 56) rfl ?_)
    refine lv_iadd hx hb dX12_freezes_56 (hp_n (n := 57) rfl ?_)
    refine lv_aload_n hx hb dX12_freezes_57 rfl (lv_at hl 1 rfl) (hp_n (n := 58) rfl ?_)
    refine lv_iload_n hx hb dX12_freezes_58 rfl (lv_at hl 2 rfl) (hp_n (n := 59) rfl ?_)
    refine lv_aload_n hx hb dX12_freezes_59 rfl (lv_at hl 1 rfl) (hp_n (n := 60) rfl ?_)
    refine lv_iload_n hx hb dX12_freezes_60 rfl (lv_at hl 2 rfl) (hp_n (n := 61) rfl ?_)
    obtain ⟨rh10, qh10, hf⟩ := ms_bE hf
    refine m_cp (pc' := 64) Bh9 (hp_runV (As := [.int a1]) (rest := [.int a1, .ref a0, .int (x4 + (2 : Int32)), .ref (ρ 40)]) C Bh9 (m_X12_sizeOf n Γ l αh9 a0 ρ σh9 Mh9 a1 rh10 qh10) lb_X12_sizeOf lv_X12_sizeOf lk_X12_209 Mh9.1 rfl (by decide) rfl hl.1 rfl (Nat.le_of_ble_eq_true rfl) dX12_freezes_61 ⟨Nat.le_refl _, Nat.le_refl _⟩) rfl (fun Hh10 Lh10 Bh10 => ?_)
    obtain ⟨rh11, qh11, hf⟩ := ms_bE hf
    refine m_cp (pc' := 67) Bh10 (hp_runV (As := [.int a1, .int rh10]) (rest := [.int (x4 + (2 : Int32)), .ref (ρ 40)]) C Bh10 (m_X12_headOf n Γ l αh9 a0 ρ σh9 Mh9 a1 rh10 rh11 qh11) lb_X12_headOf lv_X12_headOf lk_X12_215 Mh9.1 rfl (by decide) rfl hl.1 rfl (Nat.le_of_ble_eq_true rfl) dX12_freezes_64 ⟨Nat.le_refl _, Nat.le_refl _⟩) rfl (fun Hh11 Lh11 Bh11 => ?_)
    obtain ⟨g12, hf⟩ := ms_gE hf
    refine m_ias (κ := 40) (φ := 650) (n := 1980) (pc' := 68) C Bh11 Mh9 (by decide) (by decide) rfl g12 dX12_freezes_67 rfl (fun αh13 Hh13 Lh13 σh13 eh13 Bh13 Mh13 => ?_)
    replace hf := ms_lE eh13 hf
    refine lv_aload_n hx hb dX12_freezes_68 rfl (lv_at hl 1 rfl) (hp_n (n := 69) rfl ?_)
    refine m_getr (κ := 40) (k := 0) (pc' := 72) C Bh13 Mh13 fl_X12_7 rfl (by decide) dX12_freezes_69 rfl ?_
    refine lv_iload_n hx hb dX12_freezes_72 rfl (lv_at hl 0 rfl) (hp_n (n := 73) rfl ?_)
    refine lv_iconst (v := 3) hx hb dX12_freezes_73 (by decide) (hp_n (n := 74) rfl ?_)
    refine lv_iadd hx hb dX12_freezes_74 (hp_n (n := 75) rfl ?_)
    refine lv_aload_n hx hb dX12_freezes_75 rfl (lv_at hl 1 rfl) (hp_n (n := 76) rfl ?_)
    refine m_getr (κ := 40) (k := 0) (pc' := 79) C Bh13 Mh13 fl_X12_7 rfl (by decide) dX12_freezes_76 rfl ?_
    refine lv_iconst (v := 4) hx hb dX12_freezes_79 (by decide) (hp_n (n := 80) rfl ?_)
    obtain ⟨g14, hf⟩ := ms_gE hf
    refine m_ial (κ := 40) (φ := 650) (n := 1980) (pc' := 81) C Bh13 Mh13 (by decide) (by decide) rfl g14 dX12_freezes_80 rfl ?_
    obtain ⟨g15, hf⟩ := ms_gE hf
    refine m_ias (κ := 40) (φ := 650) (n := 1980) (pc' := 82) C Bh13 Mh13 (by decide) (by decide) rfl g15 dX12_freezes_81 rfl (fun αh16 Hh16 Lh16 σh16 eh16 Bh16 Mh16 => ?_)
    replace hf := ms_lE eh16 hf
    refine lv_aload_n hx hb dX12_freezes_82 rfl (lv_at hl 1 rfl) (hp_n (n := 83) rfl ?_)
    refine lv_aload_n hx hb dX12_freezes_83 rfl (lv_at hl 1 rfl) (hp_n (n := 84) rfl ?_)
    refine lv_iload_n hx hb dX12_freezes_84 rfl (lv_at hl 2 rfl) (hp_n (n := 85) rfl ?_)
    obtain ⟨rh17, qh17, hf⟩ := ms_bE hf
    refine m_cp (pc' := 88) Bh16 (hp_runV (As := [.int a1]) (rest := [.ref a0]) C Bh16 (m_X12_sizeOf n Γ l αh16 a0 ρ σh16 Mh16 a1 rh17 qh17) lb_X12_sizeOf lv_X12_sizeOf lk_X12_209 Mh16.1 rfl (by decide) rfl hl.1 rfl (Nat.le_of_ble_eq_true rfl) dX12_freezes_85 ⟨Nat.le_refl _, Nat.le_refl _⟩) rfl (fun Hh17 Lh17 Bh17 => ?_)
    obtain ⟨σh18, qh18, hf⟩ := ms_bE hf
    refine m_cv (pc' := 91) (a := a0) (ρ := ρ) Bh17 (hp_runV (As := [.int rh17]) (rest := []) C Bh17 (m_X12_peaksOf n Γ l αh16 a0 ρ σh16 Mh16 rh17 σh18 qh18) lb_X12_peaksOf lv_X12_peaksOf lk_X12_218 Mh16.1 rfl (by decide) rfl hl.1 rfl (Nat.le_of_ble_eq_true rfl) dX12_freezes_88 ⟨Nat.le_refl _, Nat.le_refl _⟩) rfl (fun αh18 Hh18 Lh18 Bh18 Mh18 => ?_)
    refine lv_aload_n hx hb dX12_freezes_91 rfl (lv_at hl 1 rfl) (hp_n (n := 92) rfl ?_)
    refine lv_iload_n hx hb dX12_freezes_92 rfl (lv_at hl 2 rfl) (hp_n (n := 93) rfl ?_)
    obtain ⟨σh19, qh19, hf⟩ := ms_bE hf
    refine m_cv (pc' := 96) (a := a0) (ρ := ρ) Bh18 (hp_runV (As := [.int a1]) (rest := []) C Bh18 (m_X12_fetches n Γ l αh18 a0 ρ σh18 Mh18 a1 σh19 qh19) lb_X12_fetches lv_X12_fetches lk_X12_161 Mh18.1 rfl (by decide) rfl hl.1 rfl (Nat.le_of_ble_eq_true rfl) dX12_freezes_93 ⟨Nat.le_refl _, Nat.le_refl _⟩) rfl (fun αh19 Hh19 Lh19 Bh19 Mh19 => ?_)
    refine lv_iconst (v := 0) hx hb dX12_freezes_96 (by decide) (hp_n (n := 97) rfl ?_)
    have J98 : ∀ (k98 : Nat) (αh20 : hp_T) (Hh20 : Heap) (Lh20 : List Loc) (Bh20 : hp_B Γ mo s α αh20 Hh20 Lh20) (σh20 : ms_T) (Mh20 : hm_M αh20 a0 ρ σh20) (v2_h20 : Int32) (v3_h20 : Int32) (ls : Array Slot) (hl : lv_has ls 4 [(0, .ref a0), (2, .int v2_h20), (3, .int v3_h20)]) (hf : f_X12_freezes_L98 n k98 σh20 v2_h20 v3_h20 = some res), W p l e (hp_rm 43 0 0) s m ([.ref a0, .int a1] : List Value).toArray below meth c Hh20 Lh20 0 0 (MQ below (hp_Qi Γ (fun r β => r = res.1 ∧ mo α β ∧ hm_M β a0 ρ res.2)) ([.ref a0, .int a1] : List Value).toArray s 0 0 (hp_A Γ)) (F0 m 98 ls []) := by
      intro k98
      induction k98 with
      | zero => intro αh20 Hh20 Lh20 Bh20 σh20 Mh20 v2_h20 v3_h20 ls hl hf; rw [f_X12_freezes_L98.eq_1] at hf; cases hf
      | succ k98 ih98 =>
        intro αh20 Hh20 Lh20 Bh20 σh20 Mh20 v2_h20 v3_h20 ls hl hf
        rw [f_X12_freezes_L98.eq_2] at hf
        refine lv_iload_n hx hb dX12_freezes_98 rfl (lv_at hl 2 rfl) (hp_n (n := 99) rfl ?_)
        refine lv_aload_n hx hb dX12_freezes_99 rfl (lv_at hl 0 rfl) (hp_n (n := 100) rfl ?_)
        refine m_geti (k := 7) (φ := 657) (pc' := 103) C Bh20 Mh20 fl_X12_139 rfl rfl dX12_freezes_100 rfl ?_
        refine lv_icmp_ge (tgt := 128) hx hb dX12_freezes_103 (by decide) (fun c21 => ?_) (fun c21 => hp_n (n := 106) rfl ?_)
        ·
          replace hf := ms_iT c21 hf
          refine lv_aload_n hx hb dX12_freezes_128 rfl (lv_at hl 0 rfl) (hp_n (n := 129) rfl ?_)
          refine m_getr (κ := 40) (k := 0) (pc' := 132) C Bh20 Mh20 fl_X12_7 rfl (by decide) dX12_freezes_129 rfl ?_
          refine lv_iconst (v := 3) hx hb dX12_freezes_132 (by decide) (hp_n (n := 133) rfl ?_)
          refine lv_dup2_11 hx hb dX12_freezes_133 rfl rfl (hp_n (n := 134) rfl ?_)
          obtain ⟨g22, hf⟩ := ms_gE hf
          refine m_ial (κ := 40) (φ := 650) (n := 1980) (pc' := 135) C Bh20 Mh20 (by decide) (by decide) rfl g22 dX12_freezes_134 rfl ?_
          refine lv_iconst (v := 1) hx hb dX12_freezes_135 (by decide) (hp_n (n := 136) rfl ?_)
          refine lv_iadd hx hb dX12_freezes_136 (hp_n (n := 137) rfl ?_)
          obtain ⟨g23, hf⟩ := ms_gE hf
          refine m_ias (κ := 40) (φ := 650) (n := 1980) (pc' := 138) C Bh20 Mh20 (by decide) (by decide) rfl g23 dX12_freezes_137 rfl (fun αh24 Hh24 Lh24 σh24 eh24 Bh24 Mh24 => ?_)
          replace hf := ms_lE eh24 hf
          refine lv_aload_n hx hb dX12_freezes_138 rfl (lv_at hl 0 rfl) (hp_n (n := 139) rfl ?_)
          refine m_getr (κ := 40) (k := 0) (pc' := 142) C Bh24 Mh24 fl_X12_7 rfl (by decide) dX12_freezes_139 rfl ?_
          refine lv_iconst (v := 4) hx hb dX12_freezes_142 (by decide) (hp_n (n := 143) rfl ?_)
          refine lv_dup2_11 hx hb dX12_freezes_143 rfl rfl (hp_n (n := 144) rfl ?_)
          obtain ⟨g25, hf⟩ := ms_gE hf
          refine m_ial (κ := 40) (φ := 650) (n := 1980) (pc' := 145) C Bh24 Mh24 (by decide) (by decide) rfl g25 dX12_freezes_144 rfl ?_
          refine lv_iconst (v := 1) hx hb dX12_freezes_145 (by decide) (hp_n (n := 146) rfl ?_)
          refine lv_iadd hx hb dX12_freezes_146 (hp_n (n := 147) rfl ?_)
          obtain ⟨g26, hf⟩ := ms_gE hf
          refine m_ias (κ := 40) (φ := 650) (n := 1980) (pc' := 148) C Bh24 Mh24 (by decide) (by decide) rfl g26 dX12_freezes_147 rfl (fun αh27 Hh27 Lh27 σh27 eh27 Bh27 Mh27 => ?_)
          replace hf := ms_lE eh27 hf
          refine lv_aload_n hx hb dX12_freezes_148 rfl (lv_at hl 0 rfl) (hp_n (n := 149) rfl ?_)
          refine m_getr (κ := 40) (k := 0) (pc' := 152) C Bh27 Mh27 fl_X12_7 rfl (by decide) dX12_freezes_149 rfl ?_
          refine lv_iconst (v := 3) hx hb dX12_freezes_152 (by decide) (hp_n (n := 153) rfl ?_)
          obtain ⟨g28, hf⟩ := ms_gE hf
          refine m_ial (κ := 40) (φ := 650) (n := 1980) (pc' := 154) C Bh27 Mh27 (by decide) (by decide) rfl g28 dX12_freezes_153 rfl ?_
          refine lv_iconst (v := 1) hx hb dX12_freezes_154 (by decide) (hp_n (n := 155) rfl ?_)
          refine lv_isub hx hb dX12_freezes_155 (hp_n (n := 156) rfl ?_)
          cases hf
          exact q_iret C Bh27 hr hlk ⟨rfl, Bh27.2.2, Mh27⟩ dX12_freezes_156
        ·
          replace hf := ms_iF c21 hf
          refine lv_aload_n hx hb dX12_freezes_106 rfl (lv_at hl 0 rfl) (hp_n (n := 107) rfl ?_)
          refine m_getr (κ := 40) (k := 0) (pc' := 110) C Bh20 Mh20 fl_X12_7 rfl (by decide) dX12_freezes_107 rfl ?_
          refine lv_iload_n hx hb dX12_freezes_110 rfl (lv_at hl 1 rfl) (hp_n (n := 111) rfl ?_)
          refine lv_iconst (v := 4) hx hb dX12_freezes_111 (by decide) (hp_n (n := 112) rfl ?_)
          refine lv_iadd hx hb dX12_freezes_112 (hp_n (n := 113) rfl ?_)
          refine lv_iload_n hx hb dX12_freezes_113 rfl (lv_at hl 2 rfl) (hp_n (n := 114) rfl ?_)
          refine lv_iadd hx hb dX12_freezes_114 (hp_n (n := 115) rfl ?_)
          refine lv_aload_n hx hb dX12_freezes_115 rfl (lv_at hl 0 rfl) (hp_n (n := 116) rfl ?_)
          refine m_getr (κ := 44) (k := 6) (pc' := 119) C Bh20 Mh20 fl_X12_22 rfl (by decide) dX12_freezes_116 rfl ?_
          refine lv_iload_n hx hb dX12_freezes_119 rfl (lv_at hl 2 rfl) (hp_n (n := 120) rfl ?_)
          obtain ⟨g29, hf⟩ := ms_gE hf
          refine m_ial (κ := 44) (φ := 656) (n := 128) (pc' := 121) C Bh20 Mh20 (by decide) (by decide) rfl g29 dX12_freezes_120 rfl ?_
          obtain ⟨g30, hf⟩ := ms_gE hf
          refine m_ias (κ := 40) (φ := 650) (n := 1980) (pc' := 122) C Bh20 Mh20 (by decide) (by decide) rfl g30 dX12_freezes_121 rfl (fun αh31 Hh31 Lh31 σh31 eh31 Bh31 Mh31 => ?_)
          replace hf := ms_lE eh31 hf
          obtain ⟨x32, ex32⟩ : ∃ y : Int32, y = v3_h20 + 1 := ⟨_, rfl⟩
          replace hf := ms_lE ex32 hf
          refine lv_iinc (v := x32) (lv' := [(3, .int x32), (0, .ref a0), (2, .int v2_h20)]) hx hb dX12_freezes_122 hl (k := 2) rfl (by rw [ex32]; rfl) (by decide) rfl (fun ls hl => hp_n (n := 125) rfl ?_)
          refine lv_goto (tgt := 98) hx hb dX12_freezes_125 (by decide) ?_
          exact ih98 αh31 Hh31 Lh31 Bh31 σh31 Mh31 v2_h20 x32 ls (lv_sub hl [1, 2, 0] rfl) hf
    refine lv_istore_n (lv' := [(3, .int (0 : Int32)), (2, .int x4), (0, .ref a0), (1, .int a1)]) hx hb dX12_freezes_97 rfl hl (by decide) rfl (fun ls hl => hp_n (n := 98) rfl ?_)
    exact J98 n αh19 Hh19 Lh19 Bh19 σh19 Mh19 x4 (0 : Int32) ls (lv_sub hl [2, 1, 0] rfl) hf
  ·
    replace hf := ms_iT c2 hf
    refine lv_aload_n hx hb dX12_freezes_11 rfl (lv_at hl 0 rfl) (hp_n (n := 12) rfl ?_)
    refine lv_iconst (v := 3) hx hb dX12_freezes_12 (by decide) (hp_n (n := 13) rfl ?_)
    obtain ⟨rh33, σh33, qh33, hf⟩ := ms_cE hf
    refine m_ci (pc' := 16) (a := a0) (ρ := ρ) B (hp_runV (As := [.int (3 : Int32)]) (rest := []) C B (m_X12_refuse n Γ l α a0 ρ σ hM (3 : Int32) (rh33, σh33) qh33) lb_X12_refuse lv_X12_refuse lk_X12_212 hM.1 rfl (by decide) rfl hl.1 rfl (Nat.le_of_ble_eq_true rfl) dX12_freezes_13 ⟨Nat.le_refl _, Nat.le_refl _⟩) rfl (fun αh33 Hh33 Lh33 Bh33 Mh33 => ?_)
    cases hf
    exact q_iret C Bh33 hr hlk ⟨rfl, Bh33.2.2, Mh33⟩ dX12_freezes_16
def f_X12_trust (n : Nat) (σ : ms_T) (a1 : Int32) (a2 : Int32) : Option Int32 :=
  ms_g (((76 : Int32) + ((4 : Int32) * a1)) + a2) 1980 <|
  some (ms_E σ 40 ((((76 : Int32) + ((4 : Int32) * a1)) + a2)).toNatClampNeg)
set_option maxRecDepth 100000 in
set_option maxHeartbeats 4000000 in
theorem m_X12_trust (n : Nat) (Γ : hp_G) (l : Launch) (α : hp_T) (a0 : Nat) (ρ : Nat → Nat) (σ : ms_T) (hM : hm_M α a0 ρ σ) (a1 : Int32) (a2 : Int32) (res : Int32) (hf : f_X12_trust n σ a1 a2 = some res) : Met l yX12_trust (hp_ws yX12_trust cX12_trust 3 (some .int)) (hp_rm 0 0 0) (hp_Pc Γ α [.ref a0, .int a1, .int a2]) (hp_Qi Γ (fun r β => β = α ∧ r = res)) 0 0 (hp_A Γ) := by
  unfold f_X12_trust at hf
  refine hp_start (by decide) ?_
  intro p e s m below meth c C hr hlk B0 hnm
  have C : hp_C Γ p m c cX12_trust 3 s ([.ref a0, .int a1, .int a2] : List Value).toArray RX12 := C
  have hx := C.1.1
  have hb := C.1.2.1
  have hown := C.1.2.2.2.1
  have hts := C.1.2.2.2.2
  have B : hp_B Γ (fun _ _ => True) s α α s.heap [] := ⟨B0.1, B0.2.1, trivial⟩
  have hl := lv_entry ([.ref a0, .int a1, .int a2]) (n := 3) (Nat.le_of_ble_eq_true rfl)
  show W p l e (hp_rm 0 0 0) s m ([.ref a0, .int a1, .int a2] : List Value).toArray below meth c s.heap [] 0 0 (MQ below (hp_Qi Γ (fun r β => β = α ∧ r = res)) ([.ref a0, .int a1, .int a2] : List Value).toArray s 0 0 (hp_A Γ)) (entryFrame m ([.ref a0, .int a1, .int a2] : List Value).toArray 3)
  rw [lg_entry_eq]
  generalize (lg_sl ([.ref a0, .int a1, .int a2]) ++ List.replicate (3 - (lg_sl ([.ref a0, .int a1, .int a2])).length) Slot.unset).toArray = ls at hl ⊢
  have hl : lv_has ls 3 [(0, .ref a0), (1, .int a1), (2, .int a2)] := hl
  refine lv_aload_n hx hb dX12_trust_0 rfl (lv_at hl 0 rfl) (hp_n (n := 1) rfl ?_)
  refine m_getr (κ := 40) (k := 0) (pc' := 4) C B hM fl_X12_7 rfl (by decide) dX12_trust_1 rfl ?_
  refine lv_bipush (v := 76) hx hb dX12_trust_4 (by decide) (hp_n (n := 6) rfl ?_)
  refine lv_iconst (v := 4) hx hb dX12_trust_6 (by decide) (hp_n (n := 7) rfl ?_)
  refine lv_iload_n hx hb dX12_trust_7 rfl (lv_at hl 1 rfl) (hp_n (n := 8) rfl ?_)
  refine lv_imul hx hb dX12_trust_8 (hp_n (n := 9) rfl ?_)
  refine lv_iadd hx hb dX12_trust_9 (hp_n (n := 10) rfl ?_)
  refine lv_iload_n hx hb dX12_trust_10 rfl (lv_at hl 2 rfl) (hp_n (n := 11) rfl ?_)
  refine lv_iadd hx hb dX12_trust_11 (hp_n (n := 12) rfl ?_)
  obtain ⟨g1, hf⟩ := ms_gE hf
  refine m_ial (κ := 40) (φ := 650) (n := 1980) (pc' := 13) C B hM (by decide) (by decide) rfl g1 dX12_trust_12 rfl ?_
  cases hf
  exact q_iret C B hr hlk ⟨rfl, rfl⟩ dX12_trust_13
def f_X12_trusts (n : Nat) (σ : ms_T) (a1 : Int32) (a2 : Int32) (a3 : Int32) : Option ms_T :=
  ms_g ((76 : Int32) + ((4 : Int32) * a1)) 1980 <|
  ms_l (ms_sE σ 40 (((76 : Int32) + ((4 : Int32) * a1))).toNatClampNeg a2) fun σh2 =>
  ms_g (((76 : Int32) + ((4 : Int32) * a1)) + (1 : Int32)) 1980 <|
  ms_l (ms_sE σh2 40 ((((76 : Int32) + ((4 : Int32) * a1)) + (1 : Int32))).toNatClampNeg a3) fun σh4 =>
  some σh4
set_option maxRecDepth 100000 in
set_option maxHeartbeats 4000000 in
theorem m_X12_trusts (n : Nat) (Γ : hp_G) (l : Launch) (α : hp_T) (a0 : Nat) (ρ : Nat → Nat) (σ : ms_T) (hM : hm_M α a0 ρ σ) (a1 : Int32) (a2 : Int32) (a3 : Int32) (res : ms_T) (hf : f_X12_trusts n σ a1 a2 a3 = some res) : Met l yX12_trusts (hp_ws yX12_trusts cX12_trusts 4 none) (hp_rm 0 0 0) (hp_Pc Γ α [.ref a0, .int a1, .int a2, .int a3]) (hp_Qv Γ (fun β => mo α β ∧ hm_M β a0 ρ res)) 0 0 (hp_A Γ) := by
  unfold f_X12_trusts at hf
  refine hp_start (by decide) ?_
  intro p e s m below meth c C hr hlk B0 hnm
  have C : hp_C Γ p m c cX12_trusts 4 s ([.ref a0, .int a1, .int a2, .int a3] : List Value).toArray RX12 := C
  have hx := C.1.1
  have hb := C.1.2.1
  have hown := C.1.2.2.2.1
  have hts := C.1.2.2.2.2
  have B : hp_B Γ mo s α α s.heap [] := ⟨B0.1, B0.2.1, mo_rf⟩
  have hl := lv_entry ([.ref a0, .int a1, .int a2, .int a3]) (n := 4) (Nat.le_of_ble_eq_true rfl)
  show W p l e (hp_rm 0 0 0) s m ([.ref a0, .int a1, .int a2, .int a3] : List Value).toArray below meth c s.heap [] 0 0 (MQ below (hp_Qv Γ (fun β => mo α β ∧ hm_M β a0 ρ res)) ([.ref a0, .int a1, .int a2, .int a3] : List Value).toArray s 0 0 (hp_A Γ)) (entryFrame m ([.ref a0, .int a1, .int a2, .int a3] : List Value).toArray 4)
  rw [lg_entry_eq]
  generalize (lg_sl ([.ref a0, .int a1, .int a2, .int a3]) ++ List.replicate (4 - (lg_sl ([.ref a0, .int a1, .int a2, .int a3])).length) Slot.unset).toArray = ls at hl ⊢
  have hl : lv_has ls 4 [(0, .ref a0), (1, .int a1), (2, .int a2), (3, .int a3)] := hl
  refine lv_aload_n hx hb dX12_trusts_0 rfl (lv_at hl 0 rfl) (hp_n (n := 1) rfl ?_)
  refine m_getr (κ := 40) (k := 0) (pc' := 4) C B hM fl_X12_7 rfl (by decide) dX12_trusts_1 rfl ?_
  refine lv_bipush (v := 76) hx hb dX12_trusts_4 (by decide) (hp_n (n := 6) rfl ?_)
  refine lv_iconst (v := 4) hx hb dX12_trusts_6 (by decide) (hp_n (n := 7) rfl ?_)
  refine lv_iload_n hx hb dX12_trusts_7 rfl (lv_at hl 1 rfl) (hp_n (n := 8) rfl ?_)
  refine lv_imul hx hb dX12_trusts_8 (hp_n (n := 9) rfl ?_)
  refine lv_iadd hx hb dX12_trusts_9 (hp_n (n := 10) rfl ?_)
  refine lv_iload_n hx hb dX12_trusts_10 rfl (lv_at hl 2 rfl) (hp_n (n := 11) rfl ?_)
  obtain ⟨g1, hf⟩ := ms_gE hf
  refine m_ias (κ := 40) (φ := 650) (n := 1980) (pc' := 12) C B hM (by decide) (by decide) rfl g1 dX12_trusts_11 rfl (fun αh2 Hh2 Lh2 σh2 eh2 Bh2 Mh2 => ?_)
  replace hf := ms_lE eh2 hf
  refine lv_aload_n hx hb dX12_trusts_12 rfl (lv_at hl 0 rfl) (hp_n (n := 13) rfl ?_)
  refine m_getr (κ := 40) (k := 0) (pc' := 16) C Bh2 Mh2 fl_X12_7 rfl (by decide) dX12_trusts_13 rfl ?_
  refine lv_bipush (v := 76) hx hb dX12_trusts_16 (by decide) (hp_n (n := 18) rfl ?_)
  refine lv_iconst (v := 4) hx hb dX12_trusts_18 (by decide) (hp_n (n := 19) rfl ?_)
  refine lv_iload_n hx hb dX12_trusts_19 rfl (lv_at hl 1 rfl) (hp_n (n := 20) rfl ?_)
  refine lv_imul hx hb dX12_trusts_20 (hp_n (n := 21) rfl ?_)
  refine lv_iadd hx hb dX12_trusts_21 (hp_n (n := 22) rfl ?_)
  refine lv_iconst (v := 1) hx hb dX12_trusts_22 (by decide) (hp_n (n := 23) rfl ?_)
  refine lv_iadd hx hb dX12_trusts_23 (hp_n (n := 24) rfl ?_)
  refine lv_iload_n hx hb dX12_trusts_24 rfl (lv_at hl 3 rfl) (hp_n (n := 25) rfl ?_)
  obtain ⟨g3, hf⟩ := ms_gE hf
  refine m_ias (κ := 40) (φ := 650) (n := 1980) (pc' := 26) C Bh2 Mh2 (by decide) (by decide) rfl g3 dX12_trusts_25 rfl (fun αh4 Hh4 Lh4 σh4 eh4 Bh4 Mh4 => ?_)
  replace hf := ms_lE eh4 hf
  cases hf
  exact q_vret C Bh4 hr hlk ⟨Bh4.2.2, Mh4⟩ dX12_trusts_26
def f_X12_shows_J117 (n : Nat) (σh5 : ms_T) (v1_h5 : Int32) (v6_h5 : Int32) : Option (Int32 × ms_T) :=
  ms_l ((((76 : Int32) + ((4 : Int32) * v1_h5)) + (3 : Int32))) fun x6 =>
  ms_g x6 1980 <|
  ms_g x6 1980 <|
  ms_l (ms_sE σh5 40 (x6).toNatClampNeg ((ms_E σh5 40 (x6).toNatClampNeg) + (1 : Int32))) fun σh9 =>
  ms_g (4 : Int32) 1980 <|
  ms_g (4 : Int32) 1980 <|
  ms_l (ms_sE σh9 40 ((4 : Int32)).toNatClampNeg ((ms_E σh9 40 ((4 : Int32)).toNatClampNeg) + (1 : Int32))) fun σh12 =>
  some (v6_h5, σh12)
def f_X12_shows_J92 (n : Nat) (σh4 : ms_T) (v1_h4 : Int32) (v6_h4 : Int32) : Option (Int32 × ms_T) :=
  if v6_h4 ≤ 0 then
    f_X12_shows_J117 n σh4 v1_h4 v6_h4
  else
    if (5 : Int32) ≤ v6_h4 then
      f_X12_shows_J117 n σh4 v1_h4 v6_h4
    else
      ms_g (((76 : Int32) + ((4 : Int32) * v1_h4)) + (2 : Int32)) 1980 <|
      ms_l (ms_sE σh4 40 ((((76 : Int32) + ((4 : Int32) * v1_h4)) + (2 : Int32))).toNatClampNeg (1 : Int32)) fun σh16 =>
      f_X12_shows_J117 n σh16 v1_h4 v6_h4
def f_X12_shows_J71 (n : Nat) (σh3 : ms_T) (v1_h3 : Int32) (v3_h3 : Int32) (v4_h3 : Int32) (v5_h3 : Int32) (w0_h3 : Int32) : Option (Int32 × ms_T) :=
  if w0_h3 = 0 then
    if v3_h3 ≤ v4_h3 then
      f_X12_shows_J92 n σh3 v1_h3 w0_h3
    else
      ms_b (f_X12_trusts n σh3 v1_h3 v3_h3 v5_h3) fun σh19 =>
      f_X12_shows_J92 n σh19 v1_h3 w0_h3
  else
    f_X12_shows_J92 n σh3 v1_h3 w0_h3
def f_X12_shows (n : Nat) (σ : ms_T) (a1 : Int32) (a2 : Int32) (a3 : Int32) : Option (Int32 × ms_T) :=
  ms_b (f_X12_trust n σ a1 (0 : Int32)) fun rh1 =>
  ms_b (f_X12_headOf n σ a2 a3) fun rh2 =>
  if rh1 ≤ a3 then
    ms_b (f_X12_trust n σ a1 (1 : Int32)) fun rh21 =>
    ms_c (f_X12_whyByRecord n σ a2 rh1 rh21 a3 rh2) fun rh22 σh22 =>
    f_X12_shows_J71 n σh22 a1 a3 rh1 rh2 rh22
  else
    ms_b (f_X12_sizeOf n σ a2) fun rh23 =>
    if rh1 ≤ rh23 then
      ms_b (f_X12_trust n σ a1 (1 : Int32)) fun rh25 =>
      ms_c (f_X12_whyByRecord n σ a2 a3 rh2 rh1 rh25) fun rh26 σh26 =>
      f_X12_shows_J71 n σh26 a1 a3 rh1 rh2 rh26
    else
      f_X12_shows_J71 n σ a1 a3 rh1 rh2 (5 : Int32)
set_option maxRecDepth 100000 in
set_option maxHeartbeats 4000000 in
theorem m_X12_shows (n : Nat) (Γ : hp_G) (l : Launch) (α : hp_T) (a0 : Nat) (ρ : Nat → Nat) (σ : ms_T) (hM : hm_M α a0 ρ σ) (a1 : Int32) (a2 : Int32) (a3 : Int32) (res : (Int32 × ms_T)) (hf : f_X12_shows n σ a1 a2 a3 = some res) : Met l yX12_shows (hp_ws yX12_shows cX12_shows 7 (some .int)) (hp_rm 44 0 0) (hp_Pc Γ α [.ref a0, .int a1, .int a2, .int a3]) (hp_Qi Γ (fun r β => r = res.1 ∧ mo α β ∧ hm_M β a0 ρ res.2)) 0 0 (hp_A Γ) := by
  unfold f_X12_shows at hf
  refine hp_start (by decide) ?_
  intro p e s m below meth c C hr hlk B0 hnm
  have C : hp_C Γ p m c cX12_shows 7 s ([.ref a0, .int a1, .int a2, .int a3] : List Value).toArray RX12 := C
  have hx := C.1.1
  have hb := C.1.2.1
  have hown := C.1.2.2.2.1
  have hts := C.1.2.2.2.2
  have B : hp_B Γ mo s α α s.heap [] := ⟨B0.1, B0.2.1, mo_rf⟩
  have hl := lv_entry ([.ref a0, .int a1, .int a2, .int a3]) (n := 7) (Nat.le_of_ble_eq_true rfl)
  show W p l e (hp_rm 44 0 0) s m ([.ref a0, .int a1, .int a2, .int a3] : List Value).toArray below meth c s.heap [] 0 0 (MQ below (hp_Qi Γ (fun r β => r = res.1 ∧ mo α β ∧ hm_M β a0 ρ res.2)) ([.ref a0, .int a1, .int a2, .int a3] : List Value).toArray s 0 0 (hp_A Γ)) (entryFrame m ([.ref a0, .int a1, .int a2, .int a3] : List Value).toArray 7)
  rw [lg_entry_eq]
  generalize (lg_sl ([.ref a0, .int a1, .int a2, .int a3]) ++ List.replicate (7 - (lg_sl ([.ref a0, .int a1, .int a2, .int a3])).length) Slot.unset).toArray = ls at hl ⊢
  have hl : lv_has ls 7 [(0, .ref a0), (1, .int a1), (2, .int a2), (3, .int a3)] := hl
  refine lv_aload_n hx hb dX12_shows_0 rfl (lv_at hl 0 rfl) (hp_n (n := 1) rfl ?_)
  refine lv_iload_n hx hb dX12_shows_1 rfl (lv_at hl 1 rfl) (hp_n (n := 2) rfl ?_)
  refine lv_iconst (v := 0) hx hb dX12_shows_2 (by decide) (hp_n (n := 3) rfl ?_)
  obtain ⟨rh1, qh1, hf⟩ := ms_bE hf
  refine m_cp (pc' := 6) B (hp_runV (As := [.int a1, .int (0 : Int32)]) (rest := []) C B (m_X12_trust n Γ l α a0 ρ σ hM a1 (0 : Int32) rh1 qh1) lb_X12_trust lv_X12_trust lk_X12_221 hM.1 rfl (by decide) rfl hl.1 rfl (Nat.le_of_ble_eq_true rfl) dX12_shows_3 ⟨Nat.le_refl _, Nat.le_refl _⟩) rfl (fun Hh1 Lh1 Bh1 => ?_)
  refine lv_istore (lv' := [(4, .int rh1), (0, .ref a0), (1, .int a1), (2, .int a2), (3, .int a3)]) hx hb dX12_shows_6 hl (by decide) rfl (fun ls hl => hp_n (n := 8) rfl ?_)
  refine lv_aload_n hx hb dX12_shows_8 rfl (lv_at hl 1 rfl) (hp_n (n := 9) rfl ?_)
  refine lv_iload_n hx hb dX12_shows_9 rfl (lv_at hl 3 rfl) (hp_n (n := 10) rfl ?_)
  refine lv_iload_n hx hb dX12_shows_10 rfl (lv_at hl 4 rfl) (hp_n (n := 11) rfl ?_)
  obtain ⟨rh2, qh2, hf⟩ := ms_bE hf
  refine m_cp (pc' := 14) Bh1 (hp_runV (As := [.int a2, .int a3]) (rest := []) C Bh1 (m_X12_headOf n Γ l α a0 ρ σ hM a2 a3 rh2 qh2) lb_X12_headOf lv_X12_headOf lk_X12_215 hM.1 rfl (by decide) rfl hl.1 rfl (Nat.le_of_ble_eq_true rfl) dX12_shows_11 ⟨Nat.le_refl _, Nat.le_refl _⟩) rfl (fun Hh2 Lh2 Bh2 => ?_)
  refine lv_istore (lv' := [(5, .int rh2), (4, .int rh1), (0, .ref a0), (1, .int a1), (2, .int a2), (3, .int a3)]) hx hb dX12_shows_14 hl (by decide) rfl (fun ls hl => hp_n (n := 16) rfl ?_)
  refine lv_iload hx hb dX12_shows_16 (lv_at hl 1 rfl) (hp_n (n := 18) rfl ?_)
  refine lv_iload_n hx hb dX12_shows_18 rfl (lv_at hl 5 rfl) (hp_n (n := 19) rfl ?_)
  have J71 : ∀ (αh3 : hp_T) (Hh3 : Heap) (Lh3 : List Loc) (Bh3 : hp_B Γ mo s α αh3 Hh3 Lh3) (σh3 : ms_T) (Mh3 : hm_M αh3 a0 ρ σh3) (v1_h3 : Int32) (v3_h3 : Int32) (v4_h3 : Int32) (v5_h3 : Int32) (w0_h3 : Int32) (ls : Array Slot) (hl : lv_has ls 7 [(0, .ref a0), (1, .int v1_h3), (3, .int v3_h3), (4, .int v4_h3), (5, .int v5_h3)]) (hf : f_X12_shows_J71 n σh3 v1_h3 v3_h3 v4_h3 v5_h3 w0_h3 = some res), W p l e (hp_rm 44 0 0) s m ([.ref a0, .int a1, .int a2, .int a3] : List Value).toArray below meth c Hh3 Lh3 0 0 (MQ below (hp_Qi Γ (fun r β => r = res.1 ∧ mo α β ∧ hm_M β a0 ρ res.2)) ([.ref a0, .int a1, .int a2, .int a3] : List Value).toArray s 0 0 (hp_A Γ)) (F0 m 71 ls [.int w0_h3]) := by
    intro αh3 Hh3 Lh3 Bh3 σh3 Mh3 v1_h3 v3_h3 v4_h3 v5_h3 w0_h3 ls hl hf
    unfold f_X12_shows_J71 at hf
    refine lv_istore (lv' := [(6, .int w0_h3), (0, .ref a0), (1, .int v1_h3), (3, .int v3_h3), (4, .int v4_h3), (5, .int v5_h3)]) hx hb dX12_shows_71 hl (by decide) rfl (fun ls hl => hp_n (n := 73) rfl ?_)
    refine lv_iload hx hb dX12_shows_73 (lv_at hl 0 rfl) (hp_n (n := 75) rfl ?_)
    have J92 : ∀ (αh4 : hp_T) (Hh4 : Heap) (Lh4 : List Loc) (Bh4 : hp_B Γ mo s α αh4 Hh4 Lh4) (σh4 : ms_T) (Mh4 : hm_M αh4 a0 ρ σh4) (v1_h4 : Int32) (v6_h4 : Int32) (ls : Array Slot) (hl : lv_has ls 7 [(0, .ref a0), (1, .int v1_h4), (6, .int v6_h4)]) (hf : f_X12_shows_J92 n σh4 v1_h4 v6_h4 = some res), W p l e (hp_rm 44 0 0) s m ([.ref a0, .int a1, .int a2, .int a3] : List Value).toArray below meth c Hh4 Lh4 0 0 (MQ below (hp_Qi Γ (fun r β => r = res.1 ∧ mo α β ∧ hm_M β a0 ρ res.2)) ([.ref a0, .int a1, .int a2, .int a3] : List Value).toArray s 0 0 (hp_A Γ)) (F0 m 92 ls []) := by
      intro αh4 Hh4 Lh4 Bh4 σh4 Mh4 v1_h4 v6_h4 ls hl hf
      unfold f_X12_shows_J92 at hf
      refine lv_iload hx hb dX12_shows_92 (lv_at hl 2 rfl) (hp_n (n := 94) rfl ?_)
      have J117 : ∀ (αh5 : hp_T) (Hh5 : Heap) (Lh5 : List Loc) (Bh5 : hp_B Γ mo s α αh5 Hh5 Lh5) (σh5 : ms_T) (Mh5 : hm_M αh5 a0 ρ σh5) (v1_h5 : Int32) (v6_h5 : Int32) (ls : Array Slot) (hl : lv_has ls 7 [(0, .ref a0), (1, .int v1_h5), (6, .int v6_h5)]) (hf : f_X12_shows_J117 n σh5 v1_h5 v6_h5 = some res), W p l e (hp_rm 44 0 0) s m ([.ref a0, .int a1, .int a2, .int a3] : List Value).toArray below meth c Hh5 Lh5 0 0 (MQ below (hp_Qi Γ (fun r β => r = res.1 ∧ mo α β ∧ hm_M β a0 ρ res.2)) ([.ref a0, .int a1, .int a2, .int a3] : List Value).toArray s 0 0 (hp_A Γ)) (F0 m 117 ls []) := by
        intro αh5 Hh5 Lh5 Bh5 σh5 Mh5 v1_h5 v6_h5 ls hl hf
        unfold f_X12_shows_J117 at hf
        refine lv_aload_n hx hb dX12_shows_117 rfl (lv_at hl 0 rfl) (hp_n (n := 118) rfl ?_)
        refine m_getr (κ := 40) (k := 0) (pc' := 121) C Bh5 Mh5 fl_X12_7 rfl (by decide) dX12_shows_118 rfl ?_
        refine lv_bipush (v := 76) hx hb dX12_shows_121 (by decide) (hp_n (n := 123) rfl ?_)
        refine lv_iconst (v := 4) hx hb dX12_shows_123 (by decide) (hp_n (n := 124) rfl ?_)
        refine lv_iload_n hx hb dX12_shows_124 rfl (lv_at hl 1 rfl) (hp_n (n := 125) rfl ?_)
        refine lv_imul hx hb dX12_shows_125 (hp_n (n := 126) rfl ?_)
        refine lv_iadd hx hb dX12_shows_126 (hp_n (n := 127) rfl ?_)
        refine lv_iconst (v := 3) hx hb dX12_shows_127 (by decide) (hp_n (n := 128) rfl ?_)
        refine lv_iadd hx hb dX12_shows_128 (hp_n (n := 129) rfl ?_)
        refine lv_topi (fun x6 ex6 => ?_)
        replace hf := ms_lE ex6 hf
        refine lv_dup2_11 hx hb dX12_shows_129 rfl rfl (hp_n (n := 130) rfl ?_)
        obtain ⟨g7, hf⟩ := ms_gE hf
        refine m_ial (κ := 40) (φ := 650) (n := 1980) (pc' := 131) C Bh5 Mh5 (by decide) (by decide) rfl g7 dX12_shows_130 rfl ?_
        refine lv_iconst (v := 1) hx hb dX12_shows_131 (by decide) (hp_n (n := 132) rfl ?_)
        refine lv_iadd hx hb dX12_shows_132 (hp_n (n := 133) rfl ?_)
        obtain ⟨g8, hf⟩ := ms_gE hf
        refine m_ias (κ := 40) (φ := 650) (n := 1980) (pc' := 134) C Bh5 Mh5 (by decide) (by decide) rfl g8 dX12_shows_133 rfl (fun αh9 Hh9 Lh9 σh9 eh9 Bh9 Mh9 => ?_)
        replace hf := ms_lE eh9 hf
        refine lv_aload_n hx hb dX12_shows_134 rfl (lv_at hl 0 rfl) (hp_n (n := 135) rfl ?_)
        refine m_getr (κ := 40) (k := 0) (pc' := 138) C Bh9 Mh9 fl_X12_7 rfl (by decide) dX12_shows_135 rfl ?_
        refine lv_iconst (v := 4) hx hb dX12_shows_138 (by decide) (hp_n (n := 139) rfl ?_)
        refine lv_dup2_11 hx hb dX12_shows_139 rfl rfl (hp_n (n := 140) rfl ?_)
        obtain ⟨g10, hf⟩ := ms_gE hf
        refine m_ial (κ := 40) (φ := 650) (n := 1980) (pc' := 141) C Bh9 Mh9 (by decide) (by decide) rfl g10 dX12_shows_140 rfl ?_
        refine lv_iconst (v := 1) hx hb dX12_shows_141 (by decide) (hp_n (n := 142) rfl ?_)
        refine lv_iadd hx hb dX12_shows_142 (hp_n (n := 143) rfl ?_)
        obtain ⟨g11, hf⟩ := ms_gE hf
        refine m_ias (κ := 40) (φ := 650) (n := 1980) (pc' := 144) C Bh9 Mh9 (by decide) (by decide) rfl g11 dX12_shows_143 rfl (fun αh12 Hh12 Lh12 σh12 eh12 Bh12 Mh12 => ?_)
        replace hf := ms_lE eh12 hf
        refine lv_iload hx hb dX12_shows_144 (lv_at hl 2 rfl) (hp_n (n := 146) rfl ?_)
        cases hf
        exact q_iret C Bh12 hr hlk ⟨rfl, Bh12.2.2, Mh12⟩ dX12_shows_146
      refine lv_if_le (tgt := 117) hx hb dX12_shows_94 (by decide) (fun c13 => ?_) (fun c13 => hp_n (n := 97) rfl ?_)
      ·
        replace hf := ms_iT c13 hf
        exact J117 αh4 Hh4 Lh4 Bh4 σh4 Mh4 v1_h4 v6_h4 ls (lv_sub hl [0, 1, 2] rfl) hf
      ·
        replace hf := ms_iF c13 hf
        refine lv_iload hx hb dX12_shows_97 (lv_at hl 2 rfl) (hp_n (n := 99) rfl ?_)
        refine lv_iconst (v := 5) hx hb dX12_shows_99 (by decide) (hp_n (n := 100) rfl ?_)
        refine lv_icmp_ge (tgt := 117) hx hb dX12_shows_100 (by decide) (fun c14 => ?_) (fun c14 => hp_n (n := 103) rfl ?_)
        ·
          replace hf := ms_iT c14 hf
          exact J117 αh4 Hh4 Lh4 Bh4 σh4 Mh4 v1_h4 v6_h4 ls (lv_sub hl [0, 1, 2] rfl) hf
        ·
          replace hf := ms_iF c14 hf
          refine lv_aload_n hx hb dX12_shows_103 rfl (lv_at hl 0 rfl) (hp_n (n := 104) rfl ?_)
          refine m_getr (κ := 40) (k := 0) (pc' := 107) C Bh4 Mh4 fl_X12_7 rfl (by decide) dX12_shows_104 rfl ?_
          refine lv_bipush (v := 76) hx hb dX12_shows_107 (by decide) (hp_n (n := 109) rfl ?_)
          refine lv_iconst (v := 4) hx hb dX12_shows_109 (by decide) (hp_n (n := 110) rfl ?_)
          refine lv_iload_n hx hb dX12_shows_110 rfl (lv_at hl 1 rfl) (hp_n (n := 111) rfl ?_)
          refine lv_imul hx hb dX12_shows_111 (hp_n (n := 112) rfl ?_)
          refine lv_iadd hx hb dX12_shows_112 (hp_n (n := 113) rfl ?_)
          refine lv_iconst (v := 2) hx hb dX12_shows_113 (by decide) (hp_n (n := 114) rfl ?_)
          refine lv_iadd hx hb dX12_shows_114 (hp_n (n := 115) rfl ?_)
          refine lv_iconst (v := 1) hx hb dX12_shows_115 (by decide) (hp_n (n := 116) rfl ?_)
          obtain ⟨g15, hf⟩ := ms_gE hf
          refine m_ias (κ := 40) (φ := 650) (n := 1980) (pc' := 117) C Bh4 Mh4 (by decide) (by decide) rfl g15 dX12_shows_116 rfl (fun αh16 Hh16 Lh16 σh16 eh16 Bh16 Mh16 => ?_)
          replace hf := ms_lE eh16 hf
          exact J117 αh16 Hh16 Lh16 Bh16 σh16 Mh16 v1_h4 v6_h4 ls (lv_sub hl [0, 1, 2] rfl) hf
    refine lv_if_ne (tgt := 92) hx hb dX12_shows_75 (by decide) (fun c17 => ?_) (fun c17 => hp_n (n := 78) rfl ?_)
    ·
      replace hf := ms_iF c17 hf
      exact J92 αh3 Hh3 Lh3 Bh3 σh3 Mh3 v1_h3 w0_h3 ls (lv_sub hl [1, 2, 0] rfl) hf
    ·
      replace hf := ms_iT c17 hf
      refine lv_iload_n hx hb dX12_shows_78 rfl (lv_at hl 3 rfl) (hp_n (n := 79) rfl ?_)
      refine lv_iload hx hb dX12_shows_79 (lv_at hl 4 rfl) (hp_n (n := 81) rfl ?_)
      refine lv_icmp_le (tgt := 92) hx hb dX12_shows_81 (by decide) (fun c18 => ?_) (fun c18 => hp_n (n := 84) rfl ?_)
      ·
        replace hf := ms_iT c18 hf
        exact J92 αh3 Hh3 Lh3 Bh3 σh3 Mh3 v1_h3 w0_h3 ls (lv_sub hl [1, 2, 0] rfl) hf
      ·
        replace hf := ms_iF c18 hf
        refine lv_aload_n hx hb dX12_shows_84 rfl (lv_at hl 1 rfl) (hp_n (n := 85) rfl ?_)
        refine lv_iload_n hx hb dX12_shows_85 rfl (lv_at hl 2 rfl) (hp_n (n := 86) rfl ?_)
        refine lv_iload_n hx hb dX12_shows_86 rfl (lv_at hl 3 rfl) (hp_n (n := 87) rfl ?_)
        refine lv_iload hx hb dX12_shows_87 (lv_at hl 5 rfl) (hp_n (n := 89) rfl ?_)
        obtain ⟨σh19, qh19, hf⟩ := ms_bE hf
        refine m_cv (pc' := 92) (a := a0) (ρ := ρ) Bh3 (hp_runV (As := [.int v1_h3, .int v3_h3, .int v5_h3]) (rest := []) C Bh3 (m_X12_trusts n Γ l αh3 a0 ρ σh3 Mh3 v1_h3 v3_h3 v5_h3 σh19 qh19) lb_X12_trusts lv_X12_trusts lk_X12_227 Mh3.1 rfl (by decide) rfl hl.1 rfl (Nat.le_of_ble_eq_true rfl) dX12_shows_89 ⟨Nat.le_refl _, Nat.le_refl _⟩) rfl (fun αh19 Hh19 Lh19 Bh19 Mh19 => ?_)
        exact J92 αh19 Hh19 Lh19 Bh19 σh19 Mh19 v1_h3 w0_h3 ls (lv_sub hl [1, 2, 0] rfl) hf
  refine lv_icmp_le (tgt := 55) hx hb dX12_shows_19 (by decide) (fun c20 => ?_) (fun c20 => hp_n (n := 22) rfl ?_)
  ·
    replace hf := ms_iT c20 hf
    refine lv_aload_n hx hb dX12_shows_55 rfl (lv_at hl 2 rfl) (hp_n (n := 56) rfl ?_)
    refine lv_iload_n hx hb dX12_shows_56 rfl (lv_at hl 4 rfl) (hp_n (n := 57) rfl ?_)
    refine lv_iload hx hb dX12_shows_57 (lv_at hl 1 rfl) (hp_n (n := 59) rfl ?_)
    refine lv_aload_n hx hb dX12_shows_59 rfl (lv_at hl 2 rfl) (hp_n (n := 60) rfl ?_)
    refine lv_iload_n hx hb dX12_shows_60 rfl (lv_at hl 3 rfl) (hp_n (n := 61) rfl ?_)
    refine lv_iconst (v := 1) hx hb dX12_shows_61 (by decide) (hp_n (n := 62) rfl ?_)
    obtain ⟨rh21, qh21, hf⟩ := ms_bE hf
    refine m_cp (pc' := 65) Bh2 (hp_runV (As := [.int a1, .int (1 : Int32)]) (rest := [.int rh1, .int a2, .ref a0]) C Bh2 (m_X12_trust n Γ l α a0 ρ σ hM a1 (1 : Int32) rh21 qh21) lb_X12_trust lv_X12_trust lk_X12_221 hM.1 rfl (by decide) rfl hl.1 rfl (Nat.le_of_ble_eq_true rfl) dX12_shows_62 ⟨Nat.le_refl _, Nat.le_refl _⟩) rfl (fun Hh21 Lh21 Bh21 => ?_)
    refine lv_iload_n hx hb dX12_shows_65 rfl (lv_at hl 5 rfl) (hp_n (n := 66) rfl ?_)
    refine lv_iload hx hb dX12_shows_66 (lv_at hl 0 rfl) (hp_n (n := 68) rfl ?_)
    obtain ⟨rh22, σh22, qh22, hf⟩ := ms_cE hf
    refine m_ci (pc' := 71) (a := a0) (ρ := ρ) Bh21 (hp_runV (As := [.int a2, .int rh1, .int rh21, .int a3, .int rh2]) (rest := []) C Bh21 (m_X12_whyByRecord n Γ l α a0 ρ σ hM a2 rh1 rh21 a3 rh2 (rh22, σh22) qh22) lb_X12_whyByRecord lv_X12_whyByRecord lk_X12_224 hM.1 rfl (by decide) rfl hl.1 rfl (Nat.le_of_ble_eq_true rfl) dX12_shows_68 ⟨Nat.le_refl _, Nat.le_refl _⟩) rfl (fun αh22 Hh22 Lh22 Bh22 Mh22 => ?_)
    exact J71 αh22 Hh22 Lh22 Bh22 σh22 Mh22 a1 a3 rh1 rh2 rh22 ls (lv_sub hl [2, 3, 5, 1, 0] rfl) hf
  ·
    replace hf := ms_iF c20 hf
    refine lv_aload_n hx hb dX12_shows_22 rfl (lv_at hl 2 rfl) (hp_n (n := 23) rfl ?_)
    refine lv_iload_n hx hb dX12_shows_23 rfl (lv_at hl 4 rfl) (hp_n (n := 24) rfl ?_)
    obtain ⟨rh23, qh23, hf⟩ := ms_bE hf
    refine m_cp (pc' := 27) Bh2 (hp_runV (As := [.int a2]) (rest := []) C Bh2 (m_X12_sizeOf n Γ l α a0 ρ σ hM a2 rh23 qh23) lb_X12_sizeOf lv_X12_sizeOf lk_X12_209 hM.1 rfl (by decide) rfl hl.1 rfl (Nat.le_of_ble_eq_true rfl) dX12_shows_24 ⟨Nat.le_refl _, Nat.le_refl _⟩) rfl (fun Hh23 Lh23 Bh23 => ?_)
    refine lv_iload hx hb dX12_shows_27 (lv_at hl 1 rfl) (hp_n (n := 29) rfl ?_)
    refine lv_icmp_ge (tgt := 36) hx hb dX12_shows_29 (by decide) (fun c24 => ?_) (fun c24 => hp_n (n := 32) rfl ?_)
    ·
      replace hf := ms_iT c24 hf
      refine lv_aload_n hx hb dX12_shows_36 rfl (lv_at hl 2 rfl) (hp_n (n := 37) rfl ?_)
      refine lv_iload_n hx hb dX12_shows_37 rfl (lv_at hl 4 rfl) (hp_n (n := 38) rfl ?_)
      refine lv_iload_n hx hb dX12_shows_38 rfl (lv_at hl 5 rfl) (hp_n (n := 39) rfl ?_)
      refine lv_iload hx hb dX12_shows_39 (lv_at hl 0 rfl) (hp_n (n := 41) rfl ?_)
      refine lv_iload hx hb dX12_shows_41 (lv_at hl 1 rfl) (hp_n (n := 43) rfl ?_)
      refine lv_aload_n hx hb dX12_shows_43 rfl (lv_at hl 2 rfl) (hp_n (n := 44) rfl ?_)
      refine lv_iload_n hx hb dX12_shows_44 rfl (lv_at hl 3 rfl) (hp_n (n := 45) rfl ?_)
      refine lv_iconst (v := 1) hx hb dX12_shows_45 (by decide) (hp_n (n := 46) rfl ?_)
      obtain ⟨rh25, qh25, hf⟩ := ms_bE hf
      refine m_cp (pc' := 49) Bh23 (hp_runV (As := [.int a1, .int (1 : Int32)]) (rest := [.int rh1, .int rh2, .int a3, .int a2, .ref a0]) C Bh23 (m_X12_trust n Γ l α a0 ρ σ hM a1 (1 : Int32) rh25 qh25) lb_X12_trust lv_X12_trust lk_X12_221 hM.1 rfl (by decide) rfl hl.1 rfl (Nat.le_of_ble_eq_true rfl) dX12_shows_46 ⟨Nat.le_refl _, Nat.le_refl _⟩) rfl (fun Hh25 Lh25 Bh25 => ?_)
      obtain ⟨rh26, σh26, qh26, hf⟩ := ms_cE hf
      refine m_ci (pc' := 52) (a := a0) (ρ := ρ) Bh25 (hp_runV (As := [.int a2, .int a3, .int rh2, .int rh1, .int rh25]) (rest := []) C Bh25 (m_X12_whyByRecord n Γ l α a0 ρ σ hM a2 a3 rh2 rh1 rh25 (rh26, σh26) qh26) lb_X12_whyByRecord lv_X12_whyByRecord lk_X12_224 hM.1 rfl (by decide) rfl hl.1 rfl (Nat.le_of_ble_eq_true rfl) dX12_shows_49 ⟨Nat.le_refl _, Nat.le_refl _⟩) rfl (fun αh26 Hh26 Lh26 Bh26 Mh26 => ?_)
      refine lv_goto (tgt := 71) hx hb dX12_shows_52 (by decide) ?_
      exact J71 αh26 Hh26 Lh26 Bh26 σh26 Mh26 a1 a3 rh1 rh2 rh26 ls (lv_sub hl [2, 3, 5, 1, 0] rfl) hf
    ·
      replace hf := ms_iF c24 hf
      refine lv_iconst (v := 5) hx hb dX12_shows_32 (by decide) (hp_n (n := 33) rfl ?_)
      refine lv_goto (tgt := 71) hx hb dX12_shows_33 (by decide) ?_
      exact J71 α Hh23 Lh23 Bh23 σ hM a1 a3 rh1 rh2 (5 : Int32) ls (lv_sub hl [2, 3, 5, 1, 0] rfl) hf
def f_X12_puts_L3 (n : Nat) : Nat → ms_T → Int32 → Int32 → Option ms_T
  | 0, _, _, _ => none
  | k3 + 1, σh1, v1_h1, v2_h1 =>
    if v2_h1 < 0 then
      some σh1
    else
      ms_g (ms_I σh1 667) 900 <|
      ms_l (ms_sE σh1 47 ((ms_I σh1 667)).toNatClampNeg (((v1_h1 >>> (v2_h1 &&& 31))).toInt8.toInt32).toInt8.toInt32) fun σh4 =>
      ms_l (ms_sI σh4 667 ((ms_I σh4 667) + (1 : Int32))) fun σh5 =>
      ms_l (v2_h1 + (-8)) fun x6 =>
      (f_X12_puts_L3 n k3) σh5 v1_h1 x6
def f_X12_puts (n : Nat) (σ : ms_T) (a1 : Int32) : Option ms_T :=
  f_X12_puts_L3 n n σ a1 (24 : Int32)
set_option maxRecDepth 100000 in
set_option maxHeartbeats 4000000 in
theorem m_X12_puts (n : Nat) (Γ : hp_G) (l : Launch) (α : hp_T) (a0 : Nat) (ρ : Nat → Nat) (σ : ms_T) (hM : hm_M α a0 ρ σ) (a1 : Int32) (res : ms_T) (hf : f_X12_puts n σ a1 = some res) : Met l yX12_puts (hp_ws yX12_puts cX12_puts 3 none) (hp_rm 0 0 0) (hp_Pc Γ α [.ref a0, .int a1]) (hp_Qv Γ (fun β => mo α β ∧ hm_M β a0 ρ res)) 0 0 (hp_A Γ) := by
  unfold f_X12_puts at hf
  refine hp_start (by decide) ?_
  intro p e s m below meth c C hr hlk B0 hnm
  have C : hp_C Γ p m c cX12_puts 3 s ([.ref a0, .int a1] : List Value).toArray RX12 := C
  have hx := C.1.1
  have hb := C.1.2.1
  have hown := C.1.2.2.2.1
  have hts := C.1.2.2.2.2
  have B : hp_B Γ mo s α α s.heap [] := ⟨B0.1, B0.2.1, mo_rf⟩
  have hl := lv_entry ([.ref a0, .int a1]) (n := 3) (Nat.le_of_ble_eq_true rfl)
  show W p l e (hp_rm 0 0 0) s m ([.ref a0, .int a1] : List Value).toArray below meth c s.heap [] 0 0 (MQ below (hp_Qv Γ (fun β => mo α β ∧ hm_M β a0 ρ res)) ([.ref a0, .int a1] : List Value).toArray s 0 0 (hp_A Γ)) (entryFrame m ([.ref a0, .int a1] : List Value).toArray 3)
  rw [lg_entry_eq]
  generalize (lg_sl ([.ref a0, .int a1]) ++ List.replicate (3 - (lg_sl ([.ref a0, .int a1])).length) Slot.unset).toArray = ls at hl ⊢
  have hl : lv_has ls 3 [(0, .ref a0), (1, .int a1)] := hl
  refine lv_bipush (v := 24) hx hb dX12_puts_0 (by decide) (hp_n (n := 2) rfl ?_)
  have J3 : ∀ (k3 : Nat) (αh1 : hp_T) (Hh1 : Heap) (Lh1 : List Loc) (Bh1 : hp_B Γ mo s α αh1 Hh1 Lh1) (σh1 : ms_T) (Mh1 : hm_M αh1 a0 ρ σh1) (v1_h1 : Int32) (v2_h1 : Int32) (ls : Array Slot) (hl : lv_has ls 3 [(0, .ref a0), (1, .int v1_h1), (2, .int v2_h1)]) (hf : f_X12_puts_L3 n k3 σh1 v1_h1 v2_h1 = some res), W p l e (hp_rm 0 0 0) s m ([.ref a0, .int a1] : List Value).toArray below meth c Hh1 Lh1 0 0 (MQ below (hp_Qv Γ (fun β => mo α β ∧ hm_M β a0 ρ res)) ([.ref a0, .int a1] : List Value).toArray s 0 0 (hp_A Γ)) (F0 m 3 ls []) := by
    intro k3
    induction k3 with
    | zero => intro αh1 Hh1 Lh1 Bh1 σh1 Mh1 v1_h1 v2_h1 ls hl hf; rw [f_X12_puts_L3.eq_1] at hf; cases hf
    | succ k3 ih3 =>
      intro αh1 Hh1 Lh1 Bh1 σh1 Mh1 v1_h1 v2_h1 ls hl hf
      rw [f_X12_puts_L3.eq_2] at hf
      refine lv_iload_n hx hb dX12_puts_3 rfl (lv_at hl 2 rfl) (hp_n (n := 4) rfl ?_)
      refine lv_if_lt (tgt := 36) hx hb dX12_puts_4 (by decide) (fun c2 => ?_) (fun c2 => hp_n (n := 7) rfl ?_)
      ·
        replace hf := ms_iT c2 hf
        cases hf
        exact q_vret C Bh1 hr hlk ⟨Bh1.2.2, Mh1⟩ dX12_puts_36
      ·
        replace hf := ms_iF c2 hf
        refine lv_aload_n hx hb dX12_puts_7 rfl (lv_at hl 0 rfl) (hp_n (n := 8) rfl ?_)
        refine m_getr (κ := 47) (k := 16) (pc' := 11) C Bh1 Mh1 fl_X12_31 rfl (by decide) dX12_puts_8 rfl ?_
        refine lv_aload_n hx hb dX12_puts_11 rfl (lv_at hl 0 rfl) (hp_n (n := 12) rfl ?_)
        refine m_geti (k := 17) (φ := 667) (pc' := 15) C Bh1 Mh1 fl_X12_230 rfl rfl dX12_puts_12 rfl ?_
        refine lv_iload_n hx hb dX12_puts_15 rfl (lv_at hl 1 rfl) (hp_n (n := 16) rfl ?_)
        refine lv_iload_n hx hb dX12_puts_16 rfl (lv_at hl 2 rfl) (hp_n (n := 17) rfl ?_)
        refine lv_ishr hx hb dX12_puts_17 (hp_n (n := 18) rfl ?_)
        refine lv_i2b hx hb dX12_puts_18 rfl (hp_n (n := 19) rfl ?_)
        obtain ⟨g3, hf⟩ := ms_gE hf
        refine m_bas (κ := 47) (φ := 666) (n := 900) (pc' := 20) C Bh1 Mh1 (by decide) (by decide) rfl g3 dX12_puts_19 rfl (fun αh4 Hh4 Lh4 σh4 eh4 Bh4 Mh4 => ?_)
        replace hf := ms_lE eh4 hf
        refine lv_aload_n hx hb dX12_puts_20 rfl (lv_at hl 0 rfl) (hp_n (n := 21) rfl ?_)
        refine lv_dup hx hb dX12_puts_21 rfl (hp_n (n := 22) rfl ?_)
        refine m_geti (k := 17) (φ := 667) (pc' := 25) C Bh4 Mh4 fl_X12_230 rfl rfl dX12_puts_22 rfl ?_
        refine lv_iconst (v := 1) hx hb dX12_puts_25 (by decide) (hp_n (n := 26) rfl ?_)
        refine lv_iadd hx hb dX12_puts_26 (hp_n (n := 27) rfl ?_)
        refine m_puti (k := 17) (φ := 667) (pc' := 30) C Bh4 Mh4 fl_X12_230 rfl rfl rfl rfl rfl dX12_puts_27 rfl (fun αh5 Hh5 Lh5 σh5 eh5 Bh5 Mh5 => ?_)
        replace hf := ms_lE eh5 hf
        obtain ⟨x6, ex6⟩ : ∃ y : Int32, y = v2_h1 + (-8) := ⟨_, rfl⟩
        replace hf := ms_lE ex6 hf
        refine lv_iinc (v := x6) (lv' := [(2, .int x6), (0, .ref a0), (1, .int v1_h1)]) hx hb dX12_puts_30 hl (k := 2) rfl (by rw [ex6]; rfl) (by decide) rfl (fun ls hl => hp_n (n := 33) rfl ?_)
        refine lv_goto (tgt := 3) hx hb dX12_puts_33 (by decide) ?_
        exact ih3 αh5 Hh5 Lh5 Bh5 σh5 Mh5 v1_h1 x6 ls (lv_sub hl [1, 2, 0] rfl) hf
  refine lv_istore_n (lv' := [(2, .int (24 : Int32)), (0, .ref a0), (1, .int a1)]) hx hb dX12_puts_2 rfl hl (by decide) rfl (fun ls hl => hp_n (n := 3) rfl ?_)
  exact J3 n α s.heap [] B σ hM a1 (24 : Int32) ls (lv_sub hl [1, 2, 0] rfl) hf
def f_X12_feed (n : Nat) (σ : ms_T) (a1 : Int32) (a2 : Int32) (a3 : Int32) (a4 : Int32) (a5 : Int32) : Option (Int32 × ms_T) :=
  ms_l (ms_sI σ 653 (0 : Int32)) fun σh1 =>
  if ((ms_I σh1 667) + (20 : Int32)) ≤ (900 : Int32) then
    ms_b (f_X12_puts n σh1 a1) fun σh3 =>
    ms_b (f_X12_puts n σh3 a2) fun σh4 =>
    ms_b (f_X12_puts n σh4 a3) fun σh5 =>
    ms_b (f_X12_puts n σh5 a4) fun σh6 =>
    ms_b (f_X12_puts n σh6 a5) fun σh7 =>
    some ((ms_I σh7 667), σh7)
  else
    some ((-1 : Int32), σh1)
set_option maxRecDepth 100000 in
set_option maxHeartbeats 4000000 in
theorem m_X12_feed (n : Nat) (Γ : hp_G) (l : Launch) (α : hp_T) (a0 : Nat) (ρ : Nat → Nat) (σ : ms_T) (hM : hm_M α a0 ρ σ) (a1 : Int32) (a2 : Int32) (a3 : Int32) (a4 : Int32) (a5 : Int32) (res : (Int32 × ms_T)) (hf : f_X12_feed n σ a1 a2 a3 a4 a5 = some res) : Met l yX12_feed (hp_ws yX12_feed cX12_feed 6 (some .int)) (hp_rm 1 0 0) (hp_Pc Γ α [.ref a0, .int a1, .int a2, .int a3, .int a4, .int a5]) (hp_Qi Γ (fun r β => r = res.1 ∧ mo α β ∧ hm_M β a0 ρ res.2)) 0 0 (hp_A Γ) := by
  unfold f_X12_feed at hf
  refine hp_start (by decide) ?_
  intro p e s m below meth c C hr hlk B0 hnm
  have C : hp_C Γ p m c cX12_feed 6 s ([.ref a0, .int a1, .int a2, .int a3, .int a4, .int a5] : List Value).toArray RX12 := C
  have hx := C.1.1
  have hb := C.1.2.1
  have hown := C.1.2.2.2.1
  have hts := C.1.2.2.2.2
  have B : hp_B Γ mo s α α s.heap [] := ⟨B0.1, B0.2.1, mo_rf⟩
  have hl := lv_entry ([.ref a0, .int a1, .int a2, .int a3, .int a4, .int a5]) (n := 6) (Nat.le_of_ble_eq_true rfl)
  show W p l e (hp_rm 1 0 0) s m ([.ref a0, .int a1, .int a2, .int a3, .int a4, .int a5] : List Value).toArray below meth c s.heap [] 0 0 (MQ below (hp_Qi Γ (fun r β => r = res.1 ∧ mo α β ∧ hm_M β a0 ρ res.2)) ([.ref a0, .int a1, .int a2, .int a3, .int a4, .int a5] : List Value).toArray s 0 0 (hp_A Γ)) (entryFrame m ([.ref a0, .int a1, .int a2, .int a3, .int a4, .int a5] : List Value).toArray 6)
  rw [lg_entry_eq]
  generalize (lg_sl ([.ref a0, .int a1, .int a2, .int a3, .int a4, .int a5]) ++ List.replicate (6 - (lg_sl ([.ref a0, .int a1, .int a2, .int a3, .int a4, .int a5])).length) Slot.unset).toArray = ls at hl ⊢
  have hl : lv_has ls 6 [(0, .ref a0), (1, .int a1), (2, .int a2), (3, .int a3), (4, .int a4), (5, .int a5)] := hl
  refine lv_aload_n hx hb dX12_feed_0 rfl (lv_at hl 0 rfl) (hp_n (n := 1) rfl ?_)
  refine lv_iconst (v := 0) hx hb dX12_feed_1 (by decide) (hp_n (n := 2) rfl ?_)
  refine m_puti (k := 3) (φ := 653) (pc' := 5) C B hM fl_X12_106 rfl rfl rfl rfl rfl dX12_feed_2 rfl (fun αh1 Hh1 Lh1 σh1 eh1 Bh1 Mh1 => ?_)
  replace hf := ms_lE eh1 hf
  refine lv_aload_n hx hb dX12_feed_5 rfl (lv_at hl 0 rfl) (hp_n (n := 6) rfl ?_)
  refine m_geti (k := 17) (φ := 667) (pc' := 9) C Bh1 Mh1 fl_X12_230 rfl rfl dX12_feed_6 rfl ?_
  refine lv_bipush (v := 20) hx hb dX12_feed_9 (by decide) (hp_n (n := 11) rfl ?_)
  refine lv_iadd hx hb dX12_feed_11 (hp_n (n := 12) rfl ?_)
  refine lv_sipush (v := 900) hx hb dX12_feed_12 (by decide) (hp_n (n := 15) rfl ?_)
  refine lv_icmp_le (tgt := 20) hx hb dX12_feed_15 (by decide) (fun c2 => ?_) (fun c2 => hp_n (n := 18) rfl ?_)
  ·
    replace hf := ms_iT c2 hf
    refine lv_aload_n hx hb dX12_feed_20 rfl (lv_at hl 0 rfl) (hp_n (n := 21) rfl ?_)
    refine lv_iload_n hx hb dX12_feed_21 rfl (lv_at hl 1 rfl) (hp_n (n := 22) rfl ?_)
    obtain ⟨σh3, qh3, hf⟩ := ms_bE hf
    refine m_cv (pc' := 25) (a := a0) (ρ := ρ) Bh1 (hp_runV (As := [.int a1]) (rest := []) C Bh1 (m_X12_puts n Γ l αh1 a0 ρ σh1 Mh1 a1 σh3 qh3) lb_X12_puts lv_X12_puts lk_X12_233 Mh1.1 rfl (by decide) rfl hl.1 rfl (Nat.le_of_ble_eq_true rfl) dX12_feed_22 ⟨Nat.le_refl _, Nat.le_refl _⟩) rfl (fun αh3 Hh3 Lh3 Bh3 Mh3 => ?_)
    refine lv_aload_n hx hb dX12_feed_25 rfl (lv_at hl 0 rfl) (hp_n (n := 26) rfl ?_)
    refine lv_iload_n hx hb dX12_feed_26 rfl (lv_at hl 2 rfl) (hp_n (n := 27) rfl ?_)
    obtain ⟨σh4, qh4, hf⟩ := ms_bE hf
    refine m_cv (pc' := 30) (a := a0) (ρ := ρ) Bh3 (hp_runV (As := [.int a2]) (rest := []) C Bh3 (m_X12_puts n Γ l αh3 a0 ρ σh3 Mh3 a2 σh4 qh4) lb_X12_puts lv_X12_puts lk_X12_233 Mh3.1 rfl (by decide) rfl hl.1 rfl (Nat.le_of_ble_eq_true rfl) dX12_feed_27 ⟨Nat.le_refl _, Nat.le_refl _⟩) rfl (fun αh4 Hh4 Lh4 Bh4 Mh4 => ?_)
    refine lv_aload_n hx hb dX12_feed_30 rfl (lv_at hl 0 rfl) (hp_n (n := 31) rfl ?_)
    refine lv_iload_n hx hb dX12_feed_31 rfl (lv_at hl 3 rfl) (hp_n (n := 32) rfl ?_)
    obtain ⟨σh5, qh5, hf⟩ := ms_bE hf
    refine m_cv (pc' := 35) (a := a0) (ρ := ρ) Bh4 (hp_runV (As := [.int a3]) (rest := []) C Bh4 (m_X12_puts n Γ l αh4 a0 ρ σh4 Mh4 a3 σh5 qh5) lb_X12_puts lv_X12_puts lk_X12_233 Mh4.1 rfl (by decide) rfl hl.1 rfl (Nat.le_of_ble_eq_true rfl) dX12_feed_32 ⟨Nat.le_refl _, Nat.le_refl _⟩) rfl (fun αh5 Hh5 Lh5 Bh5 Mh5 => ?_)
    refine lv_aload_n hx hb dX12_feed_35 rfl (lv_at hl 0 rfl) (hp_n (n := 36) rfl ?_)
    refine lv_iload hx hb dX12_feed_36 (lv_at hl 4 rfl) (hp_n (n := 38) rfl ?_)
    obtain ⟨σh6, qh6, hf⟩ := ms_bE hf
    refine m_cv (pc' := 41) (a := a0) (ρ := ρ) Bh5 (hp_runV (As := [.int a4]) (rest := []) C Bh5 (m_X12_puts n Γ l αh5 a0 ρ σh5 Mh5 a4 σh6 qh6) lb_X12_puts lv_X12_puts lk_X12_233 Mh5.1 rfl (by decide) rfl hl.1 rfl (Nat.le_of_ble_eq_true rfl) dX12_feed_38 ⟨Nat.le_refl _, Nat.le_refl _⟩) rfl (fun αh6 Hh6 Lh6 Bh6 Mh6 => ?_)
    refine lv_aload_n hx hb dX12_feed_41 rfl (lv_at hl 0 rfl) (hp_n (n := 42) rfl ?_)
    refine lv_iload hx hb dX12_feed_42 (lv_at hl 5 rfl) (hp_n (n := 44) rfl ?_)
    obtain ⟨σh7, qh7, hf⟩ := ms_bE hf
    refine m_cv (pc' := 47) (a := a0) (ρ := ρ) Bh6 (hp_runV (As := [.int a5]) (rest := []) C Bh6 (m_X12_puts n Γ l αh6 a0 ρ σh6 Mh6 a5 σh7 qh7) lb_X12_puts lv_X12_puts lk_X12_233 Mh6.1 rfl (by decide) rfl hl.1 rfl (Nat.le_of_ble_eq_true rfl) dX12_feed_44 ⟨Nat.le_refl _, Nat.le_refl _⟩) rfl (fun αh7 Hh7 Lh7 Bh7 Mh7 => ?_)
    refine lv_aload_n hx hb dX12_feed_47 rfl (lv_at hl 0 rfl) (hp_n (n := 48) rfl ?_)
    refine m_geti (k := 17) (φ := 667) (pc' := 51) C Bh7 Mh7 fl_X12_230 rfl rfl dX12_feed_48 rfl ?_
    cases hf
    exact q_iret C Bh7 hr hlk ⟨rfl, Bh7.2.2, Mh7⟩ dX12_feed_51
  ·
    replace hf := ms_iF c2 hf
    refine lv_iconst (v := (-1)) hx hb dX12_feed_18 (by decide) (hp_n (n := 19) rfl ?_)
    cases hf
    exact q_iret C Bh1 hr hlk ⟨rfl, Bh1.2.2, Mh1⟩ dX12_feed_19
def f_X12_isOf (n : Nat) (σ : ms_T) (a1 : Int32) (a2 : Int32) (a3 : Int32) : Option Int32 :=
  if (ms_I σ 676) ≤ a1 then
    some (0 : Int32)
  else
    ms_g a1 900 <|
    ms_b (f_X12_isIn n (ms_E σ 47 (a1).toNatClampNeg) a2 a3) fun rh3 =>
    if rh3 = 0 then
      some (0 : Int32)
    else
      some (1 : Int32)
set_option maxRecDepth 100000 in
set_option maxHeartbeats 4000000 in
theorem m_X12_isOf (n : Nat) (Γ : hp_G) (l : Launch) (α : hp_T) (a0 : Nat) (ρ : Nat → Nat) (σ : ms_T) (hM : hm_M α a0 ρ σ) (a1 : Int32) (a2 : Int32) (a3 : Int32) (res : Int32) (hf : f_X12_isOf n σ a1 a2 a3 = some res) : Met l yX12_isOf (hp_ws yX12_isOf cX12_isOf 4 (some .boolean)) (hp_rm 1 0 0) (hp_Pc Γ α [.ref a0, .int a1, .int a2, .int a3]) (hp_Qi Γ (fun r β => β = α ∧ r = res)) 0 0 (hp_A Γ) := by
  unfold f_X12_isOf at hf
  refine hp_start (by decide) ?_
  intro p e s m below meth c C hr hlk B0 hnm
  have C : hp_C Γ p m c cX12_isOf 4 s ([.ref a0, .int a1, .int a2, .int a3] : List Value).toArray RX12 := C
  have hx := C.1.1
  have hb := C.1.2.1
  have hown := C.1.2.2.2.1
  have hts := C.1.2.2.2.2
  have B : hp_B Γ (fun _ _ => True) s α α s.heap [] := ⟨B0.1, B0.2.1, trivial⟩
  have hl := lv_entry ([.ref a0, .int a1, .int a2, .int a3]) (n := 4) (Nat.le_of_ble_eq_true rfl)
  show W p l e (hp_rm 1 0 0) s m ([.ref a0, .int a1, .int a2, .int a3] : List Value).toArray below meth c s.heap [] 0 0 (MQ below (hp_Qi Γ (fun r β => β = α ∧ r = res)) ([.ref a0, .int a1, .int a2, .int a3] : List Value).toArray s 0 0 (hp_A Γ)) (entryFrame m ([.ref a0, .int a1, .int a2, .int a3] : List Value).toArray 4)
  rw [lg_entry_eq]
  generalize (lg_sl ([.ref a0, .int a1, .int a2, .int a3]) ++ List.replicate (4 - (lg_sl ([.ref a0, .int a1, .int a2, .int a3])).length) Slot.unset).toArray = ls at hl ⊢
  have hl : lv_has ls 4 [(0, .ref a0), (1, .int a1), (2, .int a2), (3, .int a3)] := hl
  refine lv_iload_n hx hb dX12_isOf_0 rfl (lv_at hl 1 rfl) (hp_n (n := 1) rfl ?_)
  refine lv_aload_n hx hb dX12_isOf_1 rfl (lv_at hl 0 rfl) (hp_n (n := 2) rfl ?_)
  refine m_geti (k := 26) (φ := 676) (pc' := 5) C B hM fl_X12_236 rfl rfl dX12_isOf_2 rfl ?_
  refine lv_icmp_ge (tgt := 26) hx hb dX12_isOf_5 (by decide) (fun c1 => ?_) (fun c1 => hp_n (n := 8) rfl ?_)
  ·
    replace hf := ms_iT c1 hf
    refine lv_iconst (v := 0) hx hb dX12_isOf_26 (by decide) (hp_n (n := 27) rfl ?_)
    cases hf
    exact q_zret C B hr hlk (by decide) ⟨rfl, rfl⟩ dX12_isOf_27
  ·
    replace hf := ms_iF c1 hf
    refine lv_aload_n hx hb dX12_isOf_8 rfl (lv_at hl 0 rfl) (hp_n (n := 9) rfl ?_)
    refine m_getr (κ := 47) (k := 16) (pc' := 12) C B hM fl_X12_31 rfl (by decide) dX12_isOf_9 rfl ?_
    refine lv_iload_n hx hb dX12_isOf_12 rfl (lv_at hl 1 rfl) (hp_n (n := 13) rfl ?_)
    obtain ⟨g2, hf⟩ := ms_gE hf
    refine m_bal (κ := 47) (φ := 666) (n := 900) (pc' := 14) C B hM (by decide) (by decide) rfl g2 dX12_isOf_13 rfl ?_
    refine lv_iload_n hx hb dX12_isOf_14 rfl (lv_at hl 2 rfl) (hp_n (n := 15) rfl ?_)
    refine lv_iload_n hx hb dX12_isOf_15 rfl (lv_at hl 3 rfl) (hp_n (n := 16) rfl ?_)
    obtain ⟨rh3, qh3, hf⟩ := ms_bE hf
    refine m_cp (pc' := 19) B (hp_runS (As := [.int (ms_E σ 47 (a1).toNatClampNeg), .int a2, .int a3]) (rest := []) C B (m_X12_isIn n Γ l α (ms_E σ 47 (a1).toNatClampNeg) a2 a3 rh3 qh3) lb_X12_isIn ls_X12_isIn lk_X12_113 rfl (by decide) rfl hl.1 rfl (Nat.le_of_ble_eq_true rfl) dX12_isOf_16 ⟨Nat.le_refl _, Nat.le_refl _⟩) rfl (fun Hh3 Lh3 Bh3 => ?_)
    refine lv_if_eq (tgt := 26) hx hb dX12_isOf_19 (by decide) (fun c4 => ?_) (fun c4 => hp_n (n := 22) rfl ?_)
    ·
      replace hf := ms_iT c4 hf
      refine lv_iconst (v := 0) hx hb dX12_isOf_26 (by decide) (hp_n (n := 27) rfl ?_)
      cases hf
      exact q_zret C Bh3 hr hlk (by decide) ⟨rfl, rfl⟩ dX12_isOf_27
    ·
      replace hf := ms_iF c4 hf
      refine lv_iconst (v := 1) hx hb dX12_isOf_22 (by decide) (hp_n (n := 23) rfl ?_)
      refine lv_goto (tgt := 27) hx hb dX12_isOf_23 (by decide) ?_
      cases hf
      exact q_zret C Bh3 hr hlk (by decide) ⟨rfl, rfl⟩ dX12_isOf_27
end JN5_1
section JN5_2
def f_X12_reads_J301 (n : Nat) (rec245 : ms_T → Option ms_T) (σh17 : ms_T) (w0_h17 : Int32) : Option ms_T :=
  ms_l (ms_sI σh17 675 w0_h17) fun σh18 =>
  ms_l (ms_sI σh18 673 ((ms_I σh18 673) + (1 : Int32))) fun σh19 =>
  rec245 σh19
def f_X12_reads_L245 (n : Nat) : Nat → ms_T → Option ms_T
  | 0, _ => none
  | k245 + 1, σh11 =>
    ms_b (f_X12_isOf n σh11 (ms_I σh11 673) (48 : Int32) (57 : Int32)) fun rh12 =>
    if rh12 = 0 then
      if ((ms_I σh11 673) - (ms_I σh11 672)) ≤ (5 : Int32) then
        ms_l (ms_sI σh11 674 (2 : Int32)) fun σh15 =>
        some σh15
      else
        ms_l (ms_sI σh11 674 (4 : Int32)) fun σh16 =>
        some σh16
    else
      if (5 : Int32) ≤ ((ms_I σh11 673) - (ms_I σh11 672)) then
        f_X12_reads_J301 n (f_X12_reads_L245 n k245) σh11 (ms_I σh11 675)
      else
        ms_g (ms_I σh11 673) 900 <|
        f_X12_reads_J301 n (f_X12_reads_L245 n k245) σh11 ((((10 : Int32) * (ms_I σh11 675)) + (ms_E σh11 47 ((ms_I σh11 673)).toNatClampNeg)) - (48 : Int32))
def f_X12_reads_J201 (n : Nat) (rec141 : ms_T → Option ms_T) (σh28 : ms_T) (w0_h28 : Int64) : Option ms_T :=
  ms_l (ms_sJ σh28 w0_h28) fun σh29 =>
  ms_l (ms_sI σh29 673 ((ms_I σh29 673) + (1 : Int32))) fun σh30 =>
  rec141 σh30
def f_X12_reads_L141 (n : Nat) : Nat → ms_T → Option ms_T
  | 0, _ => none
  | k141 + 1, σh25 =>
    ms_b (f_X12_isOf n σh25 (ms_I σh25 673) (97 : Int32) (122 : Int32)) fun rh26 =>
    if rh26 = 0 then
      some σh25
    else
      if (8 : Int32) ≤ ((ms_I σh25 673) - (ms_I σh25 672)) then
        f_X12_reads_J201 n (f_X12_reads_L141 n k141) σh25 (ms_J σh25)
      else
        ms_g (ms_I σh25 673) 900 <|
        f_X12_reads_J201 n (f_X12_reads_L141 n k141) σh25 ((((27 : Int64) * (ms_J σh25)) + ((ms_E σh25 47 ((ms_I σh25 673)).toNatClampNeg)).toInt64) - (96 : Int64))
def f_X12_reads_J105 (n : Nat) (σh4 : ms_T) (w0_h4 : Int32) : Option ms_T :=
  ms_l (ms_sI σh4 674 w0_h4) fun σh5 =>
  ms_b (f_X12_isOf n σh5 (ms_I σh5 672) (97 : Int32) (122 : Int32)) fun rh6 =>
  if rh6 = 0 then
    ms_b (f_X12_isOf n σh5 (ms_I σh5 672) (48 : Int32) (57 : Int32)) fun rh8 =>
    if rh8 = 0 then
      some σh5
    else
      ms_l (ms_sI σh5 675 (0 : Int32)) fun σh10 =>
      ms_l (ms_sI σh10 673 (ms_I σh10 672)) fun σh22 =>
      f_X12_reads_L245 n n σh22
  else
    ms_l (ms_sI σh5 674 (1 : Int32)) fun σh23 =>
    ms_l (ms_sJ σh23 (0 : Int64)) fun σh24 =>
    ms_l (ms_sI σh24 673 (ms_I σh24 672)) fun σh33 =>
    f_X12_reads_L141 n n σh33
def f_X12_reads_J60 (n : Nat) (σh2 : ms_T) : Option ms_T :=
  ms_l (ms_sI σh2 673 ((ms_I σh2 672) + (1 : Int32))) fun σh3 =>
  if (ms_I σh3 672) < (ms_I σh3 676) then
    ms_g (ms_I σh3 672) 900 <|
    if (ms_E σh3 47 ((ms_I σh3 672)).toNatClampNeg) = (59 : Int32) then
      f_X12_reads_J105 n σh3 (3 : Int32)
    else
      f_X12_reads_J105 n σh3 (4 : Int32)
  else
    f_X12_reads_J105 n σh3 (0 : Int32)
def f_X12_reads_J47 (n : Nat) (rec8 : ms_T → Option ms_T) (σh39 : ms_T) : Option ms_T :=
  ms_l (ms_sI σh39 672 ((ms_I σh39 672) + (1 : Int32))) fun σh40 =>
  rec8 σh40
def f_X12_reads_L8 (n : Nat) : Nat → ms_T → Option ms_T
  | 0, _ => none
  | k8 + 1, σh1 =>
    if (ms_I σh1 676) ≤ (ms_I σh1 672) then
      f_X12_reads_J60 n σh1
    else
      ms_g (ms_I σh1 672) 900 <|
      if (ms_E σh1 47 ((ms_I σh1 672)).toNatClampNeg) = (10 : Int32) then
        f_X12_reads_J47 n (f_X12_reads_L8 n k8) σh1
      else
        ms_g (ms_I σh1 672) 900 <|
        if (ms_E σh1 47 ((ms_I σh1 672)).toNatClampNeg) = (32 : Int32) then
          f_X12_reads_J47 n (f_X12_reads_L8 n k8) σh1
        else
          f_X12_reads_J60 n σh1
def f_X12_reads (n : Nat) (σ : ms_T) : Option ms_T :=
  ms_l (ms_sI σ 672 (ms_I σ 673)) fun σh44 =>
  f_X12_reads_L8 n n σh44
set_option maxRecDepth 100000 in
set_option maxHeartbeats 4000000 in
theorem m_X12_reads (n : Nat) (Γ : hp_G) (l : Launch) (α : hp_T) (a0 : Nat) (ρ : Nat → Nat) (σ : ms_T) (hM : hm_M α a0 ρ σ)  (res : ms_T) (hf : f_X12_reads n σ = some res) : Met l yX12_reads (hp_ws yX12_reads cX12_reads 1 none) (hp_rm 2 0 0) (hp_Pc Γ α [.ref a0]) (hp_Qv Γ (fun β => mo α β ∧ hm_M β a0 ρ res)) 0 0 (hp_A Γ) := by
  unfold f_X12_reads at hf
  refine hp_start (by decide) ?_
  intro p e s m below meth c C hr hlk B0 hnm
  have C : hp_C Γ p m c cX12_reads 1 s ([.ref a0] : List Value).toArray RX12 := C
  have hx := C.1.1
  have hb := C.1.2.1
  have hown := C.1.2.2.2.1
  have hts := C.1.2.2.2.2
  have B : hp_B Γ mo s α α s.heap [] := ⟨B0.1, B0.2.1, mo_rf⟩
  have hl := lv_entry ([.ref a0]) (n := 1) (Nat.le_of_ble_eq_true rfl)
  show W p l e (hp_rm 2 0 0) s m ([.ref a0] : List Value).toArray below meth c s.heap [] 0 0 (MQ below (hp_Qv Γ (fun β => mo α β ∧ hm_M β a0 ρ res)) ([.ref a0] : List Value).toArray s 0 0 (hp_A Γ)) (entryFrame m ([.ref a0] : List Value).toArray 1)
  rw [lg_entry_eq]
  generalize (lg_sl ([.ref a0]) ++ List.replicate (1 - (lg_sl ([.ref a0])).length) Slot.unset).toArray = ls at hl ⊢
  have hl : lv_has ls 1 [(0, .ref a0)] := hl
  refine lv_aload_n hx hb dX12_reads_0 rfl (lv_at hl 0 rfl) (hp_n (n := 1) rfl ?_)
  refine lv_aload_n hx hb dX12_reads_1 rfl (lv_at hl 0 rfl) (hp_n (n := 2) rfl ?_)
  refine m_geti (k := 23) (φ := 673) (pc' := 5) C B hM fl_X12_239 rfl rfl dX12_reads_2 rfl ?_
  have J8 : ∀ (k8 : Nat) (αh1 : hp_T) (Hh1 : Heap) (Lh1 : List Loc) (Bh1 : hp_B Γ mo s α αh1 Hh1 Lh1) (σh1 : ms_T) (Mh1 : hm_M αh1 a0 ρ σh1) (ls : Array Slot) (hl : lv_has ls 1 [(0, .ref a0)]) (hf : f_X12_reads_L8 n k8 σh1 = some res), W p l e (hp_rm 2 0 0) s m ([.ref a0] : List Value).toArray below meth c Hh1 Lh1 0 0 (MQ below (hp_Qv Γ (fun β => mo α β ∧ hm_M β a0 ρ res)) ([.ref a0] : List Value).toArray s 0 0 (hp_A Γ)) (F0 m 8 ls []) := by
    intro k8
    induction k8 with
    | zero => intro αh1 Hh1 Lh1 Bh1 σh1 Mh1 ls hl hf; rw [f_X12_reads_L8.eq_1] at hf; cases hf
    | succ k8 ih8 =>
      intro αh1 Hh1 Lh1 Bh1 σh1 Mh1 ls hl hf
      rw [f_X12_reads_L8.eq_2] at hf
      refine lv_aload_n hx hb dX12_reads_8 rfl (lv_at hl 0 rfl) (hp_n (n := 9) rfl ?_)
      refine m_geti (k := 22) (φ := 672) (pc' := 12) C Bh1 Mh1 fl_X12_242 rfl rfl dX12_reads_9 rfl ?_
      refine lv_aload_n hx hb dX12_reads_12 rfl (lv_at hl 0 rfl) (hp_n (n := 13) rfl ?_)
      refine m_geti (k := 26) (φ := 676) (pc' := 16) C Bh1 Mh1 fl_X12_236 rfl rfl dX12_reads_13 rfl ?_
      have J60 : ∀ (αh2 : hp_T) (Hh2 : Heap) (Lh2 : List Loc) (Bh2 : hp_B Γ mo s α αh2 Hh2 Lh2) (σh2 : ms_T) (Mh2 : hm_M αh2 a0 ρ σh2) (ls : Array Slot) (hl : lv_has ls 1 [(0, .ref a0)]) (hf : f_X12_reads_J60 n σh2 = some res), W p l e (hp_rm 2 0 0) s m ([.ref a0] : List Value).toArray below meth c Hh2 Lh2 0 0 (MQ below (hp_Qv Γ (fun β => mo α β ∧ hm_M β a0 ρ res)) ([.ref a0] : List Value).toArray s 0 0 (hp_A Γ)) (F0 m 60 ls []) := by
        intro αh2 Hh2 Lh2 Bh2 σh2 Mh2 ls hl hf
        unfold f_X12_reads_J60 at hf
        refine lv_aload_n hx hb dX12_reads_60 rfl (lv_at hl 0 rfl) (hp_n (n := 61) rfl ?_)
        refine lv_aload_n hx hb dX12_reads_61 rfl (lv_at hl 0 rfl) (hp_n (n := 62) rfl ?_)
        refine m_geti (k := 22) (φ := 672) (pc' := 65) C Bh2 Mh2 fl_X12_242 rfl rfl dX12_reads_62 rfl ?_
        refine lv_iconst (v := 1) hx hb dX12_reads_65 (by decide) (hp_n (n := 66) rfl ?_)
        refine lv_iadd hx hb dX12_reads_66 (hp_n (n := 67) rfl ?_)
        refine m_puti (k := 23) (φ := 673) (pc' := 70) C Bh2 Mh2 fl_X12_239 rfl rfl rfl rfl rfl dX12_reads_67 rfl (fun αh3 Hh3 Lh3 σh3 eh3 Bh3 Mh3 => ?_)
        replace hf := ms_lE eh3 hf
        refine lv_aload_n hx hb dX12_reads_70 rfl (lv_at hl 0 rfl) (hp_n (n := 71) rfl ?_)
        refine lv_aload_n hx hb dX12_reads_71 rfl (lv_at hl 0 rfl) (hp_n (n := 72) rfl ?_)
        refine m_geti (k := 22) (φ := 672) (pc' := 75) C Bh3 Mh3 fl_X12_242 rfl rfl dX12_reads_72 rfl ?_
        refine lv_aload_n hx hb dX12_reads_75 rfl (lv_at hl 0 rfl) (hp_n (n := 76) rfl ?_)
        refine m_geti (k := 26) (φ := 676) (pc' := 79) C Bh3 Mh3 fl_X12_236 rfl rfl dX12_reads_76 rfl ?_
        have J105 : ∀ (αh4 : hp_T) (Hh4 : Heap) (Lh4 : List Loc) (Bh4 : hp_B Γ mo s α αh4 Hh4 Lh4) (σh4 : ms_T) (Mh4 : hm_M αh4 a0 ρ σh4) (w0_h4 : Int32) (ls : Array Slot) (hl : lv_has ls 1 [(0, .ref a0)]) (hf : f_X12_reads_J105 n σh4 w0_h4 = some res), W p l e (hp_rm 2 0 0) s m ([.ref a0] : List Value).toArray below meth c Hh4 Lh4 0 0 (MQ below (hp_Qv Γ (fun β => mo α β ∧ hm_M β a0 ρ res)) ([.ref a0] : List Value).toArray s 0 0 (hp_A Γ)) (F0 m 105 ls [.int w0_h4, .ref a0]) := by
          intro αh4 Hh4 Lh4 Bh4 σh4 Mh4 w0_h4 ls hl hf
          unfold f_X12_reads_J105 at hf
          refine m_puti (k := 24) (φ := 674) (pc' := 108) C Bh4 Mh4 fl_X12_245 rfl rfl rfl rfl rfl dX12_reads_105 rfl (fun αh5 Hh5 Lh5 σh5 eh5 Bh5 Mh5 => ?_)
          replace hf := ms_lE eh5 hf
          refine lv_aload_n hx hb dX12_reads_108 rfl (lv_at hl 0 rfl) (hp_n (n := 109) rfl ?_)
          refine lv_aload_n hx hb dX12_reads_109 rfl (lv_at hl 0 rfl) (hp_n (n := 110) rfl ?_)
          refine m_geti (k := 22) (φ := 672) (pc' := 113) C Bh5 Mh5 fl_X12_242 rfl rfl dX12_reads_110 rfl ?_
          refine lv_bipush (v := 97) hx hb dX12_reads_113 (by decide) (hp_n (n := 115) rfl ?_)
          refine lv_bipush (v := 122) hx hb dX12_reads_115 (by decide) (hp_n (n := 117) rfl ?_)
          obtain ⟨rh6, qh6, hf⟩ := ms_bE hf
          refine m_cp (pc' := 120) Bh5 (hp_runV (As := [.int (ms_I σh5 672), .int (97 : Int32), .int (122 : Int32)]) (rest := []) C Bh5 (m_X12_isOf n Γ l αh5 a0 ρ σh5 Mh5 (ms_I σh5 672) (97 : Int32) (122 : Int32) rh6 qh6) lb_X12_isOf lv_X12_isOf lk_X12_248 Mh5.1 rfl (by decide) rfl hl.1 rfl (Nat.le_of_ble_eq_true rfl) dX12_reads_117 ⟨Nat.le_refl _, Nat.le_refl _⟩) rfl (fun Hh6 Lh6 Bh6 => ?_)
          refine lv_if_eq (tgt := 217) hx hb dX12_reads_120 (by decide) (fun c7 => ?_) (fun c7 => hp_n (n := 123) rfl ?_)
          ·
            replace hf := ms_iT c7 hf
            refine lv_aload_n hx hb dX12_reads_217 rfl (lv_at hl 0 rfl) (hp_n (n := 218) rfl ?_)
            refine lv_aload_n hx hb dX12_reads_218 rfl (lv_at hl 0 rfl) (hp_n (n := 219) rfl ?_)
            refine m_geti (k := 22) (φ := 672) (pc' := 222) C Bh6 Mh5 fl_X12_242 rfl rfl dX12_reads_219 rfl ?_
            refine lv_bipush (v := 48) hx hb dX12_reads_222 (by decide) (hp_n (n := 224) rfl ?_)
            refine lv_bipush (v := 57) hx hb dX12_reads_224 (by decide) (hp_n (n := 226) rfl ?_)
            obtain ⟨rh8, qh8, hf⟩ := ms_bE hf
            refine m_cp (pc' := 229) Bh6 (hp_runV (As := [.int (ms_I σh5 672), .int (48 : Int32), .int (57 : Int32)]) (rest := []) C Bh6 (m_X12_isOf n Γ l αh5 a0 ρ σh5 Mh5 (ms_I σh5 672) (48 : Int32) (57 : Int32) rh8 qh8) lb_X12_isOf lv_X12_isOf lk_X12_248 Mh5.1 rfl (by decide) rfl hl.1 rfl (Nat.le_of_ble_eq_true rfl) dX12_reads_226 ⟨Nat.le_refl _, Nat.le_refl _⟩) rfl (fun Hh8 Lh8 Bh8 => ?_)
            refine lv_if_eq (tgt := 339) hx hb dX12_reads_229 (by decide) (fun c9 => ?_) (fun c9 => hp_n (n := 232) rfl ?_)
            ·
              replace hf := ms_iT c9 hf
              cases hf
              exact q_vret C Bh8 hr hlk ⟨Bh8.2.2, Mh5⟩ dX12_reads_339
            ·
              replace hf := ms_iF c9 hf
              refine lv_aload_n hx hb dX12_reads_232 rfl (lv_at hl 0 rfl) (hp_n (n := 233) rfl ?_)
              refine lv_iconst (v := 0) hx hb dX12_reads_233 (by decide) (hp_n (n := 234) rfl ?_)
              refine m_puti (k := 25) (φ := 675) (pc' := 237) C Bh8 Mh5 fl_X12_259 rfl rfl rfl rfl rfl dX12_reads_234 rfl (fun αh10 Hh10 Lh10 σh10 eh10 Bh10 Mh10 => ?_)
              replace hf := ms_lE eh10 hf
              refine lv_aload_n hx hb dX12_reads_237 rfl (lv_at hl 0 rfl) (hp_n (n := 238) rfl ?_)
              refine lv_aload_n hx hb dX12_reads_238 rfl (lv_at hl 0 rfl) (hp_n (n := 239) rfl ?_)
              refine m_geti (k := 22) (φ := 672) (pc' := 242) C Bh10 Mh10 fl_X12_242 rfl rfl dX12_reads_239 rfl ?_
              have J245 : ∀ (k245 : Nat) (αh11 : hp_T) (Hh11 : Heap) (Lh11 : List Loc) (Bh11 : hp_B Γ mo s α αh11 Hh11 Lh11) (σh11 : ms_T) (Mh11 : hm_M αh11 a0 ρ σh11) (ls : Array Slot) (hl : lv_has ls 1 [(0, .ref a0)]) (hf : f_X12_reads_L245 n k245 σh11 = some res), W p l e (hp_rm 2 0 0) s m ([.ref a0] : List Value).toArray below meth c Hh11 Lh11 0 0 (MQ below (hp_Qv Γ (fun β => mo α β ∧ hm_M β a0 ρ res)) ([.ref a0] : List Value).toArray s 0 0 (hp_A Γ)) (F0 m 245 ls []) := by
                intro k245
                induction k245 with
                | zero => intro αh11 Hh11 Lh11 Bh11 σh11 Mh11 ls hl hf; rw [f_X12_reads_L245.eq_1] at hf; cases hf
                | succ k245 ih245 =>
                  intro αh11 Hh11 Lh11 Bh11 σh11 Mh11 ls hl hf
                  rw [f_X12_reads_L245.eq_2] at hf
                  refine lv_aload_n hx hb dX12_reads_245 rfl (lv_at hl 0 rfl) (hp_n (n := 246) rfl ?_)
                  refine lv_aload_n hx hb dX12_reads_246 rfl (lv_at hl 0 rfl) (hp_n (n := 247) rfl ?_)
                  refine m_geti (k := 23) (φ := 673) (pc' := 250) C Bh11 Mh11 fl_X12_239 rfl rfl dX12_reads_247 rfl ?_
                  refine lv_bipush (v := 48) hx hb dX12_reads_250 (by decide) (hp_n (n := 252) rfl ?_)
                  refine lv_bipush (v := 57) hx hb dX12_reads_252 (by decide) (hp_n (n := 254) rfl ?_)
                  obtain ⟨rh12, qh12, hf⟩ := ms_bE hf
                  refine m_cp (pc' := 257) Bh11 (hp_runV (As := [.int (ms_I σh11 673), .int (48 : Int32), .int (57 : Int32)]) (rest := []) C Bh11 (m_X12_isOf n Γ l αh11 a0 ρ σh11 Mh11 (ms_I σh11 673) (48 : Int32) (57 : Int32) rh12 qh12) lb_X12_isOf lv_X12_isOf lk_X12_248 Mh11.1 rfl (by decide) rfl hl.1 rfl (Nat.le_of_ble_eq_true rfl) dX12_reads_254 ⟨Nat.le_refl _, Nat.le_refl _⟩) rfl (fun Hh12 Lh12 Bh12 => ?_)
                  refine lv_if_eq (tgt := 317) hx hb dX12_reads_257 (by decide) (fun c13 => ?_) (fun c13 => hp_n (n := 260) rfl ?_)
                  ·
                    replace hf := ms_iT c13 hf
                    refine lv_aload_n hx hb dX12_reads_317 rfl (lv_at hl 0 rfl) (hp_n (n := 318) rfl ?_)
                    refine lv_aload_n hx hb dX12_reads_318 rfl (lv_at hl 0 rfl) (hp_n (n := 319) rfl ?_)
                    refine m_geti (k := 23) (φ := 673) (pc' := 322) C Bh12 Mh11 fl_X12_239 rfl rfl dX12_reads_319 rfl ?_
                    refine lv_aload_n hx hb dX12_reads_322 rfl (lv_at hl 0 rfl) (hp_n (n := 323) rfl ?_)
                    refine m_geti (k := 22) (φ := 672) (pc' := 326) C Bh12 Mh11 fl_X12_242 rfl rfl dX12_reads_323 rfl ?_
                    refine lv_isub hx hb dX12_reads_326 (hp_n (n := 327) rfl ?_)
                    refine lv_iconst (v := 5) hx hb dX12_reads_327 (by decide) (hp_n (n := 328) rfl ?_)
                    refine lv_icmp_le (tgt := 335) hx hb dX12_reads_328 (by decide) (fun c14 => ?_) (fun c14 => hp_n (n := 331) rfl ?_)
                    ·
                      replace hf := ms_iT c14 hf
                      refine lv_iconst (v := 2) hx hb dX12_reads_335 (by decide) (hp_n (n := 336) rfl ?_)
                      refine m_puti (k := 24) (φ := 674) (pc' := 339) C Bh12 Mh11 fl_X12_245 rfl rfl rfl rfl rfl dX12_reads_336 rfl (fun αh15 Hh15 Lh15 σh15 eh15 Bh15 Mh15 => ?_)
                      replace hf := ms_lE eh15 hf
                      cases hf
                      exact q_vret C Bh15 hr hlk ⟨Bh15.2.2, Mh15⟩ dX12_reads_339
                    ·
                      replace hf := ms_iF c14 hf
                      refine lv_iconst (v := 4) hx hb dX12_reads_331 (by decide) (hp_n (n := 332) rfl ?_)
                      refine lv_goto (tgt := 336) hx hb dX12_reads_332 (by decide) ?_
                      refine m_puti (k := 24) (φ := 674) (pc' := 339) C Bh12 Mh11 fl_X12_245 rfl rfl rfl rfl rfl dX12_reads_336 rfl (fun αh16 Hh16 Lh16 σh16 eh16 Bh16 Mh16 => ?_)
                      replace hf := ms_lE eh16 hf
                      cases hf
                      exact q_vret C Bh16 hr hlk ⟨Bh16.2.2, Mh16⟩ dX12_reads_339
                  ·
                    replace hf := ms_iF c13 hf
                    refine lv_aload_n hx hb dX12_reads_260 rfl (lv_at hl 0 rfl) (hp_n (n := 261) rfl ?_)
                    refine lv_aload_n hx hb dX12_reads_261 rfl (lv_at hl 0 rfl) (hp_n (n := 262) rfl ?_)
                    refine m_geti (k := 23) (φ := 673) (pc' := 265) C Bh12 Mh11 fl_X12_239 rfl rfl dX12_reads_262 rfl ?_
                    refine lv_aload_n hx hb dX12_reads_265 rfl (lv_at hl 0 rfl) (hp_n (n := 266) rfl ?_)
                    refine m_geti (k := 22) (φ := 672) (pc' := 269) C Bh12 Mh11 fl_X12_242 rfl rfl dX12_reads_266 rfl ?_
                    refine lv_isub hx hb dX12_reads_269 (hp_n (n := 270) rfl ?_)
                    refine lv_iconst (v := 5) hx hb dX12_reads_270 (by decide) (hp_n (n := 271) rfl ?_)
                    have J301 : ∀ (αh17 : hp_T) (Hh17 : Heap) (Lh17 : List Loc) (Bh17 : hp_B Γ mo s α αh17 Hh17 Lh17) (σh17 : ms_T) (Mh17 : hm_M αh17 a0 ρ σh17) (w0_h17 : Int32) (ls : Array Slot) (hl : lv_has ls 1 [(0, .ref a0)]) (hf : f_X12_reads_J301 n (f_X12_reads_L245 n k245) σh17 w0_h17 = some res), W p l e (hp_rm 2 0 0) s m ([.ref a0] : List Value).toArray below meth c Hh17 Lh17 0 0 (MQ below (hp_Qv Γ (fun β => mo α β ∧ hm_M β a0 ρ res)) ([.ref a0] : List Value).toArray s 0 0 (hp_A Γ)) (F0 m 301 ls [.int w0_h17, .ref a0]) := by
                      intro αh17 Hh17 Lh17 Bh17 σh17 Mh17 w0_h17 ls hl hf
                      unfold f_X12_reads_J301 at hf
                      refine m_puti (k := 25) (φ := 675) (pc' := 304) C Bh17 Mh17 fl_X12_259 rfl rfl rfl rfl rfl dX12_reads_301 rfl (fun αh18 Hh18 Lh18 σh18 eh18 Bh18 Mh18 => ?_)
                      replace hf := ms_lE eh18 hf
                      refine lv_aload_n hx hb dX12_reads_304 rfl (lv_at hl 0 rfl) (hp_n (n := 305) rfl ?_)
                      refine lv_dup hx hb dX12_reads_305 rfl (hp_n (n := 306) rfl ?_)
                      refine m_geti (k := 23) (φ := 673) (pc' := 309) C Bh18 Mh18 fl_X12_239 rfl rfl dX12_reads_306 rfl ?_
                      refine lv_iconst (v := 1) hx hb dX12_reads_309 (by decide) (hp_n (n := 310) rfl ?_)
                      refine lv_iadd hx hb dX12_reads_310 (hp_n (n := 311) rfl ?_)
                      refine m_puti (k := 23) (φ := 673) (pc' := 314) C Bh18 Mh18 fl_X12_239 rfl rfl rfl rfl rfl dX12_reads_311 rfl (fun αh19 Hh19 Lh19 σh19 eh19 Bh19 Mh19 => ?_)
                      replace hf := ms_lE eh19 hf
                      refine lv_goto (tgt := 245) hx hb dX12_reads_314 (by decide) ?_
                      exact ih245 αh19 Hh19 Lh19 Bh19 σh19 Mh19 ls (lv_sub hl [0] rfl) hf
                    refine lv_icmp_ge (tgt := 297) hx hb dX12_reads_271 (by decide) (fun c20 => ?_) (fun c20 => hp_n (n := 274) rfl ?_)
                    ·
                      replace hf := ms_iT c20 hf
                      refine lv_aload_n hx hb dX12_reads_297 rfl (lv_at hl 0 rfl) (hp_n (n := 298) rfl ?_)
                      refine m_geti (k := 25) (φ := 675) (pc' := 301) C Bh12 Mh11 fl_X12_259 rfl rfl dX12_reads_298 rfl ?_
                      exact J301 αh11 Hh12 Lh12 Bh12 σh11 Mh11 (ms_I σh11 675) ls (lv_sub hl [0] rfl) hf
                    ·
                      replace hf := ms_iF c20 hf
                      refine lv_bipush (v := 10) hx hb dX12_reads_274 (by decide) (hp_n (n := 276) rfl ?_)
                      refine lv_aload_n hx hb dX12_reads_276 rfl (lv_at hl 0 rfl) (hp_n (n := 277) rfl ?_)
                      refine m_geti (k := 25) (φ := 675) (pc' := 280) C Bh12 Mh11 fl_X12_259 rfl rfl dX12_reads_277 rfl ?_
                      refine lv_imul hx hb dX12_reads_280 (hp_n (n := 281) rfl ?_)
                      refine lv_aload_n hx hb dX12_reads_281 rfl (lv_at hl 0 rfl) (hp_n (n := 282) rfl ?_)
                      refine m_getr (κ := 47) (k := 16) (pc' := 285) C Bh12 Mh11 fl_X12_31 rfl (by decide) dX12_reads_282 rfl ?_
                      refine lv_aload_n hx hb dX12_reads_285 rfl (lv_at hl 0 rfl) (hp_n (n := 286) rfl ?_)
                      refine m_geti (k := 23) (φ := 673) (pc' := 289) C Bh12 Mh11 fl_X12_239 rfl rfl dX12_reads_286 rfl ?_
                      obtain ⟨g21, hf⟩ := ms_gE hf
                      refine m_bal (κ := 47) (φ := 666) (n := 900) (pc' := 290) C Bh12 Mh11 (by decide) (by decide) rfl g21 dX12_reads_289 rfl ?_
                      refine lv_iadd hx hb dX12_reads_290 (hp_n (n := 291) rfl ?_)
                      refine lv_bipush (v := 48) hx hb dX12_reads_291 (by decide) (hp_n (n := 293) rfl ?_)
                      refine lv_isub hx hb dX12_reads_293 (hp_n (n := 294) rfl ?_)
                      refine lv_goto (tgt := 301) hx hb dX12_reads_294 (by decide) ?_
                      exact J301 αh11 Hh12 Lh12 Bh12 σh11 Mh11 ((((10 : Int32) * (ms_I σh11 675)) + (ms_E σh11 47 ((ms_I σh11 673)).toNatClampNeg)) - (48 : Int32)) ls (lv_sub hl [0] rfl) hf
              refine m_puti (k := 23) (φ := 673) (pc' := 245) C Bh10 Mh10 fl_X12_239 rfl rfl rfl rfl rfl dX12_reads_242 rfl (fun αh22 Hh22 Lh22 σh22 eh22 Bh22 Mh22 => ?_)
              replace hf := ms_lE eh22 hf
              exact J245 n αh22 Hh22 Lh22 Bh22 σh22 Mh22 ls (lv_sub hl [0] rfl) hf
          ·
            replace hf := ms_iF c7 hf
            refine lv_aload_n hx hb dX12_reads_123 rfl (lv_at hl 0 rfl) (hp_n (n := 124) rfl ?_)
            refine lv_iconst (v := 1) hx hb dX12_reads_124 (by decide) (hp_n (n := 125) rfl ?_)
            refine m_puti (k := 24) (φ := 674) (pc' := 128) C Bh6 Mh5 fl_X12_245 rfl rfl rfl rfl rfl dX12_reads_125 rfl (fun αh23 Hh23 Lh23 σh23 eh23 Bh23 Mh23 => ?_)
            replace hf := ms_lE eh23 hf
            refine lv_aload_n hx hb dX12_reads_128 rfl (lv_at hl 0 rfl) (hp_n (n := 129) rfl ?_)
            refine lv_lconst (v := 0) hx hb dX12_reads_129 rfl (hp_n (n := 130) rfl ?_)
            refine m_putl (pc' := 133) C Bh23 Mh23 fl_X12_251 dX12_reads_130 rfl (fun αh24 Hh24 Lh24 σh24 eh24 Bh24 Mh24 => ?_)
            replace hf := ms_lE eh24 hf
            refine lv_aload_n hx hb dX12_reads_133 rfl (lv_at hl 0 rfl) (hp_n (n := 134) rfl ?_)
            refine lv_aload_n hx hb dX12_reads_134 rfl (lv_at hl 0 rfl) (hp_n (n := 135) rfl ?_)
            refine m_geti (k := 22) (φ := 672) (pc' := 138) C Bh24 Mh24 fl_X12_242 rfl rfl dX12_reads_135 rfl ?_
            have J141 : ∀ (k141 : Nat) (αh25 : hp_T) (Hh25 : Heap) (Lh25 : List Loc) (Bh25 : hp_B Γ mo s α αh25 Hh25 Lh25) (σh25 : ms_T) (Mh25 : hm_M αh25 a0 ρ σh25) (ls : Array Slot) (hl : lv_has ls 1 [(0, .ref a0)]) (hf : f_X12_reads_L141 n k141 σh25 = some res), W p l e (hp_rm 2 0 0) s m ([.ref a0] : List Value).toArray below meth c Hh25 Lh25 0 0 (MQ below (hp_Qv Γ (fun β => mo α β ∧ hm_M β a0 ρ res)) ([.ref a0] : List Value).toArray s 0 0 (hp_A Γ)) (F0 m 141 ls []) := by
              intro k141
              induction k141 with
              | zero => intro αh25 Hh25 Lh25 Bh25 σh25 Mh25 ls hl hf; rw [f_X12_reads_L141.eq_1] at hf; cases hf
              | succ k141 ih141 =>
                intro αh25 Hh25 Lh25 Bh25 σh25 Mh25 ls hl hf
                rw [f_X12_reads_L141.eq_2] at hf
                refine lv_aload_n hx hb dX12_reads_141 rfl (lv_at hl 0 rfl) (hp_n (n := 142) rfl ?_)
                refine lv_aload_n hx hb dX12_reads_142 rfl (lv_at hl 0 rfl) (hp_n (n := 143) rfl ?_)
                refine m_geti (k := 23) (φ := 673) (pc' := 146) C Bh25 Mh25 fl_X12_239 rfl rfl dX12_reads_143 rfl ?_
                refine lv_bipush (v := 97) hx hb dX12_reads_146 (by decide) (hp_n (n := 148) rfl ?_)
                refine lv_bipush (v := 122) hx hb dX12_reads_148 (by decide) (hp_n (n := 150) rfl ?_)
                obtain ⟨rh26, qh26, hf⟩ := ms_bE hf
                refine m_cp (pc' := 153) Bh25 (hp_runV (As := [.int (ms_I σh25 673), .int (97 : Int32), .int (122 : Int32)]) (rest := []) C Bh25 (m_X12_isOf n Γ l αh25 a0 ρ σh25 Mh25 (ms_I σh25 673) (97 : Int32) (122 : Int32) rh26 qh26) lb_X12_isOf lv_X12_isOf lk_X12_248 Mh25.1 rfl (by decide) rfl hl.1 rfl (Nat.le_of_ble_eq_true rfl) dX12_reads_150 ⟨Nat.le_refl _, Nat.le_refl _⟩) rfl (fun Hh26 Lh26 Bh26 => ?_)
                refine lv_if_eq (tgt := 339) hx hb dX12_reads_153 (by decide) (fun c27 => ?_) (fun c27 => hp_n (n := 156) rfl ?_)
                ·
                  replace hf := ms_iT c27 hf
                  cases hf
                  exact q_vret C Bh26 hr hlk ⟨Bh26.2.2, Mh25⟩ dX12_reads_339
                ·
                  replace hf := ms_iF c27 hf
                  refine lv_aload_n hx hb dX12_reads_156 rfl (lv_at hl 0 rfl) (hp_n (n := 157) rfl ?_)
                  refine lv_aload_n hx hb dX12_reads_157 rfl (lv_at hl 0 rfl) (hp_n (n := 158) rfl ?_)
                  refine m_geti (k := 23) (φ := 673) (pc' := 161) C Bh26 Mh25 fl_X12_239 rfl rfl dX12_reads_158 rfl ?_
                  refine lv_aload_n hx hb dX12_reads_161 rfl (lv_at hl 0 rfl) (hp_n (n := 162) rfl ?_)
                  refine m_geti (k := 22) (φ := 672) (pc' := 165) C Bh26 Mh25 fl_X12_242 rfl rfl dX12_reads_162 rfl ?_
                  refine lv_isub hx hb dX12_reads_165 (hp_n (n := 166) rfl ?_)
                  refine lv_bipush (v := 8) hx hb dX12_reads_166 (by decide) (hp_n (n := 168) rfl ?_)
                  have J201 : ∀ (αh28 : hp_T) (Hh28 : Heap) (Lh28 : List Loc) (Bh28 : hp_B Γ mo s α αh28 Hh28 Lh28) (σh28 : ms_T) (Mh28 : hm_M αh28 a0 ρ σh28) (w0_h28 : Int64) (ls : Array Slot) (hl : lv_has ls 1 [(0, .ref a0)]) (hf : f_X12_reads_J201 n (f_X12_reads_L141 n k141) σh28 w0_h28 = some res), W p l e (hp_rm 2 0 0) s m ([.ref a0] : List Value).toArray below meth c Hh28 Lh28 0 0 (MQ below (hp_Qv Γ (fun β => mo α β ∧ hm_M β a0 ρ res)) ([.ref a0] : List Value).toArray s 0 0 (hp_A Γ)) (F0 m 201 ls [.long w0_h28, .ref a0]) := by
                    intro αh28 Hh28 Lh28 Bh28 σh28 Mh28 w0_h28 ls hl hf
                    unfold f_X12_reads_J201 at hf
                    refine m_putl (pc' := 204) C Bh28 Mh28 fl_X12_251 dX12_reads_201 rfl (fun αh29 Hh29 Lh29 σh29 eh29 Bh29 Mh29 => ?_)
                    replace hf := ms_lE eh29 hf
                    refine lv_aload_n hx hb dX12_reads_204 rfl (lv_at hl 0 rfl) (hp_n (n := 205) rfl ?_)
                    refine lv_dup hx hb dX12_reads_205 rfl (hp_n (n := 206) rfl ?_)
                    refine m_geti (k := 23) (φ := 673) (pc' := 209) C Bh29 Mh29 fl_X12_239 rfl rfl dX12_reads_206 rfl ?_
                    refine lv_iconst (v := 1) hx hb dX12_reads_209 (by decide) (hp_n (n := 210) rfl ?_)
                    refine lv_iadd hx hb dX12_reads_210 (hp_n (n := 211) rfl ?_)
                    refine m_puti (k := 23) (φ := 673) (pc' := 214) C Bh29 Mh29 fl_X12_239 rfl rfl rfl rfl rfl dX12_reads_211 rfl (fun αh30 Hh30 Lh30 σh30 eh30 Bh30 Mh30 => ?_)
                    replace hf := ms_lE eh30 hf
                    refine lv_goto (tgt := 141) hx hb dX12_reads_214 (by decide) ?_
                    exact ih141 αh30 Hh30 Lh30 Bh30 σh30 Mh30 ls (lv_sub hl [0] rfl) hf
                  refine lv_icmp_ge (tgt := 197) hx hb dX12_reads_168 (by decide) (fun c31 => ?_) (fun c31 => hp_n (n := 171) rfl ?_)
                  ·
                    replace hf := ms_iT c31 hf
                    refine lv_aload_n hx hb dX12_reads_197 rfl (lv_at hl 0 rfl) (hp_n (n := 198) rfl ?_)
                    refine m_getl (pc' := 201) C Bh26 Mh25 fl_X12_251 dX12_reads_198 rfl ?_
                    exact J201 αh25 Hh26 Lh26 Bh26 σh25 Mh25 (ms_J σh25) ls (lv_sub hl [0] rfl) hf
                  ·
                    replace hf := ms_iF c31 hf
                    refine lv_ldc2 hx hb hown (hts _ kc_X12_255) dX12_reads_171 (hp_n (n := 174) rfl ?_)
                    refine lv_aload_n hx hb dX12_reads_174 rfl (lv_at hl 0 rfl) (hp_n (n := 175) rfl ?_)
                    refine m_getl (pc' := 178) C Bh26 Mh25 fl_X12_251 dX12_reads_175 rfl ?_
                    refine lv_lmul hx hb dX12_reads_178 (hp_n (n := 179) rfl ?_)
                    refine lv_aload_n hx hb dX12_reads_179 rfl (lv_at hl 0 rfl) (hp_n (n := 180) rfl ?_)
                    refine m_getr (κ := 47) (k := 16) (pc' := 183) C Bh26 Mh25 fl_X12_31 rfl (by decide) dX12_reads_180 rfl ?_
                    refine lv_aload_n hx hb dX12_reads_183 rfl (lv_at hl 0 rfl) (hp_n (n := 184) rfl ?_)
                    refine m_geti (k := 23) (φ := 673) (pc' := 187) C Bh26 Mh25 fl_X12_239 rfl rfl dX12_reads_184 rfl ?_
                    obtain ⟨g32, hf⟩ := ms_gE hf
                    refine m_bal (κ := 47) (φ := 666) (n := 900) (pc' := 188) C Bh26 Mh25 (by decide) (by decide) rfl g32 dX12_reads_187 rfl ?_
                    refine lv_i2l hx hb dX12_reads_188 rfl (hp_n (n := 189) rfl ?_)
                    refine lv_ladd hx hb dX12_reads_189 (hp_n (n := 190) rfl ?_)
                    refine lv_ldc2 hx hb hown (hts _ kc_X12_257) dX12_reads_190 (hp_n (n := 193) rfl ?_)
                    refine lv_lsub hx hb dX12_reads_193 (hp_n (n := 194) rfl ?_)
                    refine lv_goto (tgt := 201) hx hb dX12_reads_194 (by decide) ?_
                    exact J201 αh25 Hh26 Lh26 Bh26 σh25 Mh25 ((((27 : Int64) * (ms_J σh25)) + ((ms_E σh25 47 ((ms_I σh25 673)).toNatClampNeg)).toInt64) - (96 : Int64)) ls (lv_sub hl [0] rfl) hf
            refine m_puti (k := 23) (φ := 673) (pc' := 141) C Bh24 Mh24 fl_X12_239 rfl rfl rfl rfl rfl dX12_reads_138 rfl (fun αh33 Hh33 Lh33 σh33 eh33 Bh33 Mh33 => ?_)
            replace hf := ms_lE eh33 hf
            exact J141 n αh33 Hh33 Lh33 Bh33 σh33 Mh33 ls (lv_sub hl [0] rfl) hf
        refine lv_icmp_lt (tgt := 86) hx hb dX12_reads_79 (by decide) (fun c34 => ?_) (fun c34 => hp_n (n := 82) rfl ?_)
        ·
          replace hf := ms_iT c34 hf
          refine lv_aload_n hx hb dX12_reads_86 rfl (lv_at hl 0 rfl) (hp_n (n := 87) rfl ?_)
          refine m_getr (κ := 47) (k := 16) (pc' := 90) C Bh3 Mh3 fl_X12_31 rfl (by decide) dX12_reads_87 rfl ?_
          refine lv_aload_n hx hb dX12_reads_90 rfl (lv_at hl 0 rfl) (hp_n (n := 91) rfl ?_)
          refine m_geti (k := 22) (φ := 672) (pc' := 94) C Bh3 Mh3 fl_X12_242 rfl rfl dX12_reads_91 rfl ?_
          obtain ⟨g35, hf⟩ := ms_gE hf
          refine m_bal (κ := 47) (φ := 666) (n := 900) (pc' := 95) C Bh3 Mh3 (by decide) (by decide) rfl g35 dX12_reads_94 rfl ?_
          refine lv_bipush (v := 59) hx hb dX12_reads_95 (by decide) (hp_n (n := 97) rfl ?_)
          refine lv_icmp_ne (tgt := 104) hx hb dX12_reads_97 (by decide) (fun c36 => ?_) (fun c36 => hp_n (n := 100) rfl ?_)
          ·
            replace hf := ms_iF c36 hf
            refine lv_iconst (v := 4) hx hb dX12_reads_104 (by decide) (hp_n (n := 105) rfl ?_)
            exact J105 αh3 Hh3 Lh3 Bh3 σh3 Mh3 (4 : Int32) ls (lv_sub hl [0] rfl) hf
          ·
            replace hf := ms_iT c36 hf
            refine lv_iconst (v := 3) hx hb dX12_reads_100 (by decide) (hp_n (n := 101) rfl ?_)
            refine lv_goto (tgt := 105) hx hb dX12_reads_101 (by decide) ?_
            exact J105 αh3 Hh3 Lh3 Bh3 σh3 Mh3 (3 : Int32) ls (lv_sub hl [0] rfl) hf
        ·
          replace hf := ms_iF c34 hf
          refine lv_iconst (v := 0) hx hb dX12_reads_82 (by decide) (hp_n (n := 83) rfl ?_)
          refine lv_goto (tgt := 105) hx hb dX12_reads_83 (by decide) ?_
          exact J105 αh3 Hh3 Lh3 Bh3 σh3 Mh3 (0 : Int32) ls (lv_sub hl [0] rfl) hf
      refine lv_icmp_ge (tgt := 60) hx hb dX12_reads_16 (by decide) (fun c37 => ?_) (fun c37 => hp_n (n := 19) rfl ?_)
      ·
        replace hf := ms_iT c37 hf
        exact J60 αh1 Hh1 Lh1 Bh1 σh1 Mh1 ls (lv_sub hl [0] rfl) hf
      ·
        replace hf := ms_iF c37 hf
        refine lv_aload_n hx hb dX12_reads_19 rfl (lv_at hl 0 rfl) (hp_n (n := 20) rfl ?_)
        refine m_getr (κ := 47) (k := 16) (pc' := 23) C Bh1 Mh1 fl_X12_31 rfl (by decide) dX12_reads_20 rfl ?_
        refine lv_aload_n hx hb dX12_reads_23 rfl (lv_at hl 0 rfl) (hp_n (n := 24) rfl ?_)
        refine m_geti (k := 22) (φ := 672) (pc' := 27) C Bh1 Mh1 fl_X12_242 rfl rfl dX12_reads_24 rfl ?_
        obtain ⟨g38, hf⟩ := ms_gE hf
        refine m_bal (κ := 47) (φ := 666) (n := 900) (pc' := 28) C Bh1 Mh1 (by decide) (by decide) rfl g38 dX12_reads_27 rfl ?_
        refine lv_bipush (v := 10) hx hb dX12_reads_28 (by decide) (hp_n (n := 30) rfl ?_)
        have J47 : ∀ (αh39 : hp_T) (Hh39 : Heap) (Lh39 : List Loc) (Bh39 : hp_B Γ mo s α αh39 Hh39 Lh39) (σh39 : ms_T) (Mh39 : hm_M αh39 a0 ρ σh39) (ls : Array Slot) (hl : lv_has ls 1 [(0, .ref a0)]) (hf : f_X12_reads_J47 n (f_X12_reads_L8 n k8) σh39 = some res), W p l e (hp_rm 2 0 0) s m ([.ref a0] : List Value).toArray below meth c Hh39 Lh39 0 0 (MQ below (hp_Qv Γ (fun β => mo α β ∧ hm_M β a0 ρ res)) ([.ref a0] : List Value).toArray s 0 0 (hp_A Γ)) (F0 m 47 ls []) := by
          intro αh39 Hh39 Lh39 Bh39 σh39 Mh39 ls hl hf
          unfold f_X12_reads_J47 at hf
          refine lv_aload_n hx hb dX12_reads_47 rfl (lv_at hl 0 rfl) (hp_n (n := 48) rfl ?_)
          refine lv_dup hx hb dX12_reads_48 rfl (hp_n (n := 49) rfl ?_)
          refine m_geti (k := 22) (φ := 672) (pc' := 52) C Bh39 Mh39 fl_X12_242 rfl rfl dX12_reads_49 rfl ?_
          refine lv_iconst (v := 1) hx hb dX12_reads_52 (by decide) (hp_n (n := 53) rfl ?_)
          refine lv_iadd hx hb dX12_reads_53 (hp_n (n := 54) rfl ?_)
          refine m_puti (k := 22) (φ := 672) (pc' := 57) C Bh39 Mh39 fl_X12_242 rfl rfl rfl rfl rfl dX12_reads_54 rfl (fun αh40 Hh40 Lh40 σh40 eh40 Bh40 Mh40 => ?_)
          replace hf := ms_lE eh40 hf
          refine lv_goto (tgt := 8) hx hb dX12_reads_57 (by decide) ?_
          exact ih8 αh40 Hh40 Lh40 Bh40 σh40 Mh40 ls (lv_sub hl [0] rfl) hf
        refine lv_icmp_eq (tgt := 47) hx hb dX12_reads_30 (by decide) (fun c41 => ?_) (fun c41 => hp_n (n := 33) rfl ?_)
        ·
          replace hf := ms_iT c41 hf
          exact J47 αh1 Hh1 Lh1 Bh1 σh1 Mh1 ls (lv_sub hl [0] rfl) hf
        ·
          replace hf := ms_iF c41 hf
          refine lv_aload_n hx hb dX12_reads_33 rfl (lv_at hl 0 rfl) (hp_n (n := 34) rfl ?_)
          refine m_getr (κ := 47) (k := 16) (pc' := 37) C Bh1 Mh1 fl_X12_31 rfl (by decide) dX12_reads_34 rfl ?_
          refine lv_aload_n hx hb dX12_reads_37 rfl (lv_at hl 0 rfl) (hp_n (n := 38) rfl ?_)
          refine m_geti (k := 22) (φ := 672) (pc' := 41) C Bh1 Mh1 fl_X12_242 rfl rfl dX12_reads_38 rfl ?_
          obtain ⟨g42, hf⟩ := ms_gE hf
          refine m_bal (κ := 47) (φ := 666) (n := 900) (pc' := 42) C Bh1 Mh1 (by decide) (by decide) rfl g42 dX12_reads_41 rfl ?_
          refine lv_bipush (v := 32) hx hb dX12_reads_42 (by decide) (hp_n (n := 44) rfl ?_)
          refine lv_icmp_ne (tgt := 60) hx hb dX12_reads_44 (by decide) (fun c43 => ?_) (fun c43 => hp_n (n := 47) rfl ?_)
          ·
            replace hf := ms_iF c43 hf
            exact J60 αh1 Hh1 Lh1 Bh1 σh1 Mh1 ls (lv_sub hl [0] rfl) hf
          ·
            replace hf := ms_iT c43 hf
            exact J47 αh1 Hh1 Lh1 Bh1 σh1 Mh1 ls (lv_sub hl [0] rfl) hf
  refine m_puti (k := 22) (φ := 672) (pc' := 8) C B hM fl_X12_242 rfl rfl rfl rfl rfl dX12_reads_5 rfl (fun αh44 Hh44 Lh44 σh44 eh44 Bh44 Mh44 => ?_)
  replace hf := ms_lE eh44 hf
  exact J8 n αh44 Hh44 Lh44 Bh44 σh44 Mh44 ls (lv_sub hl [0] rfl) hf
def f_X12_must_J31 (n : Nat) (σh3 : ms_T) (w0_h3 : Int32) : Option ms_T :=
  ms_l (ms_sI σh3 670 w0_h3) fun σh4 =>
  ms_l (ms_sI σh4 671 (ms_I σh4 672)) fun σh5 =>
  some σh5
def f_X12_must_J30 (n : Nat) (σh6 : ms_T) (v2_h6 : Int32) : Option ms_T :=
  f_X12_must_J31 n σh6 v2_h6
def f_X12_must (n : Nat) (σ : ms_T) (a1 : Int32) (a2 : Int32) : Option ms_T :=
  if a1 = 0 then
    if (ms_I σ 670) ≤ 0 then
      if a2 = (2 : Int32) then
        if (ms_I σ 674) = (4 : Int32) then
          f_X12_must_J31 n σ (1 : Int32)
        else
          f_X12_must_J30 n σ a2
      else
        f_X12_must_J30 n σ a2
    else
      some σ
  else
    some σ
set_option maxRecDepth 100000 in
set_option maxHeartbeats 4000000 in
theorem m_X12_must (n : Nat) (Γ : hp_G) (l : Launch) (α : hp_T) (a0 : Nat) (ρ : Nat → Nat) (σ : ms_T) (hM : hm_M α a0 ρ σ) (a1 : Int32) (a2 : Int32) (res : ms_T) (hf : f_X12_must n σ a1 a2 = some res) : Met l yX12_must (hp_ws yX12_must cX12_must 3 none) (hp_rm 0 0 0) (hp_Pc Γ α [.ref a0, .int a1, .int a2]) (hp_Qv Γ (fun β => mo α β ∧ hm_M β a0 ρ res)) 0 0 (hp_A Γ) := by
  unfold f_X12_must at hf
  refine hp_start (by decide) ?_
  intro p e s m below meth c C hr hlk B0 hnm
  have C : hp_C Γ p m c cX12_must 3 s ([.ref a0, .int a1, .int a2] : List Value).toArray RX12 := C
  have hx := C.1.1
  have hb := C.1.2.1
  have hown := C.1.2.2.2.1
  have hts := C.1.2.2.2.2
  have B : hp_B Γ mo s α α s.heap [] := ⟨B0.1, B0.2.1, mo_rf⟩
  have hl := lv_entry ([.ref a0, .int a1, .int a2]) (n := 3) (Nat.le_of_ble_eq_true rfl)
  show W p l e (hp_rm 0 0 0) s m ([.ref a0, .int a1, .int a2] : List Value).toArray below meth c s.heap [] 0 0 (MQ below (hp_Qv Γ (fun β => mo α β ∧ hm_M β a0 ρ res)) ([.ref a0, .int a1, .int a2] : List Value).toArray s 0 0 (hp_A Γ)) (entryFrame m ([.ref a0, .int a1, .int a2] : List Value).toArray 3)
  rw [lg_entry_eq]
  generalize (lg_sl ([.ref a0, .int a1, .int a2]) ++ List.replicate (3 - (lg_sl ([.ref a0, .int a1, .int a2])).length) Slot.unset).toArray = ls at hl ⊢
  have hl : lv_has ls 3 [(0, .ref a0), (1, .int a1), (2, .int a2)] := hl
  refine lv_iload_n hx hb dX12_must_0 rfl (lv_at hl 1 rfl) (hp_n (n := 1) rfl ?_)
  refine lv_if_ne (tgt := 11) hx hb dX12_must_1 (by decide) (fun c1 => ?_) (fun c1 => hp_n (n := 4) rfl ?_)
  ·
    replace hf := ms_iF c1 hf
    cases hf
    exact q_vret C B hr hlk ⟨B.2.2, hM⟩ dX12_must_11
  ·
    replace hf := ms_iT c1 hf
    refine lv_aload_n hx hb dX12_must_4 rfl (lv_at hl 0 rfl) (hp_n (n := 5) rfl ?_)
    refine m_geti (k := 20) (φ := 670) (pc' := 8) C B hM fl_X12_262 rfl rfl dX12_must_5 rfl ?_
    refine lv_if_le (tgt := 12) hx hb dX12_must_8 (by decide) (fun c2 => ?_) (fun c2 => hp_n (n := 11) rfl ?_)
    ·
      replace hf := ms_iT c2 hf
      refine lv_aload_n hx hb dX12_must_12 rfl (lv_at hl 0 rfl) (hp_n (n := 13) rfl ?_)
      refine lv_iload_n hx hb dX12_must_13 rfl (lv_at hl 2 rfl) (hp_n (n := 14) rfl ?_)
      refine lv_iconst (v := 2) hx hb dX12_must_14 (by decide) (hp_n (n := 15) rfl ?_)
      have J31 : ∀ (αh3 : hp_T) (Hh3 : Heap) (Lh3 : List Loc) (Bh3 : hp_B Γ mo s α αh3 Hh3 Lh3) (σh3 : ms_T) (Mh3 : hm_M αh3 a0 ρ σh3) (w0_h3 : Int32) (ls : Array Slot) (hl : lv_has ls 3 [(0, .ref a0)]) (hf : f_X12_must_J31 n σh3 w0_h3 = some res), W p l e (hp_rm 0 0 0) s m ([.ref a0, .int a1, .int a2] : List Value).toArray below meth c Hh3 Lh3 0 0 (MQ below (hp_Qv Γ (fun β => mo α β ∧ hm_M β a0 ρ res)) ([.ref a0, .int a1, .int a2] : List Value).toArray s 0 0 (hp_A Γ)) (F0 m 31 ls [.int w0_h3, .ref a0]) := by
        intro αh3 Hh3 Lh3 Bh3 σh3 Mh3 w0_h3 ls hl hf
        unfold f_X12_must_J31 at hf
        refine m_puti (k := 20) (φ := 670) (pc' := 34) C Bh3 Mh3 fl_X12_262 rfl rfl rfl rfl rfl dX12_must_31 rfl (fun αh4 Hh4 Lh4 σh4 eh4 Bh4 Mh4 => ?_)
        replace hf := ms_lE eh4 hf
        refine lv_aload_n hx hb dX12_must_34 rfl (lv_at hl 0 rfl) (hp_n (n := 35) rfl ?_)
        refine lv_aload_n hx hb dX12_must_35 rfl (lv_at hl 0 rfl) (hp_n (n := 36) rfl ?_)
        refine m_geti (k := 22) (φ := 672) (pc' := 39) C Bh4 Mh4 fl_X12_242 rfl rfl dX12_must_36 rfl ?_
        refine m_puti (k := 21) (φ := 671) (pc' := 42) C Bh4 Mh4 fl_X12_265 rfl rfl rfl rfl rfl dX12_must_39 rfl (fun αh5 Hh5 Lh5 σh5 eh5 Bh5 Mh5 => ?_)
        replace hf := ms_lE eh5 hf
        cases hf
        exact q_vret C Bh5 hr hlk ⟨Bh5.2.2, Mh5⟩ dX12_must_42
      have J30 : ∀ (αh6 : hp_T) (Hh6 : Heap) (Lh6 : List Loc) (Bh6 : hp_B Γ mo s α αh6 Hh6 Lh6) (σh6 : ms_T) (Mh6 : hm_M αh6 a0 ρ σh6) (v2_h6 : Int32) (ls : Array Slot) (hl : lv_has ls 3 [(0, .ref a0), (2, .int v2_h6)]) (hf : f_X12_must_J30 n σh6 v2_h6 = some res), W p l e (hp_rm 0 0 0) s m ([.ref a0, .int a1, .int a2] : List Value).toArray below meth c Hh6 Lh6 0 0 (MQ below (hp_Qv Γ (fun β => mo α β ∧ hm_M β a0 ρ res)) ([.ref a0, .int a1, .int a2] : List Value).toArray s 0 0 (hp_A Γ)) (F0 m 30 ls [.ref a0]) := by
        intro αh6 Hh6 Lh6 Bh6 σh6 Mh6 v2_h6 ls hl hf
        unfold f_X12_must_J30 at hf
        refine lv_iload_n hx hb dX12_must_30 rfl (lv_at hl 1 rfl) (hp_n (n := 31) rfl ?_)
        exact J31 αh6 Hh6 Lh6 Bh6 σh6 Mh6 v2_h6 ls (lv_sub hl [0] rfl) hf
      refine lv_icmp_ne (tgt := 30) hx hb dX12_must_15 (by decide) (fun c7 => ?_) (fun c7 => hp_n (n := 18) rfl ?_)
      ·
        replace hf := ms_iF c7 hf
        exact J30 α s.heap [] B σ hM a2 ls (lv_sub hl [0, 2] rfl) hf
      ·
        replace hf := ms_iT c7 hf
        refine lv_aload_n hx hb dX12_must_18 rfl (lv_at hl 0 rfl) (hp_n (n := 19) rfl ?_)
        refine m_geti (k := 24) (φ := 674) (pc' := 22) C B hM fl_X12_245 rfl rfl dX12_must_19 rfl ?_
        refine lv_iconst (v := 4) hx hb dX12_must_22 (by decide) (hp_n (n := 23) rfl ?_)
        refine lv_icmp_ne (tgt := 30) hx hb dX12_must_23 (by decide) (fun c8 => ?_) (fun c8 => hp_n (n := 26) rfl ?_)
        ·
          replace hf := ms_iF c8 hf
          exact J30 α s.heap [] B σ hM a2 ls (lv_sub hl [0, 2] rfl) hf
        ·
          replace hf := ms_iT c8 hf
          refine lv_iconst (v := 1) hx hb dX12_must_26 (by decide) (hp_n (n := 27) rfl ?_)
          refine lv_goto (tgt := 31) hx hb dX12_must_27 (by decide) ?_
          exact J31 α s.heap [] B σ hM (1 : Int32) ls (lv_sub hl [0] rfl) hf
    ·
      replace hf := ms_iF c2 hf
      cases hf
      exact q_vret C B hr hlk ⟨B.2.2, hM⟩ dX12_must_11
def f_X12_isWord (n : Nat) (σ : ms_T) (a1 : Int32) : Option Int32 :=
  if (ms_I σ 670) = 0 then
    if (ms_I σ 674) = (1 : Int32) then
      ms_g a1 12 <|
      if (lg_cmp (ms_J σ) (ms_w (a1).toNatClampNeg)) = 0 then
        if (8 : Int32) < ((ms_I σ 673) - (ms_I σ 672)) then
          some (0 : Int32)
        else
          some (1 : Int32)
      else
        some (0 : Int32)
    else
      some (0 : Int32)
  else
    some (0 : Int32)
set_option maxRecDepth 100000 in
set_option maxHeartbeats 4000000 in
theorem m_X12_isWord (n : Nat) (Γ : hp_G) (l : Launch) (α : hp_T) (a0 : Nat) (ρ : Nat → Nat) (σ : ms_T) (hM : hm_M α a0 ρ σ) (a1 : Int32) (res : Int32) (hf : f_X12_isWord n σ a1 = some res) : Met l yX12_isWord (hp_ws yX12_isWord cX12_isWord 2 (some .boolean)) (hp_rm 0 0 0) (hp_Pc Γ α [.ref a0, .int a1]) (hp_Qi Γ (fun r β => β = α ∧ r = res)) 0 0 (hp_A Γ) := by
  unfold f_X12_isWord at hf
  refine hp_start (by decide) ?_
  intro p e s m below meth c C hr hlk B0 hnm
  have C : hp_C Γ p m c cX12_isWord 2 s ([.ref a0, .int a1] : List Value).toArray RX12 := C
  have hx := C.1.1
  have hb := C.1.2.1
  have hown := C.1.2.2.2.1
  have hts := C.1.2.2.2.2
  have B : hp_B Γ (fun _ _ => True) s α α s.heap [] := ⟨B0.1, B0.2.1, trivial⟩
  have hl := lv_entry ([.ref a0, .int a1]) (n := 2) (Nat.le_of_ble_eq_true rfl)
  show W p l e (hp_rm 0 0 0) s m ([.ref a0, .int a1] : List Value).toArray below meth c s.heap [] 0 0 (MQ below (hp_Qi Γ (fun r β => β = α ∧ r = res)) ([.ref a0, .int a1] : List Value).toArray s 0 0 (hp_A Γ)) (entryFrame m ([.ref a0, .int a1] : List Value).toArray 2)
  rw [lg_entry_eq]
  generalize (lg_sl ([.ref a0, .int a1]) ++ List.replicate (2 - (lg_sl ([.ref a0, .int a1])).length) Slot.unset).toArray = ls at hl ⊢
  have hl : lv_has ls 2 [(0, .ref a0), (1, .int a1)] := hl
  refine lv_aload_n hx hb dX12_isWord_0 rfl (lv_at hl 0 rfl) (hp_n (n := 1) rfl ?_)
  refine m_geti (k := 20) (φ := 670) (pc' := 4) C B hM fl_X12_262 rfl rfl dX12_isWord_1 rfl ?_
  refine lv_if_ne (tgt := 47) hx hb dX12_isWord_4 (by decide) (fun c1 => ?_) (fun c1 => hp_n (n := 7) rfl ?_)
  ·
    replace hf := ms_iF c1 hf
    refine lv_iconst (v := 0) hx hb dX12_isWord_47 (by decide) (hp_n (n := 48) rfl ?_)
    cases hf
    exact q_zret C B hr hlk (by decide) ⟨rfl, rfl⟩ dX12_isWord_48
  ·
    replace hf := ms_iT c1 hf
    refine lv_aload_n hx hb dX12_isWord_7 rfl (lv_at hl 0 rfl) (hp_n (n := 8) rfl ?_)
    refine m_geti (k := 24) (φ := 674) (pc' := 11) C B hM fl_X12_245 rfl rfl dX12_isWord_8 rfl ?_
    refine lv_iconst (v := 1) hx hb dX12_isWord_11 (by decide) (hp_n (n := 12) rfl ?_)
    refine lv_icmp_ne (tgt := 47) hx hb dX12_isWord_12 (by decide) (fun c2 => ?_) (fun c2 => hp_n (n := 15) rfl ?_)
    ·
      replace hf := ms_iF c2 hf
      refine lv_iconst (v := 0) hx hb dX12_isWord_47 (by decide) (hp_n (n := 48) rfl ?_)
      cases hf
      exact q_zret C B hr hlk (by decide) ⟨rfl, rfl⟩ dX12_isWord_48
    ·
      replace hf := ms_iT c2 hf
      refine lv_aload_n hx hb dX12_isWord_15 rfl (lv_at hl 0 rfl) (hp_n (n := 16) rfl ?_)
      refine m_getl (pc' := 19) C B hM fl_X12_251 dX12_isWord_16 rfl ?_
      refine lv_aload_n hx hb dX12_isWord_19 rfl (lv_at hl 0 rfl) (hp_n (n := 20) rfl ?_)
      refine m_getr (κ := 48) (k := 28) (pc' := 23) C B hM fl_X12_66 rfl (by decide) dX12_isWord_20 rfl ?_
      refine lv_iload_n hx hb dX12_isWord_23 rfl (lv_at hl 1 rfl) (hp_n (n := 24) rfl ?_)
      obtain ⟨g3, hf⟩ := ms_gE hf
      refine m_lal (pc' := 25) C B hM g3 dX12_isWord_24 rfl ?_
      refine W.lcmp hx hb dX12_isWord_25 (hp_n (n := 26) rfl ?_)
      refine lv_if_ne (tgt := 47) hx hb dX12_isWord_26 (by decide) (fun c4 => ?_) (fun c4 => hp_n (n := 29) rfl ?_)
      ·
        replace hf := ms_iF c4 hf
        refine lv_iconst (v := 0) hx hb dX12_isWord_47 (by decide) (hp_n (n := 48) rfl ?_)
        cases hf
        exact q_zret C B hr hlk (by decide) ⟨rfl, rfl⟩ dX12_isWord_48
      ·
        replace hf := ms_iT c4 hf
        refine lv_aload_n hx hb dX12_isWord_29 rfl (lv_at hl 0 rfl) (hp_n (n := 30) rfl ?_)
        refine m_geti (k := 23) (φ := 673) (pc' := 33) C B hM fl_X12_239 rfl rfl dX12_isWord_30 rfl ?_
        refine lv_aload_n hx hb dX12_isWord_33 rfl (lv_at hl 0 rfl) (hp_n (n := 34) rfl ?_)
        refine m_geti (k := 22) (φ := 672) (pc' := 37) C B hM fl_X12_242 rfl rfl dX12_isWord_34 rfl ?_
        refine lv_isub hx hb dX12_isWord_37 (hp_n (n := 38) rfl ?_)
        refine lv_bipush (v := 8) hx hb dX12_isWord_38 (by decide) (hp_n (n := 40) rfl ?_)
        refine lv_icmp_gt (tgt := 47) hx hb dX12_isWord_40 (by decide) (fun c5 => ?_) (fun c5 => hp_n (n := 43) rfl ?_)
        ·
          replace hf := ms_iT c5 hf
          refine lv_iconst (v := 0) hx hb dX12_isWord_47 (by decide) (hp_n (n := 48) rfl ?_)
          cases hf
          exact q_zret C B hr hlk (by decide) ⟨rfl, rfl⟩ dX12_isWord_48
        ·
          replace hf := ms_iF c5 hf
          refine lv_iconst (v := 1) hx hb dX12_isWord_43 (by decide) (hp_n (n := 44) rfl ?_)
          refine lv_goto (tgt := 48) hx hb dX12_isWord_44 (by decide) ?_
          cases hf
          exact q_zret C B hr hlk (by decide) ⟨rfl, rfl⟩ dX12_isWord_48
def f_X12_takes (n : Nat) (σ : ms_T) (a1 : Int32) : Option ms_T :=
  ms_b (f_X12_isWord n σ a1) fun rh1 =>
  ms_b (f_X12_must n σ rh1 (2 : Int32)) fun σh2 =>
  if (ms_I σh2 670) = 0 then
    ms_b (f_X12_reads n σh2) fun σh4 =>
    some σh4
  else
    some σh2
set_option maxRecDepth 100000 in
set_option maxHeartbeats 4000000 in
theorem m_X12_takes (n : Nat) (Γ : hp_G) (l : Launch) (α : hp_T) (a0 : Nat) (ρ : Nat → Nat) (σ : ms_T) (hM : hm_M α a0 ρ σ) (a1 : Int32) (res : ms_T) (hf : f_X12_takes n σ a1 = some res) : Met l yX12_takes (hp_ws yX12_takes cX12_takes 2 none) (hp_rm 3 0 0) (hp_Pc Γ α [.ref a0, .int a1]) (hp_Qv Γ (fun β => mo α β ∧ hm_M β a0 ρ res)) 0 0 (hp_A Γ) := by
  unfold f_X12_takes at hf
  refine hp_start (by decide) ?_
  intro p e s m below meth c C hr hlk B0 hnm
  have C : hp_C Γ p m c cX12_takes 2 s ([.ref a0, .int a1] : List Value).toArray RX12 := C
  have hx := C.1.1
  have hb := C.1.2.1
  have hown := C.1.2.2.2.1
  have hts := C.1.2.2.2.2
  have B : hp_B Γ mo s α α s.heap [] := ⟨B0.1, B0.2.1, mo_rf⟩
  have hl := lv_entry ([.ref a0, .int a1]) (n := 2) (Nat.le_of_ble_eq_true rfl)
  show W p l e (hp_rm 3 0 0) s m ([.ref a0, .int a1] : List Value).toArray below meth c s.heap [] 0 0 (MQ below (hp_Qv Γ (fun β => mo α β ∧ hm_M β a0 ρ res)) ([.ref a0, .int a1] : List Value).toArray s 0 0 (hp_A Γ)) (entryFrame m ([.ref a0, .int a1] : List Value).toArray 2)
  rw [lg_entry_eq]
  generalize (lg_sl ([.ref a0, .int a1]) ++ List.replicate (2 - (lg_sl ([.ref a0, .int a1])).length) Slot.unset).toArray = ls at hl ⊢
  have hl : lv_has ls 2 [(0, .ref a0), (1, .int a1)] := hl
  refine lv_aload_n hx hb dX12_takes_0 rfl (lv_at hl 0 rfl) (hp_n (n := 1) rfl ?_)
  refine lv_aload_n hx hb dX12_takes_1 rfl (lv_at hl 0 rfl) (hp_n (n := 2) rfl ?_)
  refine lv_iload_n hx hb dX12_takes_2 rfl (lv_at hl 1 rfl) (hp_n (n := 3) rfl ?_)
  obtain ⟨rh1, qh1, hf⟩ := ms_bE hf
  refine m_cp (pc' := 6) B (hp_runV (As := [.int a1]) (rest := [.ref a0]) C B (m_X12_isWord n Γ l α a0 ρ σ hM a1 rh1 qh1) lb_X12_isWord lv_X12_isWord lk_X12_268 hM.1 rfl (by decide) rfl hl.1 rfl (Nat.le_of_ble_eq_true rfl) dX12_takes_3 ⟨Nat.le_refl _, Nat.le_refl _⟩) rfl (fun Hh1 Lh1 Bh1 => ?_)
  refine lv_iconst (v := 2) hx hb dX12_takes_6 (by decide) (hp_n (n := 7) rfl ?_)
  obtain ⟨σh2, qh2, hf⟩ := ms_bE hf
  refine m_cv (pc' := 10) (a := a0) (ρ := ρ) Bh1 (hp_runV (As := [.int rh1, .int (2 : Int32)]) (rest := []) C Bh1 (m_X12_must n Γ l α a0 ρ σ hM rh1 (2 : Int32) σh2 qh2) lb_X12_must lv_X12_must lk_X12_272 hM.1 rfl (by decide) rfl hl.1 rfl (Nat.le_of_ble_eq_true rfl) dX12_takes_7 ⟨Nat.le_refl _, Nat.le_refl _⟩) rfl (fun αh2 Hh2 Lh2 Bh2 Mh2 => ?_)
  refine lv_aload_n hx hb dX12_takes_10 rfl (lv_at hl 0 rfl) (hp_n (n := 11) rfl ?_)
  refine m_geti (k := 20) (φ := 670) (pc' := 14) C Bh2 Mh2 fl_X12_262 rfl rfl dX12_takes_11 rfl ?_
  refine lv_if_ne (tgt := 21) hx hb dX12_takes_14 (by decide) (fun c3 => ?_) (fun c3 => hp_n (n := 17) rfl ?_)
  ·
    replace hf := ms_iF c3 hf
    cases hf
    exact q_vret C Bh2 hr hlk ⟨Bh2.2.2, Mh2⟩ dX12_takes_21
  ·
    replace hf := ms_iT c3 hf
    refine lv_aload_n hx hb dX12_takes_17 rfl (lv_at hl 0 rfl) (hp_n (n := 18) rfl ?_)
    obtain ⟨σh4, qh4, hf⟩ := ms_bE hf
    refine m_cv (pc' := 21) (a := a0) (ρ := ρ) Bh2 (hp_runV (As := []) (rest := []) C Bh2 (m_X12_reads n Γ l αh2 a0 ρ σh2 Mh2  σh4 qh4) lb_X12_reads lv_X12_reads lk_X12_276 Mh2.1 rfl (by decide) rfl hl.1 rfl (Nat.le_of_ble_eq_true rfl) dX12_takes_18 ⟨Nat.le_refl _, Nat.le_refl _⟩) rfl (fun αh4 Hh4 Lh4 Bh4 Mh4 => ?_)
    cases hf
    exact q_vret C Bh4 hr hlk ⟨Bh4.2.2, Mh4⟩ dX12_takes_21
def f_X12_takesEnd_J14 (n : Nat) (σh1 : ms_T) (w0_h1 : Int32) : Option ms_T :=
  ms_b (f_X12_must n σh1 w0_h1 (2 : Int32)) fun σh2 =>
  if (ms_I σh2 670) = 0 then
    ms_b (f_X12_reads n σh2) fun σh4 =>
    some σh4
  else
    some σh2
def f_X12_takesEnd (n : Nat) (σ : ms_T) : Option ms_T :=
  if (ms_I σ 674) = (3 : Int32) then
    f_X12_takesEnd_J14 n σ (1 : Int32)
  else
    f_X12_takesEnd_J14 n σ (0 : Int32)
set_option maxRecDepth 100000 in
set_option maxHeartbeats 4000000 in
theorem m_X12_takesEnd (n : Nat) (Γ : hp_G) (l : Launch) (α : hp_T) (a0 : Nat) (ρ : Nat → Nat) (σ : ms_T) (hM : hm_M α a0 ρ σ)  (res : ms_T) (hf : f_X12_takesEnd n σ = some res) : Met l yX12_takesEnd (hp_ws yX12_takesEnd cX12_takesEnd 1 none) (hp_rm 3 0 0) (hp_Pc Γ α [.ref a0]) (hp_Qv Γ (fun β => mo α β ∧ hm_M β a0 ρ res)) 0 0 (hp_A Γ) := by
  unfold f_X12_takesEnd at hf
  refine hp_start (by decide) ?_
  intro p e s m below meth c C hr hlk B0 hnm
  have C : hp_C Γ p m c cX12_takesEnd 1 s ([.ref a0] : List Value).toArray RX12 := C
  have hx := C.1.1
  have hb := C.1.2.1
  have hown := C.1.2.2.2.1
  have hts := C.1.2.2.2.2
  have B : hp_B Γ mo s α α s.heap [] := ⟨B0.1, B0.2.1, mo_rf⟩
  have hl := lv_entry ([.ref a0]) (n := 1) (Nat.le_of_ble_eq_true rfl)
  show W p l e (hp_rm 3 0 0) s m ([.ref a0] : List Value).toArray below meth c s.heap [] 0 0 (MQ below (hp_Qv Γ (fun β => mo α β ∧ hm_M β a0 ρ res)) ([.ref a0] : List Value).toArray s 0 0 (hp_A Γ)) (entryFrame m ([.ref a0] : List Value).toArray 1)
  rw [lg_entry_eq]
  generalize (lg_sl ([.ref a0]) ++ List.replicate (1 - (lg_sl ([.ref a0])).length) Slot.unset).toArray = ls at hl ⊢
  have hl : lv_has ls 1 [(0, .ref a0)] := hl
  refine lv_aload_n hx hb dX12_takesEnd_0 rfl (lv_at hl 0 rfl) (hp_n (n := 1) rfl ?_)
  refine lv_aload_n hx hb dX12_takesEnd_1 rfl (lv_at hl 0 rfl) (hp_n (n := 2) rfl ?_)
  refine m_geti (k := 24) (φ := 674) (pc' := 5) C B hM fl_X12_245 rfl rfl dX12_takesEnd_2 rfl ?_
  refine lv_iconst (v := 3) hx hb dX12_takesEnd_5 (by decide) (hp_n (n := 6) rfl ?_)
  have J14 : ∀ (αh1 : hp_T) (Hh1 : Heap) (Lh1 : List Loc) (Bh1 : hp_B Γ mo s α αh1 Hh1 Lh1) (σh1 : ms_T) (Mh1 : hm_M αh1 a0 ρ σh1) (w0_h1 : Int32) (ls : Array Slot) (hl : lv_has ls 1 [(0, .ref a0)]) (hf : f_X12_takesEnd_J14 n σh1 w0_h1 = some res), W p l e (hp_rm 3 0 0) s m ([.ref a0] : List Value).toArray below meth c Hh1 Lh1 0 0 (MQ below (hp_Qv Γ (fun β => mo α β ∧ hm_M β a0 ρ res)) ([.ref a0] : List Value).toArray s 0 0 (hp_A Γ)) (F0 m 14 ls [.int w0_h1, .ref a0]) := by
    intro αh1 Hh1 Lh1 Bh1 σh1 Mh1 w0_h1 ls hl hf
    unfold f_X12_takesEnd_J14 at hf
    refine lv_iconst (v := 2) hx hb dX12_takesEnd_14 (by decide) (hp_n (n := 15) rfl ?_)
    obtain ⟨σh2, qh2, hf⟩ := ms_bE hf
    refine m_cv (pc' := 18) (a := a0) (ρ := ρ) Bh1 (hp_runV (As := [.int w0_h1, .int (2 : Int32)]) (rest := []) C Bh1 (m_X12_must n Γ l αh1 a0 ρ σh1 Mh1 w0_h1 (2 : Int32) σh2 qh2) lb_X12_must lv_X12_must lk_X12_272 Mh1.1 rfl (by decide) rfl hl.1 rfl (Nat.le_of_ble_eq_true rfl) dX12_takesEnd_15 ⟨Nat.le_refl _, Nat.le_refl _⟩) rfl (fun αh2 Hh2 Lh2 Bh2 Mh2 => ?_)
    refine lv_aload_n hx hb dX12_takesEnd_18 rfl (lv_at hl 0 rfl) (hp_n (n := 19) rfl ?_)
    refine m_geti (k := 20) (φ := 670) (pc' := 22) C Bh2 Mh2 fl_X12_262 rfl rfl dX12_takesEnd_19 rfl ?_
    refine lv_if_ne (tgt := 29) hx hb dX12_takesEnd_22 (by decide) (fun c3 => ?_) (fun c3 => hp_n (n := 25) rfl ?_)
    ·
      replace hf := ms_iF c3 hf
      cases hf
      exact q_vret C Bh2 hr hlk ⟨Bh2.2.2, Mh2⟩ dX12_takesEnd_29
    ·
      replace hf := ms_iT c3 hf
      refine lv_aload_n hx hb dX12_takesEnd_25 rfl (lv_at hl 0 rfl) (hp_n (n := 26) rfl ?_)
      obtain ⟨σh4, qh4, hf⟩ := ms_bE hf
      refine m_cv (pc' := 29) (a := a0) (ρ := ρ) Bh2 (hp_runV (As := []) (rest := []) C Bh2 (m_X12_reads n Γ l αh2 a0 ρ σh2 Mh2  σh4 qh4) lb_X12_reads lv_X12_reads lk_X12_276 Mh2.1 rfl (by decide) rfl hl.1 rfl (Nat.le_of_ble_eq_true rfl) dX12_takesEnd_26 ⟨Nat.le_refl _, Nat.le_refl _⟩) rfl (fun αh4 Hh4 Lh4 Bh4 Mh4 => ?_)
      cases hf
      exact q_vret C Bh4 hr hlk ⟨Bh4.2.2, Mh4⟩ dX12_takesEnd_29
  refine lv_icmp_ne (tgt := 13) hx hb dX12_takesEnd_6 (by decide) (fun c5 => ?_) (fun c5 => hp_n (n := 9) rfl ?_)
  ·
    replace hf := ms_iF c5 hf
    refine lv_iconst (v := 0) hx hb dX12_takesEnd_13 (by decide) (hp_n (n := 14) rfl ?_)
    exact J14 α s.heap [] B σ hM (0 : Int32) ls (lv_sub hl [0] rfl) hf
  ·
    replace hf := ms_iT c5 hf
    refine lv_iconst (v := 1) hx hb dX12_takesEnd_9 (by decide) (hp_n (n := 10) rfl ?_)
    refine lv_goto (tgt := 14) hx hb dX12_takesEnd_10 (by decide) ?_
    exact J14 α s.heap [] B σ hM (1 : Int32) ls (lv_sub hl [0] rfl) hf
def f_X12_takesNumber_J14 (n : Nat) (σh1 : ms_T) (v1_h1 : Int32) (v2_h1 : Int32) (w0_h1 : Int32) : Option (Int32 × ms_T) :=
  ms_b (f_X12_must n σh1 w0_h1 (2 : Int32)) fun σh2 =>
  ms_b (f_X12_isIn n (ms_I σh2 675) v1_h1 v2_h1) fun rh3 =>
  ms_b (f_X12_must n σh2 rh3 (3 : Int32)) fun σh4 =>
  ms_l ((ms_I σh4 675)) fun x5 =>
  if (ms_I σh4 670) = 0 then
    ms_b (f_X12_reads n σh4) fun σh7 =>
    some (x5, σh7)
  else
    some (x5, σh4)
def f_X12_takesNumber (n : Nat) (σ : ms_T) (a1 : Int32) (a2 : Int32) : Option (Int32 × ms_T) :=
  if (ms_I σ 674) = (2 : Int32) then
    f_X12_takesNumber_J14 n σ a1 a2 (1 : Int32)
  else
    f_X12_takesNumber_J14 n σ a1 a2 (0 : Int32)
set_option maxRecDepth 100000 in
set_option maxHeartbeats 4000000 in
theorem m_X12_takesNumber (n : Nat) (Γ : hp_G) (l : Launch) (α : hp_T) (a0 : Nat) (ρ : Nat → Nat) (σ : ms_T) (hM : hm_M α a0 ρ σ) (a1 : Int32) (a2 : Int32) (res : (Int32 × ms_T)) (hf : f_X12_takesNumber n σ a1 a2 = some res) : Met l yX12_takesNumber (hp_ws yX12_takesNumber cX12_takesNumber 4 (some .int)) (hp_rm 3 0 0) (hp_Pc Γ α [.ref a0, .int a1, .int a2]) (hp_Qi Γ (fun r β => r = res.1 ∧ mo α β ∧ hm_M β a0 ρ res.2)) 0 0 (hp_A Γ) := by
  unfold f_X12_takesNumber at hf
  refine hp_start (by decide) ?_
  intro p e s m below meth c C hr hlk B0 hnm
  have C : hp_C Γ p m c cX12_takesNumber 4 s ([.ref a0, .int a1, .int a2] : List Value).toArray RX12 := C
  have hx := C.1.1
  have hb := C.1.2.1
  have hown := C.1.2.2.2.1
  have hts := C.1.2.2.2.2
  have B : hp_B Γ mo s α α s.heap [] := ⟨B0.1, B0.2.1, mo_rf⟩
  have hl := lv_entry ([.ref a0, .int a1, .int a2]) (n := 4) (Nat.le_of_ble_eq_true rfl)
  show W p l e (hp_rm 3 0 0) s m ([.ref a0, .int a1, .int a2] : List Value).toArray below meth c s.heap [] 0 0 (MQ below (hp_Qi Γ (fun r β => r = res.1 ∧ mo α β ∧ hm_M β a0 ρ res.2)) ([.ref a0, .int a1, .int a2] : List Value).toArray s 0 0 (hp_A Γ)) (entryFrame m ([.ref a0, .int a1, .int a2] : List Value).toArray 4)
  rw [lg_entry_eq]
  generalize (lg_sl ([.ref a0, .int a1, .int a2]) ++ List.replicate (4 - (lg_sl ([.ref a0, .int a1, .int a2])).length) Slot.unset).toArray = ls at hl ⊢
  have hl : lv_has ls 4 [(0, .ref a0), (1, .int a1), (2, .int a2)] := hl
  refine lv_aload_n hx hb dX12_takesNumber_0 rfl (lv_at hl 0 rfl) (hp_n (n := 1) rfl ?_)
  refine lv_aload_n hx hb dX12_takesNumber_1 rfl (lv_at hl 0 rfl) (hp_n (n := 2) rfl ?_)
  refine m_geti (k := 24) (φ := 674) (pc' := 5) C B hM fl_X12_245 rfl rfl dX12_takesNumber_2 rfl ?_
  refine lv_iconst (v := 2) hx hb dX12_takesNumber_5 (by decide) (hp_n (n := 6) rfl ?_)
  have J14 : ∀ (αh1 : hp_T) (Hh1 : Heap) (Lh1 : List Loc) (Bh1 : hp_B Γ mo s α αh1 Hh1 Lh1) (σh1 : ms_T) (Mh1 : hm_M αh1 a0 ρ σh1) (v1_h1 : Int32) (v2_h1 : Int32) (w0_h1 : Int32) (ls : Array Slot) (hl : lv_has ls 4 [(0, .ref a0), (1, .int v1_h1), (2, .int v2_h1)]) (hf : f_X12_takesNumber_J14 n σh1 v1_h1 v2_h1 w0_h1 = some res), W p l e (hp_rm 3 0 0) s m ([.ref a0, .int a1, .int a2] : List Value).toArray below meth c Hh1 Lh1 0 0 (MQ below (hp_Qi Γ (fun r β => r = res.1 ∧ mo α β ∧ hm_M β a0 ρ res.2)) ([.ref a0, .int a1, .int a2] : List Value).toArray s 0 0 (hp_A Γ)) (F0 m 14 ls [.int w0_h1, .ref a0]) := by
    intro αh1 Hh1 Lh1 Bh1 σh1 Mh1 v1_h1 v2_h1 w0_h1 ls hl hf
    unfold f_X12_takesNumber_J14 at hf
    refine lv_iconst (v := 2) hx hb dX12_takesNumber_14 (by decide) (hp_n (n := 15) rfl ?_)
    obtain ⟨σh2, qh2, hf⟩ := ms_bE hf
    refine m_cv (pc' := 18) (a := a0) (ρ := ρ) Bh1 (hp_runV (As := [.int w0_h1, .int (2 : Int32)]) (rest := []) C Bh1 (m_X12_must n Γ l αh1 a0 ρ σh1 Mh1 w0_h1 (2 : Int32) σh2 qh2) lb_X12_must lv_X12_must lk_X12_272 Mh1.1 rfl (by decide) rfl hl.1 rfl (Nat.le_of_ble_eq_true rfl) dX12_takesNumber_15 ⟨Nat.le_refl _, Nat.le_refl _⟩) rfl (fun αh2 Hh2 Lh2 Bh2 Mh2 => ?_)
    refine lv_aload_n hx hb dX12_takesNumber_18 rfl (lv_at hl 0 rfl) (hp_n (n := 19) rfl ?_)
    refine lv_aload_n hx hb dX12_takesNumber_19 rfl (lv_at hl 0 rfl) (hp_n (n := 20) rfl ?_)
    refine m_geti (k := 25) (φ := 675) (pc' := 23) C Bh2 Mh2 fl_X12_259 rfl rfl dX12_takesNumber_20 rfl ?_
    refine lv_iload_n hx hb dX12_takesNumber_23 rfl (lv_at hl 1 rfl) (hp_n (n := 24) rfl ?_)
    refine lv_iload_n hx hb dX12_takesNumber_24 rfl (lv_at hl 2 rfl) (hp_n (n := 25) rfl ?_)
    obtain ⟨rh3, qh3, hf⟩ := ms_bE hf
    refine m_cp (pc' := 28) Bh2 (hp_runS (As := [.int (ms_I σh2 675), .int v1_h1, .int v2_h1]) (rest := [.ref a0]) C Bh2 (m_X12_isIn n Γ l αh2 (ms_I σh2 675) v1_h1 v2_h1 rh3 qh3) lb_X12_isIn ls_X12_isIn lk_X12_113 rfl (by decide) rfl hl.1 rfl (Nat.le_of_ble_eq_true rfl) dX12_takesNumber_25 ⟨Nat.le_refl _, Nat.le_refl _⟩) rfl (fun Hh3 Lh3 Bh3 => ?_)
    refine lv_iconst (v := 3) hx hb dX12_takesNumber_28 (by decide) (hp_n (n := 29) rfl ?_)
    obtain ⟨σh4, qh4, hf⟩ := ms_bE hf
    refine m_cv (pc' := 32) (a := a0) (ρ := ρ) Bh3 (hp_runV (As := [.int rh3, .int (3 : Int32)]) (rest := []) C Bh3 (m_X12_must n Γ l αh2 a0 ρ σh2 Mh2 rh3 (3 : Int32) σh4 qh4) lb_X12_must lv_X12_must lk_X12_272 Mh2.1 rfl (by decide) rfl hl.1 rfl (Nat.le_of_ble_eq_true rfl) dX12_takesNumber_29 ⟨Nat.le_refl _, Nat.le_refl _⟩) rfl (fun αh4 Hh4 Lh4 Bh4 Mh4 => ?_)
    refine lv_aload_n hx hb dX12_takesNumber_32 rfl (lv_at hl 0 rfl) (hp_n (n := 33) rfl ?_)
    refine m_geti (k := 25) (φ := 675) (pc' := 36) C Bh4 Mh4 fl_X12_259 rfl rfl dX12_takesNumber_33 rfl ?_
    refine lv_topi (fun x5 ex5 => ?_)
    replace hf := ms_lE ex5 hf
    refine lv_istore_n (lv' := [(3, .int x5), (0, .ref a0), (1, .int v1_h1), (2, .int v2_h1)]) hx hb dX12_takesNumber_36 rfl hl (by decide) rfl (fun ls hl => hp_n (n := 37) rfl ?_)
    refine lv_aload_n hx hb dX12_takesNumber_37 rfl (lv_at hl 1 rfl) (hp_n (n := 38) rfl ?_)
    refine m_geti (k := 20) (φ := 670) (pc' := 41) C Bh4 Mh4 fl_X12_262 rfl rfl dX12_takesNumber_38 rfl ?_
    refine lv_if_ne (tgt := 48) hx hb dX12_takesNumber_41 (by decide) (fun c6 => ?_) (fun c6 => hp_n (n := 44) rfl ?_)
    ·
      replace hf := ms_iF c6 hf
      refine lv_iload_n hx hb dX12_takesNumber_48 rfl (lv_at hl 0 rfl) (hp_n (n := 49) rfl ?_)
      cases hf
      exact q_iret C Bh4 hr hlk ⟨rfl, Bh4.2.2, Mh4⟩ dX12_takesNumber_49
    ·
      replace hf := ms_iT c6 hf
      refine lv_aload_n hx hb dX12_takesNumber_44 rfl (lv_at hl 1 rfl) (hp_n (n := 45) rfl ?_)
      obtain ⟨σh7, qh7, hf⟩ := ms_bE hf
      refine m_cv (pc' := 48) (a := a0) (ρ := ρ) Bh4 (hp_runV (As := []) (rest := []) C Bh4 (m_X12_reads n Γ l αh4 a0 ρ σh4 Mh4  σh7 qh7) lb_X12_reads lv_X12_reads lk_X12_276 Mh4.1 rfl (by decide) rfl hl.1 rfl (Nat.le_of_ble_eq_true rfl) dX12_takesNumber_45 ⟨Nat.le_refl _, Nat.le_refl _⟩) rfl (fun αh7 Hh7 Lh7 Bh7 Mh7 => ?_)
      refine lv_iload_n hx hb dX12_takesNumber_48 rfl (lv_at hl 0 rfl) (hp_n (n := 49) rfl ?_)
      cases hf
      exact q_iret C Bh7 hr hlk ⟨rfl, Bh7.2.2, Mh7⟩ dX12_takesNumber_49
  refine lv_icmp_ne (tgt := 13) hx hb dX12_takesNumber_6 (by decide) (fun c8 => ?_) (fun c8 => hp_n (n := 9) rfl ?_)
  ·
    replace hf := ms_iF c8 hf
    refine lv_iconst (v := 0) hx hb dX12_takesNumber_13 (by decide) (hp_n (n := 14) rfl ?_)
    exact J14 α s.heap [] B σ hM a1 a2 (0 : Int32) ls (lv_sub hl [0, 1, 2] rfl) hf
  ·
    replace hf := ms_iT c8 hf
    refine lv_iconst (v := 1) hx hb dX12_takesNumber_9 (by decide) (hp_n (n := 10) rfl ?_)
    refine lv_goto (tgt := 14) hx hb dX12_takesNumber_10 (by decide) ?_
    exact J14 α s.heap [] B σ hM a1 a2 (1 : Int32) ls (lv_sub hl [0, 1, 2] rfl) hf
def f_X12_takesMark (n : Nat) (σ : ms_T) : Option (Int32 × ms_T) :=
  ms_g (1 : Int32) 1980 <|
  ms_c (f_X12_takesNumber n σ (0 : Int32) ((ms_E σ 40 ((1 : Int32)).toNatClampNeg) - (1 : Int32))) fun rh2 σh2 =>
  some (rh2, σh2)
set_option maxRecDepth 100000 in
set_option maxHeartbeats 4000000 in
theorem m_X12_takesMark (n : Nat) (Γ : hp_G) (l : Launch) (α : hp_T) (a0 : Nat) (ρ : Nat → Nat) (σ : ms_T) (hM : hm_M α a0 ρ σ)  (res : (Int32 × ms_T)) (hf : f_X12_takesMark n σ = some res) : Met l yX12_takesMark (hp_ws yX12_takesMark cX12_takesMark 1 (some .int)) (hp_rm 4 0 0) (hp_Pc Γ α [.ref a0]) (hp_Qi Γ (fun r β => r = res.1 ∧ mo α β ∧ hm_M β a0 ρ res.2)) 0 0 (hp_A Γ) := by
  unfold f_X12_takesMark at hf
  refine hp_start (by decide) ?_
  intro p e s m below meth c C hr hlk B0 hnm
  have C : hp_C Γ p m c cX12_takesMark 1 s ([.ref a0] : List Value).toArray RX12 := C
  have hx := C.1.1
  have hb := C.1.2.1
  have hown := C.1.2.2.2.1
  have hts := C.1.2.2.2.2
  have B : hp_B Γ mo s α α s.heap [] := ⟨B0.1, B0.2.1, mo_rf⟩
  have hl := lv_entry ([.ref a0]) (n := 1) (Nat.le_of_ble_eq_true rfl)
  show W p l e (hp_rm 4 0 0) s m ([.ref a0] : List Value).toArray below meth c s.heap [] 0 0 (MQ below (hp_Qi Γ (fun r β => r = res.1 ∧ mo α β ∧ hm_M β a0 ρ res.2)) ([.ref a0] : List Value).toArray s 0 0 (hp_A Γ)) (entryFrame m ([.ref a0] : List Value).toArray 1)
  rw [lg_entry_eq]
  generalize (lg_sl ([.ref a0]) ++ List.replicate (1 - (lg_sl ([.ref a0])).length) Slot.unset).toArray = ls at hl ⊢
  have hl : lv_has ls 1 [(0, .ref a0)] := hl
  refine lv_aload_n hx hb dX12_takesMark_0 rfl (lv_at hl 0 rfl) (hp_n (n := 1) rfl ?_)
  refine lv_iconst (v := 0) hx hb dX12_takesMark_1 (by decide) (hp_n (n := 2) rfl ?_)
  refine lv_aload_n hx hb dX12_takesMark_2 rfl (lv_at hl 0 rfl) (hp_n (n := 3) rfl ?_)
  refine m_getr (κ := 40) (k := 0) (pc' := 6) C B hM fl_X12_7 rfl (by decide) dX12_takesMark_3 rfl ?_
  refine lv_iconst (v := 1) hx hb dX12_takesMark_6 (by decide) (hp_n (n := 7) rfl ?_)
  obtain ⟨g1, hf⟩ := ms_gE hf
  refine m_ial (κ := 40) (φ := 650) (n := 1980) (pc' := 8) C B hM (by decide) (by decide) rfl g1 dX12_takesMark_7 rfl ?_
  refine lv_iconst (v := 1) hx hb dX12_takesMark_8 (by decide) (hp_n (n := 9) rfl ?_)
  refine lv_isub hx hb dX12_takesMark_9 (hp_n (n := 10) rfl ?_)
  obtain ⟨rh2, σh2, qh2, hf⟩ := ms_cE hf
  refine m_ci (pc' := 13) (a := a0) (ρ := ρ) B (hp_runV (As := [.int (0 : Int32), .int ((ms_E σ 40 ((1 : Int32)).toNatClampNeg) - (1 : Int32))]) (rest := []) C B (m_X12_takesNumber n Γ l α a0 ρ σ hM (0 : Int32) ((ms_E σ 40 ((1 : Int32)).toNatClampNeg) - (1 : Int32)) (rh2, σh2) qh2) lb_X12_takesNumber lv_X12_takesNumber lk_X12_279 hM.1 rfl (by decide) rfl hl.1 rfl (Nat.le_of_ble_eq_true rfl) dX12_takesMark_10 ⟨Nat.le_refl _, Nat.le_refl _⟩) rfl (fun αh2 Hh2 Lh2 Bh2 Mh2 => ?_)
  cases hf
  exact q_iret C Bh2 hr hlk ⟨rfl, Bh2.2.2, Mh2⟩ dX12_takesMark_13
def f_X12_addLine_J134 (n : Nat) (σh7 : ms_T) : Option ms_T :=
  ms_b (f_X12_takesEnd n σh7) fun σh8 =>
  if (ms_I σh8 670) = 0 then
    ms_c (f_X12_adds n σh8 (ms_I σh8 679)) fun rh10 σh10 =>
    some σh10
  else
    some σh8
def f_X12_addLine_L96 (n : Nat) : Nat → ms_T → Int32 → Option ms_T
  | 0, _, _ => none
  | k96 + 1, σh16, v1_h16 =>
    if (ms_I σh16 665) ≤ v1_h16 then
      ms_b (f_X12_reads n σh16) fun σh18 =>
      f_X12_addLine_J134 n σh18
    else
      ms_g ((ms_I σh16 672) + v1_h16) 900 <|
      ms_g v1_h16 8 <|
      ms_l (ms_sE σh16 46 (v1_h16).toNatClampNeg ((ms_E σh16 47 (((ms_I σh16 672) + v1_h16)).toNatClampNeg) - (96 : Int32))) fun σh21 =>
      ms_l (v1_h16 + 1) fun x22 =>
      (f_X12_addLine_L96 n k96) σh21 x22
def f_X12_addLine_J69 (n : Nat) (σh12 : ms_T) (w0_h12 : Int32) : Option ms_T :=
  ms_b (f_X12_must n σh12 w0_h12 (4 : Int32)) fun σh13 =>
  if (ms_I σh13 670) ≤ 0 then
    ms_l (ms_sI σh13 665 ((ms_I σh13 673) - (ms_I σh13 672))) fun σh15 =>
    f_X12_addLine_L96 n n σh15 (0 : Int32)
  else
    some σh13
def f_X12_addLine_J19 (n : Nat) (σh2 : ms_T) (w0_h2 : Int32) : Option ms_T :=
  ms_b (f_X12_must n σh2 w0_h2 (6 : Int32)) fun σh3 =>
  if (ms_I σh3 670) ≤ 0 then
    ms_b (f_X12_reads n σh3) fun σh5 =>
    ms_l (ms_sI σh5 665 (0 : Int32)) fun σh6 =>
    if (ms_I σh6 674) = (1 : Int32) then
      if (8 : Int32) < ((ms_I σh6 673) - (ms_I σh6 672)) then
        f_X12_addLine_J69 n σh6 (0 : Int32)
      else
        f_X12_addLine_J69 n σh6 (1 : Int32)
    else
      f_X12_addLine_J134 n σh6
  else
    some σh3
def f_X12_addLine (n : Nat) (σ : ms_T) : Option ms_T :=
  ms_b (f_X12_sizeOf n σ (ms_I σ 679)) fun rh1 =>
  if (48 : Int32) ≤ rh1 then
    f_X12_addLine_J19 n σ (0 : Int32)
  else
    f_X12_addLine_J19 n σ (1 : Int32)
set_option maxRecDepth 100000 in
set_option maxHeartbeats 4000000 in
theorem m_X12_addLine (n : Nat) (Γ : hp_G) (l : Launch) (α : hp_T) (a0 : Nat) (ρ : Nat → Nat) (σ : ms_T) (hM : hm_M α a0 ρ σ)  (res : ms_T) (hf : f_X12_addLine n σ = some res) : Met l yX12_addLine (hp_ws yX12_addLine cX12_addLine 2 none) (hp_rm 4 0 0) (hp_Pc Γ α [.ref a0]) (hp_Qv Γ (fun β => mo α β ∧ hm_M β a0 ρ res)) 0 0 (hp_A Γ) := by
  unfold f_X12_addLine at hf
  refine hp_start (by decide) ?_
  intro p e s m below meth c C hr hlk B0 hnm
  have C : hp_C Γ p m c cX12_addLine 2 s ([.ref a0] : List Value).toArray RX12 := C
  have hx := C.1.1
  have hb := C.1.2.1
  have hown := C.1.2.2.2.1
  have hts := C.1.2.2.2.2
  have B : hp_B Γ mo s α α s.heap [] := ⟨B0.1, B0.2.1, mo_rf⟩
  have hl := lv_entry ([.ref a0]) (n := 2) (Nat.le_of_ble_eq_true rfl)
  show W p l e (hp_rm 4 0 0) s m ([.ref a0] : List Value).toArray below meth c s.heap [] 0 0 (MQ below (hp_Qv Γ (fun β => mo α β ∧ hm_M β a0 ρ res)) ([.ref a0] : List Value).toArray s 0 0 (hp_A Γ)) (entryFrame m ([.ref a0] : List Value).toArray 2)
  rw [lg_entry_eq]
  generalize (lg_sl ([.ref a0]) ++ List.replicate (2 - (lg_sl ([.ref a0])).length) Slot.unset).toArray = ls at hl ⊢
  have hl : lv_has ls 2 [(0, .ref a0)] := hl
  refine lv_aload_n hx hb dX12_addLine_0 rfl (lv_at hl 0 rfl) (hp_n (n := 1) rfl ?_)
  refine lv_aload_n hx hb dX12_addLine_1 rfl (lv_at hl 0 rfl) (hp_n (n := 2) rfl ?_)
  refine lv_aload_n hx hb dX12_addLine_2 rfl (lv_at hl 0 rfl) (hp_n (n := 3) rfl ?_)
  refine m_geti (k := 29) (φ := 679) (pc' := 6) C B hM fl_X12_282 rfl rfl dX12_addLine_3 rfl ?_
  obtain ⟨rh1, qh1, hf⟩ := ms_bE hf
  refine m_cp (pc' := 9) B (hp_runV (As := [.int (ms_I σ 679)]) (rest := [.ref a0]) C B (m_X12_sizeOf n Γ l α a0 ρ σ hM (ms_I σ 679) rh1 qh1) lb_X12_sizeOf lv_X12_sizeOf lk_X12_209 hM.1 rfl (by decide) rfl hl.1 rfl (Nat.le_of_ble_eq_true rfl) dX12_addLine_6 ⟨Nat.le_refl _, Nat.le_refl _⟩) rfl (fun Hh1 Lh1 Bh1 => ?_)
  refine lv_bipush (v := 48) hx hb dX12_addLine_9 (by decide) (hp_n (n := 11) rfl ?_)
  have J19 : ∀ (αh2 : hp_T) (Hh2 : Heap) (Lh2 : List Loc) (Bh2 : hp_B Γ mo s α αh2 Hh2 Lh2) (σh2 : ms_T) (Mh2 : hm_M αh2 a0 ρ σh2) (w0_h2 : Int32) (ls : Array Slot) (hl : lv_has ls 2 [(0, .ref a0)]) (hf : f_X12_addLine_J19 n σh2 w0_h2 = some res), W p l e (hp_rm 4 0 0) s m ([.ref a0] : List Value).toArray below meth c Hh2 Lh2 0 0 (MQ below (hp_Qv Γ (fun β => mo α β ∧ hm_M β a0 ρ res)) ([.ref a0] : List Value).toArray s 0 0 (hp_A Γ)) (F0 m 19 ls [.int w0_h2, .ref a0]) := by
    intro αh2 Hh2 Lh2 Bh2 σh2 Mh2 w0_h2 ls hl hf
    unfold f_X12_addLine_J19 at hf
    refine lv_bipush (v := 6) hx hb dX12_addLine_19 (by decide) (hp_n (n := 21) rfl ?_)
    obtain ⟨σh3, qh3, hf⟩ := ms_bE hf
    refine m_cv (pc' := 24) (a := a0) (ρ := ρ) Bh2 (hp_runV (As := [.int w0_h2, .int (6 : Int32)]) (rest := []) C Bh2 (m_X12_must n Γ l αh2 a0 ρ σh2 Mh2 w0_h2 (6 : Int32) σh3 qh3) lb_X12_must lv_X12_must lk_X12_272 Mh2.1 rfl (by decide) rfl hl.1 rfl (Nat.le_of_ble_eq_true rfl) dX12_addLine_21 ⟨Nat.le_refl _, Nat.le_refl _⟩) rfl (fun αh3 Hh3 Lh3 Bh3 Mh3 => ?_)
    refine lv_aload_n hx hb dX12_addLine_24 rfl (lv_at hl 0 rfl) (hp_n (n := 25) rfl ?_)
    refine m_geti (k := 20) (φ := 670) (pc' := 28) C Bh3 Mh3 fl_X12_262 rfl rfl dX12_addLine_25 rfl ?_
    refine lv_if_le (tgt := 32) hx hb dX12_addLine_28 (by decide) (fun c4 => ?_) (fun c4 => hp_n (n := 31) rfl ?_)
    ·
      replace hf := ms_iT c4 hf
      refine lv_aload_n hx hb dX12_addLine_32 rfl (lv_at hl 0 rfl) (hp_n (n := 33) rfl ?_)
      obtain ⟨σh5, qh5, hf⟩ := ms_bE hf
      refine m_cv (pc' := 36) (a := a0) (ρ := ρ) Bh3 (hp_runV (As := []) (rest := []) C Bh3 (m_X12_reads n Γ l αh3 a0 ρ σh3 Mh3  σh5 qh5) lb_X12_reads lv_X12_reads lk_X12_276 Mh3.1 rfl (by decide) rfl hl.1 rfl (Nat.le_of_ble_eq_true rfl) dX12_addLine_33 ⟨Nat.le_refl _, Nat.le_refl _⟩) rfl (fun αh5 Hh5 Lh5 Bh5 Mh5 => ?_)
      refine lv_aload_n hx hb dX12_addLine_36 rfl (lv_at hl 0 rfl) (hp_n (n := 37) rfl ?_)
      refine lv_iconst (v := 0) hx hb dX12_addLine_37 (by decide) (hp_n (n := 38) rfl ?_)
      refine m_puti (k := 15) (φ := 665) (pc' := 41) C Bh5 Mh5 fl_X12_206 rfl rfl rfl rfl rfl dX12_addLine_38 rfl (fun αh6 Hh6 Lh6 σh6 eh6 Bh6 Mh6 => ?_)
      replace hf := ms_lE eh6 hf
      refine lv_aload_n hx hb dX12_addLine_41 rfl (lv_at hl 0 rfl) (hp_n (n := 42) rfl ?_)
      refine m_geti (k := 24) (φ := 674) (pc' := 45) C Bh6 Mh6 fl_X12_245 rfl rfl dX12_addLine_42 rfl ?_
      refine lv_iconst (v := 1) hx hb dX12_addLine_45 (by decide) (hp_n (n := 46) rfl ?_)
      have J134 : ∀ (αh7 : hp_T) (Hh7 : Heap) (Lh7 : List Loc) (Bh7 : hp_B Γ mo s α αh7 Hh7 Lh7) (σh7 : ms_T) (Mh7 : hm_M αh7 a0 ρ σh7) (ls : Array Slot) (hl : lv_has ls 2 [(0, .ref a0)]) (hf : f_X12_addLine_J134 n σh7 = some res), W p l e (hp_rm 4 0 0) s m ([.ref a0] : List Value).toArray below meth c Hh7 Lh7 0 0 (MQ below (hp_Qv Γ (fun β => mo α β ∧ hm_M β a0 ρ res)) ([.ref a0] : List Value).toArray s 0 0 (hp_A Γ)) (F0 m 134 ls []) := by
        intro αh7 Hh7 Lh7 Bh7 σh7 Mh7 ls hl hf
        unfold f_X12_addLine_J134 at hf
        refine lv_aload_n hx hb dX12_addLine_134 rfl (lv_at hl 0 rfl) (hp_n (n := 135) rfl ?_)
        obtain ⟨σh8, qh8, hf⟩ := ms_bE hf
        refine m_cv (pc' := 138) (a := a0) (ρ := ρ) Bh7 (hp_runV (As := []) (rest := []) C Bh7 (m_X12_takesEnd n Γ l αh7 a0 ρ σh7 Mh7  σh8 qh8) lb_X12_takesEnd lv_X12_takesEnd lk_X12_285 Mh7.1 rfl (by decide) rfl hl.1 rfl (Nat.le_of_ble_eq_true rfl) dX12_addLine_135 ⟨Nat.le_refl _, Nat.le_refl _⟩) rfl (fun αh8 Hh8 Lh8 Bh8 Mh8 => ?_)
        refine lv_aload_n hx hb dX12_addLine_138 rfl (lv_at hl 0 rfl) (hp_n (n := 139) rfl ?_)
        refine m_geti (k := 20) (φ := 670) (pc' := 142) C Bh8 Mh8 fl_X12_262 rfl rfl dX12_addLine_139 rfl ?_
        refine lv_if_ne (tgt := 154) hx hb dX12_addLine_142 (by decide) (fun c9 => ?_) (fun c9 => hp_n (n := 145) rfl ?_)
        ·
          replace hf := ms_iF c9 hf
          cases hf
          exact q_vret C Bh8 hr hlk ⟨Bh8.2.2, Mh8⟩ dX12_addLine_154
        ·
          replace hf := ms_iT c9 hf
          refine lv_aload_n hx hb dX12_addLine_145 rfl (lv_at hl 0 rfl) (hp_n (n := 146) rfl ?_)
          refine lv_aload_n hx hb dX12_addLine_146 rfl (lv_at hl 0 rfl) (hp_n (n := 147) rfl ?_)
          refine m_geti (k := 29) (φ := 679) (pc' := 150) C Bh8 Mh8 fl_X12_282 rfl rfl dX12_addLine_147 rfl ?_
          obtain ⟨rh10, σh10, qh10, hf⟩ := ms_cE hf
          refine m_ci (pc' := 153) (a := a0) (ρ := ρ) Bh8 (hp_runV (As := [.int (ms_I σh8 679)]) (rest := []) C Bh8 (m_X12_adds n Γ l αh8 a0 ρ σh8 Mh8 (ms_I σh8 679) (rh10, σh10) qh10) lb_X12_adds lv_X12_adds lk_X12_288 Mh8.1 rfl (by decide) rfl hl.1 rfl (Nat.le_of_ble_eq_true rfl) dX12_addLine_150 ⟨Nat.le_refl _, Nat.le_refl _⟩) rfl (fun αh10 Hh10 Lh10 Bh10 Mh10 => ?_)
          refine lv_pop hx hb dX12_addLine_153 rfl (hp_n (n := 154) rfl ?_)
          cases hf
          exact q_vret C Bh10 hr hlk ⟨Bh10.2.2, Mh10⟩ dX12_addLine_154
      refine lv_icmp_ne (tgt := 134) hx hb dX12_addLine_46 (by decide) (fun c11 => ?_) (fun c11 => hp_n (n := 49) rfl ?_)
      ·
        replace hf := ms_iF c11 hf
        exact J134 αh6 Hh6 Lh6 Bh6 σh6 Mh6 ls (lv_sub hl [0] rfl) hf
      ·
        replace hf := ms_iT c11 hf
        refine lv_aload_n hx hb dX12_addLine_49 rfl (lv_at hl 0 rfl) (hp_n (n := 50) rfl ?_)
        refine lv_aload_n hx hb dX12_addLine_50 rfl (lv_at hl 0 rfl) (hp_n (n := 51) rfl ?_)
        refine m_geti (k := 23) (φ := 673) (pc' := 54) C Bh6 Mh6 fl_X12_239 rfl rfl dX12_addLine_51 rfl ?_
        refine lv_aload_n hx hb dX12_addLine_54 rfl (lv_at hl 0 rfl) (hp_n (n := 55) rfl ?_)
        refine m_geti (k := 22) (φ := 672) (pc' := 58) C Bh6 Mh6 fl_X12_242 rfl rfl dX12_addLine_55 rfl ?_
        refine lv_isub hx hb dX12_addLine_58 (hp_n (n := 59) rfl ?_)
        refine lv_bipush (v := 8) hx hb dX12_addLine_59 (by decide) (hp_n (n := 61) rfl ?_)
        have J69 : ∀ (αh12 : hp_T) (Hh12 : Heap) (Lh12 : List Loc) (Bh12 : hp_B Γ mo s α αh12 Hh12 Lh12) (σh12 : ms_T) (Mh12 : hm_M αh12 a0 ρ σh12) (w0_h12 : Int32) (ls : Array Slot) (hl : lv_has ls 2 [(0, .ref a0)]) (hf : f_X12_addLine_J69 n σh12 w0_h12 = some res), W p l e (hp_rm 4 0 0) s m ([.ref a0] : List Value).toArray below meth c Hh12 Lh12 0 0 (MQ below (hp_Qv Γ (fun β => mo α β ∧ hm_M β a0 ρ res)) ([.ref a0] : List Value).toArray s 0 0 (hp_A Γ)) (F0 m 69 ls [.int w0_h12, .ref a0]) := by
          intro αh12 Hh12 Lh12 Bh12 σh12 Mh12 w0_h12 ls hl hf
          unfold f_X12_addLine_J69 at hf
          refine lv_iconst (v := 4) hx hb dX12_addLine_69 (by decide) (hp_n (n := 70) rfl ?_)
          obtain ⟨σh13, qh13, hf⟩ := ms_bE hf
          refine m_cv (pc' := 73) (a := a0) (ρ := ρ) Bh12 (hp_runV (As := [.int w0_h12, .int (4 : Int32)]) (rest := []) C Bh12 (m_X12_must n Γ l αh12 a0 ρ σh12 Mh12 w0_h12 (4 : Int32) σh13 qh13) lb_X12_must lv_X12_must lk_X12_272 Mh12.1 rfl (by decide) rfl hl.1 rfl (Nat.le_of_ble_eq_true rfl) dX12_addLine_70 ⟨Nat.le_refl _, Nat.le_refl _⟩) rfl (fun αh13 Hh13 Lh13 Bh13 Mh13 => ?_)
          refine lv_aload_n hx hb dX12_addLine_73 rfl (lv_at hl 0 rfl) (hp_n (n := 74) rfl ?_)
          refine m_geti (k := 20) (φ := 670) (pc' := 77) C Bh13 Mh13 fl_X12_262 rfl rfl dX12_addLine_74 rfl ?_
          refine lv_if_le (tgt := 81) hx hb dX12_addLine_77 (by decide) (fun c14 => ?_) (fun c14 => hp_n (n := 80) rfl ?_)
          ·
            replace hf := ms_iT c14 hf
            refine lv_aload_n hx hb dX12_addLine_81 rfl (lv_at hl 0 rfl) (hp_n (n := 82) rfl ?_)
            refine lv_aload_n hx hb dX12_addLine_82 rfl (lv_at hl 0 rfl) (hp_n (n := 83) rfl ?_)
            refine m_geti (k := 23) (φ := 673) (pc' := 86) C Bh13 Mh13 fl_X12_239 rfl rfl dX12_addLine_83 rfl ?_
            refine lv_aload_n hx hb dX12_addLine_86 rfl (lv_at hl 0 rfl) (hp_n (n := 87) rfl ?_)
            refine m_geti (k := 22) (φ := 672) (pc' := 90) C Bh13 Mh13 fl_X12_242 rfl rfl dX12_addLine_87 rfl ?_
            refine lv_isub hx hb dX12_addLine_90 (hp_n (n := 91) rfl ?_)
            refine m_puti (k := 15) (φ := 665) (pc' := 94) C Bh13 Mh13 fl_X12_206 rfl rfl rfl rfl rfl dX12_addLine_91 rfl (fun αh15 Hh15 Lh15 σh15 eh15 Bh15 Mh15 => ?_)
            replace hf := ms_lE eh15 hf
            refine lv_iconst (v := 0) hx hb dX12_addLine_94 (by decide) (hp_n (n := 95) rfl ?_)
            have J96 : ∀ (k96 : Nat) (αh16 : hp_T) (Hh16 : Heap) (Lh16 : List Loc) (Bh16 : hp_B Γ mo s α αh16 Hh16 Lh16) (σh16 : ms_T) (Mh16 : hm_M αh16 a0 ρ σh16) (v1_h16 : Int32) (ls : Array Slot) (hl : lv_has ls 2 [(0, .ref a0), (1, .int v1_h16)]) (hf : f_X12_addLine_L96 n k96 σh16 v1_h16 = some res), W p l e (hp_rm 4 0 0) s m ([.ref a0] : List Value).toArray below meth c Hh16 Lh16 0 0 (MQ below (hp_Qv Γ (fun β => mo α β ∧ hm_M β a0 ρ res)) ([.ref a0] : List Value).toArray s 0 0 (hp_A Γ)) (F0 m 96 ls []) := by
              intro k96
              induction k96 with
              | zero => intro αh16 Hh16 Lh16 Bh16 σh16 Mh16 v1_h16 ls hl hf; rw [f_X12_addLine_L96.eq_1] at hf; cases hf
              | succ k96 ih96 =>
                intro αh16 Hh16 Lh16 Bh16 σh16 Mh16 v1_h16 ls hl hf
                rw [f_X12_addLine_L96.eq_2] at hf
                refine lv_iload_n hx hb dX12_addLine_96 rfl (lv_at hl 1 rfl) (hp_n (n := 97) rfl ?_)
                refine lv_aload_n hx hb dX12_addLine_97 rfl (lv_at hl 0 rfl) (hp_n (n := 98) rfl ?_)
                refine m_geti (k := 15) (φ := 665) (pc' := 101) C Bh16 Mh16 fl_X12_206 rfl rfl dX12_addLine_98 rfl ?_
                refine lv_icmp_ge (tgt := 130) hx hb dX12_addLine_101 (by decide) (fun c17 => ?_) (fun c17 => hp_n (n := 104) rfl ?_)
                ·
                  replace hf := ms_iT c17 hf
                  refine lv_aload_n hx hb dX12_addLine_130 rfl (lv_at hl 0 rfl) (hp_n (n := 131) rfl ?_)
                  obtain ⟨σh18, qh18, hf⟩ := ms_bE hf
                  refine m_cv (pc' := 134) (a := a0) (ρ := ρ) Bh16 (hp_runV (As := []) (rest := []) C Bh16 (m_X12_reads n Γ l αh16 a0 ρ σh16 Mh16  σh18 qh18) lb_X12_reads lv_X12_reads lk_X12_276 Mh16.1 rfl (by decide) rfl hl.1 rfl (Nat.le_of_ble_eq_true rfl) dX12_addLine_131 ⟨Nat.le_refl _, Nat.le_refl _⟩) rfl (fun αh18 Hh18 Lh18 Bh18 Mh18 => ?_)
                  exact J134 αh18 Hh18 Lh18 Bh18 σh18 Mh18 ls (lv_sub hl [0] rfl) hf
                ·
                  replace hf := ms_iF c17 hf
                  refine lv_aload_n hx hb dX12_addLine_104 rfl (lv_at hl 0 rfl) (hp_n (n := 105) rfl ?_)
                  refine m_getr (κ := 46) (k := 13) (pc' := 108) C Bh16 Mh16 fl_X12_28 rfl (by decide) dX12_addLine_105 rfl ?_
                  refine lv_iload_n hx hb dX12_addLine_108 rfl (lv_at hl 1 rfl) (hp_n (n := 109) rfl ?_)
                  refine lv_aload_n hx hb dX12_addLine_109 rfl (lv_at hl 0 rfl) (hp_n (n := 110) rfl ?_)
                  refine m_getr (κ := 47) (k := 16) (pc' := 113) C Bh16 Mh16 fl_X12_31 rfl (by decide) dX12_addLine_110 rfl ?_
                  refine lv_aload_n hx hb dX12_addLine_113 rfl (lv_at hl 0 rfl) (hp_n (n := 114) rfl ?_)
                  refine m_geti (k := 22) (φ := 672) (pc' := 117) C Bh16 Mh16 fl_X12_242 rfl rfl dX12_addLine_114 rfl ?_
                  refine lv_iload_n hx hb dX12_addLine_117 rfl (lv_at hl 1 rfl) (hp_n (n := 118) rfl ?_)
                  refine lv_iadd hx hb dX12_addLine_118 (hp_n (n := 119) rfl ?_)
                  obtain ⟨g19, hf⟩ := ms_gE hf
                  refine m_bal (κ := 47) (φ := 666) (n := 900) (pc' := 120) C Bh16 Mh16 (by decide) (by decide) rfl g19 dX12_addLine_119 rfl ?_
                  refine lv_bipush (v := 96) hx hb dX12_addLine_120 (by decide) (hp_n (n := 122) rfl ?_)
                  refine lv_isub hx hb dX12_addLine_122 (hp_n (n := 123) rfl ?_)
                  obtain ⟨g20, hf⟩ := ms_gE hf
                  refine m_ias (κ := 46) (φ := 663) (n := 8) (pc' := 124) C Bh16 Mh16 (by decide) (by decide) rfl g20 dX12_addLine_123 rfl (fun αh21 Hh21 Lh21 σh21 eh21 Bh21 Mh21 => ?_)
                  replace hf := ms_lE eh21 hf
                  obtain ⟨x22, ex22⟩ : ∃ y : Int32, y = v1_h16 + 1 := ⟨_, rfl⟩
                  replace hf := ms_lE ex22 hf
                  refine lv_iinc (v := x22) (lv' := [(1, .int x22), (0, .ref a0)]) hx hb dX12_addLine_124 hl (k := 1) rfl (by rw [ex22]; rfl) (by decide) rfl (fun ls hl => hp_n (n := 127) rfl ?_)
                  refine lv_goto (tgt := 96) hx hb dX12_addLine_127 (by decide) ?_
                  exact ih96 αh21 Hh21 Lh21 Bh21 σh21 Mh21 x22 ls (lv_sub hl [1, 0] rfl) hf
            refine lv_istore_n (lv' := [(1, .int (0 : Int32)), (0, .ref a0)]) hx hb dX12_addLine_95 rfl hl (by decide) rfl (fun ls hl => hp_n (n := 96) rfl ?_)
            exact J96 n αh15 Hh15 Lh15 Bh15 σh15 Mh15 (0 : Int32) ls (lv_sub hl [1, 0] rfl) hf
          ·
            replace hf := ms_iF c14 hf
            cases hf
            exact q_vret C Bh13 hr hlk ⟨Bh13.2.2, Mh13⟩ dX12_addLine_80
        refine lv_icmp_gt (tgt := 68) hx hb dX12_addLine_61 (by decide) (fun c23 => ?_) (fun c23 => hp_n (n := 64) rfl ?_)
        ·
          replace hf := ms_iT c23 hf
          refine lv_iconst (v := 0) hx hb dX12_addLine_68 (by decide) (hp_n (n := 69) rfl ?_)
          exact J69 αh6 Hh6 Lh6 Bh6 σh6 Mh6 (0 : Int32) ls (lv_sub hl [0] rfl) hf
        ·
          replace hf := ms_iF c23 hf
          refine lv_iconst (v := 1) hx hb dX12_addLine_64 (by decide) (hp_n (n := 65) rfl ?_)
          refine lv_goto (tgt := 69) hx hb dX12_addLine_65 (by decide) ?_
          exact J69 αh6 Hh6 Lh6 Bh6 σh6 Mh6 (1 : Int32) ls (lv_sub hl [0] rfl) hf
    ·
      replace hf := ms_iF c4 hf
      cases hf
      exact q_vret C Bh3 hr hlk ⟨Bh3.2.2, Mh3⟩ dX12_addLine_31
  refine lv_icmp_ge (tgt := 18) hx hb dX12_addLine_11 (by decide) (fun c24 => ?_) (fun c24 => hp_n (n := 14) rfl ?_)
  ·
    replace hf := ms_iT c24 hf
    refine lv_iconst (v := 0) hx hb dX12_addLine_18 (by decide) (hp_n (n := 19) rfl ?_)
    exact J19 α Hh1 Lh1 Bh1 σ hM (0 : Int32) ls (lv_sub hl [0] rfl) hf
  ·
    replace hf := ms_iF c24 hf
    refine lv_iconst (v := 1) hx hb dX12_addLine_14 (by decide) (hp_n (n := 15) rfl ?_)
    refine lv_goto (tgt := 19) hx hb dX12_addLine_15 (by decide) ?_
    exact J19 α Hh1 Lh1 Bh1 σ hM (1 : Int32) ls (lv_sub hl [0] rfl) hf
def f_X12_forkLine_J16 (n : Nat) (σh2 : ms_T) (w0_h2 : Int32) : Option ms_T :=
  ms_b (f_X12_must n σh2 w0_h2 (6 : Int32)) fun σh3 =>
  if (ms_I σh3 670) ≤ 0 then
    ms_b (f_X12_reads n σh3) fun σh5 =>
    ms_b (f_X12_sizeOf n σh5 (ms_I σh5 679)) fun rh6 =>
    ms_c (f_X12_takesNumber n σh5 (0 : Int32) rh6) fun rh7 σh7 =>
    ms_b (f_X12_takesEnd n σh7) fun σh8 =>
    if (ms_I σh8 670) = 0 then
      ms_c (f_X12_forks n σh8 (ms_I σh8 679) rh7) fun rh10 σh10 =>
      ms_l (ms_sI σh10 679 rh10) fun σh11 =>
      some σh11
    else
      some σh8
  else
    some σh3
def f_X12_forkLine (n : Nat) (σ : ms_T) : Option ms_T :=
  ms_g (0 : Int32) 1980 <|
  if (4 : Int32) ≤ (ms_E σ 40 ((0 : Int32)).toNatClampNeg) then
    f_X12_forkLine_J16 n σ (0 : Int32)
  else
    f_X12_forkLine_J16 n σ (1 : Int32)
set_option maxRecDepth 100000 in
set_option maxHeartbeats 4000000 in
theorem m_X12_forkLine (n : Nat) (Γ : hp_G) (l : Launch) (α : hp_T) (a0 : Nat) (ρ : Nat → Nat) (σ : ms_T) (hM : hm_M α a0 ρ σ)  (res : ms_T) (hf : f_X12_forkLine n σ = some res) : Met l yX12_forkLine (hp_ws yX12_forkLine cX12_forkLine 2 none) (hp_rm 4 0 0) (hp_Pc Γ α [.ref a0]) (hp_Qv Γ (fun β => mo α β ∧ hm_M β a0 ρ res)) 0 0 (hp_A Γ) := by
  unfold f_X12_forkLine at hf
  refine hp_start (by decide) ?_
  intro p e s m below meth c C hr hlk B0 hnm
  have C : hp_C Γ p m c cX12_forkLine 2 s ([.ref a0] : List Value).toArray RX12 := C
  have hx := C.1.1
  have hb := C.1.2.1
  have hown := C.1.2.2.2.1
  have hts := C.1.2.2.2.2
  have B : hp_B Γ mo s α α s.heap [] := ⟨B0.1, B0.2.1, mo_rf⟩
  have hl := lv_entry ([.ref a0]) (n := 2) (Nat.le_of_ble_eq_true rfl)
  show W p l e (hp_rm 4 0 0) s m ([.ref a0] : List Value).toArray below meth c s.heap [] 0 0 (MQ below (hp_Qv Γ (fun β => mo α β ∧ hm_M β a0 ρ res)) ([.ref a0] : List Value).toArray s 0 0 (hp_A Γ)) (entryFrame m ([.ref a0] : List Value).toArray 2)
  rw [lg_entry_eq]
  generalize (lg_sl ([.ref a0]) ++ List.replicate (2 - (lg_sl ([.ref a0])).length) Slot.unset).toArray = ls at hl ⊢
  have hl : lv_has ls 2 [(0, .ref a0)] := hl
  refine lv_aload_n hx hb dX12_forkLine_0 rfl (lv_at hl 0 rfl) (hp_n (n := 1) rfl ?_)
  refine lv_aload_n hx hb dX12_forkLine_1 rfl (lv_at hl 0 rfl) (hp_n (n := 2) rfl ?_)
  refine m_getr (κ := 40) (k := 0) (pc' := 5) C B hM fl_X12_7 rfl (by decide) dX12_forkLine_2 rfl ?_
  refine lv_iconst (v := 0) hx hb dX12_forkLine_5 (by decide) (hp_n (n := 6) rfl ?_)
  obtain ⟨g1, hf⟩ := ms_gE hf
  refine m_ial (κ := 40) (φ := 650) (n := 1980) (pc' := 7) C B hM (by decide) (by decide) rfl g1 dX12_forkLine_6 rfl ?_
  refine lv_iconst (v := 4) hx hb dX12_forkLine_7 (by decide) (hp_n (n := 8) rfl ?_)
  have J16 : ∀ (αh2 : hp_T) (Hh2 : Heap) (Lh2 : List Loc) (Bh2 : hp_B Γ mo s α αh2 Hh2 Lh2) (σh2 : ms_T) (Mh2 : hm_M αh2 a0 ρ σh2) (w0_h2 : Int32) (ls : Array Slot) (hl : lv_has ls 2 [(0, .ref a0)]) (hf : f_X12_forkLine_J16 n σh2 w0_h2 = some res), W p l e (hp_rm 4 0 0) s m ([.ref a0] : List Value).toArray below meth c Hh2 Lh2 0 0 (MQ below (hp_Qv Γ (fun β => mo α β ∧ hm_M β a0 ρ res)) ([.ref a0] : List Value).toArray s 0 0 (hp_A Γ)) (F0 m 16 ls [.int w0_h2, .ref a0]) := by
    intro αh2 Hh2 Lh2 Bh2 σh2 Mh2 w0_h2 ls hl hf
    unfold f_X12_forkLine_J16 at hf
    refine lv_bipush (v := 6) hx hb dX12_forkLine_16 (by decide) (hp_n (n := 18) rfl ?_)
    obtain ⟨σh3, qh3, hf⟩ := ms_bE hf
    refine m_cv (pc' := 21) (a := a0) (ρ := ρ) Bh2 (hp_runV (As := [.int w0_h2, .int (6 : Int32)]) (rest := []) C Bh2 (m_X12_must n Γ l αh2 a0 ρ σh2 Mh2 w0_h2 (6 : Int32) σh3 qh3) lb_X12_must lv_X12_must lk_X12_272 Mh2.1 rfl (by decide) rfl hl.1 rfl (Nat.le_of_ble_eq_true rfl) dX12_forkLine_18 ⟨Nat.le_refl _, Nat.le_refl _⟩) rfl (fun αh3 Hh3 Lh3 Bh3 Mh3 => ?_)
    refine lv_aload_n hx hb dX12_forkLine_21 rfl (lv_at hl 0 rfl) (hp_n (n := 22) rfl ?_)
    refine m_geti (k := 20) (φ := 670) (pc' := 25) C Bh3 Mh3 fl_X12_262 rfl rfl dX12_forkLine_22 rfl ?_
    refine lv_if_le (tgt := 29) hx hb dX12_forkLine_25 (by decide) (fun c4 => ?_) (fun c4 => hp_n (n := 28) rfl ?_)
    ·
      replace hf := ms_iT c4 hf
      refine lv_aload_n hx hb dX12_forkLine_29 rfl (lv_at hl 0 rfl) (hp_n (n := 30) rfl ?_)
      obtain ⟨σh5, qh5, hf⟩ := ms_bE hf
      refine m_cv (pc' := 33) (a := a0) (ρ := ρ) Bh3 (hp_runV (As := []) (rest := []) C Bh3 (m_X12_reads n Γ l αh3 a0 ρ σh3 Mh3  σh5 qh5) lb_X12_reads lv_X12_reads lk_X12_276 Mh3.1 rfl (by decide) rfl hl.1 rfl (Nat.le_of_ble_eq_true rfl) dX12_forkLine_30 ⟨Nat.le_refl _, Nat.le_refl _⟩) rfl (fun αh5 Hh5 Lh5 Bh5 Mh5 => ?_)
      refine lv_aload_n hx hb dX12_forkLine_33 rfl (lv_at hl 0 rfl) (hp_n (n := 34) rfl ?_)
      refine lv_iconst (v := 0) hx hb dX12_forkLine_34 (by decide) (hp_n (n := 35) rfl ?_)
      refine lv_aload_n hx hb dX12_forkLine_35 rfl (lv_at hl 0 rfl) (hp_n (n := 36) rfl ?_)
      refine lv_aload_n hx hb dX12_forkLine_36 rfl (lv_at hl 0 rfl) (hp_n (n := 37) rfl ?_)
      refine m_geti (k := 29) (φ := 679) (pc' := 40) C Bh5 Mh5 fl_X12_282 rfl rfl dX12_forkLine_37 rfl ?_
      obtain ⟨rh6, qh6, hf⟩ := ms_bE hf
      refine m_cp (pc' := 43) Bh5 (hp_runV (As := [.int (ms_I σh5 679)]) (rest := [.int (0 : Int32), .ref a0]) C Bh5 (m_X12_sizeOf n Γ l αh5 a0 ρ σh5 Mh5 (ms_I σh5 679) rh6 qh6) lb_X12_sizeOf lv_X12_sizeOf lk_X12_209 Mh5.1 rfl (by decide) rfl hl.1 rfl (Nat.le_of_ble_eq_true rfl) dX12_forkLine_40 ⟨Nat.le_refl _, Nat.le_refl _⟩) rfl (fun Hh6 Lh6 Bh6 => ?_)
      obtain ⟨rh7, σh7, qh7, hf⟩ := ms_cE hf
      refine m_ci (pc' := 46) (a := a0) (ρ := ρ) Bh6 (hp_runV (As := [.int (0 : Int32), .int rh6]) (rest := []) C Bh6 (m_X12_takesNumber n Γ l αh5 a0 ρ σh5 Mh5 (0 : Int32) rh6 (rh7, σh7) qh7) lb_X12_takesNumber lv_X12_takesNumber lk_X12_279 Mh5.1 rfl (by decide) rfl hl.1 rfl (Nat.le_of_ble_eq_true rfl) dX12_forkLine_43 ⟨Nat.le_refl _, Nat.le_refl _⟩) rfl (fun αh7 Hh7 Lh7 Bh7 Mh7 => ?_)
      refine lv_istore_n (lv' := [(1, .int rh7), (0, .ref a0)]) hx hb dX12_forkLine_46 rfl hl (by decide) rfl (fun ls hl => hp_n (n := 47) rfl ?_)
      refine lv_aload_n hx hb dX12_forkLine_47 rfl (lv_at hl 1 rfl) (hp_n (n := 48) rfl ?_)
      obtain ⟨σh8, qh8, hf⟩ := ms_bE hf
      refine m_cv (pc' := 51) (a := a0) (ρ := ρ) Bh7 (hp_runV (As := []) (rest := []) C Bh7 (m_X12_takesEnd n Γ l αh7 a0 ρ σh7 Mh7  σh8 qh8) lb_X12_takesEnd lv_X12_takesEnd lk_X12_285 Mh7.1 rfl (by decide) rfl hl.1 rfl (Nat.le_of_ble_eq_true rfl) dX12_forkLine_48 ⟨Nat.le_refl _, Nat.le_refl _⟩) rfl (fun αh8 Hh8 Lh8 Bh8 Mh8 => ?_)
      refine lv_aload_n hx hb dX12_forkLine_51 rfl (lv_at hl 1 rfl) (hp_n (n := 52) rfl ?_)
      refine m_geti (k := 20) (φ := 670) (pc' := 55) C Bh8 Mh8 fl_X12_262 rfl rfl dX12_forkLine_52 rfl ?_
      refine lv_if_ne (tgt := 71) hx hb dX12_forkLine_55 (by decide) (fun c9 => ?_) (fun c9 => hp_n (n := 58) rfl ?_)
      ·
        replace hf := ms_iF c9 hf
        cases hf
        exact q_vret C Bh8 hr hlk ⟨Bh8.2.2, Mh8⟩ dX12_forkLine_71
      ·
        replace hf := ms_iT c9 hf
        refine lv_aload_n hx hb dX12_forkLine_58 rfl (lv_at hl 1 rfl) (hp_n (n := 59) rfl ?_)
        refine lv_aload_n hx hb dX12_forkLine_59 rfl (lv_at hl 1 rfl) (hp_n (n := 60) rfl ?_)
        refine lv_aload_n hx hb dX12_forkLine_60 rfl (lv_at hl 1 rfl) (hp_n (n := 61) rfl ?_)
        refine m_geti (k := 29) (φ := 679) (pc' := 64) C Bh8 Mh8 fl_X12_282 rfl rfl dX12_forkLine_61 rfl ?_
        refine lv_iload_n hx hb dX12_forkLine_64 rfl (lv_at hl 0 rfl) (hp_n (n := 65) rfl ?_)
        obtain ⟨rh10, σh10, qh10, hf⟩ := ms_cE hf
        refine m_ci (pc' := 68) (a := a0) (ρ := ρ) Bh8 (hp_runV (As := [.int (ms_I σh8 679), .int rh7]) (rest := [.ref a0]) C Bh8 (m_X12_forks n Γ l αh8 a0 ρ σh8 Mh8 (ms_I σh8 679) rh7 (rh10, σh10) qh10) lb_X12_forks lv_X12_forks lk_X12_291 Mh8.1 rfl (by decide) rfl hl.1 rfl (Nat.le_of_ble_eq_true rfl) dX12_forkLine_65 ⟨Nat.le_refl _, Nat.le_refl _⟩) rfl (fun αh10 Hh10 Lh10 Bh10 Mh10 => ?_)
        refine m_puti (k := 29) (φ := 679) (pc' := 71) C Bh10 Mh10 fl_X12_282 rfl rfl rfl rfl rfl dX12_forkLine_68 rfl (fun αh11 Hh11 Lh11 σh11 eh11 Bh11 Mh11 => ?_)
        replace hf := ms_lE eh11 hf
        cases hf
        exact q_vret C Bh11 hr hlk ⟨Bh11.2.2, Mh11⟩ dX12_forkLine_71
    ·
      replace hf := ms_iF c4 hf
      cases hf
      exact q_vret C Bh3 hr hlk ⟨Bh3.2.2, Mh3⟩ dX12_forkLine_28
  refine lv_icmp_ge (tgt := 15) hx hb dX12_forkLine_8 (by decide) (fun c12 => ?_) (fun c12 => hp_n (n := 11) rfl ?_)
  ·
    replace hf := ms_iT c12 hf
    refine lv_iconst (v := 0) hx hb dX12_forkLine_15 (by decide) (hp_n (n := 16) rfl ?_)
    exact J16 α s.heap [] B σ hM (0 : Int32) ls (lv_sub hl [0] rfl) hf
  ·
    replace hf := ms_iF c12 hf
    refine lv_iconst (v := 1) hx hb dX12_forkLine_11 (by decide) (hp_n (n := 12) rfl ?_)
    refine lv_goto (tgt := 16) hx hb dX12_forkLine_12 (by decide) ?_
    exact J16 α s.heap [] B σ hM (1 : Int32) ls (lv_sub hl [0] rfl) hf
def f_X12_line_J123 (n : Nat) (σh19 : ms_T) : Option ms_T :=
  ms_b (f_X12_takesEnd n σh19) fun σh20 =>
  if (ms_I σh20 670) = 0 then
    ms_c (f_X12_freezes n σh20 (ms_I σh20 679)) fun rh22 σh22 =>
    some σh22
  else
    some σh20
def f_X12_line_J107 (n : Nat) (σh17 : ms_T) (w0_h17 : Int32) : Option ms_T :=
  ms_b (f_X12_must n σh17 w0_h17 (6 : Int32)) fun σh18 =>
  if (ms_I σh18 670) = 0 then
    ms_b (f_X12_reads n σh18) fun σh24 =>
    f_X12_line_J123 n σh24
  else
    f_X12_line_J123 n σh18
def f_X12_line_J57 (n : Nat) (σh30 : ms_T) (w0_h30 : Int32) : Option ms_T :=
  ms_l (ms_sI σh30 679 w0_h30) fun σh31 =>
  ms_b (f_X12_takesEnd n σh31) fun σh32 =>
  some σh32
def f_X12_line (n : Nat) (σ : ms_T) : Option ms_T :=
  ms_b (f_X12_isWord n σ (1 : Int32)) fun rh1 =>
  if rh1 = 0 then
    ms_b (f_X12_isWord n σ (2 : Int32)) fun rh3 =>
    if rh3 = 0 then
      ms_b (f_X12_isWord n σ (3 : Int32)) fun rh5 =>
      if rh5 = 0 then
        ms_b (f_X12_isWord n σ (4 : Int32)) fun rh7 =>
        if rh7 = 0 then
          ms_b (f_X12_takes n σ (5 : Int32)) fun σh9 =>
          ms_c (f_X12_takesNumber n σh9 (0 : Int32) (3 : Int32)) fun rh10 σh10 =>
          ms_b (f_X12_sizeOf n σh10 (ms_I σh10 679)) fun rh11 =>
          ms_c (f_X12_takesNumber n σh10 (0 : Int32) rh11) fun rh12 σh12 =>
          ms_b (f_X12_takesEnd n σh12) fun σh13 =>
          if (ms_I σh13 670) = 0 then
            ms_c (f_X12_shows n σh13 rh10 (ms_I σh13 679) rh12) fun rh15 σh15 =>
            some σh15
          else
            some σh13
        else
          ms_g (3 : Int32) 1980 <|
          if (16 : Int32) ≤ (ms_E σ 40 ((3 : Int32)).toNatClampNeg) then
            f_X12_line_J107 n σ (0 : Int32)
          else
            f_X12_line_J107 n σ (1 : Int32)
      else
        ms_b (f_X12_forkLine n σ) fun σh26 =>
        some σh26
    else
      ms_b (f_X12_reads n σ) fun σh27 =>
      ms_g (0 : Int32) 1980 <|
      ms_c (f_X12_takesNumber n σh27 (0 : Int32) ((ms_E σh27 40 ((0 : Int32)).toNatClampNeg) - (1 : Int32))) fun rh29 σh29 =>
      if (ms_I σh29 670) = 0 then
        f_X12_line_J57 n σh29 rh29
      else
        f_X12_line_J57 n σh29 (ms_I σh29 679)
  else
    ms_b (f_X12_addLine n σ) fun σh34 =>
    some σh34
set_option maxRecDepth 100000 in
set_option maxHeartbeats 4000000 in
theorem m_X12_line (n : Nat) (Γ : hp_G) (l : Launch) (α : hp_T) (a0 : Nat) (ρ : Nat → Nat) (σ : ms_T) (hM : hm_M α a0 ρ σ)  (res : ms_T) (hf : f_X12_line n σ = some res) : Met l yX12_line (hp_ws yX12_line cX12_line 3 none) (hp_rm 45 0 0) (hp_Pc Γ α [.ref a0]) (hp_Qv Γ (fun β => mo α β ∧ hm_M β a0 ρ res)) 0 0 (hp_A Γ) := by
  unfold f_X12_line at hf
  refine hp_start (by decide) ?_
  intro p e s m below meth c C hr hlk B0 hnm
  have C : hp_C Γ p m c cX12_line 3 s ([.ref a0] : List Value).toArray RX12 := C
  have hx := C.1.1
  have hb := C.1.2.1
  have hown := C.1.2.2.2.1
  have hts := C.1.2.2.2.2
  have B : hp_B Γ mo s α α s.heap [] := ⟨B0.1, B0.2.1, mo_rf⟩
  have hl := lv_entry ([.ref a0]) (n := 3) (Nat.le_of_ble_eq_true rfl)
  show W p l e (hp_rm 45 0 0) s m ([.ref a0] : List Value).toArray below meth c s.heap [] 0 0 (MQ below (hp_Qv Γ (fun β => mo α β ∧ hm_M β a0 ρ res)) ([.ref a0] : List Value).toArray s 0 0 (hp_A Γ)) (entryFrame m ([.ref a0] : List Value).toArray 3)
  rw [lg_entry_eq]
  generalize (lg_sl ([.ref a0]) ++ List.replicate (3 - (lg_sl ([.ref a0])).length) Slot.unset).toArray = ls at hl ⊢
  have hl : lv_has ls 3 [(0, .ref a0)] := hl
  refine lv_aload_n hx hb dX12_line_0 rfl (lv_at hl 0 rfl) (hp_n (n := 1) rfl ?_)
  refine lv_iconst (v := 1) hx hb dX12_line_1 (by decide) (hp_n (n := 2) rfl ?_)
  obtain ⟨rh1, qh1, hf⟩ := ms_bE hf
  refine m_cp (pc' := 5) B (hp_runV (As := [.int (1 : Int32)]) (rest := []) C B (m_X12_isWord n Γ l α a0 ρ σ hM (1 : Int32) rh1 qh1) lb_X12_isWord lv_X12_isWord lk_X12_268 hM.1 rfl (by decide) rfl hl.1 rfl (Nat.le_of_ble_eq_true rfl) dX12_line_2 ⟨Nat.le_refl _, Nat.le_refl _⟩) rfl (fun Hh1 Lh1 Bh1 => ?_)
  refine lv_if_eq (tgt := 15) hx hb dX12_line_5 (by decide) (fun c2 => ?_) (fun c2 => hp_n (n := 8) rfl ?_)
  ·
    replace hf := ms_iT c2 hf
    refine lv_aload_n hx hb dX12_line_15 rfl (lv_at hl 0 rfl) (hp_n (n := 16) rfl ?_)
    refine lv_iconst (v := 2) hx hb dX12_line_16 (by decide) (hp_n (n := 17) rfl ?_)
    obtain ⟨rh3, qh3, hf⟩ := ms_bE hf
    refine m_cp (pc' := 20) Bh1 (hp_runV (As := [.int (2 : Int32)]) (rest := []) C Bh1 (m_X12_isWord n Γ l α a0 ρ σ hM (2 : Int32) rh3 qh3) lb_X12_isWord lv_X12_isWord lk_X12_268 hM.1 rfl (by decide) rfl hl.1 rfl (Nat.le_of_ble_eq_true rfl) dX12_line_17 ⟨Nat.le_refl _, Nat.le_refl _⟩) rfl (fun Hh3 Lh3 Bh3 => ?_)
    refine lv_if_eq (tgt := 67) hx hb dX12_line_20 (by decide) (fun c4 => ?_) (fun c4 => hp_n (n := 23) rfl ?_)
    ·
      replace hf := ms_iT c4 hf
      refine lv_aload_n hx hb dX12_line_67 rfl (lv_at hl 0 rfl) (hp_n (n := 68) rfl ?_)
      refine lv_iconst (v := 3) hx hb dX12_line_68 (by decide) (hp_n (n := 69) rfl ?_)
      obtain ⟨rh5, qh5, hf⟩ := ms_bE hf
      refine m_cp (pc' := 72) Bh3 (hp_runV (As := [.int (3 : Int32)]) (rest := []) C Bh3 (m_X12_isWord n Γ l α a0 ρ σ hM (3 : Int32) rh5 qh5) lb_X12_isWord lv_X12_isWord lk_X12_268 hM.1 rfl (by decide) rfl hl.1 rfl (Nat.le_of_ble_eq_true rfl) dX12_line_69 ⟨Nat.le_refl _, Nat.le_refl _⟩) rfl (fun Hh5 Lh5 Bh5 => ?_)
      refine lv_if_eq (tgt := 82) hx hb dX12_line_72 (by decide) (fun c6 => ?_) (fun c6 => hp_n (n := 75) rfl ?_)
      ·
        replace hf := ms_iT c6 hf
        refine lv_aload_n hx hb dX12_line_82 rfl (lv_at hl 0 rfl) (hp_n (n := 83) rfl ?_)
        refine lv_iconst (v := 4) hx hb dX12_line_83 (by decide) (hp_n (n := 84) rfl ?_)
        obtain ⟨rh7, qh7, hf⟩ := ms_bE hf
        refine m_cp (pc' := 87) Bh5 (hp_runV (As := [.int (4 : Int32)]) (rest := []) C Bh5 (m_X12_isWord n Γ l α a0 ρ σ hM (4 : Int32) rh7 qh7) lb_X12_isWord lv_X12_isWord lk_X12_268 hM.1 rfl (by decide) rfl hl.1 rfl (Nat.le_of_ble_eq_true rfl) dX12_line_84 ⟨Nat.le_refl _, Nat.le_refl _⟩) rfl (fun Hh7 Lh7 Bh7 => ?_)
        refine lv_if_eq (tgt := 146) hx hb dX12_line_87 (by decide) (fun c8 => ?_) (fun c8 => hp_n (n := 90) rfl ?_)
        ·
          replace hf := ms_iT c8 hf
          refine lv_aload_n hx hb dX12_line_146 rfl (lv_at hl 0 rfl) (hp_n (n := 147) rfl ?_)
          refine lv_iconst (v := 5) hx hb dX12_line_147 (by decide) (hp_n (n := 148) rfl ?_)
          obtain ⟨σh9, qh9, hf⟩ := ms_bE hf
          refine m_cv (pc' := 151) (a := a0) (ρ := ρ) Bh7 (hp_runV (As := [.int (5 : Int32)]) (rest := []) C Bh7 (m_X12_takes n Γ l α a0 ρ σ hM (5 : Int32) σh9 qh9) lb_X12_takes lv_X12_takes lk_X12_303 hM.1 rfl (by decide) rfl hl.1 rfl (Nat.le_of_ble_eq_true rfl) dX12_line_148 ⟨Nat.le_refl _, Nat.le_refl _⟩) rfl (fun αh9 Hh9 Lh9 Bh9 Mh9 => ?_)
          refine lv_aload_n hx hb dX12_line_151 rfl (lv_at hl 0 rfl) (hp_n (n := 152) rfl ?_)
          refine lv_iconst (v := 0) hx hb dX12_line_152 (by decide) (hp_n (n := 153) rfl ?_)
          refine lv_iconst (v := 3) hx hb dX12_line_153 (by decide) (hp_n (n := 154) rfl ?_)
          obtain ⟨rh10, σh10, qh10, hf⟩ := ms_cE hf
          refine m_ci (pc' := 157) (a := a0) (ρ := ρ) Bh9 (hp_runV (As := [.int (0 : Int32), .int (3 : Int32)]) (rest := []) C Bh9 (m_X12_takesNumber n Γ l αh9 a0 ρ σh9 Mh9 (0 : Int32) (3 : Int32) (rh10, σh10) qh10) lb_X12_takesNumber lv_X12_takesNumber lk_X12_279 Mh9.1 rfl (by decide) rfl hl.1 rfl (Nat.le_of_ble_eq_true rfl) dX12_line_154 ⟨Nat.le_refl _, Nat.le_refl _⟩) rfl (fun αh10 Hh10 Lh10 Bh10 Mh10 => ?_)
          refine lv_istore_n (lv' := [(1, .int rh10), (0, .ref a0)]) hx hb dX12_line_157 rfl hl (by decide) rfl (fun ls hl => hp_n (n := 158) rfl ?_)
          refine lv_aload_n hx hb dX12_line_158 rfl (lv_at hl 1 rfl) (hp_n (n := 159) rfl ?_)
          refine lv_iconst (v := 0) hx hb dX12_line_159 (by decide) (hp_n (n := 160) rfl ?_)
          refine lv_aload_n hx hb dX12_line_160 rfl (lv_at hl 1 rfl) (hp_n (n := 161) rfl ?_)
          refine lv_aload_n hx hb dX12_line_161 rfl (lv_at hl 1 rfl) (hp_n (n := 162) rfl ?_)
          refine m_geti (k := 29) (φ := 679) (pc' := 165) C Bh10 Mh10 fl_X12_282 rfl rfl dX12_line_162 rfl ?_
          obtain ⟨rh11, qh11, hf⟩ := ms_bE hf
          refine m_cp (pc' := 168) Bh10 (hp_runV (As := [.int (ms_I σh10 679)]) (rest := [.int (0 : Int32), .ref a0]) C Bh10 (m_X12_sizeOf n Γ l αh10 a0 ρ σh10 Mh10 (ms_I σh10 679) rh11 qh11) lb_X12_sizeOf lv_X12_sizeOf lk_X12_209 Mh10.1 rfl (by decide) rfl hl.1 rfl (Nat.le_of_ble_eq_true rfl) dX12_line_165 ⟨Nat.le_refl _, Nat.le_refl _⟩) rfl (fun Hh11 Lh11 Bh11 => ?_)
          obtain ⟨rh12, σh12, qh12, hf⟩ := ms_cE hf
          refine m_ci (pc' := 171) (a := a0) (ρ := ρ) Bh11 (hp_runV (As := [.int (0 : Int32), .int rh11]) (rest := []) C Bh11 (m_X12_takesNumber n Γ l αh10 a0 ρ σh10 Mh10 (0 : Int32) rh11 (rh12, σh12) qh12) lb_X12_takesNumber lv_X12_takesNumber lk_X12_279 Mh10.1 rfl (by decide) rfl hl.1 rfl (Nat.le_of_ble_eq_true rfl) dX12_line_168 ⟨Nat.le_refl _, Nat.le_refl _⟩) rfl (fun αh12 Hh12 Lh12 Bh12 Mh12 => ?_)
          refine lv_istore_n (lv' := [(2, .int rh12), (1, .int rh10), (0, .ref a0)]) hx hb dX12_line_171 rfl hl (by decide) rfl (fun ls hl => hp_n (n := 172) rfl ?_)
          refine lv_aload_n hx hb dX12_line_172 rfl (lv_at hl 2 rfl) (hp_n (n := 173) rfl ?_)
          obtain ⟨σh13, qh13, hf⟩ := ms_bE hf
          refine m_cv (pc' := 176) (a := a0) (ρ := ρ) Bh12 (hp_runV (As := []) (rest := []) C Bh12 (m_X12_takesEnd n Γ l αh12 a0 ρ σh12 Mh12  σh13 qh13) lb_X12_takesEnd lv_X12_takesEnd lk_X12_285 Mh12.1 rfl (by decide) rfl hl.1 rfl (Nat.le_of_ble_eq_true rfl) dX12_line_173 ⟨Nat.le_refl _, Nat.le_refl _⟩) rfl (fun αh13 Hh13 Lh13 Bh13 Mh13 => ?_)
          refine lv_aload_n hx hb dX12_line_176 rfl (lv_at hl 2 rfl) (hp_n (n := 177) rfl ?_)
          refine m_geti (k := 20) (φ := 670) (pc' := 180) C Bh13 Mh13 fl_X12_262 rfl rfl dX12_line_177 rfl ?_
          refine lv_if_ne (tgt := 194) hx hb dX12_line_180 (by decide) (fun c14 => ?_) (fun c14 => hp_n (n := 183) rfl ?_)
          ·
            replace hf := ms_iF c14 hf
            cases hf
            exact q_vret C Bh13 hr hlk ⟨Bh13.2.2, Mh13⟩ dX12_line_194
          ·
            replace hf := ms_iT c14 hf
            refine lv_aload_n hx hb dX12_line_183 rfl (lv_at hl 2 rfl) (hp_n (n := 184) rfl ?_)
            refine lv_iload_n hx hb dX12_line_184 rfl (lv_at hl 1 rfl) (hp_n (n := 185) rfl ?_)
            refine lv_aload_n hx hb dX12_line_185 rfl (lv_at hl 2 rfl) (hp_n (n := 186) rfl ?_)
            refine m_geti (k := 29) (φ := 679) (pc' := 189) C Bh13 Mh13 fl_X12_282 rfl rfl dX12_line_186 rfl ?_
            refine lv_iload_n hx hb dX12_line_189 rfl (lv_at hl 0 rfl) (hp_n (n := 190) rfl ?_)
            obtain ⟨rh15, σh15, qh15, hf⟩ := ms_cE hf
            refine m_ci (pc' := 193) (a := a0) (ρ := ρ) Bh13 (hp_runV (As := [.int rh10, .int (ms_I σh13 679), .int rh12]) (rest := []) C Bh13 (m_X12_shows n Γ l αh13 a0 ρ σh13 Mh13 rh10 (ms_I σh13 679) rh12 (rh15, σh15) qh15) lb_X12_shows lv_X12_shows lk_X12_306 Mh13.1 rfl (by decide) rfl hl.1 rfl (Nat.le_of_ble_eq_true rfl) dX12_line_190 ⟨Nat.le_refl _, Nat.le_refl _⟩) rfl (fun αh15 Hh15 Lh15 Bh15 Mh15 => ?_)
            refine lv_pop hx hb dX12_line_193 rfl (hp_n (n := 194) rfl ?_)
            cases hf
            exact q_vret C Bh15 hr hlk ⟨Bh15.2.2, Mh15⟩ dX12_line_194
        ·
          replace hf := ms_iF c8 hf
          refine lv_aload_n hx hb dX12_line_90 rfl (lv_at hl 0 rfl) (hp_n (n := 91) rfl ?_)
          refine lv_aload_n hx hb dX12_line_91 rfl (lv_at hl 0 rfl) (hp_n (n := 92) rfl ?_)
          refine m_getr (κ := 40) (k := 0) (pc' := 95) C Bh7 hM fl_X12_7 rfl (by decide) dX12_line_92 rfl ?_
          refine lv_iconst (v := 3) hx hb dX12_line_95 (by decide) (hp_n (n := 96) rfl ?_)
          obtain ⟨g16, hf⟩ := ms_gE hf
          refine m_ial (κ := 40) (φ := 650) (n := 1980) (pc' := 97) C Bh7 hM (by decide) (by decide) rfl g16 dX12_line_96 rfl ?_
          refine lv_bipush (v := 16) hx hb dX12_line_97 (by decide) (hp_n (n := 99) rfl ?_)
          have J107 : ∀ (αh17 : hp_T) (Hh17 : Heap) (Lh17 : List Loc) (Bh17 : hp_B Γ mo s α αh17 Hh17 Lh17) (σh17 : ms_T) (Mh17 : hm_M αh17 a0 ρ σh17) (w0_h17 : Int32) (ls : Array Slot) (hl : lv_has ls 3 [(0, .ref a0)]) (hf : f_X12_line_J107 n σh17 w0_h17 = some res), W p l e (hp_rm 45 0 0) s m ([.ref a0] : List Value).toArray below meth c Hh17 Lh17 0 0 (MQ below (hp_Qv Γ (fun β => mo α β ∧ hm_M β a0 ρ res)) ([.ref a0] : List Value).toArray s 0 0 (hp_A Γ)) (F0 m 107 ls [.int w0_h17, .ref a0]) := by
            intro αh17 Hh17 Lh17 Bh17 σh17 Mh17 w0_h17 ls hl hf
            unfold f_X12_line_J107 at hf
            refine lv_bipush (v := 6) hx hb dX12_line_107 (by decide) (hp_n (n := 109) rfl ?_)
            obtain ⟨σh18, qh18, hf⟩ := ms_bE hf
            refine m_cv (pc' := 112) (a := a0) (ρ := ρ) Bh17 (hp_runV (As := [.int w0_h17, .int (6 : Int32)]) (rest := []) C Bh17 (m_X12_must n Γ l αh17 a0 ρ σh17 Mh17 w0_h17 (6 : Int32) σh18 qh18) lb_X12_must lv_X12_must lk_X12_272 Mh17.1 rfl (by decide) rfl hl.1 rfl (Nat.le_of_ble_eq_true rfl) dX12_line_109 ⟨Nat.le_refl _, Nat.le_refl _⟩) rfl (fun αh18 Hh18 Lh18 Bh18 Mh18 => ?_)
            refine lv_aload_n hx hb dX12_line_112 rfl (lv_at hl 0 rfl) (hp_n (n := 113) rfl ?_)
            refine m_geti (k := 20) (φ := 670) (pc' := 116) C Bh18 Mh18 fl_X12_262 rfl rfl dX12_line_113 rfl ?_
            have J123 : ∀ (αh19 : hp_T) (Hh19 : Heap) (Lh19 : List Loc) (Bh19 : hp_B Γ mo s α αh19 Hh19 Lh19) (σh19 : ms_T) (Mh19 : hm_M αh19 a0 ρ σh19) (ls : Array Slot) (hl : lv_has ls 3 [(0, .ref a0)]) (hf : f_X12_line_J123 n σh19 = some res), W p l e (hp_rm 45 0 0) s m ([.ref a0] : List Value).toArray below meth c Hh19 Lh19 0 0 (MQ below (hp_Qv Γ (fun β => mo α β ∧ hm_M β a0 ρ res)) ([.ref a0] : List Value).toArray s 0 0 (hp_A Γ)) (F0 m 123 ls []) := by
              intro αh19 Hh19 Lh19 Bh19 σh19 Mh19 ls hl hf
              unfold f_X12_line_J123 at hf
              refine lv_aload_n hx hb dX12_line_123 rfl (lv_at hl 0 rfl) (hp_n (n := 124) rfl ?_)
              obtain ⟨σh20, qh20, hf⟩ := ms_bE hf
              refine m_cv (pc' := 127) (a := a0) (ρ := ρ) Bh19 (hp_runV (As := []) (rest := []) C Bh19 (m_X12_takesEnd n Γ l αh19 a0 ρ σh19 Mh19  σh20 qh20) lb_X12_takesEnd lv_X12_takesEnd lk_X12_285 Mh19.1 rfl (by decide) rfl hl.1 rfl (Nat.le_of_ble_eq_true rfl) dX12_line_124 ⟨Nat.le_refl _, Nat.le_refl _⟩) rfl (fun αh20 Hh20 Lh20 Bh20 Mh20 => ?_)
              refine lv_aload_n hx hb dX12_line_127 rfl (lv_at hl 0 rfl) (hp_n (n := 128) rfl ?_)
              refine m_geti (k := 20) (φ := 670) (pc' := 131) C Bh20 Mh20 fl_X12_262 rfl rfl dX12_line_128 rfl ?_
              refine lv_if_ne (tgt := 194) hx hb dX12_line_131 (by decide) (fun c21 => ?_) (fun c21 => hp_n (n := 134) rfl ?_)
              ·
                replace hf := ms_iF c21 hf
                cases hf
                exact q_vret C Bh20 hr hlk ⟨Bh20.2.2, Mh20⟩ dX12_line_194
              ·
                replace hf := ms_iT c21 hf
                refine lv_aload_n hx hb dX12_line_134 rfl (lv_at hl 0 rfl) (hp_n (n := 135) rfl ?_)
                refine lv_aload_n hx hb dX12_line_135 rfl (lv_at hl 0 rfl) (hp_n (n := 136) rfl ?_)
                refine m_geti (k := 29) (φ := 679) (pc' := 139) C Bh20 Mh20 fl_X12_282 rfl rfl dX12_line_136 rfl ?_
                obtain ⟨rh22, σh22, qh22, hf⟩ := ms_cE hf
                refine m_ci (pc' := 142) (a := a0) (ρ := ρ) Bh20 (hp_runV (As := [.int (ms_I σh20 679)]) (rest := []) C Bh20 (m_X12_freezes n Γ l αh20 a0 ρ σh20 Mh20 (ms_I σh20 679) (rh22, σh22) qh22) lb_X12_freezes lv_X12_freezes lk_X12_300 Mh20.1 rfl (by decide) rfl hl.1 rfl (Nat.le_of_ble_eq_true rfl) dX12_line_139 ⟨Nat.le_refl _, Nat.le_refl _⟩) rfl (fun αh22 Hh22 Lh22 Bh22 Mh22 => ?_)
                refine lv_pop hx hb dX12_line_142 rfl (hp_n (n := 143) rfl ?_)
                refine lv_goto (tgt := 194) hx hb dX12_line_143 (by decide) ?_
                cases hf
                exact q_vret C Bh22 hr hlk ⟨Bh22.2.2, Mh22⟩ dX12_line_194
            refine lv_if_ne (tgt := 123) hx hb dX12_line_116 (by decide) (fun c23 => ?_) (fun c23 => hp_n (n := 119) rfl ?_)
            ·
              replace hf := ms_iF c23 hf
              exact J123 αh18 Hh18 Lh18 Bh18 σh18 Mh18 ls (lv_sub hl [0] rfl) hf
            ·
              replace hf := ms_iT c23 hf
              refine lv_aload_n hx hb dX12_line_119 rfl (lv_at hl 0 rfl) (hp_n (n := 120) rfl ?_)
              obtain ⟨σh24, qh24, hf⟩ := ms_bE hf
              refine m_cv (pc' := 123) (a := a0) (ρ := ρ) Bh18 (hp_runV (As := []) (rest := []) C Bh18 (m_X12_reads n Γ l αh18 a0 ρ σh18 Mh18  σh24 qh24) lb_X12_reads lv_X12_reads lk_X12_276 Mh18.1 rfl (by decide) rfl hl.1 rfl (Nat.le_of_ble_eq_true rfl) dX12_line_120 ⟨Nat.le_refl _, Nat.le_refl _⟩) rfl (fun αh24 Hh24 Lh24 Bh24 Mh24 => ?_)
              exact J123 αh24 Hh24 Lh24 Bh24 σh24 Mh24 ls (lv_sub hl [0] rfl) hf
          refine lv_icmp_ge (tgt := 106) hx hb dX12_line_99 (by decide) (fun c25 => ?_) (fun c25 => hp_n (n := 102) rfl ?_)
          ·
            replace hf := ms_iT c25 hf
            refine lv_iconst (v := 0) hx hb dX12_line_106 (by decide) (hp_n (n := 107) rfl ?_)
            exact J107 α Hh7 Lh7 Bh7 σ hM (0 : Int32) ls (lv_sub hl [0] rfl) hf
          ·
            replace hf := ms_iF c25 hf
            refine lv_iconst (v := 1) hx hb dX12_line_102 (by decide) (hp_n (n := 103) rfl ?_)
            refine lv_goto (tgt := 107) hx hb dX12_line_103 (by decide) ?_
            exact J107 α Hh7 Lh7 Bh7 σ hM (1 : Int32) ls (lv_sub hl [0] rfl) hf
      ·
        replace hf := ms_iF c6 hf
        refine lv_aload_n hx hb dX12_line_75 rfl (lv_at hl 0 rfl) (hp_n (n := 76) rfl ?_)
        obtain ⟨σh26, qh26, hf⟩ := ms_bE hf
        refine m_cv (pc' := 79) (a := a0) (ρ := ρ) Bh5 (hp_runV (As := []) (rest := []) C Bh5 (m_X12_forkLine n Γ l α a0 ρ σ hM  σh26 qh26) lb_X12_forkLine lv_X12_forkLine lk_X12_297 hM.1 rfl (by decide) rfl hl.1 rfl (Nat.le_of_ble_eq_true rfl) dX12_line_76 ⟨Nat.le_refl _, Nat.le_refl _⟩) rfl (fun αh26 Hh26 Lh26 Bh26 Mh26 => ?_)
        refine lv_goto (tgt := 194) hx hb dX12_line_79 (by decide) ?_
        cases hf
        exact q_vret C Bh26 hr hlk ⟨Bh26.2.2, Mh26⟩ dX12_line_194
    ·
      replace hf := ms_iF c4 hf
      refine lv_aload_n hx hb dX12_line_23 rfl (lv_at hl 0 rfl) (hp_n (n := 24) rfl ?_)
      obtain ⟨σh27, qh27, hf⟩ := ms_bE hf
      refine m_cv (pc' := 27) (a := a0) (ρ := ρ) Bh3 (hp_runV (As := []) (rest := []) C Bh3 (m_X12_reads n Γ l α a0 ρ σ hM  σh27 qh27) lb_X12_reads lv_X12_reads lk_X12_276 hM.1 rfl (by decide) rfl hl.1 rfl (Nat.le_of_ble_eq_true rfl) dX12_line_24 ⟨Nat.le_refl _, Nat.le_refl _⟩) rfl (fun αh27 Hh27 Lh27 Bh27 Mh27 => ?_)
      refine lv_aload_n hx hb dX12_line_27 rfl (lv_at hl 0 rfl) (hp_n (n := 28) rfl ?_)
      refine lv_iconst (v := 0) hx hb dX12_line_28 (by decide) (hp_n (n := 29) rfl ?_)
      refine lv_aload_n hx hb dX12_line_29 rfl (lv_at hl 0 rfl) (hp_n (n := 30) rfl ?_)
      refine m_getr (κ := 40) (k := 0) (pc' := 33) C Bh27 Mh27 fl_X12_7 rfl (by decide) dX12_line_30 rfl ?_
      refine lv_iconst (v := 0) hx hb dX12_line_33 (by decide) (hp_n (n := 34) rfl ?_)
      obtain ⟨g28, hf⟩ := ms_gE hf
      refine m_ial (κ := 40) (φ := 650) (n := 1980) (pc' := 35) C Bh27 Mh27 (by decide) (by decide) rfl g28 dX12_line_34 rfl ?_
      refine lv_iconst (v := 1) hx hb dX12_line_35 (by decide) (hp_n (n := 36) rfl ?_)
      refine lv_isub hx hb dX12_line_36 (hp_n (n := 37) rfl ?_)
      obtain ⟨rh29, σh29, qh29, hf⟩ := ms_cE hf
      refine m_ci (pc' := 40) (a := a0) (ρ := ρ) Bh27 (hp_runV (As := [.int (0 : Int32), .int ((ms_E σh27 40 ((0 : Int32)).toNatClampNeg) - (1 : Int32))]) (rest := []) C Bh27 (m_X12_takesNumber n Γ l αh27 a0 ρ σh27 Mh27 (0 : Int32) ((ms_E σh27 40 ((0 : Int32)).toNatClampNeg) - (1 : Int32)) (rh29, σh29) qh29) lb_X12_takesNumber lv_X12_takesNumber lk_X12_279 Mh27.1 rfl (by decide) rfl hl.1 rfl (Nat.le_of_ble_eq_true rfl) dX12_line_37 ⟨Nat.le_refl _, Nat.le_refl _⟩) rfl (fun αh29 Hh29 Lh29 Bh29 Mh29 => ?_)
      refine lv_istore_n (lv' := [(1, .int rh29), (0, .ref a0)]) hx hb dX12_line_40 rfl hl (by decide) rfl (fun ls hl => hp_n (n := 41) rfl ?_)
      refine lv_aload_n hx hb dX12_line_41 rfl (lv_at hl 1 rfl) (hp_n (n := 42) rfl ?_)
      refine lv_aload_n hx hb dX12_line_42 rfl (lv_at hl 1 rfl) (hp_n (n := 43) rfl ?_)
      refine m_geti (k := 20) (φ := 670) (pc' := 46) C Bh29 Mh29 fl_X12_262 rfl rfl dX12_line_43 rfl ?_
      have J57 : ∀ (αh30 : hp_T) (Hh30 : Heap) (Lh30 : List Loc) (Bh30 : hp_B Γ mo s α αh30 Hh30 Lh30) (σh30 : ms_T) (Mh30 : hm_M αh30 a0 ρ σh30) (w0_h30 : Int32) (ls : Array Slot) (hl : lv_has ls 3 [(0, .ref a0)]) (hf : f_X12_line_J57 n σh30 w0_h30 = some res), W p l e (hp_rm 45 0 0) s m ([.ref a0] : List Value).toArray below meth c Hh30 Lh30 0 0 (MQ below (hp_Qv Γ (fun β => mo α β ∧ hm_M β a0 ρ res)) ([.ref a0] : List Value).toArray s 0 0 (hp_A Γ)) (F0 m 57 ls [.int w0_h30, .ref a0]) := by
        intro αh30 Hh30 Lh30 Bh30 σh30 Mh30 w0_h30 ls hl hf
        unfold f_X12_line_J57 at hf
        refine m_puti (k := 29) (φ := 679) (pc' := 60) C Bh30 Mh30 fl_X12_282 rfl rfl rfl rfl rfl dX12_line_57 rfl (fun αh31 Hh31 Lh31 σh31 eh31 Bh31 Mh31 => ?_)
        replace hf := ms_lE eh31 hf
        refine lv_aload_n hx hb dX12_line_60 rfl (lv_at hl 0 rfl) (hp_n (n := 61) rfl ?_)
        obtain ⟨σh32, qh32, hf⟩ := ms_bE hf
        refine m_cv (pc' := 64) (a := a0) (ρ := ρ) Bh31 (hp_runV (As := []) (rest := []) C Bh31 (m_X12_takesEnd n Γ l αh31 a0 ρ σh31 Mh31  σh32 qh32) lb_X12_takesEnd lv_X12_takesEnd lk_X12_285 Mh31.1 rfl (by decide) rfl hl.1 rfl (Nat.le_of_ble_eq_true rfl) dX12_line_61 ⟨Nat.le_refl _, Nat.le_refl _⟩) rfl (fun αh32 Hh32 Lh32 Bh32 Mh32 => ?_)
        refine lv_goto (tgt := 194) hx hb dX12_line_64 (by decide) ?_
        cases hf
        exact q_vret C Bh32 hr hlk ⟨Bh32.2.2, Mh32⟩ dX12_line_194
      refine lv_if_ne (tgt := 53) hx hb dX12_line_46 (by decide) (fun c33 => ?_) (fun c33 => hp_n (n := 49) rfl ?_)
      ·
        replace hf := ms_iF c33 hf
        refine lv_aload_n hx hb dX12_line_53 rfl (lv_at hl 1 rfl) (hp_n (n := 54) rfl ?_)
        refine m_geti (k := 29) (φ := 679) (pc' := 57) C Bh29 Mh29 fl_X12_282 rfl rfl dX12_line_54 rfl ?_
        exact J57 αh29 Hh29 Lh29 Bh29 σh29 Mh29 (ms_I σh29 679) ls (lv_sub hl [1] rfl) hf
      ·
        replace hf := ms_iT c33 hf
        refine lv_iload_n hx hb dX12_line_49 rfl (lv_at hl 0 rfl) (hp_n (n := 50) rfl ?_)
        refine lv_goto (tgt := 57) hx hb dX12_line_50 (by decide) ?_
        exact J57 αh29 Hh29 Lh29 Bh29 σh29 Mh29 rh29 ls (lv_sub hl [1] rfl) hf
  ·
    replace hf := ms_iF c2 hf
    refine lv_aload_n hx hb dX12_line_8 rfl (lv_at hl 0 rfl) (hp_n (n := 9) rfl ?_)
    obtain ⟨σh34, qh34, hf⟩ := ms_bE hf
    refine m_cv (pc' := 12) (a := a0) (ρ := ρ) Bh1 (hp_runV (As := []) (rest := []) C Bh1 (m_X12_addLine n Γ l α a0 ρ σ hM  σh34 qh34) lb_X12_addLine lv_X12_addLine lk_X12_294 hM.1 rfl (by decide) rfl hl.1 rfl (Nat.le_of_ble_eq_true rfl) dX12_line_9 ⟨Nat.le_refl _, Nat.le_refl _⟩) rfl (fun αh34 Hh34 Lh34 Bh34 Mh34 => ?_)
    refine lv_goto (tgt := 194) hx hb dX12_line_12 (by decide) ?_
    cases hf
    exact q_vret C Bh34 hr hlk ⟨Bh34.2.2, Mh34⟩ dX12_line_194
def f_X12_begins (n : Nat) (σ : ms_T) (a1 : Int32) : Option ms_T :=
  ms_l (ms_sI σ 676 a1) fun σh1 =>
  ms_l (ms_sI σh1 673 (0 : Int32)) fun σh2 =>
  ms_l (ms_sI σh2 670 (0 : Int32)) fun σh3 =>
  ms_b (f_X12_reads n σh3) fun σh4 =>
  some σh4
set_option maxRecDepth 100000 in
set_option maxHeartbeats 4000000 in
theorem m_X12_begins (n : Nat) (Γ : hp_G) (l : Launch) (α : hp_T) (a0 : Nat) (ρ : Nat → Nat) (σ : ms_T) (hM : hm_M α a0 ρ σ) (a1 : Int32) (res : ms_T) (hf : f_X12_begins n σ a1 = some res) : Met l yX12_begins (hp_ws yX12_begins cX12_begins 2 none) (hp_rm 3 0 0) (hp_Pc Γ α [.ref a0, .int a1]) (hp_Qv Γ (fun β => mo α β ∧ hm_M β a0 ρ res)) 0 0 (hp_A Γ) := by
  unfold f_X12_begins at hf
  refine hp_start (by decide) ?_
  intro p e s m below meth c C hr hlk B0 hnm
  have C : hp_C Γ p m c cX12_begins 2 s ([.ref a0, .int a1] : List Value).toArray RX12 := C
  have hx := C.1.1
  have hb := C.1.2.1
  have hown := C.1.2.2.2.1
  have hts := C.1.2.2.2.2
  have B : hp_B Γ mo s α α s.heap [] := ⟨B0.1, B0.2.1, mo_rf⟩
  have hl := lv_entry ([.ref a0, .int a1]) (n := 2) (Nat.le_of_ble_eq_true rfl)
  show W p l e (hp_rm 3 0 0) s m ([.ref a0, .int a1] : List Value).toArray below meth c s.heap [] 0 0 (MQ below (hp_Qv Γ (fun β => mo α β ∧ hm_M β a0 ρ res)) ([.ref a0, .int a1] : List Value).toArray s 0 0 (hp_A Γ)) (entryFrame m ([.ref a0, .int a1] : List Value).toArray 2)
  rw [lg_entry_eq]
  generalize (lg_sl ([.ref a0, .int a1]) ++ List.replicate (2 - (lg_sl ([.ref a0, .int a1])).length) Slot.unset).toArray = ls at hl ⊢
  have hl : lv_has ls 2 [(0, .ref a0), (1, .int a1)] := hl
  refine lv_aload_n hx hb dX12_begins_0 rfl (lv_at hl 0 rfl) (hp_n (n := 1) rfl ?_)
  refine lv_iload_n hx hb dX12_begins_1 rfl (lv_at hl 1 rfl) (hp_n (n := 2) rfl ?_)
  refine m_puti (k := 26) (φ := 676) (pc' := 5) C B hM fl_X12_236 rfl rfl rfl rfl rfl dX12_begins_2 rfl (fun αh1 Hh1 Lh1 σh1 eh1 Bh1 Mh1 => ?_)
  replace hf := ms_lE eh1 hf
  refine lv_aload_n hx hb dX12_begins_5 rfl (lv_at hl 0 rfl) (hp_n (n := 6) rfl ?_)
  refine lv_iconst (v := 0) hx hb dX12_begins_6 (by decide) (hp_n (n := 7) rfl ?_)
  refine m_puti (k := 23) (φ := 673) (pc' := 10) C Bh1 Mh1 fl_X12_239 rfl rfl rfl rfl rfl dX12_begins_7 rfl (fun αh2 Hh2 Lh2 σh2 eh2 Bh2 Mh2 => ?_)
  replace hf := ms_lE eh2 hf
  refine lv_aload_n hx hb dX12_begins_10 rfl (lv_at hl 0 rfl) (hp_n (n := 11) rfl ?_)
  refine lv_iconst (v := 0) hx hb dX12_begins_11 (by decide) (hp_n (n := 12) rfl ?_)
  refine m_puti (k := 20) (φ := 670) (pc' := 15) C Bh2 Mh2 fl_X12_262 rfl rfl rfl rfl rfl dX12_begins_12 rfl (fun αh3 Hh3 Lh3 σh3 eh3 Bh3 Mh3 => ?_)
  replace hf := ms_lE eh3 hf
  refine lv_aload_n hx hb dX12_begins_15 rfl (lv_at hl 0 rfl) (hp_n (n := 16) rfl ?_)
  obtain ⟨σh4, qh4, hf⟩ := ms_bE hf
  refine m_cv (pc' := 19) (a := a0) (ρ := ρ) Bh3 (hp_runV (As := []) (rest := []) C Bh3 (m_X12_reads n Γ l αh3 a0 ρ σh3 Mh3  σh4 qh4) lb_X12_reads lv_X12_reads lk_X12_276 Mh3.1 rfl (by decide) rfl hl.1 rfl (Nat.le_of_ble_eq_true rfl) dX12_begins_16 ⟨Nat.le_refl _, Nat.le_refl _⟩) rfl (fun αh4 Hh4 Lh4 Bh4 Mh4 => ?_)
  cases hf
  exact q_vret C Bh4 hr hlk ⟨Bh4.2.2, Mh4⟩ dX12_begins_19
def f_X12_ends_J29 (n : Nat) (σh3 : ms_T) (w0_h3 : Int32) : Option ms_T :=
  ms_l (ms_sI σh3 669 w0_h3) fun σh4 =>
  if (ms_I σh4 670) ≤ 0 then
    ms_l (ms_sI σh4 652 (0 : Int32)) fun σh6 =>
    some σh6
  else
    ms_l (ms_sI σh4 652 (9 : Int32)) fun σh7 =>
    some σh7
def f_X12_ends (n : Nat) (σ : ms_T) : Option ms_T :=
  ms_l (ms_sI σ 667 (0 : Int32)) fun σh1 =>
  ms_l (ms_sI σh1 668 (ms_I σh1 670)) fun σh2 =>
  if (ms_I σh2 670) ≤ 0 then
    f_X12_ends_J29 n σh2 (-1 : Int32)
  else
    f_X12_ends_J29 n σh2 (ms_I σh2 671)
set_option maxRecDepth 100000 in
set_option maxHeartbeats 4000000 in
theorem m_X12_ends (n : Nat) (Γ : hp_G) (l : Launch) (α : hp_T) (a0 : Nat) (ρ : Nat → Nat) (σ : ms_T) (hM : hm_M α a0 ρ σ)  (res : ms_T) (hf : f_X12_ends n σ = some res) : Met l yX12_ends (hp_ws yX12_ends cX12_ends 1 none) (hp_rm 0 0 0) (hp_Pc Γ α [.ref a0]) (hp_Qv Γ (fun β => mo α β ∧ hm_M β a0 ρ res)) 0 0 (hp_A Γ) := by
  unfold f_X12_ends at hf
  refine hp_start (by decide) ?_
  intro p e s m below meth c C hr hlk B0 hnm
  have C : hp_C Γ p m c cX12_ends 1 s ([.ref a0] : List Value).toArray RX12 := C
  have hx := C.1.1
  have hb := C.1.2.1
  have hown := C.1.2.2.2.1
  have hts := C.1.2.2.2.2
  have B : hp_B Γ mo s α α s.heap [] := ⟨B0.1, B0.2.1, mo_rf⟩
  have hl := lv_entry ([.ref a0]) (n := 1) (Nat.le_of_ble_eq_true rfl)
  show W p l e (hp_rm 0 0 0) s m ([.ref a0] : List Value).toArray below meth c s.heap [] 0 0 (MQ below (hp_Qv Γ (fun β => mo α β ∧ hm_M β a0 ρ res)) ([.ref a0] : List Value).toArray s 0 0 (hp_A Γ)) (entryFrame m ([.ref a0] : List Value).toArray 1)
  rw [lg_entry_eq]
  generalize (lg_sl ([.ref a0]) ++ List.replicate (1 - (lg_sl ([.ref a0])).length) Slot.unset).toArray = ls at hl ⊢
  have hl : lv_has ls 1 [(0, .ref a0)] := hl
  refine lv_aload_n hx hb dX12_ends_0 rfl (lv_at hl 0 rfl) (hp_n (n := 1) rfl ?_)
  refine lv_iconst (v := 0) hx hb dX12_ends_1 (by decide) (hp_n (n := 2) rfl ?_)
  refine m_puti (k := 17) (φ := 667) (pc' := 5) C B hM fl_X12_230 rfl rfl rfl rfl rfl dX12_ends_2 rfl (fun αh1 Hh1 Lh1 σh1 eh1 Bh1 Mh1 => ?_)
  replace hf := ms_lE eh1 hf
  refine lv_aload_n hx hb dX12_ends_5 rfl (lv_at hl 0 rfl) (hp_n (n := 6) rfl ?_)
  refine lv_aload_n hx hb dX12_ends_6 rfl (lv_at hl 0 rfl) (hp_n (n := 7) rfl ?_)
  refine m_geti (k := 20) (φ := 670) (pc' := 10) C Bh1 Mh1 fl_X12_262 rfl rfl dX12_ends_7 rfl ?_
  refine m_puti (k := 18) (φ := 668) (pc' := 13) C Bh1 Mh1 fl_X12_35 rfl rfl rfl rfl rfl dX12_ends_10 rfl (fun αh2 Hh2 Lh2 σh2 eh2 Bh2 Mh2 => ?_)
  replace hf := ms_lE eh2 hf
  refine lv_aload_n hx hb dX12_ends_13 rfl (lv_at hl 0 rfl) (hp_n (n := 14) rfl ?_)
  refine lv_aload_n hx hb dX12_ends_14 rfl (lv_at hl 0 rfl) (hp_n (n := 15) rfl ?_)
  refine m_geti (k := 20) (φ := 670) (pc' := 18) C Bh2 Mh2 fl_X12_262 rfl rfl dX12_ends_15 rfl ?_
  have J29 : ∀ (αh3 : hp_T) (Hh3 : Heap) (Lh3 : List Loc) (Bh3 : hp_B Γ mo s α αh3 Hh3 Lh3) (σh3 : ms_T) (Mh3 : hm_M αh3 a0 ρ σh3) (w0_h3 : Int32) (ls : Array Slot) (hl : lv_has ls 1 [(0, .ref a0)]) (hf : f_X12_ends_J29 n σh3 w0_h3 = some res), W p l e (hp_rm 0 0 0) s m ([.ref a0] : List Value).toArray below meth c Hh3 Lh3 0 0 (MQ below (hp_Qv Γ (fun β => mo α β ∧ hm_M β a0 ρ res)) ([.ref a0] : List Value).toArray s 0 0 (hp_A Γ)) (F0 m 29 ls [.int w0_h3, .ref a0]) := by
    intro αh3 Hh3 Lh3 Bh3 σh3 Mh3 w0_h3 ls hl hf
    unfold f_X12_ends_J29 at hf
    refine m_puti (k := 19) (φ := 669) (pc' := 32) C Bh3 Mh3 fl_X12_39 rfl rfl rfl rfl rfl dX12_ends_29 rfl (fun αh4 Hh4 Lh4 σh4 eh4 Bh4 Mh4 => ?_)
    replace hf := ms_lE eh4 hf
    refine lv_aload_n hx hb dX12_ends_32 rfl (lv_at hl 0 rfl) (hp_n (n := 33) rfl ?_)
    refine lv_aload_n hx hb dX12_ends_33 rfl (lv_at hl 0 rfl) (hp_n (n := 34) rfl ?_)
    refine m_geti (k := 20) (φ := 670) (pc' := 37) C Bh4 Mh4 fl_X12_262 rfl rfl dX12_ends_34 rfl ?_
    refine lv_if_le (tgt := 45) hx hb dX12_ends_37 (by decide) (fun c5 => ?_) (fun c5 => hp_n (n := 40) rfl ?_)
    ·
      replace hf := ms_iT c5 hf
      refine lv_iconst (v := 0) hx hb dX12_ends_45 (by decide) (hp_n (n := 46) rfl ?_)
      refine m_puti (k := 2) (φ := 652) (pc' := 49) C Bh4 Mh4 fl_X12_109 rfl rfl rfl rfl rfl dX12_ends_46 rfl (fun αh6 Hh6 Lh6 σh6 eh6 Bh6 Mh6 => ?_)
      replace hf := ms_lE eh6 hf
      cases hf
      exact q_vret C Bh6 hr hlk ⟨Bh6.2.2, Mh6⟩ dX12_ends_49
    ·
      replace hf := ms_iF c5 hf
      refine lv_bipush (v := 9) hx hb dX12_ends_40 (by decide) (hp_n (n := 42) rfl ?_)
      refine lv_goto (tgt := 46) hx hb dX12_ends_42 (by decide) ?_
      refine m_puti (k := 2) (φ := 652) (pc' := 49) C Bh4 Mh4 fl_X12_109 rfl rfl rfl rfl rfl dX12_ends_46 rfl (fun αh7 Hh7 Lh7 σh7 eh7 Bh7 Mh7 => ?_)
      replace hf := ms_lE eh7 hf
      cases hf
      exact q_vret C Bh7 hr hlk ⟨Bh7.2.2, Mh7⟩ dX12_ends_49
  refine lv_if_le (tgt := 28) hx hb dX12_ends_18 (by decide) (fun c8 => ?_) (fun c8 => hp_n (n := 21) rfl ?_)
  ·
    replace hf := ms_iT c8 hf
    refine lv_iconst (v := (-1)) hx hb dX12_ends_28 (by decide) (hp_n (n := 29) rfl ?_)
    exact J29 αh2 Hh2 Lh2 Bh2 σh2 Mh2 (-1 : Int32) ls (lv_sub hl [0] rfl) hf
  ·
    replace hf := ms_iF c8 hf
    refine lv_aload_n hx hb dX12_ends_21 rfl (lv_at hl 0 rfl) (hp_n (n := 22) rfl ?_)
    refine m_geti (k := 21) (φ := 671) (pc' := 25) C Bh2 Mh2 fl_X12_265 rfl rfl dX12_ends_22 rfl ?_
    refine lv_goto (tgt := 29) hx hb dX12_ends_25 (by decide) ?_
    exact J29 αh2 Hh2 Lh2 Bh2 σh2 Mh2 (ms_I σh2 671) ls (lv_sub hl [0] rfl) hf
def f_X12_load_L138 (n : Nat) : Nat → ms_T → Int32 → Option (Int32 × ms_T)
  | 0, _, _ => none
  | k138 + 1, σh15, v2_h15 =>
    if (1980 : Int32) ≤ v2_h15 then
      some ((-1 : Int32), σh15)
    else
      ms_g v2_h15 1980 <|
      ms_g v2_h15 1980 <|
      ms_l (ms_sE σh15 40 (v2_h15).toNatClampNeg (ms_E σh15 41 (v2_h15).toNatClampNeg)) fun σh19 =>
      ms_l (v2_h15 + 1) fun x20 =>
      (f_X12_load_L138 n k138) σh19 x20
def f_X12_load_J118 (n : Nat) (σh12 : ms_T) : Option (Int32 × ms_T) :=
  ms_b (f_X12_ends n σh12) fun σh13 =>
  if (ms_I σh13 670) = 0 then
    ms_g (0 : Int32) 1980 <|
    some ((ms_E σh13 40 ((0 : Int32)).toNatClampNeg), σh13)
  else
    f_X12_load_L138 n n σh13 (0 : Int32)
def f_X12_load_L97 (n : Nat) : Nat → ms_T → Option (Int32 × ms_T)
  | 0, _ => none
  | k97 + 1, σh11 =>
    if (ms_I σh11 670) = 0 then
      if (ms_I σh11 674) = 0 then
        f_X12_load_J118 n σh11
      else
        ms_b (f_X12_line n σh11) fun σh24 =>
        (f_X12_load_L97 n k97) σh24
    else
      f_X12_load_J118 n σh11
def f_X12_load_L28 (n : Nat) : Nat → ms_T → Int32 → Int32 → Option (Int32 × ms_T)
  | 0, _, _, _ => none
  | k28 + 1, σh5, v1_h5, v2_h5 =>
    if (1980 : Int32) ≤ v2_h5 then
      ms_b (f_X12_clears n σh5) fun σh7 =>
      ms_l (ms_sI σh7 679 (0 : Int32)) fun σh8 =>
      ms_b (f_X12_begins n σh8 v1_h5) fun σh9 =>
      ms_b (f_X12_isWord n σh9 (0 : Int32)) fun rh10 =>
      if rh10 = 0 then
        f_X12_load_L97 n n σh9
      else
        ms_b (f_X12_reads n σh9) fun σh26 =>
        ms_c (f_X12_takesNumber n σh26 (101 : Int32) (65521 : Int32)) fun rh27 σh27 =>
        ms_g (1 : Int32) 1980 <|
        ms_l (ms_sE σh27 40 ((1 : Int32)).toNatClampNeg rh27) fun σh29 =>
        ms_b (f_X12_takesEnd n σh29) fun σh30 =>
        f_X12_load_L97 n n σh30
    else
      ms_g v2_h5 1980 <|
      ms_g v2_h5 1980 <|
      ms_l (ms_sE σh5 41 (v2_h5).toNatClampNeg (ms_E σh5 40 (v2_h5).toNatClampNeg)) fun σh33 =>
      ms_l (v2_h5 + 1) fun x34 =>
      (f_X12_load_L28 n k28) σh33 v1_h5 x34
def f_X12_load_J18 (n : Nat) (σh2 : ms_T) (v1_h2 : Int32) (w0_h2 : Int32) : Option (Int32 × ms_T) :=
  ms_c (f_X12_is n σh2 w0_h2) fun rh3 σh3 =>
  if rh3 = 0 then
    some ((-1 : Int32), σh3)
  else
    f_X12_load_L28 n n σh3 v1_h2 (0 : Int32)
def f_X12_load (n : Nat) (σ : ms_T) (a1 : Int32) : Option (Int32 × ms_T) :=
  ms_b (f_X12_isIn n a1 (0 : Int32) (ms_I σ 667)) fun rh1 =>
  if rh1 = 0 then
    f_X12_load_J18 n σ a1 (1 : Int32)
  else
    f_X12_load_J18 n σ a1 (0 : Int32)
set_option maxRecDepth 100000 in
set_option maxHeartbeats 4000000 in
theorem m_X12_load (n : Nat) (Γ : hp_G) (l : Launch) (α : hp_T) (a0 : Nat) (ρ : Nat → Nat) (σ : ms_T) (hM : hm_M α a0 ρ σ) (a1 : Int32) (res : (Int32 × ms_T)) (hf : f_X12_load n σ a1 = some res) : Met l yX12_load (hp_ws yX12_load cX12_load 3 (some .int)) (hp_rm 46 0 0) (hp_Pc Γ α [.ref a0, .int a1]) (hp_Qi Γ (fun r β => r = res.1 ∧ mo α β ∧ hm_M β a0 ρ res.2)) 0 0 (hp_A Γ) := by
  unfold f_X12_load at hf
  refine hp_start (by decide) ?_
  intro p e s m below meth c C hr hlk B0 hnm
  have C : hp_C Γ p m c cX12_load 3 s ([.ref a0, .int a1] : List Value).toArray RX12 := C
  have hx := C.1.1
  have hb := C.1.2.1
  have hown := C.1.2.2.2.1
  have hts := C.1.2.2.2.2
  have B : hp_B Γ mo s α α s.heap [] := ⟨B0.1, B0.2.1, mo_rf⟩
  have hl := lv_entry ([.ref a0, .int a1]) (n := 3) (Nat.le_of_ble_eq_true rfl)
  show W p l e (hp_rm 46 0 0) s m ([.ref a0, .int a1] : List Value).toArray below meth c s.heap [] 0 0 (MQ below (hp_Qi Γ (fun r β => r = res.1 ∧ mo α β ∧ hm_M β a0 ρ res.2)) ([.ref a0, .int a1] : List Value).toArray s 0 0 (hp_A Γ)) (entryFrame m ([.ref a0, .int a1] : List Value).toArray 3)
  rw [lg_entry_eq]
  generalize (lg_sl ([.ref a0, .int a1]) ++ List.replicate (3 - (lg_sl ([.ref a0, .int a1])).length) Slot.unset).toArray = ls at hl ⊢
  have hl : lv_has ls 3 [(0, .ref a0), (1, .int a1)] := hl
  refine lv_aload_n hx hb dX12_load_0 rfl (lv_at hl 0 rfl) (hp_n (n := 1) rfl ?_)
  refine lv_iload_n hx hb dX12_load_1 rfl (lv_at hl 1 rfl) (hp_n (n := 2) rfl ?_)
  refine lv_iconst (v := 0) hx hb dX12_load_2 (by decide) (hp_n (n := 3) rfl ?_)
  refine lv_aload_n hx hb dX12_load_3 rfl (lv_at hl 0 rfl) (hp_n (n := 4) rfl ?_)
  refine m_geti (k := 17) (φ := 667) (pc' := 7) C B hM fl_X12_230 rfl rfl dX12_load_4 rfl ?_
  obtain ⟨rh1, qh1, hf⟩ := ms_bE hf
  refine m_cp (pc' := 10) B (hp_runS (As := [.int a1, .int (0 : Int32), .int (ms_I σ 667)]) (rest := [.ref a0]) C B (m_X12_isIn n Γ l α a1 (0 : Int32) (ms_I σ 667) rh1 qh1) lb_X12_isIn ls_X12_isIn lk_X12_113 rfl (by decide) rfl hl.1 rfl (Nat.le_of_ble_eq_true rfl) dX12_load_7 ⟨Nat.le_refl _, Nat.le_refl _⟩) rfl (fun Hh1 Lh1 Bh1 => ?_)
  have J18 : ∀ (αh2 : hp_T) (Hh2 : Heap) (Lh2 : List Loc) (Bh2 : hp_B Γ mo s α αh2 Hh2 Lh2) (σh2 : ms_T) (Mh2 : hm_M αh2 a0 ρ σh2) (v1_h2 : Int32) (w0_h2 : Int32) (ls : Array Slot) (hl : lv_has ls 3 [(0, .ref a0), (1, .int v1_h2)]) (hf : f_X12_load_J18 n σh2 v1_h2 w0_h2 = some res), W p l e (hp_rm 46 0 0) s m ([.ref a0, .int a1] : List Value).toArray below meth c Hh2 Lh2 0 0 (MQ below (hp_Qi Γ (fun r β => r = res.1 ∧ mo α β ∧ hm_M β a0 ρ res.2)) ([.ref a0, .int a1] : List Value).toArray s 0 0 (hp_A Γ)) (F0 m 18 ls [.int w0_h2, .ref a0]) := by
    intro αh2 Hh2 Lh2 Bh2 σh2 Mh2 v1_h2 w0_h2 ls hl hf
    unfold f_X12_load_J18 at hf
    obtain ⟨rh3, σh3, qh3, hf⟩ := ms_cE hf
    refine m_ci (pc' := 21) (a := a0) (ρ := ρ) Bh2 (hp_runV (As := [.int w0_h2]) (rest := []) C Bh2 (m_X12_is n Γ l αh2 a0 ρ σh2 Mh2 w0_h2 (rh3, σh3) qh3) lb_X12_is lv_X12_is lk_X12_309 Mh2.1 rfl (by decide) rfl hl.1 rfl (Nat.le_of_ble_eq_true rfl) dX12_load_18 ⟨Nat.le_refl _, Nat.le_refl _⟩) rfl (fun αh3 Hh3 Lh3 Bh3 Mh3 => ?_)
    refine lv_if_ne (tgt := 26) hx hb dX12_load_21 (by decide) (fun c4 => ?_) (fun c4 => hp_n (n := 24) rfl ?_)
    ·
      replace hf := ms_iF c4 hf
      refine lv_iconst (v := 0) hx hb dX12_load_26 (by decide) (hp_n (n := 27) rfl ?_)
      have J28 : ∀ (k28 : Nat) (αh5 : hp_T) (Hh5 : Heap) (Lh5 : List Loc) (Bh5 : hp_B Γ mo s α αh5 Hh5 Lh5) (σh5 : ms_T) (Mh5 : hm_M αh5 a0 ρ σh5) (v1_h5 : Int32) (v2_h5 : Int32) (ls : Array Slot) (hl : lv_has ls 3 [(0, .ref a0), (1, .int v1_h5), (2, .int v2_h5)]) (hf : f_X12_load_L28 n k28 σh5 v1_h5 v2_h5 = some res), W p l e (hp_rm 46 0 0) s m ([.ref a0, .int a1] : List Value).toArray below meth c Hh5 Lh5 0 0 (MQ below (hp_Qi Γ (fun r β => r = res.1 ∧ mo α β ∧ hm_M β a0 ρ res.2)) ([.ref a0, .int a1] : List Value).toArray s 0 0 (hp_A Γ)) (F0 m 28 ls []) := by
        intro k28
        induction k28 with
        | zero => intro αh5 Hh5 Lh5 Bh5 σh5 Mh5 v1_h5 v2_h5 ls hl hf; rw [f_X12_load_L28.eq_1] at hf; cases hf
        | succ k28 ih28 =>
          intro αh5 Hh5 Lh5 Bh5 σh5 Mh5 v1_h5 v2_h5 ls hl hf
          rw [f_X12_load_L28.eq_2] at hf
          refine lv_iload_n hx hb dX12_load_28 rfl (lv_at hl 2 rfl) (hp_n (n := 29) rfl ?_)
          refine lv_sipush (v := 1980) hx hb dX12_load_29 (by decide) (hp_n (n := 32) rfl ?_)
          refine lv_icmp_ge (tgt := 53) hx hb dX12_load_32 (by decide) (fun c6 => ?_) (fun c6 => hp_n (n := 35) rfl ?_)
          ·
            replace hf := ms_iT c6 hf
            refine lv_aload_n hx hb dX12_load_53 rfl (lv_at hl 0 rfl) (hp_n (n := 54) rfl ?_)
            obtain ⟨σh7, qh7, hf⟩ := ms_bE hf
            refine m_cv (pc' := 57) (a := a0) (ρ := ρ) Bh5 (hp_runV (As := []) (rest := []) C Bh5 (m_X12_clears n Γ l αh5 a0 ρ σh5 Mh5  σh7 qh7) lb_X12_clears lv_X12_clears lk_X12_103 Mh5.1 rfl (by decide) rfl hl.1 rfl (Nat.le_of_ble_eq_true rfl) dX12_load_54 ⟨Nat.le_refl _, Nat.le_refl _⟩) rfl (fun αh7 Hh7 Lh7 Bh7 Mh7 => ?_)
            refine lv_aload_n hx hb dX12_load_57 rfl (lv_at hl 0 rfl) (hp_n (n := 58) rfl ?_)
            refine lv_iconst (v := 0) hx hb dX12_load_58 (by decide) (hp_n (n := 59) rfl ?_)
            refine m_puti (k := 29) (φ := 679) (pc' := 62) C Bh7 Mh7 fl_X12_282 rfl rfl rfl rfl rfl dX12_load_59 rfl (fun αh8 Hh8 Lh8 σh8 eh8 Bh8 Mh8 => ?_)
            replace hf := ms_lE eh8 hf
            refine lv_aload_n hx hb dX12_load_62 rfl (lv_at hl 0 rfl) (hp_n (n := 63) rfl ?_)
            refine lv_iload_n hx hb dX12_load_63 rfl (lv_at hl 1 rfl) (hp_n (n := 64) rfl ?_)
            obtain ⟨σh9, qh9, hf⟩ := ms_bE hf
            refine m_cv (pc' := 67) (a := a0) (ρ := ρ) Bh8 (hp_runV (As := [.int v1_h5]) (rest := []) C Bh8 (m_X12_begins n Γ l αh8 a0 ρ σh8 Mh8 v1_h5 σh9 qh9) lb_X12_begins lv_X12_begins lk_X12_312 Mh8.1 rfl (by decide) rfl hl.1 rfl (Nat.le_of_ble_eq_true rfl) dX12_load_64 ⟨Nat.le_refl _, Nat.le_refl _⟩) rfl (fun αh9 Hh9 Lh9 Bh9 Mh9 => ?_)
            refine lv_aload_n hx hb dX12_load_67 rfl (lv_at hl 0 rfl) (hp_n (n := 68) rfl ?_)
            refine lv_iconst (v := 0) hx hb dX12_load_68 (by decide) (hp_n (n := 69) rfl ?_)
            obtain ⟨rh10, qh10, hf⟩ := ms_bE hf
            refine m_cp (pc' := 72) Bh9 (hp_runV (As := [.int (0 : Int32)]) (rest := []) C Bh9 (m_X12_isWord n Γ l αh9 a0 ρ σh9 Mh9 (0 : Int32) rh10 qh10) lb_X12_isWord lv_X12_isWord lk_X12_268 Mh9.1 rfl (by decide) rfl hl.1 rfl (Nat.le_of_ble_eq_true rfl) dX12_load_69 ⟨Nat.le_refl _, Nat.le_refl _⟩) rfl (fun Hh10 Lh10 Bh10 => ?_)
            have J97 : ∀ (k97 : Nat) (αh11 : hp_T) (Hh11 : Heap) (Lh11 : List Loc) (Bh11 : hp_B Γ mo s α αh11 Hh11 Lh11) (σh11 : ms_T) (Mh11 : hm_M αh11 a0 ρ σh11) (ls : Array Slot) (hl : lv_has ls 3 [(0, .ref a0)]) (hf : f_X12_load_L97 n k97 σh11 = some res), W p l e (hp_rm 46 0 0) s m ([.ref a0, .int a1] : List Value).toArray below meth c Hh11 Lh11 0 0 (MQ below (hp_Qi Γ (fun r β => r = res.1 ∧ mo α β ∧ hm_M β a0 ρ res.2)) ([.ref a0, .int a1] : List Value).toArray s 0 0 (hp_A Γ)) (F0 m 97 ls []) := by
              intro k97
              induction k97 with
              | zero => intro αh11 Hh11 Lh11 Bh11 σh11 Mh11 ls hl hf; rw [f_X12_load_L97.eq_1] at hf; cases hf
              | succ k97 ih97 =>
                intro αh11 Hh11 Lh11 Bh11 σh11 Mh11 ls hl hf
                rw [f_X12_load_L97.eq_2] at hf
                refine lv_aload_n hx hb dX12_load_97 rfl (lv_at hl 0 rfl) (hp_n (n := 98) rfl ?_)
                refine m_geti (k := 20) (φ := 670) (pc' := 101) C Bh11 Mh11 fl_X12_262 rfl rfl dX12_load_98 rfl ?_
                have J118 : ∀ (αh12 : hp_T) (Hh12 : Heap) (Lh12 : List Loc) (Bh12 : hp_B Γ mo s α αh12 Hh12 Lh12) (σh12 : ms_T) (Mh12 : hm_M αh12 a0 ρ σh12) (ls : Array Slot) (hl : lv_has ls 3 [(0, .ref a0)]) (hf : f_X12_load_J118 n σh12 = some res), W p l e (hp_rm 46 0 0) s m ([.ref a0, .int a1] : List Value).toArray below meth c Hh12 Lh12 0 0 (MQ below (hp_Qi Γ (fun r β => r = res.1 ∧ mo α β ∧ hm_M β a0 ρ res.2)) ([.ref a0, .int a1] : List Value).toArray s 0 0 (hp_A Γ)) (F0 m 118 ls []) := by
                  intro αh12 Hh12 Lh12 Bh12 σh12 Mh12 ls hl hf
                  unfold f_X12_load_J118 at hf
                  refine lv_aload_n hx hb dX12_load_118 rfl (lv_at hl 0 rfl) (hp_n (n := 119) rfl ?_)
                  obtain ⟨σh13, qh13, hf⟩ := ms_bE hf
                  refine m_cv (pc' := 122) (a := a0) (ρ := ρ) Bh12 (hp_runV (As := []) (rest := []) C Bh12 (m_X12_ends n Γ l αh12 a0 ρ σh12 Mh12  σh13 qh13) lb_X12_ends lv_X12_ends lk_X12_318 Mh12.1 rfl (by decide) rfl hl.1 rfl (Nat.le_of_ble_eq_true rfl) dX12_load_119 ⟨Nat.le_refl _, Nat.le_refl _⟩) rfl (fun αh13 Hh13 Lh13 Bh13 Mh13 => ?_)
                  refine lv_aload_n hx hb dX12_load_122 rfl (lv_at hl 0 rfl) (hp_n (n := 123) rfl ?_)
                  refine m_geti (k := 20) (φ := 670) (pc' := 126) C Bh13 Mh13 fl_X12_262 rfl rfl dX12_load_123 rfl ?_
                  refine lv_if_ne (tgt := 136) hx hb dX12_load_126 (by decide) (fun c14 => ?_) (fun c14 => hp_n (n := 129) rfl ?_)
                  ·
                    replace hf := ms_iF c14 hf
                    refine lv_iconst (v := 0) hx hb dX12_load_136 (by decide) (hp_n (n := 137) rfl ?_)
                    have J138 : ∀ (k138 : Nat) (αh15 : hp_T) (Hh15 : Heap) (Lh15 : List Loc) (Bh15 : hp_B Γ mo s α αh15 Hh15 Lh15) (σh15 : ms_T) (Mh15 : hm_M αh15 a0 ρ σh15) (v2_h15 : Int32) (ls : Array Slot) (hl : lv_has ls 3 [(0, .ref a0), (2, .int v2_h15)]) (hf : f_X12_load_L138 n k138 σh15 v2_h15 = some res), W p l e (hp_rm 46 0 0) s m ([.ref a0, .int a1] : List Value).toArray below meth c Hh15 Lh15 0 0 (MQ below (hp_Qi Γ (fun r β => r = res.1 ∧ mo α β ∧ hm_M β a0 ρ res.2)) ([.ref a0, .int a1] : List Value).toArray s 0 0 (hp_A Γ)) (F0 m 138 ls []) := by
                      intro k138
                      induction k138 with
                      | zero => intro αh15 Hh15 Lh15 Bh15 σh15 Mh15 v2_h15 ls hl hf; rw [f_X12_load_L138.eq_1] at hf; cases hf
                      | succ k138 ih138 =>
                        intro αh15 Hh15 Lh15 Bh15 σh15 Mh15 v2_h15 ls hl hf
                        rw [f_X12_load_L138.eq_2] at hf
                        refine lv_iload_n hx hb dX12_load_138 rfl (lv_at hl 1 rfl) (hp_n (n := 139) rfl ?_)
                        refine lv_sipush (v := 1980) hx hb dX12_load_139 (by decide) (hp_n (n := 142) rfl ?_)
                        refine lv_icmp_ge (tgt := 163) hx hb dX12_load_142 (by decide) (fun c16 => ?_) (fun c16 => hp_n (n := 145) rfl ?_)
                        ·
                          replace hf := ms_iT c16 hf
                          refine lv_iconst (v := (-1)) hx hb dX12_load_163 (by decide) (hp_n (n := 164) rfl ?_)
                          cases hf
                          exact q_iret C Bh15 hr hlk ⟨rfl, Bh15.2.2, Mh15⟩ dX12_load_164
                        ·
                          replace hf := ms_iF c16 hf
                          refine lv_aload_n hx hb dX12_load_145 rfl (lv_at hl 0 rfl) (hp_n (n := 146) rfl ?_)
                          refine m_getr (κ := 40) (k := 0) (pc' := 149) C Bh15 Mh15 fl_X12_7 rfl (by decide) dX12_load_146 rfl ?_
                          refine lv_iload_n hx hb dX12_load_149 rfl (lv_at hl 1 rfl) (hp_n (n := 150) rfl ?_)
                          refine lv_aload_n hx hb dX12_load_150 rfl (lv_at hl 0 rfl) (hp_n (n := 151) rfl ?_)
                          refine m_getr (κ := 41) (k := 1) (pc' := 154) C Bh15 Mh15 fl_X12_13 rfl (by decide) dX12_load_151 rfl ?_
                          refine lv_iload_n hx hb dX12_load_154 rfl (lv_at hl 1 rfl) (hp_n (n := 155) rfl ?_)
                          obtain ⟨g17, hf⟩ := ms_gE hf
                          refine m_ial (κ := 41) (φ := 651) (n := 1980) (pc' := 156) C Bh15 Mh15 (by decide) (by decide) rfl g17 dX12_load_155 rfl ?_
                          obtain ⟨g18, hf⟩ := ms_gE hf
                          refine m_ias (κ := 40) (φ := 650) (n := 1980) (pc' := 157) C Bh15 Mh15 (by decide) (by decide) rfl g18 dX12_load_156 rfl (fun αh19 Hh19 Lh19 σh19 eh19 Bh19 Mh19 => ?_)
                          replace hf := ms_lE eh19 hf
                          obtain ⟨x20, ex20⟩ : ∃ y : Int32, y = v2_h15 + 1 := ⟨_, rfl⟩
                          replace hf := ms_lE ex20 hf
                          refine lv_iinc (v := x20) (lv' := [(2, .int x20), (0, .ref a0)]) hx hb dX12_load_157 hl (k := 1) rfl (by rw [ex20]; rfl) (by decide) rfl (fun ls hl => hp_n (n := 160) rfl ?_)
                          refine lv_goto (tgt := 138) hx hb dX12_load_160 (by decide) ?_
                          exact ih138 αh19 Hh19 Lh19 Bh19 σh19 Mh19 x20 ls (lv_sub hl [1, 0] rfl) hf
                    refine lv_istore_n (lv' := [(2, .int (0 : Int32)), (0, .ref a0)]) hx hb dX12_load_137 rfl hl (by decide) rfl (fun ls hl => hp_n (n := 138) rfl ?_)
                    exact J138 n αh13 Hh13 Lh13 Bh13 σh13 Mh13 (0 : Int32) ls (lv_sub hl [1, 0] rfl) hf
                  ·
                    replace hf := ms_iT c14 hf
                    refine lv_aload_n hx hb dX12_load_129 rfl (lv_at hl 0 rfl) (hp_n (n := 130) rfl ?_)
                    refine m_getr (κ := 40) (k := 0) (pc' := 133) C Bh13 Mh13 fl_X12_7 rfl (by decide) dX12_load_130 rfl ?_
                    refine lv_iconst (v := 0) hx hb dX12_load_133 (by decide) (hp_n (n := 134) rfl ?_)
                    obtain ⟨g21, hf⟩ := ms_gE hf
                    refine m_ial (κ := 40) (φ := 650) (n := 1980) (pc' := 135) C Bh13 Mh13 (by decide) (by decide) rfl g21 dX12_load_134 rfl ?_
                    cases hf
                    exact q_iret C Bh13 hr hlk ⟨rfl, Bh13.2.2, Mh13⟩ dX12_load_135
                refine lv_if_ne (tgt := 118) hx hb dX12_load_101 (by decide) (fun c22 => ?_) (fun c22 => hp_n (n := 104) rfl ?_)
                ·
                  replace hf := ms_iF c22 hf
                  exact J118 αh11 Hh11 Lh11 Bh11 σh11 Mh11 ls (lv_sub hl [0] rfl) hf
                ·
                  replace hf := ms_iT c22 hf
                  refine lv_aload_n hx hb dX12_load_104 rfl (lv_at hl 0 rfl) (hp_n (n := 105) rfl ?_)
                  refine m_geti (k := 24) (φ := 674) (pc' := 108) C Bh11 Mh11 fl_X12_245 rfl rfl dX12_load_105 rfl ?_
                  refine lv_if_eq (tgt := 118) hx hb dX12_load_108 (by decide) (fun c23 => ?_) (fun c23 => hp_n (n := 111) rfl ?_)
                  ·
                    replace hf := ms_iT c23 hf
                    exact J118 αh11 Hh11 Lh11 Bh11 σh11 Mh11 ls (lv_sub hl [0] rfl) hf
                  ·
                    replace hf := ms_iF c23 hf
                    refine lv_aload_n hx hb dX12_load_111 rfl (lv_at hl 0 rfl) (hp_n (n := 112) rfl ?_)
                    obtain ⟨σh24, qh24, hf⟩ := ms_bE hf
                    refine m_cv (pc' := 115) (a := a0) (ρ := ρ) Bh11 (hp_runV (As := []) (rest := []) C Bh11 (m_X12_line n Γ l αh11 a0 ρ σh11 Mh11  σh24 qh24) lb_X12_line lv_X12_line lk_X12_315 Mh11.1 rfl (by decide) rfl hl.1 rfl (Nat.le_of_ble_eq_true rfl) dX12_load_112 ⟨Nat.le_refl _, Nat.le_refl _⟩) rfl (fun αh24 Hh24 Lh24 Bh24 Mh24 => ?_)
                    refine lv_goto (tgt := 97) hx hb dX12_load_115 (by decide) ?_
                    exact ih97 αh24 Hh24 Lh24 Bh24 σh24 Mh24 ls (lv_sub hl [0] rfl) hf
            refine lv_if_eq (tgt := 97) hx hb dX12_load_72 (by decide) (fun c25 => ?_) (fun c25 => hp_n (n := 75) rfl ?_)
            ·
              replace hf := ms_iT c25 hf
              exact J97 n αh9 Hh10 Lh10 Bh10 σh9 Mh9 ls (lv_sub hl [0] rfl) hf
            ·
              replace hf := ms_iF c25 hf
              refine lv_aload_n hx hb dX12_load_75 rfl (lv_at hl 0 rfl) (hp_n (n := 76) rfl ?_)
              obtain ⟨σh26, qh26, hf⟩ := ms_bE hf
              refine m_cv (pc' := 79) (a := a0) (ρ := ρ) Bh10 (hp_runV (As := []) (rest := []) C Bh10 (m_X12_reads n Γ l αh9 a0 ρ σh9 Mh9  σh26 qh26) lb_X12_reads lv_X12_reads lk_X12_276 Mh9.1 rfl (by decide) rfl hl.1 rfl (Nat.le_of_ble_eq_true rfl) dX12_load_76 ⟨Nat.le_refl _, Nat.le_refl _⟩) rfl (fun αh26 Hh26 Lh26 Bh26 Mh26 => ?_)
              refine lv_aload_n hx hb dX12_load_79 rfl (lv_at hl 0 rfl) (hp_n (n := 80) rfl ?_)
              refine m_getr (κ := 40) (k := 0) (pc' := 83) C Bh26 Mh26 fl_X12_7 rfl (by decide) dX12_load_80 rfl ?_
              refine lv_iconst (v := 1) hx hb dX12_load_83 (by decide) (hp_n (n := 84) rfl ?_)
              refine lv_aload_n hx hb dX12_load_84 rfl (lv_at hl 0 rfl) (hp_n (n := 85) rfl ?_)
              refine lv_bipush (v := 101) hx hb dX12_load_85 (by decide) (hp_n (n := 87) rfl ?_)
              refine lv_ldc hx hb hown (hts _ kc_X12_112) dX12_load_87 (hp_n (n := 89) rfl ?_)
              obtain ⟨rh27, σh27, qh27, hf⟩ := ms_cE hf
              refine m_ci (pc' := 92) (a := a0) (ρ := ρ) Bh26 (hp_runV (As := [.int (101 : Int32), .int (65521 : Int32)]) (rest := [.int (1 : Int32), .ref (ρ 40)]) C Bh26 (m_X12_takesNumber n Γ l αh26 a0 ρ σh26 Mh26 (101 : Int32) (65521 : Int32) (rh27, σh27) qh27) lb_X12_takesNumber lv_X12_takesNumber lk_X12_279 Mh26.1 rfl (by decide) rfl hl.1 rfl (Nat.le_of_ble_eq_true rfl) dX12_load_89 ⟨Nat.le_refl _, Nat.le_refl _⟩) rfl (fun αh27 Hh27 Lh27 Bh27 Mh27 => ?_)
              obtain ⟨g28, hf⟩ := ms_gE hf
              refine m_ias (κ := 40) (φ := 650) (n := 1980) (pc' := 93) C Bh27 Mh27 (by decide) (by decide) rfl g28 dX12_load_92 rfl (fun αh29 Hh29 Lh29 σh29 eh29 Bh29 Mh29 => ?_)
              replace hf := ms_lE eh29 hf
              refine lv_aload_n hx hb dX12_load_93 rfl (lv_at hl 0 rfl) (hp_n (n := 94) rfl ?_)
              obtain ⟨σh30, qh30, hf⟩ := ms_bE hf
              refine m_cv (pc' := 97) (a := a0) (ρ := ρ) Bh29 (hp_runV (As := []) (rest := []) C Bh29 (m_X12_takesEnd n Γ l αh29 a0 ρ σh29 Mh29  σh30 qh30) lb_X12_takesEnd lv_X12_takesEnd lk_X12_285 Mh29.1 rfl (by decide) rfl hl.1 rfl (Nat.le_of_ble_eq_true rfl) dX12_load_94 ⟨Nat.le_refl _, Nat.le_refl _⟩) rfl (fun αh30 Hh30 Lh30 Bh30 Mh30 => ?_)
              exact J97 n αh30 Hh30 Lh30 Bh30 σh30 Mh30 ls (lv_sub hl [0] rfl) hf
          ·
            replace hf := ms_iF c6 hf
            refine lv_aload_n hx hb dX12_load_35 rfl (lv_at hl 0 rfl) (hp_n (n := 36) rfl ?_)
            refine m_getr (κ := 41) (k := 1) (pc' := 39) C Bh5 Mh5 fl_X12_13 rfl (by decide) dX12_load_36 rfl ?_
            refine lv_iload_n hx hb dX12_load_39 rfl (lv_at hl 2 rfl) (hp_n (n := 40) rfl ?_)
            refine lv_aload_n hx hb dX12_load_40 rfl (lv_at hl 0 rfl) (hp_n (n := 41) rfl ?_)
            refine m_getr (κ := 40) (k := 0) (pc' := 44) C Bh5 Mh5 fl_X12_7 rfl (by decide) dX12_load_41 rfl ?_
            refine lv_iload_n hx hb dX12_load_44 rfl (lv_at hl 2 rfl) (hp_n (n := 45) rfl ?_)
            obtain ⟨g31, hf⟩ := ms_gE hf
            refine m_ial (κ := 40) (φ := 650) (n := 1980) (pc' := 46) C Bh5 Mh5 (by decide) (by decide) rfl g31 dX12_load_45 rfl ?_
            obtain ⟨g32, hf⟩ := ms_gE hf
            refine m_ias (κ := 41) (φ := 651) (n := 1980) (pc' := 47) C Bh5 Mh5 (by decide) (by decide) rfl g32 dX12_load_46 rfl (fun αh33 Hh33 Lh33 σh33 eh33 Bh33 Mh33 => ?_)
            replace hf := ms_lE eh33 hf
            obtain ⟨x34, ex34⟩ : ∃ y : Int32, y = v2_h5 + 1 := ⟨_, rfl⟩
            replace hf := ms_lE ex34 hf
            refine lv_iinc (v := x34) (lv' := [(2, .int x34), (0, .ref a0), (1, .int v1_h5)]) hx hb dX12_load_47 hl (k := 2) rfl (by rw [ex34]; rfl) (by decide) rfl (fun ls hl => hp_n (n := 50) rfl ?_)
            refine lv_goto (tgt := 28) hx hb dX12_load_50 (by decide) ?_
            exact ih28 αh33 Hh33 Lh33 Bh33 σh33 Mh33 v1_h5 x34 ls (lv_sub hl [1, 2, 0] rfl) hf
      refine lv_istore_n (lv' := [(2, .int (0 : Int32)), (0, .ref a0), (1, .int v1_h2)]) hx hb dX12_load_27 rfl hl (by decide) rfl (fun ls hl => hp_n (n := 28) rfl ?_)
      exact J28 n αh3 Hh3 Lh3 Bh3 σh3 Mh3 v1_h2 (0 : Int32) ls (lv_sub hl [1, 2, 0] rfl) hf
    ·
      replace hf := ms_iT c4 hf
      refine lv_iconst (v := (-1)) hx hb dX12_load_24 (by decide) (hp_n (n := 25) rfl ?_)
      cases hf
      exact q_iret C Bh3 hr hlk ⟨rfl, Bh3.2.2, Mh3⟩ dX12_load_25
  refine lv_if_eq (tgt := 17) hx hb dX12_load_10 (by decide) (fun c35 => ?_) (fun c35 => hp_n (n := 13) rfl ?_)
  ·
    replace hf := ms_iT c35 hf
    refine lv_iconst (v := 1) hx hb dX12_load_17 (by decide) (hp_n (n := 18) rfl ?_)
    exact J18 α Hh1 Lh1 Bh1 σ hM a1 (1 : Int32) ls (lv_sub hl [0, 1] rfl) hf
  ·
    replace hf := ms_iF c35 hf
    refine lv_iconst (v := 0) hx hb dX12_load_13 (by decide) (hp_n (n := 14) rfl ?_)
    refine lv_goto (tgt := 18) hx hb dX12_load_14 (by decide) ?_
    exact J18 α Hh1 Lh1 Bh1 σ hM a1 (0 : Int32) ls (lv_sub hl [0, 1] rfl) hf
def f_X12_takesMarks_J82 (n : Nat) (σh3 : ms_T) (v1_h3 : Int32) : Option (Int32 × ms_T) :=
  ms_b (f_X12_takesEnd n σh3) fun σh4 =>
  some (v1_h3, σh4)
def f_X12_takesMarks_J48 (n : Nat) (rec8 : ms_T → Int32 → Option (Int32 × ms_T)) (σh9 : ms_T) (v1_h9 : Int32) (w0_h9 : Int32) : Option (Int32 × ms_T) :=
  ms_b (f_X12_must n σh9 w0_h9 (6 : Int32)) fun σh10 =>
  if (ms_I σh10 670) ≤ 0 then
    ms_g v1_h9 128 <|
    ms_l (ms_sE σh10 44 (v1_h9).toNatClampNeg (ms_I σh10 675)) fun σh13 =>
    ms_l (v1_h9 + 1) fun x14 =>
    ms_b (f_X12_reads n σh13) fun σh15 =>
    rec8 σh15 x14
  else
    some (v1_h9, σh10)
def f_X12_takesMarks_L8 (n : Nat) : Nat → ms_T → Int32 → Option (Int32 × ms_T)
  | 0, _, _ => none
  | k8 + 1, σh2, v1_h2 =>
    if (ms_I σh2 670) = 0 then
      if (ms_I σh2 674) = (2 : Int32) then
        ms_b (f_X12_isMark n σh2 (ms_I σh2 675)) fun rh7 =>
        ms_b (f_X12_must n σh2 rh7 (3 : Int32)) fun σh8 =>
        if (64 : Int32) ≤ v1_h2 then
          f_X12_takesMarks_J48 n (f_X12_takesMarks_L8 n k8) σh8 v1_h2 (0 : Int32)
        else
          f_X12_takesMarks_J48 n (f_X12_takesMarks_L8 n k8) σh8 v1_h2 (1 : Int32)
      else
        f_X12_takesMarks_J82 n σh2 v1_h2
    else
      f_X12_takesMarks_J82 n σh2 v1_h2
def f_X12_takesMarks (n : Nat) (σ : ms_T) : Option (Int32 × ms_T) :=
  ms_b (f_X12_takes n σ (11 : Int32)) fun σh1 =>
  f_X12_takesMarks_L8 n n σh1 (0 : Int32)
set_option maxRecDepth 100000 in
set_option maxHeartbeats 4000000 in
theorem m_X12_takesMarks (n : Nat) (Γ : hp_G) (l : Launch) (α : hp_T) (a0 : Nat) (ρ : Nat → Nat) (σ : ms_T) (hM : hm_M α a0 ρ σ)  (res : (Int32 × ms_T)) (hf : f_X12_takesMarks n σ = some res) : Met l yX12_takesMarks (hp_ws yX12_takesMarks cX12_takesMarks 2 (some .int)) (hp_rm 4 0 0) (hp_Pc Γ α [.ref a0]) (hp_Qi Γ (fun r β => r = res.1 ∧ mo α β ∧ hm_M β a0 ρ res.2)) 0 0 (hp_A Γ) := by
  unfold f_X12_takesMarks at hf
  refine hp_start (by decide) ?_
  intro p e s m below meth c C hr hlk B0 hnm
  have C : hp_C Γ p m c cX12_takesMarks 2 s ([.ref a0] : List Value).toArray RX12 := C
  have hx := C.1.1
  have hb := C.1.2.1
  have hown := C.1.2.2.2.1
  have hts := C.1.2.2.2.2
  have B : hp_B Γ mo s α α s.heap [] := ⟨B0.1, B0.2.1, mo_rf⟩
  have hl := lv_entry ([.ref a0]) (n := 2) (Nat.le_of_ble_eq_true rfl)
  show W p l e (hp_rm 4 0 0) s m ([.ref a0] : List Value).toArray below meth c s.heap [] 0 0 (MQ below (hp_Qi Γ (fun r β => r = res.1 ∧ mo α β ∧ hm_M β a0 ρ res.2)) ([.ref a0] : List Value).toArray s 0 0 (hp_A Γ)) (entryFrame m ([.ref a0] : List Value).toArray 2)
  rw [lg_entry_eq]
  generalize (lg_sl ([.ref a0]) ++ List.replicate (2 - (lg_sl ([.ref a0])).length) Slot.unset).toArray = ls at hl ⊢
  have hl : lv_has ls 2 [(0, .ref a0)] := hl
  refine lv_aload_n hx hb dX12_takesMarks_0 rfl (lv_at hl 0 rfl) (hp_n (n := 1) rfl ?_)
  refine lv_bipush (v := 11) hx hb dX12_takesMarks_1 (by decide) (hp_n (n := 3) rfl ?_)
  obtain ⟨σh1, qh1, hf⟩ := ms_bE hf
  refine m_cv (pc' := 6) (a := a0) (ρ := ρ) B (hp_runV (As := [.int (11 : Int32)]) (rest := []) C B (m_X12_takes n Γ l α a0 ρ σ hM (11 : Int32) σh1 qh1) lb_X12_takes lv_X12_takes lk_X12_303 hM.1 rfl (by decide) rfl hl.1 rfl (Nat.le_of_ble_eq_true rfl) dX12_takesMarks_3 ⟨Nat.le_refl _, Nat.le_refl _⟩) rfl (fun αh1 Hh1 Lh1 Bh1 Mh1 => ?_)
  refine lv_iconst (v := 0) hx hb dX12_takesMarks_6 (by decide) (hp_n (n := 7) rfl ?_)
  have J8 : ∀ (k8 : Nat) (αh2 : hp_T) (Hh2 : Heap) (Lh2 : List Loc) (Bh2 : hp_B Γ mo s α αh2 Hh2 Lh2) (σh2 : ms_T) (Mh2 : hm_M αh2 a0 ρ σh2) (v1_h2 : Int32) (ls : Array Slot) (hl : lv_has ls 2 [(0, .ref a0), (1, .int v1_h2)]) (hf : f_X12_takesMarks_L8 n k8 σh2 v1_h2 = some res), W p l e (hp_rm 4 0 0) s m ([.ref a0] : List Value).toArray below meth c Hh2 Lh2 0 0 (MQ below (hp_Qi Γ (fun r β => r = res.1 ∧ mo α β ∧ hm_M β a0 ρ res.2)) ([.ref a0] : List Value).toArray s 0 0 (hp_A Γ)) (F0 m 8 ls []) := by
    intro k8
    induction k8 with
    | zero => intro αh2 Hh2 Lh2 Bh2 σh2 Mh2 v1_h2 ls hl hf; rw [f_X12_takesMarks_L8.eq_1] at hf; cases hf
    | succ k8 ih8 =>
      intro αh2 Hh2 Lh2 Bh2 σh2 Mh2 v1_h2 ls hl hf
      rw [f_X12_takesMarks_L8.eq_2] at hf
      refine lv_aload_n hx hb dX12_takesMarks_8 rfl (lv_at hl 0 rfl) (hp_n (n := 9) rfl ?_)
      refine m_geti (k := 20) (φ := 670) (pc' := 12) C Bh2 Mh2 fl_X12_262 rfl rfl dX12_takesMarks_9 rfl ?_
      have J82 : ∀ (αh3 : hp_T) (Hh3 : Heap) (Lh3 : List Loc) (Bh3 : hp_B Γ mo s α αh3 Hh3 Lh3) (σh3 : ms_T) (Mh3 : hm_M αh3 a0 ρ σh3) (v1_h3 : Int32) (ls : Array Slot) (hl : lv_has ls 2 [(0, .ref a0), (1, .int v1_h3)]) (hf : f_X12_takesMarks_J82 n σh3 v1_h3 = some res), W p l e (hp_rm 4 0 0) s m ([.ref a0] : List Value).toArray below meth c Hh3 Lh3 0 0 (MQ below (hp_Qi Γ (fun r β => r = res.1 ∧ mo α β ∧ hm_M β a0 ρ res.2)) ([.ref a0] : List Value).toArray s 0 0 (hp_A Γ)) (F0 m 82 ls []) := by
        intro αh3 Hh3 Lh3 Bh3 σh3 Mh3 v1_h3 ls hl hf
        unfold f_X12_takesMarks_J82 at hf
        refine lv_aload_n hx hb dX12_takesMarks_82 rfl (lv_at hl 0 rfl) (hp_n (n := 83) rfl ?_)
        obtain ⟨σh4, qh4, hf⟩ := ms_bE hf
        refine m_cv (pc' := 86) (a := a0) (ρ := ρ) Bh3 (hp_runV (As := []) (rest := []) C Bh3 (m_X12_takesEnd n Γ l αh3 a0 ρ σh3 Mh3  σh4 qh4) lb_X12_takesEnd lv_X12_takesEnd lk_X12_285 Mh3.1 rfl (by decide) rfl hl.1 rfl (Nat.le_of_ble_eq_true rfl) dX12_takesMarks_83 ⟨Nat.le_refl _, Nat.le_refl _⟩) rfl (fun αh4 Hh4 Lh4 Bh4 Mh4 => ?_)
        refine lv_iload_n hx hb dX12_takesMarks_86 rfl (lv_at hl 1 rfl) (hp_n (n := 87) rfl ?_)
        cases hf
        exact q_iret C Bh4 hr hlk ⟨rfl, Bh4.2.2, Mh4⟩ dX12_takesMarks_87
      refine lv_if_ne (tgt := 82) hx hb dX12_takesMarks_12 (by decide) (fun c5 => ?_) (fun c5 => hp_n (n := 15) rfl ?_)
      ·
        replace hf := ms_iF c5 hf
        exact J82 αh2 Hh2 Lh2 Bh2 σh2 Mh2 v1_h2 ls (lv_sub hl [0, 1] rfl) hf
      ·
        replace hf := ms_iT c5 hf
        refine lv_aload_n hx hb dX12_takesMarks_15 rfl (lv_at hl 0 rfl) (hp_n (n := 16) rfl ?_)
        refine m_geti (k := 24) (φ := 674) (pc' := 19) C Bh2 Mh2 fl_X12_245 rfl rfl dX12_takesMarks_16 rfl ?_
        refine lv_iconst (v := 2) hx hb dX12_takesMarks_19 (by decide) (hp_n (n := 20) rfl ?_)
        refine lv_icmp_ne (tgt := 82) hx hb dX12_takesMarks_20 (by decide) (fun c6 => ?_) (fun c6 => hp_n (n := 23) rfl ?_)
        ·
          replace hf := ms_iF c6 hf
          exact J82 αh2 Hh2 Lh2 Bh2 σh2 Mh2 v1_h2 ls (lv_sub hl [0, 1] rfl) hf
        ·
          replace hf := ms_iT c6 hf
          refine lv_aload_n hx hb dX12_takesMarks_23 rfl (lv_at hl 0 rfl) (hp_n (n := 24) rfl ?_)
          refine lv_aload_n hx hb dX12_takesMarks_24 rfl (lv_at hl 0 rfl) (hp_n (n := 25) rfl ?_)
          refine lv_aload_n hx hb dX12_takesMarks_25 rfl (lv_at hl 0 rfl) (hp_n (n := 26) rfl ?_)
          refine m_geti (k := 25) (φ := 675) (pc' := 29) C Bh2 Mh2 fl_X12_259 rfl rfl dX12_takesMarks_26 rfl ?_
          obtain ⟨rh7, qh7, hf⟩ := ms_bE hf
          refine m_cp (pc' := 32) Bh2 (hp_runV (As := [.int (ms_I σh2 675)]) (rest := [.ref a0]) C Bh2 (m_X12_isMark n Γ l αh2 a0 ρ σh2 Mh2 (ms_I σh2 675) rh7 qh7) lb_X12_isMark lv_X12_isMark lk_X12_321 Mh2.1 rfl (by decide) rfl hl.1 rfl (Nat.le_of_ble_eq_true rfl) dX12_takesMarks_29 ⟨Nat.le_refl _, Nat.le_refl _⟩) rfl (fun Hh7 Lh7 Bh7 => ?_)
          refine lv_iconst (v := 3) hx hb dX12_takesMarks_32 (by decide) (hp_n (n := 33) rfl ?_)
          obtain ⟨σh8, qh8, hf⟩ := ms_bE hf
          refine m_cv (pc' := 36) (a := a0) (ρ := ρ) Bh7 (hp_runV (As := [.int rh7, .int (3 : Int32)]) (rest := []) C Bh7 (m_X12_must n Γ l αh2 a0 ρ σh2 Mh2 rh7 (3 : Int32) σh8 qh8) lb_X12_must lv_X12_must lk_X12_272 Mh2.1 rfl (by decide) rfl hl.1 rfl (Nat.le_of_ble_eq_true rfl) dX12_takesMarks_33 ⟨Nat.le_refl _, Nat.le_refl _⟩) rfl (fun αh8 Hh8 Lh8 Bh8 Mh8 => ?_)
          refine lv_aload_n hx hb dX12_takesMarks_36 rfl (lv_at hl 0 rfl) (hp_n (n := 37) rfl ?_)
          refine lv_iload_n hx hb dX12_takesMarks_37 rfl (lv_at hl 1 rfl) (hp_n (n := 38) rfl ?_)
          refine lv_bipush (v := 64) hx hb dX12_takesMarks_38 (by decide) (hp_n (n := 40) rfl ?_)
          have J48 : ∀ (αh9 : hp_T) (Hh9 : Heap) (Lh9 : List Loc) (Bh9 : hp_B Γ mo s α αh9 Hh9 Lh9) (σh9 : ms_T) (Mh9 : hm_M αh9 a0 ρ σh9) (v1_h9 : Int32) (w0_h9 : Int32) (ls : Array Slot) (hl : lv_has ls 2 [(0, .ref a0), (1, .int v1_h9)]) (hf : f_X12_takesMarks_J48 n (f_X12_takesMarks_L8 n k8) σh9 v1_h9 w0_h9 = some res), W p l e (hp_rm 4 0 0) s m ([.ref a0] : List Value).toArray below meth c Hh9 Lh9 0 0 (MQ below (hp_Qi Γ (fun r β => r = res.1 ∧ mo α β ∧ hm_M β a0 ρ res.2)) ([.ref a0] : List Value).toArray s 0 0 (hp_A Γ)) (F0 m 48 ls [.int w0_h9, .ref a0]) := by
            intro αh9 Hh9 Lh9 Bh9 σh9 Mh9 v1_h9 w0_h9 ls hl hf
            unfold f_X12_takesMarks_J48 at hf
            refine lv_bipush (v := 6) hx hb dX12_takesMarks_48 (by decide) (hp_n (n := 50) rfl ?_)
            obtain ⟨σh10, qh10, hf⟩ := ms_bE hf
            refine m_cv (pc' := 53) (a := a0) (ρ := ρ) Bh9 (hp_runV (As := [.int w0_h9, .int (6 : Int32)]) (rest := []) C Bh9 (m_X12_must n Γ l αh9 a0 ρ σh9 Mh9 w0_h9 (6 : Int32) σh10 qh10) lb_X12_must lv_X12_must lk_X12_272 Mh9.1 rfl (by decide) rfl hl.1 rfl (Nat.le_of_ble_eq_true rfl) dX12_takesMarks_50 ⟨Nat.le_refl _, Nat.le_refl _⟩) rfl (fun αh10 Hh10 Lh10 Bh10 Mh10 => ?_)
            refine lv_aload_n hx hb dX12_takesMarks_53 rfl (lv_at hl 0 rfl) (hp_n (n := 54) rfl ?_)
            refine m_geti (k := 20) (φ := 670) (pc' := 57) C Bh10 Mh10 fl_X12_262 rfl rfl dX12_takesMarks_54 rfl ?_
            refine lv_if_le (tgt := 62) hx hb dX12_takesMarks_57 (by decide) (fun c11 => ?_) (fun c11 => hp_n (n := 60) rfl ?_)
            ·
              replace hf := ms_iT c11 hf
              refine lv_aload_n hx hb dX12_takesMarks_62 rfl (lv_at hl 0 rfl) (hp_n (n := 63) rfl ?_)
              refine m_getr (κ := 44) (k := 6) (pc' := 66) C Bh10 Mh10 fl_X12_22 rfl (by decide) dX12_takesMarks_63 rfl ?_
              refine lv_iload_n hx hb dX12_takesMarks_66 rfl (lv_at hl 1 rfl) (hp_n (n := 67) rfl ?_)
              refine lv_aload_n hx hb dX12_takesMarks_67 rfl (lv_at hl 0 rfl) (hp_n (n := 68) rfl ?_)
              refine m_geti (k := 25) (φ := 675) (pc' := 71) C Bh10 Mh10 fl_X12_259 rfl rfl dX12_takesMarks_68 rfl ?_
              obtain ⟨g12, hf⟩ := ms_gE hf
              refine m_ias (κ := 44) (φ := 656) (n := 128) (pc' := 72) C Bh10 Mh10 (by decide) (by decide) rfl g12 dX12_takesMarks_71 rfl (fun αh13 Hh13 Lh13 σh13 eh13 Bh13 Mh13 => ?_)
              replace hf := ms_lE eh13 hf
              obtain ⟨x14, ex14⟩ : ∃ y : Int32, y = v1_h9 + 1 := ⟨_, rfl⟩
              replace hf := ms_lE ex14 hf
              refine lv_iinc (v := x14) (lv' := [(1, .int x14), (0, .ref a0)]) hx hb dX12_takesMarks_72 hl (k := 1) rfl (by rw [ex14]; rfl) (by decide) rfl (fun ls hl => hp_n (n := 75) rfl ?_)
              refine lv_aload_n hx hb dX12_takesMarks_75 rfl (lv_at hl 1 rfl) (hp_n (n := 76) rfl ?_)
              obtain ⟨σh15, qh15, hf⟩ := ms_bE hf
              refine m_cv (pc' := 79) (a := a0) (ρ := ρ) Bh13 (hp_runV (As := []) (rest := []) C Bh13 (m_X12_reads n Γ l αh13 a0 ρ σh13 Mh13  σh15 qh15) lb_X12_reads lv_X12_reads lk_X12_276 Mh13.1 rfl (by decide) rfl hl.1 rfl (Nat.le_of_ble_eq_true rfl) dX12_takesMarks_76 ⟨Nat.le_refl _, Nat.le_refl _⟩) rfl (fun αh15 Hh15 Lh15 Bh15 Mh15 => ?_)
              refine lv_goto (tgt := 8) hx hb dX12_takesMarks_79 (by decide) ?_
              exact ih8 αh15 Hh15 Lh15 Bh15 σh15 Mh15 x14 ls (lv_sub hl [1, 0] rfl) hf
            ·
              replace hf := ms_iF c11 hf
              refine lv_iload_n hx hb dX12_takesMarks_60 rfl (lv_at hl 1 rfl) (hp_n (n := 61) rfl ?_)
              cases hf
              exact q_iret C Bh10 hr hlk ⟨rfl, Bh10.2.2, Mh10⟩ dX12_takesMarks_61
          refine lv_icmp_ge (tgt := 47) hx hb dX12_takesMarks_40 (by decide) (fun c16 => ?_) (fun c16 => hp_n (n := 43) rfl ?_)
          ·
            replace hf := ms_iT c16 hf
            refine lv_iconst (v := 0) hx hb dX12_takesMarks_47 (by decide) (hp_n (n := 48) rfl ?_)
            exact J48 αh8 Hh8 Lh8 Bh8 σh8 Mh8 v1_h2 (0 : Int32) ls (lv_sub hl [0, 1] rfl) hf
          ·
            replace hf := ms_iF c16 hf
            refine lv_iconst (v := 1) hx hb dX12_takesMarks_43 (by decide) (hp_n (n := 44) rfl ?_)
            refine lv_goto (tgt := 48) hx hb dX12_takesMarks_44 (by decide) ?_
            exact J48 αh8 Hh8 Lh8 Bh8 σh8 Mh8 v1_h2 (1 : Int32) ls (lv_sub hl [0, 1] rfl) hf
  refine lv_istore_n (lv' := [(1, .int (0 : Int32)), (0, .ref a0)]) hx hb dX12_takesMarks_7 rfl hl (by decide) rfl (fun ls hl => hp_n (n := 8) rfl ?_)
  exact J8 n αh1 Hh1 Lh1 Bh1 σh1 Mh1 (0 : Int32) ls (lv_sub hl [1, 0] rfl) hf
def f_X12_statementIn (n : Nat) (σ : ms_T) : Option (Int32 × ms_T) :=
  ms_b (f_X12_reads n σ) fun σh1 =>
  ms_c (f_X12_takesNumber n σh1 (0 : Int32) (99999 : Int32)) fun rh2 σh2 =>
  ms_b (f_X12_takes n σh2 (8 : Int32)) fun σh3 =>
  ms_c (f_X12_takesNumber n σh3 (rh2 + (1 : Int32)) (99999 : Int32)) fun rh4 σh4 =>
  ms_b (f_X12_takes n σh4 (9 : Int32)) fun σh5 =>
  ms_c (f_X12_takesMark n σh5) fun rh6 σh6 =>
  ms_b (f_X12_takes n σh6 (10 : Int32)) fun σh7 =>
  ms_c (f_X12_takesMark n σh7) fun rh8 σh8 =>
  ms_c (f_X12_takesMarks n σh8) fun rh9 σh9 =>
  if (ms_I σh9 670) ≤ 0 then
    ms_c (f_X12_whyIn n σh9 rh9 rh6 rh2 rh4 rh8) fun rh11 σh11 =>
    some (rh11, σh11)
  else
    some ((0 : Int32), σh9)
set_option maxRecDepth 100000 in
set_option maxHeartbeats 4000000 in
theorem m_X12_statementIn (n : Nat) (Γ : hp_G) (l : Launch) (α : hp_T) (a0 : Nat) (ρ : Nat → Nat) (σ : ms_T) (hM : hm_M α a0 ρ σ)  (res : (Int32 × ms_T)) (hf : f_X12_statementIn n σ = some res) : Met l yX12_statementIn (hp_ws yX12_statementIn cX12_statementIn 6 (some .int)) (hp_rm 44 0 0) (hp_Pc Γ α [.ref a0]) (hp_Qi Γ (fun r β => r = res.1 ∧ mo α β ∧ hm_M β a0 ρ res.2)) 0 0 (hp_A Γ) := by
  unfold f_X12_statementIn at hf
  refine hp_start (by decide) ?_
  intro p e s m below meth c C hr hlk B0 hnm
  have C : hp_C Γ p m c cX12_statementIn 6 s ([.ref a0] : List Value).toArray RX12 := C
  have hx := C.1.1
  have hb := C.1.2.1
  have hown := C.1.2.2.2.1
  have hts := C.1.2.2.2.2
  have B : hp_B Γ mo s α α s.heap [] := ⟨B0.1, B0.2.1, mo_rf⟩
  have hl := lv_entry ([.ref a0]) (n := 6) (Nat.le_of_ble_eq_true rfl)
  show W p l e (hp_rm 44 0 0) s m ([.ref a0] : List Value).toArray below meth c s.heap [] 0 0 (MQ below (hp_Qi Γ (fun r β => r = res.1 ∧ mo α β ∧ hm_M β a0 ρ res.2)) ([.ref a0] : List Value).toArray s 0 0 (hp_A Γ)) (entryFrame m ([.ref a0] : List Value).toArray 6)
  rw [lg_entry_eq]
  generalize (lg_sl ([.ref a0]) ++ List.replicate (6 - (lg_sl ([.ref a0])).length) Slot.unset).toArray = ls at hl ⊢
  have hl : lv_has ls 6 [(0, .ref a0)] := hl
  refine lv_aload_n hx hb dX12_statementIn_0 rfl (lv_at hl 0 rfl) (hp_n (n := 1) rfl ?_)
  obtain ⟨σh1, qh1, hf⟩ := ms_bE hf
  refine m_cv (pc' := 4) (a := a0) (ρ := ρ) B (hp_runV (As := []) (rest := []) C B (m_X12_reads n Γ l α a0 ρ σ hM  σh1 qh1) lb_X12_reads lv_X12_reads lk_X12_276 hM.1 rfl (by decide) rfl hl.1 rfl (Nat.le_of_ble_eq_true rfl) dX12_statementIn_1 ⟨Nat.le_refl _, Nat.le_refl _⟩) rfl (fun αh1 Hh1 Lh1 Bh1 Mh1 => ?_)
  refine lv_aload_n hx hb dX12_statementIn_4 rfl (lv_at hl 0 rfl) (hp_n (n := 5) rfl ?_)
  refine lv_iconst (v := 0) hx hb dX12_statementIn_5 (by decide) (hp_n (n := 6) rfl ?_)
  refine lv_ldcw hx hb hown (hts _ kc_X12_324) dX12_statementIn_6 (hp_n (n := 9) rfl ?_)
  obtain ⟨rh2, σh2, qh2, hf⟩ := ms_cE hf
  refine m_ci (pc' := 12) (a := a0) (ρ := ρ) Bh1 (hp_runV (As := [.int (0 : Int32), .int (99999 : Int32)]) (rest := []) C Bh1 (m_X12_takesNumber n Γ l αh1 a0 ρ σh1 Mh1 (0 : Int32) (99999 : Int32) (rh2, σh2) qh2) lb_X12_takesNumber lv_X12_takesNumber lk_X12_279 Mh1.1 rfl (by decide) rfl hl.1 rfl (Nat.le_of_ble_eq_true rfl) dX12_statementIn_9 ⟨Nat.le_refl _, Nat.le_refl _⟩) rfl (fun αh2 Hh2 Lh2 Bh2 Mh2 => ?_)
  refine lv_istore_n (lv' := [(1, .int rh2), (0, .ref a0)]) hx hb dX12_statementIn_12 rfl hl (by decide) rfl (fun ls hl => hp_n (n := 13) rfl ?_)
  refine lv_aload_n hx hb dX12_statementIn_13 rfl (lv_at hl 1 rfl) (hp_n (n := 14) rfl ?_)
  refine lv_bipush (v := 8) hx hb dX12_statementIn_14 (by decide) (hp_n (n := 16) rfl ?_)
  obtain ⟨σh3, qh3, hf⟩ := ms_bE hf
  refine m_cv (pc' := 19) (a := a0) (ρ := ρ) Bh2 (hp_runV (As := [.int (8 : Int32)]) (rest := []) C Bh2 (m_X12_takes n Γ l αh2 a0 ρ σh2 Mh2 (8 : Int32) σh3 qh3) lb_X12_takes lv_X12_takes lk_X12_303 Mh2.1 rfl (by decide) rfl hl.1 rfl (Nat.le_of_ble_eq_true rfl) dX12_statementIn_16 ⟨Nat.le_refl _, Nat.le_refl _⟩) rfl (fun αh3 Hh3 Lh3 Bh3 Mh3 => ?_)
  refine lv_aload_n hx hb dX12_statementIn_19 rfl (lv_at hl 1 rfl) (hp_n (n := 20) rfl ?_)
  refine lv_iload_n hx hb dX12_statementIn_20 rfl (lv_at hl 0 rfl) (hp_n (n := 21) rfl ?_)
  refine lv_iconst (v := 1) hx hb dX12_statementIn_21 (by decide) (hp_n (n := 22) rfl ?_)
  refine lv_iadd hx hb dX12_statementIn_22 (hp_n (n := 23) rfl ?_)
  refine lv_ldcw hx hb hown (hts _ kc_X12_324) dX12_statementIn_23 (hp_n (n := 26) rfl ?_)
  obtain ⟨rh4, σh4, qh4, hf⟩ := ms_cE hf
  refine m_ci (pc' := 29) (a := a0) (ρ := ρ) Bh3 (hp_runV (As := [.int (rh2 + (1 : Int32)), .int (99999 : Int32)]) (rest := []) C Bh3 (m_X12_takesNumber n Γ l αh3 a0 ρ σh3 Mh3 (rh2 + (1 : Int32)) (99999 : Int32) (rh4, σh4) qh4) lb_X12_takesNumber lv_X12_takesNumber lk_X12_279 Mh3.1 rfl (by decide) rfl hl.1 rfl (Nat.le_of_ble_eq_true rfl) dX12_statementIn_26 ⟨Nat.le_refl _, Nat.le_refl _⟩) rfl (fun αh4 Hh4 Lh4 Bh4 Mh4 => ?_)
  refine lv_istore_n (lv' := [(2, .int rh4), (1, .int rh2), (0, .ref a0)]) hx hb dX12_statementIn_29 rfl hl (by decide) rfl (fun ls hl => hp_n (n := 30) rfl ?_)
  refine lv_aload_n hx hb dX12_statementIn_30 rfl (lv_at hl 2 rfl) (hp_n (n := 31) rfl ?_)
  refine lv_bipush (v := 9) hx hb dX12_statementIn_31 (by decide) (hp_n (n := 33) rfl ?_)
  obtain ⟨σh5, qh5, hf⟩ := ms_bE hf
  refine m_cv (pc' := 36) (a := a0) (ρ := ρ) Bh4 (hp_runV (As := [.int (9 : Int32)]) (rest := []) C Bh4 (m_X12_takes n Γ l αh4 a0 ρ σh4 Mh4 (9 : Int32) σh5 qh5) lb_X12_takes lv_X12_takes lk_X12_303 Mh4.1 rfl (by decide) rfl hl.1 rfl (Nat.le_of_ble_eq_true rfl) dX12_statementIn_33 ⟨Nat.le_refl _, Nat.le_refl _⟩) rfl (fun αh5 Hh5 Lh5 Bh5 Mh5 => ?_)
  refine lv_aload_n hx hb dX12_statementIn_36 rfl (lv_at hl 2 rfl) (hp_n (n := 37) rfl ?_)
  obtain ⟨rh6, σh6, qh6, hf⟩ := ms_cE hf
  refine m_ci (pc' := 40) (a := a0) (ρ := ρ) Bh5 (hp_runV (As := []) (rest := []) C Bh5 (m_X12_takesMark n Γ l αh5 a0 ρ σh5 Mh5  (rh6, σh6) qh6) lb_X12_takesMark lv_X12_takesMark lk_X12_325 Mh5.1 rfl (by decide) rfl hl.1 rfl (Nat.le_of_ble_eq_true rfl) dX12_statementIn_37 ⟨Nat.le_refl _, Nat.le_refl _⟩) rfl (fun αh6 Hh6 Lh6 Bh6 Mh6 => ?_)
  refine lv_istore_n (lv' := [(3, .int rh6), (2, .int rh4), (1, .int rh2), (0, .ref a0)]) hx hb dX12_statementIn_40 rfl hl (by decide) rfl (fun ls hl => hp_n (n := 41) rfl ?_)
  refine lv_aload_n hx hb dX12_statementIn_41 rfl (lv_at hl 3 rfl) (hp_n (n := 42) rfl ?_)
  refine lv_bipush (v := 10) hx hb dX12_statementIn_42 (by decide) (hp_n (n := 44) rfl ?_)
  obtain ⟨σh7, qh7, hf⟩ := ms_bE hf
  refine m_cv (pc' := 47) (a := a0) (ρ := ρ) Bh6 (hp_runV (As := [.int (10 : Int32)]) (rest := []) C Bh6 (m_X12_takes n Γ l αh6 a0 ρ σh6 Mh6 (10 : Int32) σh7 qh7) lb_X12_takes lv_X12_takes lk_X12_303 Mh6.1 rfl (by decide) rfl hl.1 rfl (Nat.le_of_ble_eq_true rfl) dX12_statementIn_44 ⟨Nat.le_refl _, Nat.le_refl _⟩) rfl (fun αh7 Hh7 Lh7 Bh7 Mh7 => ?_)
  refine lv_aload_n hx hb dX12_statementIn_47 rfl (lv_at hl 3 rfl) (hp_n (n := 48) rfl ?_)
  obtain ⟨rh8, σh8, qh8, hf⟩ := ms_cE hf
  refine m_ci (pc' := 51) (a := a0) (ρ := ρ) Bh7 (hp_runV (As := []) (rest := []) C Bh7 (m_X12_takesMark n Γ l αh7 a0 ρ σh7 Mh7  (rh8, σh8) qh8) lb_X12_takesMark lv_X12_takesMark lk_X12_325 Mh7.1 rfl (by decide) rfl hl.1 rfl (Nat.le_of_ble_eq_true rfl) dX12_statementIn_48 ⟨Nat.le_refl _, Nat.le_refl _⟩) rfl (fun αh8 Hh8 Lh8 Bh8 Mh8 => ?_)
  refine lv_istore (lv' := [(4, .int rh8), (3, .int rh6), (2, .int rh4), (1, .int rh2), (0, .ref a0)]) hx hb dX12_statementIn_51 hl (by decide) rfl (fun ls hl => hp_n (n := 53) rfl ?_)
  refine lv_aload_n hx hb dX12_statementIn_53 rfl (lv_at hl 4 rfl) (hp_n (n := 54) rfl ?_)
  obtain ⟨rh9, σh9, qh9, hf⟩ := ms_cE hf
  refine m_ci (pc' := 57) (a := a0) (ρ := ρ) Bh8 (hp_runV (As := []) (rest := []) C Bh8 (m_X12_takesMarks n Γ l αh8 a0 ρ σh8 Mh8  (rh9, σh9) qh9) lb_X12_takesMarks lv_X12_takesMarks lk_X12_329 Mh8.1 rfl (by decide) rfl hl.1 rfl (Nat.le_of_ble_eq_true rfl) dX12_statementIn_54 ⟨Nat.le_refl _, Nat.le_refl _⟩) rfl (fun αh9 Hh9 Lh9 Bh9 Mh9 => ?_)
  refine lv_istore (lv' := [(5, .int rh9), (4, .int rh8), (3, .int rh6), (2, .int rh4), (1, .int rh2), (0, .ref a0)]) hx hb dX12_statementIn_57 hl (by decide) rfl (fun ls hl => hp_n (n := 59) rfl ?_)
  refine lv_aload_n hx hb dX12_statementIn_59 rfl (lv_at hl 5 rfl) (hp_n (n := 60) rfl ?_)
  refine m_geti (k := 20) (φ := 670) (pc' := 63) C Bh9 Mh9 fl_X12_262 rfl rfl dX12_statementIn_60 rfl ?_
  refine lv_if_le (tgt := 70) hx hb dX12_statementIn_63 (by decide) (fun c10 => ?_) (fun c10 => hp_n (n := 66) rfl ?_)
  ·
    replace hf := ms_iT c10 hf
    refine lv_aload_n hx hb dX12_statementIn_70 rfl (lv_at hl 5 rfl) (hp_n (n := 71) rfl ?_)
    refine lv_iload hx hb dX12_statementIn_71 (lv_at hl 0 rfl) (hp_n (n := 73) rfl ?_)
    refine lv_iload_n hx hb dX12_statementIn_73 rfl (lv_at hl 2 rfl) (hp_n (n := 74) rfl ?_)
    refine lv_iload_n hx hb dX12_statementIn_74 rfl (lv_at hl 4 rfl) (hp_n (n := 75) rfl ?_)
    refine lv_iload_n hx hb dX12_statementIn_75 rfl (lv_at hl 3 rfl) (hp_n (n := 76) rfl ?_)
    refine lv_iload hx hb dX12_statementIn_76 (lv_at hl 1 rfl) (hp_n (n := 78) rfl ?_)
    obtain ⟨rh11, σh11, qh11, hf⟩ := ms_cE hf
    refine m_ci (pc' := 81) (a := a0) (ρ := ρ) Bh9 (hp_runV (As := [.int rh9, .int rh6, .int rh2, .int rh4, .int rh8]) (rest := []) C Bh9 (m_X12_whyIn n Γ l αh9 a0 ρ σh9 Mh9 rh9 rh6 rh2 rh4 rh8 (rh11, σh11) qh11) lb_X12_whyIn lv_X12_whyIn lk_X12_332 Mh9.1 rfl (by decide) rfl hl.1 rfl (Nat.le_of_ble_eq_true rfl) dX12_statementIn_78 ⟨Nat.le_refl _, Nat.le_refl _⟩) rfl (fun αh11 Hh11 Lh11 Bh11 Mh11 => ?_)
    cases hf
    exact q_iret C Bh11 hr hlk ⟨rfl, Bh11.2.2, Mh11⟩ dX12_statementIn_81
  ·
    replace hf := ms_iF c10 hf
    refine lv_iconst (v := 0) hx hb dX12_statementIn_66 (by decide) (hp_n (n := 67) rfl ?_)
    refine lv_goto (tgt := 81) hx hb dX12_statementIn_67 (by decide) ?_
    cases hf
    exact q_iret C Bh9 hr hlk ⟨rfl, Bh9.2.2, Mh9⟩ dX12_statementIn_81
end JN5_2
section JN5_3
def f_X12_statementGrow (n : Nat) (σ : ms_T) : Option (Int32 × ms_T) :=
  ms_b (f_X12_takes n σ (7 : Int32)) fun σh1 =>
  ms_c (f_X12_takesNumber n σh1 (0 : Int32) (99999 : Int32)) fun rh2 σh2 =>
  ms_b (f_X12_takes n σh2 (9 : Int32)) fun σh3 =>
  ms_c (f_X12_takesMark n σh3) fun rh4 σh4 =>
  ms_b (f_X12_takes n σh4 (2 : Int32)) fun σh5 =>
  ms_c (f_X12_takesNumber n σh5 rh2 (99999 : Int32)) fun rh6 σh6 =>
  ms_b (f_X12_takes n σh6 (10 : Int32)) fun σh7 =>
  ms_c (f_X12_takesMark n σh7) fun rh8 σh8 =>
  ms_c (f_X12_takesMarks n σh8) fun rh9 σh9 =>
  if (ms_I σh9 670) ≤ 0 then
    ms_c (f_X12_whyGrown n σh9 rh9 rh2 rh4 rh6 rh8) fun rh11 σh11 =>
    some (rh11, σh11)
  else
    some ((0 : Int32), σh9)
set_option maxRecDepth 100000 in
set_option maxHeartbeats 4000000 in
theorem m_X12_statementGrow (n : Nat) (Γ : hp_G) (l : Launch) (α : hp_T) (a0 : Nat) (ρ : Nat → Nat) (σ : ms_T) (hM : hm_M α a0 ρ σ)  (res : (Int32 × ms_T)) (hf : f_X12_statementGrow n σ = some res) : Met l yX12_statementGrow (hp_ws yX12_statementGrow cX12_statementGrow 6 (some .int)) (hp_rm 43 0 0) (hp_Pc Γ α [.ref a0]) (hp_Qi Γ (fun r β => r = res.1 ∧ mo α β ∧ hm_M β a0 ρ res.2)) 0 0 (hp_A Γ) := by
  unfold f_X12_statementGrow at hf
  refine hp_start (by decide) ?_
  intro p e s m below meth c C hr hlk B0 hnm
  have C : hp_C Γ p m c cX12_statementGrow 6 s ([.ref a0] : List Value).toArray RX12 := C
  have hx := C.1.1
  have hb := C.1.2.1
  have hown := C.1.2.2.2.1
  have hts := C.1.2.2.2.2
  have B : hp_B Γ mo s α α s.heap [] := ⟨B0.1, B0.2.1, mo_rf⟩
  have hl := lv_entry ([.ref a0]) (n := 6) (Nat.le_of_ble_eq_true rfl)
  show W p l e (hp_rm 43 0 0) s m ([.ref a0] : List Value).toArray below meth c s.heap [] 0 0 (MQ below (hp_Qi Γ (fun r β => r = res.1 ∧ mo α β ∧ hm_M β a0 ρ res.2)) ([.ref a0] : List Value).toArray s 0 0 (hp_A Γ)) (entryFrame m ([.ref a0] : List Value).toArray 6)
  rw [lg_entry_eq]
  generalize (lg_sl ([.ref a0]) ++ List.replicate (6 - (lg_sl ([.ref a0])).length) Slot.unset).toArray = ls at hl ⊢
  have hl : lv_has ls 6 [(0, .ref a0)] := hl
  refine lv_aload_n hx hb dX12_statementGrow_0 rfl (lv_at hl 0 rfl) (hp_n (n := 1) rfl ?_)
  refine lv_bipush (v := 7) hx hb dX12_statementGrow_1 (by decide) (hp_n (n := 3) rfl ?_)
  obtain ⟨σh1, qh1, hf⟩ := ms_bE hf
  refine m_cv (pc' := 6) (a := a0) (ρ := ρ) B (hp_runV (As := [.int (7 : Int32)]) (rest := []) C B (m_X12_takes n Γ l α a0 ρ σ hM (7 : Int32) σh1 qh1) lb_X12_takes lv_X12_takes lk_X12_303 hM.1 rfl (by decide) rfl hl.1 rfl (Nat.le_of_ble_eq_true rfl) dX12_statementGrow_3 ⟨Nat.le_refl _, Nat.le_refl _⟩) rfl (fun αh1 Hh1 Lh1 Bh1 Mh1 => ?_)
  refine lv_aload_n hx hb dX12_statementGrow_6 rfl (lv_at hl 0 rfl) (hp_n (n := 7) rfl ?_)
  refine lv_iconst (v := 0) hx hb dX12_statementGrow_7 (by decide) (hp_n (n := 8) rfl ?_)
  refine lv_ldcw hx hb hown (hts _ kc_X12_324) dX12_statementGrow_8 (hp_n (n := 11) rfl ?_)
  obtain ⟨rh2, σh2, qh2, hf⟩ := ms_cE hf
  refine m_ci (pc' := 14) (a := a0) (ρ := ρ) Bh1 (hp_runV (As := [.int (0 : Int32), .int (99999 : Int32)]) (rest := []) C Bh1 (m_X12_takesNumber n Γ l αh1 a0 ρ σh1 Mh1 (0 : Int32) (99999 : Int32) (rh2, σh2) qh2) lb_X12_takesNumber lv_X12_takesNumber lk_X12_279 Mh1.1 rfl (by decide) rfl hl.1 rfl (Nat.le_of_ble_eq_true rfl) dX12_statementGrow_11 ⟨Nat.le_refl _, Nat.le_refl _⟩) rfl (fun αh2 Hh2 Lh2 Bh2 Mh2 => ?_)
  refine lv_istore_n (lv' := [(1, .int rh2), (0, .ref a0)]) hx hb dX12_statementGrow_14 rfl hl (by decide) rfl (fun ls hl => hp_n (n := 15) rfl ?_)
  refine lv_aload_n hx hb dX12_statementGrow_15 rfl (lv_at hl 1 rfl) (hp_n (n := 16) rfl ?_)
  refine lv_bipush (v := 9) hx hb dX12_statementGrow_16 (by decide) (hp_n (n := 18) rfl ?_)
  obtain ⟨σh3, qh3, hf⟩ := ms_bE hf
  refine m_cv (pc' := 21) (a := a0) (ρ := ρ) Bh2 (hp_runV (As := [.int (9 : Int32)]) (rest := []) C Bh2 (m_X12_takes n Γ l αh2 a0 ρ σh2 Mh2 (9 : Int32) σh3 qh3) lb_X12_takes lv_X12_takes lk_X12_303 Mh2.1 rfl (by decide) rfl hl.1 rfl (Nat.le_of_ble_eq_true rfl) dX12_statementGrow_18 ⟨Nat.le_refl _, Nat.le_refl _⟩) rfl (fun αh3 Hh3 Lh3 Bh3 Mh3 => ?_)
  refine lv_aload_n hx hb dX12_statementGrow_21 rfl (lv_at hl 1 rfl) (hp_n (n := 22) rfl ?_)
  obtain ⟨rh4, σh4, qh4, hf⟩ := ms_cE hf
  refine m_ci (pc' := 25) (a := a0) (ρ := ρ) Bh3 (hp_runV (As := []) (rest := []) C Bh3 (m_X12_takesMark n Γ l αh3 a0 ρ σh3 Mh3  (rh4, σh4) qh4) lb_X12_takesMark lv_X12_takesMark lk_X12_325 Mh3.1 rfl (by decide) rfl hl.1 rfl (Nat.le_of_ble_eq_true rfl) dX12_statementGrow_22 ⟨Nat.le_refl _, Nat.le_refl _⟩) rfl (fun αh4 Hh4 Lh4 Bh4 Mh4 => ?_)
  refine lv_istore_n (lv' := [(2, .int rh4), (1, .int rh2), (0, .ref a0)]) hx hb dX12_statementGrow_25 rfl hl (by decide) rfl (fun ls hl => hp_n (n := 26) rfl ?_)
  refine lv_aload_n hx hb dX12_statementGrow_26 rfl (lv_at hl 2 rfl) (hp_n (n := 27) rfl ?_)
  refine lv_iconst (v := 2) hx hb dX12_statementGrow_27 (by decide) (hp_n (n := 28) rfl ?_)
  obtain ⟨σh5, qh5, hf⟩ := ms_bE hf
  refine m_cv (pc' := 31) (a := a0) (ρ := ρ) Bh4 (hp_runV (As := [.int (2 : Int32)]) (rest := []) C Bh4 (m_X12_takes n Γ l αh4 a0 ρ σh4 Mh4 (2 : Int32) σh5 qh5) lb_X12_takes lv_X12_takes lk_X12_303 Mh4.1 rfl (by decide) rfl hl.1 rfl (Nat.le_of_ble_eq_true rfl) dX12_statementGrow_28 ⟨Nat.le_refl _, Nat.le_refl _⟩) rfl (fun αh5 Hh5 Lh5 Bh5 Mh5 => ?_)
  refine lv_aload_n hx hb dX12_statementGrow_31 rfl (lv_at hl 2 rfl) (hp_n (n := 32) rfl ?_)
  refine lv_iload_n hx hb dX12_statementGrow_32 rfl (lv_at hl 1 rfl) (hp_n (n := 33) rfl ?_)
  refine lv_ldcw hx hb hown (hts _ kc_X12_324) dX12_statementGrow_33 (hp_n (n := 36) rfl ?_)
  obtain ⟨rh6, σh6, qh6, hf⟩ := ms_cE hf
  refine m_ci (pc' := 39) (a := a0) (ρ := ρ) Bh5 (hp_runV (As := [.int rh2, .int (99999 : Int32)]) (rest := []) C Bh5 (m_X12_takesNumber n Γ l αh5 a0 ρ σh5 Mh5 rh2 (99999 : Int32) (rh6, σh6) qh6) lb_X12_takesNumber lv_X12_takesNumber lk_X12_279 Mh5.1 rfl (by decide) rfl hl.1 rfl (Nat.le_of_ble_eq_true rfl) dX12_statementGrow_36 ⟨Nat.le_refl _, Nat.le_refl _⟩) rfl (fun αh6 Hh6 Lh6 Bh6 Mh6 => ?_)
  refine lv_istore_n (lv' := [(3, .int rh6), (2, .int rh4), (1, .int rh2), (0, .ref a0)]) hx hb dX12_statementGrow_39 rfl hl (by decide) rfl (fun ls hl => hp_n (n := 40) rfl ?_)
  refine lv_aload_n hx hb dX12_statementGrow_40 rfl (lv_at hl 3 rfl) (hp_n (n := 41) rfl ?_)
  refine lv_bipush (v := 10) hx hb dX12_statementGrow_41 (by decide) (hp_n (n := 43) rfl ?_)
  obtain ⟨σh7, qh7, hf⟩ := ms_bE hf
  refine m_cv (pc' := 46) (a := a0) (ρ := ρ) Bh6 (hp_runV (As := [.int (10 : Int32)]) (rest := []) C Bh6 (m_X12_takes n Γ l αh6 a0 ρ σh6 Mh6 (10 : Int32) σh7 qh7) lb_X12_takes lv_X12_takes lk_X12_303 Mh6.1 rfl (by decide) rfl hl.1 rfl (Nat.le_of_ble_eq_true rfl) dX12_statementGrow_43 ⟨Nat.le_refl _, Nat.le_refl _⟩) rfl (fun αh7 Hh7 Lh7 Bh7 Mh7 => ?_)
  refine lv_aload_n hx hb dX12_statementGrow_46 rfl (lv_at hl 3 rfl) (hp_n (n := 47) rfl ?_)
  obtain ⟨rh8, σh8, qh8, hf⟩ := ms_cE hf
  refine m_ci (pc' := 50) (a := a0) (ρ := ρ) Bh7 (hp_runV (As := []) (rest := []) C Bh7 (m_X12_takesMark n Γ l αh7 a0 ρ σh7 Mh7  (rh8, σh8) qh8) lb_X12_takesMark lv_X12_takesMark lk_X12_325 Mh7.1 rfl (by decide) rfl hl.1 rfl (Nat.le_of_ble_eq_true rfl) dX12_statementGrow_47 ⟨Nat.le_refl _, Nat.le_refl _⟩) rfl (fun αh8 Hh8 Lh8 Bh8 Mh8 => ?_)
  refine lv_istore (lv' := [(4, .int rh8), (3, .int rh6), (2, .int rh4), (1, .int rh2), (0, .ref a0)]) hx hb dX12_statementGrow_50 hl (by decide) rfl (fun ls hl => hp_n (n := 52) rfl ?_)
  refine lv_aload_n hx hb dX12_statementGrow_52 rfl (lv_at hl 4 rfl) (hp_n (n := 53) rfl ?_)
  obtain ⟨rh9, σh9, qh9, hf⟩ := ms_cE hf
  refine m_ci (pc' := 56) (a := a0) (ρ := ρ) Bh8 (hp_runV (As := []) (rest := []) C Bh8 (m_X12_takesMarks n Γ l αh8 a0 ρ σh8 Mh8  (rh9, σh9) qh9) lb_X12_takesMarks lv_X12_takesMarks lk_X12_329 Mh8.1 rfl (by decide) rfl hl.1 rfl (Nat.le_of_ble_eq_true rfl) dX12_statementGrow_53 ⟨Nat.le_refl _, Nat.le_refl _⟩) rfl (fun αh9 Hh9 Lh9 Bh9 Mh9 => ?_)
  refine lv_istore (lv' := [(5, .int rh9), (4, .int rh8), (3, .int rh6), (2, .int rh4), (1, .int rh2), (0, .ref a0)]) hx hb dX12_statementGrow_56 hl (by decide) rfl (fun ls hl => hp_n (n := 58) rfl ?_)
  refine lv_aload_n hx hb dX12_statementGrow_58 rfl (lv_at hl 5 rfl) (hp_n (n := 59) rfl ?_)
  refine m_geti (k := 20) (φ := 670) (pc' := 62) C Bh9 Mh9 fl_X12_262 rfl rfl dX12_statementGrow_59 rfl ?_
  refine lv_if_le (tgt := 69) hx hb dX12_statementGrow_62 (by decide) (fun c10 => ?_) (fun c10 => hp_n (n := 65) rfl ?_)
  ·
    replace hf := ms_iT c10 hf
    refine lv_aload_n hx hb dX12_statementGrow_69 rfl (lv_at hl 5 rfl) (hp_n (n := 70) rfl ?_)
    refine lv_iload hx hb dX12_statementGrow_70 (lv_at hl 0 rfl) (hp_n (n := 72) rfl ?_)
    refine lv_iload_n hx hb dX12_statementGrow_72 rfl (lv_at hl 4 rfl) (hp_n (n := 73) rfl ?_)
    refine lv_iload_n hx hb dX12_statementGrow_73 rfl (lv_at hl 3 rfl) (hp_n (n := 74) rfl ?_)
    refine lv_iload_n hx hb dX12_statementGrow_74 rfl (lv_at hl 2 rfl) (hp_n (n := 75) rfl ?_)
    refine lv_iload hx hb dX12_statementGrow_75 (lv_at hl 1 rfl) (hp_n (n := 77) rfl ?_)
    obtain ⟨rh11, σh11, qh11, hf⟩ := ms_cE hf
    refine m_ci (pc' := 80) (a := a0) (ρ := ρ) Bh9 (hp_runV (As := [.int rh9, .int rh2, .int rh4, .int rh6, .int rh8]) (rest := []) C Bh9 (m_X12_whyGrown n Γ l αh9 a0 ρ σh9 Mh9 rh9 rh2 rh4 rh6 rh8 (rh11, σh11) qh11) lb_X12_whyGrown lv_X12_whyGrown lk_X12_199 Mh9.1 rfl (by decide) rfl hl.1 rfl (Nat.le_of_ble_eq_true rfl) dX12_statementGrow_77 ⟨Nat.le_refl _, Nat.le_refl _⟩) rfl (fun αh11 Hh11 Lh11 Bh11 Mh11 => ?_)
    cases hf
    exact q_iret C Bh11 hr hlk ⟨rfl, Bh11.2.2, Mh11⟩ dX12_statementGrow_80
  ·
    replace hf := ms_iF c10 hf
    refine lv_iconst (v := 0) hx hb dX12_statementGrow_65 (by decide) (hp_n (n := 66) rfl ?_)
    refine lv_goto (tgt := 80) hx hb dX12_statementGrow_66 (by decide) ?_
    cases hf
    exact q_iret C Bh9 hr hlk ⟨rfl, Bh9.2.2, Mh9⟩ dX12_statementGrow_80
def f_X12_hear_L169 (n : Nat) : Nat → ms_T → Int32 → Int32 → Int32 → Option (Int32 × ms_T)
  | 0, _, _, _, _ => none
  | k169 + 1, σh10, v2_h10, v3_h10, v4_h10 =>
    if v2_h10 ≤ v4_h10 then
      ms_l (ms_sI σh10 682 v2_h10) fun σh12 =>
      some (v3_h10, σh12)
    else
      ms_g v4_h10 20 <|
      ms_g v4_h10 20 <|
      ms_l (ms_sE σh10 49 (v4_h10).toNatClampNeg (ms_E σh10 50 (v4_h10).toNatClampNeg)) fun σh15 =>
      ms_l (v4_h10 + 1) fun x16 =>
      (f_X12_hear_L169 n k169) σh15 v2_h10 v3_h10 x16
def f_X12_hear_J153 (n : Nat) (σh7 : ms_T) (v2_h7 : Int32) (v3_h7 : Int32) : Option (Int32 × ms_T) :=
  ms_b (f_X12_ends n σh7) fun σh8 =>
  if (ms_I σh8 670) ≤ 0 then
    f_X12_hear_L169 n n σh8 v2_h7 v3_h7 (0 : Int32)
  else
    some ((-1 : Int32), σh8)
def f_X12_hear_J145 (n : Nat) (rec35 : ms_T → Int32 → Int32 → Option (Int32 × ms_T)) (σh30 : ms_T) (v2_h30 : Int32) (w0_h30 : Int32) (w1_h30 : Int32) : Option (Int32 × ms_T) :=
  ms_l ((w1_h30 + w0_h30)) fun x31 =>
  ms_l (v2_h30 + 1) fun x32 =>
  rec35 σh30 x32 x31
def f_X12_hear_J129 (n : Nat) (rec35 : ms_T → Int32 → Int32 → Option (Int32 × ms_T)) (σh26 : ms_T) (v2_h26 : Int32) (v3_h26 : Int32) (w0_h26 : Int32) (w1_h26 : Int32) : Option (Int32 × ms_T) :=
  ms_g w1_h26 20 <|
  ms_l (ms_sE σh26 50 (w1_h26).toNatClampNeg w0_h26) fun σh28 =>
  ms_g v2_h26 20 <|
  if (ms_E σh28 50 (v2_h26).toNatClampNeg) = 0 then
    f_X12_hear_J145 n rec35 σh28 v2_h26 (1 : Int32) v3_h26
  else
    f_X12_hear_J145 n rec35 σh28 v2_h26 (0 : Int32) v3_h26
def f_X12_hear_J89 (n : Nat) (rec35 : ms_T → Int32 → Int32 → Option (Int32 × ms_T)) (σh22 : ms_T) (v2_h22 : Int32) (v3_h22 : Int32) (w0_h22 : Int32) : Option (Int32 × ms_T) :=
  ms_b (f_X12_must n σh22 w0_h22 (6 : Int32)) fun σh23 =>
  if (ms_I σh23 670) ≤ 0 then
    ms_b (f_X12_isWord n σh23 (6 : Int32)) fun rh25 =>
    if rh25 = 0 then
      ms_c (f_X12_statementGrow n σh23) fun rh35 σh35 =>
      f_X12_hear_J129 n rec35 σh35 v2_h22 v3_h22 rh35 v2_h22
    else
      ms_c (f_X12_statementIn n σh23) fun rh36 σh36 =>
      f_X12_hear_J129 n rec35 σh36 v2_h22 v3_h22 rh36 v2_h22
  else
    f_X12_hear_J153 n σh23 v2_h22 v3_h22
def f_X12_hear_J73 (n : Nat) (rec35 : ms_T → Int32 → Int32 → Option (Int32 × ms_T)) (σh20 : ms_T) (v2_h20 : Int32) (v3_h20 : Int32) (w0_h20 : Int32) : Option (Int32 × ms_T) :=
  ms_b (f_X12_must n σh20 w0_h20 (2 : Int32)) fun σh21 =>
  if (20 : Int32) ≤ v2_h20 then
    f_X12_hear_J89 n rec35 σh21 v2_h20 v3_h20 (0 : Int32)
  else
    f_X12_hear_J89 n rec35 σh21 v2_h20 v3_h20 (1 : Int32)
def f_X12_hear_J68 (n : Nat) (rec35 : ms_T → Int32 → Int32 → Option (Int32 × ms_T)) (σh38 : ms_T) (v2_h38 : Int32) (v3_h38 : Int32) : Option (Int32 × ms_T) :=
  f_X12_hear_J73 n rec35 σh38 v2_h38 v3_h38 (1 : Int32)
def f_X12_hear_L35 (n : Nat) : Nat → ms_T → Int32 → Int32 → Option (Int32 × ms_T)
  | 0, _, _, _ => none
  | k35 + 1, σh6, v2_h6, v3_h6 =>
    if (ms_I σh6 670) = 0 then
      if (ms_I σh6 674) = 0 then
        f_X12_hear_J153 n σh6 v2_h6 v3_h6
      else
        ms_b (f_X12_isWord n σh6 (6 : Int32)) fun rh19 =>
        if rh19 = 0 then
          ms_b (f_X12_isWord n σh6 (7 : Int32)) fun rh40 =>
          if rh40 = 0 then
            f_X12_hear_J73 n (f_X12_hear_L35 n k35) σh6 v2_h6 v3_h6 (0 : Int32)
          else
            f_X12_hear_J68 n (f_X12_hear_L35 n k35) σh6 v2_h6 v3_h6
        else
          f_X12_hear_J68 n (f_X12_hear_L35 n k35) σh6 v2_h6 v3_h6
    else
      f_X12_hear_J153 n σh6 v2_h6 v3_h6
def f_X12_hear_J18 (n : Nat) (σh2 : ms_T) (v1_h2 : Int32) (w0_h2 : Int32) : Option (Int32 × ms_T) :=
  ms_c (f_X12_is n σh2 w0_h2) fun rh3 σh3 =>
  if rh3 = 0 then
    some ((-1 : Int32), σh3)
  else
    ms_b (f_X12_begins n σh3 v1_h2) fun σh5 =>
    f_X12_hear_L35 n n σh5 (0 : Int32) (0 : Int32)
def f_X12_hear (n : Nat) (σ : ms_T) (a1 : Int32) : Option (Int32 × ms_T) :=
  ms_b (f_X12_isIn n a1 (0 : Int32) (ms_I σ 667)) fun rh1 =>
  if rh1 = 0 then
    f_X12_hear_J18 n σ a1 (1 : Int32)
  else
    f_X12_hear_J18 n σ a1 (0 : Int32)
set_option maxRecDepth 100000 in
set_option maxHeartbeats 4000000 in
theorem m_X12_hear (n : Nat) (Γ : hp_G) (l : Launch) (α : hp_T) (a0 : Nat) (ρ : Nat → Nat) (σ : ms_T) (hM : hm_M α a0 ρ σ) (a1 : Int32) (res : (Int32 × ms_T)) (hf : f_X12_hear n σ a1 = some res) : Met l yX12_hear (hp_ws yX12_hear cX12_hear 5 (some .int)) (hp_rm 45 0 0) (hp_Pc Γ α [.ref a0, .int a1]) (hp_Qi Γ (fun r β => r = res.1 ∧ mo α β ∧ hm_M β a0 ρ res.2)) 0 0 (hp_A Γ) := by
  unfold f_X12_hear at hf
  refine hp_start (by decide) ?_
  intro p e s m below meth c C hr hlk B0 hnm
  have C : hp_C Γ p m c cX12_hear 5 s ([.ref a0, .int a1] : List Value).toArray RX12 := C
  have hx := C.1.1
  have hb := C.1.2.1
  have hown := C.1.2.2.2.1
  have hts := C.1.2.2.2.2
  have B : hp_B Γ mo s α α s.heap [] := ⟨B0.1, B0.2.1, mo_rf⟩
  have hl := lv_entry ([.ref a0, .int a1]) (n := 5) (Nat.le_of_ble_eq_true rfl)
  show W p l e (hp_rm 45 0 0) s m ([.ref a0, .int a1] : List Value).toArray below meth c s.heap [] 0 0 (MQ below (hp_Qi Γ (fun r β => r = res.1 ∧ mo α β ∧ hm_M β a0 ρ res.2)) ([.ref a0, .int a1] : List Value).toArray s 0 0 (hp_A Γ)) (entryFrame m ([.ref a0, .int a1] : List Value).toArray 5)
  rw [lg_entry_eq]
  generalize (lg_sl ([.ref a0, .int a1]) ++ List.replicate (5 - (lg_sl ([.ref a0, .int a1])).length) Slot.unset).toArray = ls at hl ⊢
  have hl : lv_has ls 5 [(0, .ref a0), (1, .int a1)] := hl
  refine lv_aload_n hx hb dX12_hear_0 rfl (lv_at hl 0 rfl) (hp_n (n := 1) rfl ?_)
  refine lv_iload_n hx hb dX12_hear_1 rfl (lv_at hl 1 rfl) (hp_n (n := 2) rfl ?_)
  refine lv_iconst (v := 0) hx hb dX12_hear_2 (by decide) (hp_n (n := 3) rfl ?_)
  refine lv_aload_n hx hb dX12_hear_3 rfl (lv_at hl 0 rfl) (hp_n (n := 4) rfl ?_)
  refine m_geti (k := 17) (φ := 667) (pc' := 7) C B hM fl_X12_230 rfl rfl dX12_hear_4 rfl ?_
  obtain ⟨rh1, qh1, hf⟩ := ms_bE hf
  refine m_cp (pc' := 10) B (hp_runS (As := [.int a1, .int (0 : Int32), .int (ms_I σ 667)]) (rest := [.ref a0]) C B (m_X12_isIn n Γ l α a1 (0 : Int32) (ms_I σ 667) rh1 qh1) lb_X12_isIn ls_X12_isIn lk_X12_113 rfl (by decide) rfl hl.1 rfl (Nat.le_of_ble_eq_true rfl) dX12_hear_7 ⟨Nat.le_refl _, Nat.le_refl _⟩) rfl (fun Hh1 Lh1 Bh1 => ?_)
  have J18 : ∀ (αh2 : hp_T) (Hh2 : Heap) (Lh2 : List Loc) (Bh2 : hp_B Γ mo s α αh2 Hh2 Lh2) (σh2 : ms_T) (Mh2 : hm_M αh2 a0 ρ σh2) (v1_h2 : Int32) (w0_h2 : Int32) (ls : Array Slot) (hl : lv_has ls 5 [(0, .ref a0), (1, .int v1_h2)]) (hf : f_X12_hear_J18 n σh2 v1_h2 w0_h2 = some res), W p l e (hp_rm 45 0 0) s m ([.ref a0, .int a1] : List Value).toArray below meth c Hh2 Lh2 0 0 (MQ below (hp_Qi Γ (fun r β => r = res.1 ∧ mo α β ∧ hm_M β a0 ρ res.2)) ([.ref a0, .int a1] : List Value).toArray s 0 0 (hp_A Γ)) (F0 m 18 ls [.int w0_h2, .ref a0]) := by
    intro αh2 Hh2 Lh2 Bh2 σh2 Mh2 v1_h2 w0_h2 ls hl hf
    unfold f_X12_hear_J18 at hf
    obtain ⟨rh3, σh3, qh3, hf⟩ := ms_cE hf
    refine m_ci (pc' := 21) (a := a0) (ρ := ρ) Bh2 (hp_runV (As := [.int w0_h2]) (rest := []) C Bh2 (m_X12_is n Γ l αh2 a0 ρ σh2 Mh2 w0_h2 (rh3, σh3) qh3) lb_X12_is lv_X12_is lk_X12_309 Mh2.1 rfl (by decide) rfl hl.1 rfl (Nat.le_of_ble_eq_true rfl) dX12_hear_18 ⟨Nat.le_refl _, Nat.le_refl _⟩) rfl (fun αh3 Hh3 Lh3 Bh3 Mh3 => ?_)
    refine lv_if_ne (tgt := 26) hx hb dX12_hear_21 (by decide) (fun c4 => ?_) (fun c4 => hp_n (n := 24) rfl ?_)
    ·
      replace hf := ms_iF c4 hf
      refine lv_aload_n hx hb dX12_hear_26 rfl (lv_at hl 0 rfl) (hp_n (n := 27) rfl ?_)
      refine lv_iload_n hx hb dX12_hear_27 rfl (lv_at hl 1 rfl) (hp_n (n := 28) rfl ?_)
      obtain ⟨σh5, qh5, hf⟩ := ms_bE hf
      refine m_cv (pc' := 31) (a := a0) (ρ := ρ) Bh3 (hp_runV (As := [.int v1_h2]) (rest := []) C Bh3 (m_X12_begins n Γ l αh3 a0 ρ σh3 Mh3 v1_h2 σh5 qh5) lb_X12_begins lv_X12_begins lk_X12_312 Mh3.1 rfl (by decide) rfl hl.1 rfl (Nat.le_of_ble_eq_true rfl) dX12_hear_28 ⟨Nat.le_refl _, Nat.le_refl _⟩) rfl (fun αh5 Hh5 Lh5 Bh5 Mh5 => ?_)
      refine lv_iconst (v := 0) hx hb dX12_hear_31 (by decide) (hp_n (n := 32) rfl ?_)
      refine lv_istore_n (lv' := [(2, .int (0 : Int32)), (0, .ref a0), (1, .int v1_h2)]) hx hb dX12_hear_32 rfl hl (by decide) rfl (fun ls hl => hp_n (n := 33) rfl ?_)
      refine lv_iconst (v := 0) hx hb dX12_hear_33 (by decide) (hp_n (n := 34) rfl ?_)
      have J35 : ∀ (k35 : Nat) (αh6 : hp_T) (Hh6 : Heap) (Lh6 : List Loc) (Bh6 : hp_B Γ mo s α αh6 Hh6 Lh6) (σh6 : ms_T) (Mh6 : hm_M αh6 a0 ρ σh6) (v2_h6 : Int32) (v3_h6 : Int32) (ls : Array Slot) (hl : lv_has ls 5 [(0, .ref a0), (2, .int v2_h6), (3, .int v3_h6)]) (hf : f_X12_hear_L35 n k35 σh6 v2_h6 v3_h6 = some res), W p l e (hp_rm 45 0 0) s m ([.ref a0, .int a1] : List Value).toArray below meth c Hh6 Lh6 0 0 (MQ below (hp_Qi Γ (fun r β => r = res.1 ∧ mo α β ∧ hm_M β a0 ρ res.2)) ([.ref a0, .int a1] : List Value).toArray s 0 0 (hp_A Γ)) (F0 m 35 ls []) := by
        intro k35
        induction k35 with
        | zero => intro αh6 Hh6 Lh6 Bh6 σh6 Mh6 v2_h6 v3_h6 ls hl hf; rw [f_X12_hear_L35.eq_1] at hf; cases hf
        | succ k35 ih35 =>
          intro αh6 Hh6 Lh6 Bh6 σh6 Mh6 v2_h6 v3_h6 ls hl hf
          rw [f_X12_hear_L35.eq_2] at hf
          refine lv_aload_n hx hb dX12_hear_35 rfl (lv_at hl 0 rfl) (hp_n (n := 36) rfl ?_)
          refine m_geti (k := 20) (φ := 670) (pc' := 39) C Bh6 Mh6 fl_X12_262 rfl rfl dX12_hear_36 rfl ?_
          have J153 : ∀ (αh7 : hp_T) (Hh7 : Heap) (Lh7 : List Loc) (Bh7 : hp_B Γ mo s α αh7 Hh7 Lh7) (σh7 : ms_T) (Mh7 : hm_M αh7 a0 ρ σh7) (v2_h7 : Int32) (v3_h7 : Int32) (ls : Array Slot) (hl : lv_has ls 5 [(0, .ref a0), (2, .int v2_h7), (3, .int v3_h7)]) (hf : f_X12_hear_J153 n σh7 v2_h7 v3_h7 = some res), W p l e (hp_rm 45 0 0) s m ([.ref a0, .int a1] : List Value).toArray below meth c Hh7 Lh7 0 0 (MQ below (hp_Qi Γ (fun r β => r = res.1 ∧ mo α β ∧ hm_M β a0 ρ res.2)) ([.ref a0, .int a1] : List Value).toArray s 0 0 (hp_A Γ)) (F0 m 153 ls []) := by
            intro αh7 Hh7 Lh7 Bh7 σh7 Mh7 v2_h7 v3_h7 ls hl hf
            unfold f_X12_hear_J153 at hf
            refine lv_aload_n hx hb dX12_hear_153 rfl (lv_at hl 0 rfl) (hp_n (n := 154) rfl ?_)
            obtain ⟨σh8, qh8, hf⟩ := ms_bE hf
            refine m_cv (pc' := 157) (a := a0) (ρ := ρ) Bh7 (hp_runV (As := []) (rest := []) C Bh7 (m_X12_ends n Γ l αh7 a0 ρ σh7 Mh7  σh8 qh8) lb_X12_ends lv_X12_ends lk_X12_318 Mh7.1 rfl (by decide) rfl hl.1 rfl (Nat.le_of_ble_eq_true rfl) dX12_hear_154 ⟨Nat.le_refl _, Nat.le_refl _⟩) rfl (fun αh8 Hh8 Lh8 Bh8 Mh8 => ?_)
            refine lv_aload_n hx hb dX12_hear_157 rfl (lv_at hl 0 rfl) (hp_n (n := 158) rfl ?_)
            refine m_geti (k := 20) (φ := 670) (pc' := 161) C Bh8 Mh8 fl_X12_262 rfl rfl dX12_hear_158 rfl ?_
            refine lv_if_le (tgt := 166) hx hb dX12_hear_161 (by decide) (fun c9 => ?_) (fun c9 => hp_n (n := 164) rfl ?_)
            ·
              replace hf := ms_iT c9 hf
              refine lv_iconst (v := 0) hx hb dX12_hear_166 (by decide) (hp_n (n := 167) rfl ?_)
              have J169 : ∀ (k169 : Nat) (αh10 : hp_T) (Hh10 : Heap) (Lh10 : List Loc) (Bh10 : hp_B Γ mo s α αh10 Hh10 Lh10) (σh10 : ms_T) (Mh10 : hm_M αh10 a0 ρ σh10) (v2_h10 : Int32) (v3_h10 : Int32) (v4_h10 : Int32) (ls : Array Slot) (hl : lv_has ls 5 [(0, .ref a0), (2, .int v2_h10), (3, .int v3_h10), (4, .int v4_h10)]) (hf : f_X12_hear_L169 n k169 σh10 v2_h10 v3_h10 v4_h10 = some res), W p l e (hp_rm 45 0 0) s m ([.ref a0, .int a1] : List Value).toArray below meth c Hh10 Lh10 0 0 (MQ below (hp_Qi Γ (fun r β => r = res.1 ∧ mo α β ∧ hm_M β a0 ρ res.2)) ([.ref a0, .int a1] : List Value).toArray s 0 0 (hp_A Γ)) (F0 m 169 ls []) := by
                intro k169
                induction k169 with
                | zero => intro αh10 Hh10 Lh10 Bh10 σh10 Mh10 v2_h10 v3_h10 v4_h10 ls hl hf; rw [f_X12_hear_L169.eq_1] at hf; cases hf
                | succ k169 ih169 =>
                  intro αh10 Hh10 Lh10 Bh10 σh10 Mh10 v2_h10 v3_h10 v4_h10 ls hl hf
                  rw [f_X12_hear_L169.eq_2] at hf
                  refine lv_iload hx hb dX12_hear_169 (lv_at hl 3 rfl) (hp_n (n := 171) rfl ?_)
                  refine lv_iload_n hx hb dX12_hear_171 rfl (lv_at hl 1 rfl) (hp_n (n := 172) rfl ?_)
                  refine lv_icmp_ge (tgt := 195) hx hb dX12_hear_172 (by decide) (fun c11 => ?_) (fun c11 => hp_n (n := 175) rfl ?_)
                  ·
                    replace hf := ms_iT c11 hf
                    refine lv_aload_n hx hb dX12_hear_195 rfl (lv_at hl 0 rfl) (hp_n (n := 196) rfl ?_)
                    refine lv_iload_n hx hb dX12_hear_196 rfl (lv_at hl 1 rfl) (hp_n (n := 197) rfl ?_)
                    refine m_puti (k := 32) (φ := 682) (pc' := 200) C Bh10 Mh10 fl_X12_341 rfl rfl rfl rfl rfl dX12_hear_197 rfl (fun αh12 Hh12 Lh12 σh12 eh12 Bh12 Mh12 => ?_)
                    replace hf := ms_lE eh12 hf
                    refine lv_iload_n hx hb dX12_hear_200 rfl (lv_at hl 2 rfl) (hp_n (n := 201) rfl ?_)
                    cases hf
                    exact q_iret C Bh12 hr hlk ⟨rfl, Bh12.2.2, Mh12⟩ dX12_hear_201
                  ·
                    replace hf := ms_iF c11 hf
                    refine lv_aload_n hx hb dX12_hear_175 rfl (lv_at hl 0 rfl) (hp_n (n := 176) rfl ?_)
                    refine m_getr (κ := 49) (k := 30) (pc' := 179) C Bh10 Mh10 fl_X12_70 rfl (by decide) dX12_hear_176 rfl ?_
                    refine lv_iload hx hb dX12_hear_179 (lv_at hl 3 rfl) (hp_n (n := 181) rfl ?_)
                    refine lv_aload_n hx hb dX12_hear_181 rfl (lv_at hl 0 rfl) (hp_n (n := 182) rfl ?_)
                    refine m_getr (κ := 50) (k := 31) (pc' := 185) C Bh10 Mh10 fl_X12_73 rfl (by decide) dX12_hear_182 rfl ?_
                    refine lv_iload hx hb dX12_hear_185 (lv_at hl 3 rfl) (hp_n (n := 187) rfl ?_)
                    obtain ⟨g13, hf⟩ := ms_gE hf
                    refine m_ial (κ := 50) (φ := 681) (n := 20) (pc' := 188) C Bh10 Mh10 (by decide) (by decide) rfl g13 dX12_hear_187 rfl ?_
                    obtain ⟨g14, hf⟩ := ms_gE hf
                    refine m_ias (κ := 49) (φ := 680) (n := 20) (pc' := 189) C Bh10 Mh10 (by decide) (by decide) rfl g14 dX12_hear_188 rfl (fun αh15 Hh15 Lh15 σh15 eh15 Bh15 Mh15 => ?_)
                    replace hf := ms_lE eh15 hf
                    obtain ⟨x16, ex16⟩ : ∃ y : Int32, y = v4_h10 + 1 := ⟨_, rfl⟩
                    replace hf := ms_lE ex16 hf
                    refine lv_iinc (v := x16) (lv' := [(4, .int x16), (0, .ref a0), (2, .int v2_h10), (3, .int v3_h10)]) hx hb dX12_hear_189 hl (k := 3) rfl (by rw [ex16]; rfl) (by decide) rfl (fun ls hl => hp_n (n := 192) rfl ?_)
                    refine lv_goto (tgt := 169) hx hb dX12_hear_192 (by decide) ?_
                    exact ih169 αh15 Hh15 Lh15 Bh15 σh15 Mh15 v2_h10 v3_h10 x16 ls (lv_sub hl [1, 2, 3, 0] rfl) hf
              refine lv_istore (lv' := [(4, .int (0 : Int32)), (0, .ref a0), (2, .int v2_h7), (3, .int v3_h7)]) hx hb dX12_hear_167 hl (by decide) rfl (fun ls hl => hp_n (n := 169) rfl ?_)
              exact J169 n αh8 Hh8 Lh8 Bh8 σh8 Mh8 v2_h7 v3_h7 (0 : Int32) ls (lv_sub hl [1, 2, 3, 0] rfl) hf
            ·
              replace hf := ms_iF c9 hf
              refine lv_iconst (v := (-1)) hx hb dX12_hear_164 (by decide) (hp_n (n := 165) rfl ?_)
              cases hf
              exact q_iret C Bh8 hr hlk ⟨rfl, Bh8.2.2, Mh8⟩ dX12_hear_165
          refine lv_if_ne (tgt := 153) hx hb dX12_hear_39 (by decide) (fun c17 => ?_) (fun c17 => hp_n (n := 42) rfl ?_)
          ·
            replace hf := ms_iF c17 hf
            exact J153 αh6 Hh6 Lh6 Bh6 σh6 Mh6 v2_h6 v3_h6 ls (lv_sub hl [0, 1, 2] rfl) hf
          ·
            replace hf := ms_iT c17 hf
            refine lv_aload_n hx hb dX12_hear_42 rfl (lv_at hl 0 rfl) (hp_n (n := 43) rfl ?_)
            refine m_geti (k := 24) (φ := 674) (pc' := 46) C Bh6 Mh6 fl_X12_245 rfl rfl dX12_hear_43 rfl ?_
            refine lv_if_eq (tgt := 153) hx hb dX12_hear_46 (by decide) (fun c18 => ?_) (fun c18 => hp_n (n := 49) rfl ?_)
            ·
              replace hf := ms_iT c18 hf
              exact J153 αh6 Hh6 Lh6 Bh6 σh6 Mh6 v2_h6 v3_h6 ls (lv_sub hl [0, 1, 2] rfl) hf
            ·
              replace hf := ms_iF c18 hf
              refine lv_aload_n hx hb dX12_hear_49 rfl (lv_at hl 0 rfl) (hp_n (n := 50) rfl ?_)
              refine lv_aload_n hx hb dX12_hear_50 rfl (lv_at hl 0 rfl) (hp_n (n := 51) rfl ?_)
              refine lv_bipush (v := 6) hx hb dX12_hear_51 (by decide) (hp_n (n := 53) rfl ?_)
              obtain ⟨rh19, qh19, hf⟩ := ms_bE hf
              refine m_cp (pc' := 56) Bh6 (hp_runV (As := [.int (6 : Int32)]) (rest := [.ref a0]) C Bh6 (m_X12_isWord n Γ l αh6 a0 ρ σh6 Mh6 (6 : Int32) rh19 qh19) lb_X12_isWord lv_X12_isWord lk_X12_268 Mh6.1 rfl (by decide) rfl hl.1 rfl (Nat.le_of_ble_eq_true rfl) dX12_hear_53 ⟨Nat.le_refl _, Nat.le_refl _⟩) rfl (fun Hh19 Lh19 Bh19 => ?_)
              have J73 : ∀ (αh20 : hp_T) (Hh20 : Heap) (Lh20 : List Loc) (Bh20 : hp_B Γ mo s α αh20 Hh20 Lh20) (σh20 : ms_T) (Mh20 : hm_M αh20 a0 ρ σh20) (v2_h20 : Int32) (v3_h20 : Int32) (w0_h20 : Int32) (ls : Array Slot) (hl : lv_has ls 5 [(0, .ref a0), (2, .int v2_h20), (3, .int v3_h20)]) (hf : f_X12_hear_J73 n (f_X12_hear_L35 n k35) σh20 v2_h20 v3_h20 w0_h20 = some res), W p l e (hp_rm 45 0 0) s m ([.ref a0, .int a1] : List Value).toArray below meth c Hh20 Lh20 0 0 (MQ below (hp_Qi Γ (fun r β => r = res.1 ∧ mo α β ∧ hm_M β a0 ρ res.2)) ([.ref a0, .int a1] : List Value).toArray s 0 0 (hp_A Γ)) (F0 m 73 ls [.int w0_h20, .ref a0]) := by
                intro αh20 Hh20 Lh20 Bh20 σh20 Mh20 v2_h20 v3_h20 w0_h20 ls hl hf
                unfold f_X12_hear_J73 at hf
                refine lv_iconst (v := 2) hx hb dX12_hear_73 (by decide) (hp_n (n := 74) rfl ?_)
                obtain ⟨σh21, qh21, hf⟩ := ms_bE hf
                refine m_cv (pc' := 77) (a := a0) (ρ := ρ) Bh20 (hp_runV (As := [.int w0_h20, .int (2 : Int32)]) (rest := []) C Bh20 (m_X12_must n Γ l αh20 a0 ρ σh20 Mh20 w0_h20 (2 : Int32) σh21 qh21) lb_X12_must lv_X12_must lk_X12_272 Mh20.1 rfl (by decide) rfl hl.1 rfl (Nat.le_of_ble_eq_true rfl) dX12_hear_74 ⟨Nat.le_refl _, Nat.le_refl _⟩) rfl (fun αh21 Hh21 Lh21 Bh21 Mh21 => ?_)
                refine lv_aload_n hx hb dX12_hear_77 rfl (lv_at hl 0 rfl) (hp_n (n := 78) rfl ?_)
                refine lv_iload_n hx hb dX12_hear_78 rfl (lv_at hl 1 rfl) (hp_n (n := 79) rfl ?_)
                refine lv_bipush (v := 20) hx hb dX12_hear_79 (by decide) (hp_n (n := 81) rfl ?_)
                have J89 : ∀ (αh22 : hp_T) (Hh22 : Heap) (Lh22 : List Loc) (Bh22 : hp_B Γ mo s α αh22 Hh22 Lh22) (σh22 : ms_T) (Mh22 : hm_M αh22 a0 ρ σh22) (v2_h22 : Int32) (v3_h22 : Int32) (w0_h22 : Int32) (ls : Array Slot) (hl : lv_has ls 5 [(0, .ref a0), (2, .int v2_h22), (3, .int v3_h22)]) (hf : f_X12_hear_J89 n (f_X12_hear_L35 n k35) σh22 v2_h22 v3_h22 w0_h22 = some res), W p l e (hp_rm 45 0 0) s m ([.ref a0, .int a1] : List Value).toArray below meth c Hh22 Lh22 0 0 (MQ below (hp_Qi Γ (fun r β => r = res.1 ∧ mo α β ∧ hm_M β a0 ρ res.2)) ([.ref a0, .int a1] : List Value).toArray s 0 0 (hp_A Γ)) (F0 m 89 ls [.int w0_h22, .ref a0]) := by
                  intro αh22 Hh22 Lh22 Bh22 σh22 Mh22 v2_h22 v3_h22 w0_h22 ls hl hf
                  unfold f_X12_hear_J89 at hf
                  refine lv_bipush (v := 6) hx hb dX12_hear_89 (by decide) (hp_n (n := 91) rfl ?_)
                  obtain ⟨σh23, qh23, hf⟩ := ms_bE hf
                  refine m_cv (pc' := 94) (a := a0) (ρ := ρ) Bh22 (hp_runV (As := [.int w0_h22, .int (6 : Int32)]) (rest := []) C Bh22 (m_X12_must n Γ l αh22 a0 ρ σh22 Mh22 w0_h22 (6 : Int32) σh23 qh23) lb_X12_must lv_X12_must lk_X12_272 Mh22.1 rfl (by decide) rfl hl.1 rfl (Nat.le_of_ble_eq_true rfl) dX12_hear_91 ⟨Nat.le_refl _, Nat.le_refl _⟩) rfl (fun αh23 Hh23 Lh23 Bh23 Mh23 => ?_)
                  refine lv_aload_n hx hb dX12_hear_94 rfl (lv_at hl 0 rfl) (hp_n (n := 95) rfl ?_)
                  refine m_geti (k := 20) (φ := 670) (pc' := 98) C Bh23 Mh23 fl_X12_262 rfl rfl dX12_hear_95 rfl ?_
                  refine lv_if_le (tgt := 104) hx hb dX12_hear_98 (by decide) (fun c24 => ?_) (fun c24 => hp_n (n := 101) rfl ?_)
                  ·
                    replace hf := ms_iT c24 hf
                    refine lv_aload_n hx hb dX12_hear_104 rfl (lv_at hl 0 rfl) (hp_n (n := 105) rfl ?_)
                    refine m_getr (κ := 50) (k := 31) (pc' := 108) C Bh23 Mh23 fl_X12_73 rfl (by decide) dX12_hear_105 rfl ?_
                    refine lv_iload_n hx hb dX12_hear_108 rfl (lv_at hl 1 rfl) (hp_n (n := 109) rfl ?_)
                    refine lv_aload_n hx hb dX12_hear_109 rfl (lv_at hl 0 rfl) (hp_n (n := 110) rfl ?_)
                    refine lv_bipush (v := 6) hx hb dX12_hear_110 (by decide) (hp_n (n := 112) rfl ?_)
                    obtain ⟨rh25, qh25, hf⟩ := ms_bE hf
                    refine m_cp (pc' := 115) Bh23 (hp_runV (As := [.int (6 : Int32)]) (rest := [.int v2_h22, .ref (ρ 50)]) C Bh23 (m_X12_isWord n Γ l αh23 a0 ρ σh23 Mh23 (6 : Int32) rh25 qh25) lb_X12_isWord lv_X12_isWord lk_X12_268 Mh23.1 rfl (by decide) rfl hl.1 rfl (Nat.le_of_ble_eq_true rfl) dX12_hear_112 ⟨Nat.le_refl _, Nat.le_refl _⟩) rfl (fun Hh25 Lh25 Bh25 => ?_)
                    have J129 : ∀ (αh26 : hp_T) (Hh26 : Heap) (Lh26 : List Loc) (Bh26 : hp_B Γ mo s α αh26 Hh26 Lh26) (σh26 : ms_T) (Mh26 : hm_M αh26 a0 ρ σh26) (v2_h26 : Int32) (v3_h26 : Int32) (w0_h26 : Int32) (w1_h26 : Int32) (ls : Array Slot) (hl : lv_has ls 5 [(0, .ref a0), (2, .int v2_h26), (3, .int v3_h26)]) (hf : f_X12_hear_J129 n (f_X12_hear_L35 n k35) σh26 v2_h26 v3_h26 w0_h26 w1_h26 = some res), W p l e (hp_rm 45 0 0) s m ([.ref a0, .int a1] : List Value).toArray below meth c Hh26 Lh26 0 0 (MQ below (hp_Qi Γ (fun r β => r = res.1 ∧ mo α β ∧ hm_M β a0 ρ res.2)) ([.ref a0, .int a1] : List Value).toArray s 0 0 (hp_A Γ)) (F0 m 129 ls [.int w0_h26, .int w1_h26, .ref (ρ 50)]) := by
                      intro αh26 Hh26 Lh26 Bh26 σh26 Mh26 v2_h26 v3_h26 w0_h26 w1_h26 ls hl hf
                      unfold f_X12_hear_J129 at hf
                      obtain ⟨g27, hf⟩ := ms_gE hf
                      refine m_ias (κ := 50) (φ := 681) (n := 20) (pc' := 130) C Bh26 Mh26 (by decide) (by decide) rfl g27 dX12_hear_129 rfl (fun αh28 Hh28 Lh28 σh28 eh28 Bh28 Mh28 => ?_)
                      replace hf := ms_lE eh28 hf
                      refine lv_iload_n hx hb dX12_hear_130 rfl (lv_at hl 2 rfl) (hp_n (n := 131) rfl ?_)
                      refine lv_aload_n hx hb dX12_hear_131 rfl (lv_at hl 0 rfl) (hp_n (n := 132) rfl ?_)
                      refine m_getr (κ := 50) (k := 31) (pc' := 135) C Bh28 Mh28 fl_X12_73 rfl (by decide) dX12_hear_132 rfl ?_
                      refine lv_iload_n hx hb dX12_hear_135 rfl (lv_at hl 1 rfl) (hp_n (n := 136) rfl ?_)
                      obtain ⟨g29, hf⟩ := ms_gE hf
                      refine m_ial (κ := 50) (φ := 681) (n := 20) (pc' := 137) C Bh28 Mh28 (by decide) (by decide) rfl g29 dX12_hear_136 rfl ?_
                      have J145 : ∀ (αh30 : hp_T) (Hh30 : Heap) (Lh30 : List Loc) (Bh30 : hp_B Γ mo s α αh30 Hh30 Lh30) (σh30 : ms_T) (Mh30 : hm_M αh30 a0 ρ σh30) (v2_h30 : Int32) (w0_h30 : Int32) (w1_h30 : Int32) (ls : Array Slot) (hl : lv_has ls 5 [(0, .ref a0), (2, .int v2_h30)]) (hf : f_X12_hear_J145 n (f_X12_hear_L35 n k35) σh30 v2_h30 w0_h30 w1_h30 = some res), W p l e (hp_rm 45 0 0) s m ([.ref a0, .int a1] : List Value).toArray below meth c Hh30 Lh30 0 0 (MQ below (hp_Qi Γ (fun r β => r = res.1 ∧ mo α β ∧ hm_M β a0 ρ res.2)) ([.ref a0, .int a1] : List Value).toArray s 0 0 (hp_A Γ)) (F0 m 145 ls [.int w0_h30, .int w1_h30]) := by
                        intro αh30 Hh30 Lh30 Bh30 σh30 Mh30 v2_h30 w0_h30 w1_h30 ls hl hf
                        unfold f_X12_hear_J145 at hf
                        refine lv_iadd hx hb dX12_hear_145 (hp_n (n := 146) rfl ?_)
                        refine lv_topi (fun x31 ex31 => ?_)
                        replace hf := ms_lE ex31 hf
                        refine lv_istore_n (lv' := [(3, .int x31), (0, .ref a0), (2, .int v2_h30)]) hx hb dX12_hear_146 rfl hl (by decide) rfl (fun ls hl => hp_n (n := 147) rfl ?_)
                        obtain ⟨x32, ex32⟩ : ∃ y : Int32, y = v2_h30 + 1 := ⟨_, rfl⟩
                        replace hf := ms_lE ex32 hf
                        refine lv_iinc (v := x32) (lv' := [(2, .int x32), (3, .int x31), (0, .ref a0)]) hx hb dX12_hear_147 hl (k := 2) rfl (by rw [ex32]; rfl) (by decide) rfl (fun ls hl => hp_n (n := 150) rfl ?_)
                        refine lv_goto (tgt := 35) hx hb dX12_hear_150 (by decide) ?_
                        exact ih35 αh30 Hh30 Lh30 Bh30 σh30 Mh30 x32 x31 ls (lv_sub hl [2, 0, 1] rfl) hf
                      refine lv_if_ne (tgt := 144) hx hb dX12_hear_137 (by decide) (fun c33 => ?_) (fun c33 => hp_n (n := 140) rfl ?_)
                      ·
                        replace hf := ms_iF c33 hf
                        refine lv_iconst (v := 0) hx hb dX12_hear_144 (by decide) (hp_n (n := 145) rfl ?_)
                        exact J145 αh28 Hh28 Lh28 Bh28 σh28 Mh28 v2_h26 (0 : Int32) v3_h26 ls (lv_sub hl [0, 1] rfl) hf
                      ·
                        replace hf := ms_iT c33 hf
                        refine lv_iconst (v := 1) hx hb dX12_hear_140 (by decide) (hp_n (n := 141) rfl ?_)
                        refine lv_goto (tgt := 145) hx hb dX12_hear_141 (by decide) ?_
                        exact J145 αh28 Hh28 Lh28 Bh28 σh28 Mh28 v2_h26 (1 : Int32) v3_h26 ls (lv_sub hl [0, 1] rfl) hf
                    refine lv_if_eq (tgt := 125) hx hb dX12_hear_115 (by decide) (fun c34 => ?_) (fun c34 => hp_n (n := 118) rfl ?_)
                    ·
                      replace hf := ms_iT c34 hf
                      refine lv_aload_n hx hb dX12_hear_125 rfl (lv_at hl 0 rfl) (hp_n (n := 126) rfl ?_)
                      obtain ⟨rh35, σh35, qh35, hf⟩ := ms_cE hf
                      refine m_ci (pc' := 129) (a := a0) (ρ := ρ) Bh25 (hp_runV (As := []) (rest := [.int v2_h22, .ref (ρ 50)]) C Bh25 (m_X12_statementGrow n Γ l αh23 a0 ρ σh23 Mh23  (rh35, σh35) qh35) lb_X12_statementGrow lv_X12_statementGrow lk_X12_338 Mh23.1 rfl (by decide) rfl hl.1 rfl (Nat.le_of_ble_eq_true rfl) dX12_hear_126 ⟨Nat.le_refl _, Nat.le_refl _⟩) rfl (fun αh35 Hh35 Lh35 Bh35 Mh35 => ?_)
                      exact J129 αh35 Hh35 Lh35 Bh35 σh35 Mh35 v2_h22 v3_h22 rh35 v2_h22 ls (lv_sub hl [0, 1, 2] rfl) hf
                    ·
                      replace hf := ms_iF c34 hf
                      refine lv_aload_n hx hb dX12_hear_118 rfl (lv_at hl 0 rfl) (hp_n (n := 119) rfl ?_)
                      obtain ⟨rh36, σh36, qh36, hf⟩ := ms_cE hf
                      refine m_ci (pc' := 122) (a := a0) (ρ := ρ) Bh25 (hp_runV (As := []) (rest := [.int v2_h22, .ref (ρ 50)]) C Bh25 (m_X12_statementIn n Γ l αh23 a0 ρ σh23 Mh23  (rh36, σh36) qh36) lb_X12_statementIn lv_X12_statementIn lk_X12_335 Mh23.1 rfl (by decide) rfl hl.1 rfl (Nat.le_of_ble_eq_true rfl) dX12_hear_119 ⟨Nat.le_refl _, Nat.le_refl _⟩) rfl (fun αh36 Hh36 Lh36 Bh36 Mh36 => ?_)
                      refine lv_goto (tgt := 129) hx hb dX12_hear_122 (by decide) ?_
                      exact J129 αh36 Hh36 Lh36 Bh36 σh36 Mh36 v2_h22 v3_h22 rh36 v2_h22 ls (lv_sub hl [0, 1, 2] rfl) hf
                  ·
                    replace hf := ms_iF c24 hf
                    refine lv_goto (tgt := 153) hx hb dX12_hear_101 (by decide) ?_
                    exact J153 αh23 Hh23 Lh23 Bh23 σh23 Mh23 v2_h22 v3_h22 ls (lv_sub hl [0, 1, 2] rfl) hf
                refine lv_icmp_ge (tgt := 88) hx hb dX12_hear_81 (by decide) (fun c37 => ?_) (fun c37 => hp_n (n := 84) rfl ?_)
                ·
                  replace hf := ms_iT c37 hf
                  refine lv_iconst (v := 0) hx hb dX12_hear_88 (by decide) (hp_n (n := 89) rfl ?_)
                  exact J89 αh21 Hh21 Lh21 Bh21 σh21 Mh21 v2_h20 v3_h20 (0 : Int32) ls (lv_sub hl [0, 1, 2] rfl) hf
                ·
                  replace hf := ms_iF c37 hf
                  refine lv_iconst (v := 1) hx hb dX12_hear_84 (by decide) (hp_n (n := 85) rfl ?_)
                  refine lv_goto (tgt := 89) hx hb dX12_hear_85 (by decide) ?_
                  exact J89 αh21 Hh21 Lh21 Bh21 σh21 Mh21 v2_h20 v3_h20 (1 : Int32) ls (lv_sub hl [0, 1, 2] rfl) hf
              have J68 : ∀ (αh38 : hp_T) (Hh38 : Heap) (Lh38 : List Loc) (Bh38 : hp_B Γ mo s α αh38 Hh38 Lh38) (σh38 : ms_T) (Mh38 : hm_M αh38 a0 ρ σh38) (v2_h38 : Int32) (v3_h38 : Int32) (ls : Array Slot) (hl : lv_has ls 5 [(0, .ref a0), (2, .int v2_h38), (3, .int v3_h38)]) (hf : f_X12_hear_J68 n (f_X12_hear_L35 n k35) σh38 v2_h38 v3_h38 = some res), W p l e (hp_rm 45 0 0) s m ([.ref a0, .int a1] : List Value).toArray below meth c Hh38 Lh38 0 0 (MQ below (hp_Qi Γ (fun r β => r = res.1 ∧ mo α β ∧ hm_M β a0 ρ res.2)) ([.ref a0, .int a1] : List Value).toArray s 0 0 (hp_A Γ)) (F0 m 68 ls [.ref a0]) := by
                intro αh38 Hh38 Lh38 Bh38 σh38 Mh38 v2_h38 v3_h38 ls hl hf
                unfold f_X12_hear_J68 at hf
                refine lv_iconst (v := 1) hx hb dX12_hear_68 (by decide) (hp_n (n := 69) rfl ?_)
                refine lv_goto (tgt := 73) hx hb dX12_hear_69 (by decide) ?_
                exact J73 αh38 Hh38 Lh38 Bh38 σh38 Mh38 v2_h38 v3_h38 (1 : Int32) ls (lv_sub hl [0, 1, 2] rfl) hf
              refine lv_if_ne (tgt := 68) hx hb dX12_hear_56 (by decide) (fun c39 => ?_) (fun c39 => hp_n (n := 59) rfl ?_)
              ·
                replace hf := ms_iF c39 hf
                exact J68 αh6 Hh19 Lh19 Bh19 σh6 Mh6 v2_h6 v3_h6 ls (lv_sub hl [0, 1, 2] rfl) hf
              ·
                replace hf := ms_iT c39 hf
                refine lv_aload_n hx hb dX12_hear_59 rfl (lv_at hl 0 rfl) (hp_n (n := 60) rfl ?_)
                refine lv_bipush (v := 7) hx hb dX12_hear_60 (by decide) (hp_n (n := 62) rfl ?_)
                obtain ⟨rh40, qh40, hf⟩ := ms_bE hf
                refine m_cp (pc' := 65) Bh19 (hp_runV (As := [.int (7 : Int32)]) (rest := [.ref a0]) C Bh19 (m_X12_isWord n Γ l αh6 a0 ρ σh6 Mh6 (7 : Int32) rh40 qh40) lb_X12_isWord lv_X12_isWord lk_X12_268 Mh6.1 rfl (by decide) rfl hl.1 rfl (Nat.le_of_ble_eq_true rfl) dX12_hear_62 ⟨Nat.le_refl _, Nat.le_refl _⟩) rfl (fun Hh40 Lh40 Bh40 => ?_)
                refine lv_if_eq (tgt := 72) hx hb dX12_hear_65 (by decide) (fun c41 => ?_) (fun c41 => hp_n (n := 68) rfl ?_)
                ·
                  replace hf := ms_iT c41 hf
                  refine lv_iconst (v := 0) hx hb dX12_hear_72 (by decide) (hp_n (n := 73) rfl ?_)
                  exact J73 αh6 Hh40 Lh40 Bh40 σh6 Mh6 v2_h6 v3_h6 (0 : Int32) ls (lv_sub hl [0, 1, 2] rfl) hf
                ·
                  replace hf := ms_iF c41 hf
                  exact J68 αh6 Hh40 Lh40 Bh40 σh6 Mh6 v2_h6 v3_h6 ls (lv_sub hl [0, 1, 2] rfl) hf
      refine lv_istore_n (lv' := [(3, .int (0 : Int32)), (2, .int (0 : Int32)), (0, .ref a0), (1, .int v1_h2)]) hx hb dX12_hear_34 rfl hl (by decide) rfl (fun ls hl => hp_n (n := 35) rfl ?_)
      exact J35 n αh5 Hh5 Lh5 Bh5 σh5 Mh5 (0 : Int32) (0 : Int32) ls (lv_sub hl [2, 1, 0] rfl) hf
    ·
      replace hf := ms_iT c4 hf
      refine lv_iconst (v := (-1)) hx hb dX12_hear_24 (by decide) (hp_n (n := 25) rfl ?_)
      cases hf
      exact q_iret C Bh3 hr hlk ⟨rfl, Bh3.2.2, Mh3⟩ dX12_hear_25
  refine lv_if_eq (tgt := 17) hx hb dX12_hear_10 (by decide) (fun c42 => ?_) (fun c42 => hp_n (n := 13) rfl ?_)
  ·
    replace hf := ms_iT c42 hf
    refine lv_iconst (v := 1) hx hb dX12_hear_17 (by decide) (hp_n (n := 18) rfl ?_)
    exact J18 α Hh1 Lh1 Bh1 σ hM a1 (1 : Int32) ls (lv_sub hl [0, 1] rfl) hf
  ·
    replace hf := ms_iF c42 hf
    refine lv_iconst (v := 0) hx hb dX12_hear_13 (by decide) (hp_n (n := 14) rfl ?_)
    refine lv_goto (tgt := 18) hx hb dX12_hear_14 (by decide) ?_
    exact J18 α Hh1 Lh1 Bh1 σ hM a1 (0 : Int32) ls (lv_sub hl [0, 1] rfl) hf
def f_X12_heard_J22 (n : Nat) (σh1 : ms_T) (v1_h1 : Int32) (w0_h1 : Int32) : Option (Int32 × ms_T) :=
  ms_c (f_X12_is n σh1 w0_h1) fun rh2 σh2 =>
  if rh2 = 0 then
    some ((-1 : Int32), σh2)
  else
    ms_g v1_h1 20 <|
    some ((ms_E σh2 49 (v1_h1).toNatClampNeg), σh2)
def f_X12_heard (n : Nat) (σ : ms_T) (a1 : Int32) : Option (Int32 × ms_T) :=
  if 0 ≤ a1 then
    if a1 < (ms_I σ 682) then
      f_X12_heard_J22 n σ a1 (0 : Int32)
    else
      f_X12_heard_J22 n σ a1 (5 : Int32)
  else
    f_X12_heard_J22 n σ a1 (1 : Int32)
set_option maxRecDepth 100000 in
set_option maxHeartbeats 4000000 in
theorem m_X12_heard (n : Nat) (Γ : hp_G) (l : Launch) (α : hp_T) (a0 : Nat) (ρ : Nat → Nat) (σ : ms_T) (hM : hm_M α a0 ρ σ) (a1 : Int32) (res : (Int32 × ms_T)) (hf : f_X12_heard n σ a1 = some res) : Met l yX12_heard (hp_ws yX12_heard cX12_heard 2 (some .int)) (hp_rm 1 0 0) (hp_Pc Γ α [.ref a0, .int a1]) (hp_Qi Γ (fun r β => r = res.1 ∧ mo α β ∧ hm_M β a0 ρ res.2)) 0 0 (hp_A Γ) := by
  unfold f_X12_heard at hf
  refine hp_start (by decide) ?_
  intro p e s m below meth c C hr hlk B0 hnm
  have C : hp_C Γ p m c cX12_heard 2 s ([.ref a0, .int a1] : List Value).toArray RX12 := C
  have hx := C.1.1
  have hb := C.1.2.1
  have hown := C.1.2.2.2.1
  have hts := C.1.2.2.2.2
  have B : hp_B Γ mo s α α s.heap [] := ⟨B0.1, B0.2.1, mo_rf⟩
  have hl := lv_entry ([.ref a0, .int a1]) (n := 2) (Nat.le_of_ble_eq_true rfl)
  show W p l e (hp_rm 1 0 0) s m ([.ref a0, .int a1] : List Value).toArray below meth c s.heap [] 0 0 (MQ below (hp_Qi Γ (fun r β => r = res.1 ∧ mo α β ∧ hm_M β a0 ρ res.2)) ([.ref a0, .int a1] : List Value).toArray s 0 0 (hp_A Γ)) (entryFrame m ([.ref a0, .int a1] : List Value).toArray 2)
  rw [lg_entry_eq]
  generalize (lg_sl ([.ref a0, .int a1]) ++ List.replicate (2 - (lg_sl ([.ref a0, .int a1])).length) Slot.unset).toArray = ls at hl ⊢
  have hl : lv_has ls 2 [(0, .ref a0), (1, .int a1)] := hl
  refine lv_aload_n hx hb dX12_heard_0 rfl (lv_at hl 0 rfl) (hp_n (n := 1) rfl ?_)
  refine lv_iload_n hx hb dX12_heard_1 rfl (lv_at hl 1 rfl) (hp_n (n := 2) rfl ?_)
  have J22 : ∀ (αh1 : hp_T) (Hh1 : Heap) (Lh1 : List Loc) (Bh1 : hp_B Γ mo s α αh1 Hh1 Lh1) (σh1 : ms_T) (Mh1 : hm_M αh1 a0 ρ σh1) (v1_h1 : Int32) (w0_h1 : Int32) (ls : Array Slot) (hl : lv_has ls 2 [(0, .ref a0), (1, .int v1_h1)]) (hf : f_X12_heard_J22 n σh1 v1_h1 w0_h1 = some res), W p l e (hp_rm 1 0 0) s m ([.ref a0, .int a1] : List Value).toArray below meth c Hh1 Lh1 0 0 (MQ below (hp_Qi Γ (fun r β => r = res.1 ∧ mo α β ∧ hm_M β a0 ρ res.2)) ([.ref a0, .int a1] : List Value).toArray s 0 0 (hp_A Γ)) (F0 m 22 ls [.int w0_h1, .ref a0]) := by
    intro αh1 Hh1 Lh1 Bh1 σh1 Mh1 v1_h1 w0_h1 ls hl hf
    unfold f_X12_heard_J22 at hf
    obtain ⟨rh2, σh2, qh2, hf⟩ := ms_cE hf
    refine m_ci (pc' := 25) (a := a0) (ρ := ρ) Bh1 (hp_runV (As := [.int w0_h1]) (rest := []) C Bh1 (m_X12_is n Γ l αh1 a0 ρ σh1 Mh1 w0_h1 (rh2, σh2) qh2) lb_X12_is lv_X12_is lk_X12_309 Mh1.1 rfl (by decide) rfl hl.1 rfl (Nat.le_of_ble_eq_true rfl) dX12_heard_22 ⟨Nat.le_refl _, Nat.le_refl _⟩) rfl (fun αh2 Hh2 Lh2 Bh2 Mh2 => ?_)
    refine lv_if_eq (tgt := 37) hx hb dX12_heard_25 (by decide) (fun c3 => ?_) (fun c3 => hp_n (n := 28) rfl ?_)
    ·
      replace hf := ms_iT c3 hf
      refine lv_iconst (v := (-1)) hx hb dX12_heard_37 (by decide) (hp_n (n := 38) rfl ?_)
      cases hf
      exact q_iret C Bh2 hr hlk ⟨rfl, Bh2.2.2, Mh2⟩ dX12_heard_38
    ·
      replace hf := ms_iF c3 hf
      refine lv_aload_n hx hb dX12_heard_28 rfl (lv_at hl 0 rfl) (hp_n (n := 29) rfl ?_)
      refine m_getr (κ := 49) (k := 30) (pc' := 32) C Bh2 Mh2 fl_X12_70 rfl (by decide) dX12_heard_29 rfl ?_
      refine lv_iload_n hx hb dX12_heard_32 rfl (lv_at hl 1 rfl) (hp_n (n := 33) rfl ?_)
      obtain ⟨g4, hf⟩ := ms_gE hf
      refine m_ial (κ := 49) (φ := 680) (n := 20) (pc' := 34) C Bh2 Mh2 (by decide) (by decide) rfl g4 dX12_heard_33 rfl ?_
      refine lv_goto (tgt := 38) hx hb dX12_heard_34 (by decide) ?_
      cases hf
      exact q_iret C Bh2 hr hlk ⟨rfl, Bh2.2.2, Mh2⟩ dX12_heard_38
  refine lv_if_ge (tgt := 9) hx hb dX12_heard_2 (by decide) (fun c5 => ?_) (fun c5 => hp_n (n := 5) rfl ?_)
  ·
    replace hf := ms_iT c5 hf
    refine lv_iload_n hx hb dX12_heard_9 rfl (lv_at hl 1 rfl) (hp_n (n := 10) rfl ?_)
    refine lv_aload_n hx hb dX12_heard_10 rfl (lv_at hl 0 rfl) (hp_n (n := 11) rfl ?_)
    refine m_geti (k := 32) (φ := 682) (pc' := 14) C B hM fl_X12_341 rfl rfl dX12_heard_11 rfl ?_
    refine lv_icmp_lt (tgt := 21) hx hb dX12_heard_14 (by decide) (fun c6 => ?_) (fun c6 => hp_n (n := 17) rfl ?_)
    ·
      replace hf := ms_iT c6 hf
      refine lv_iconst (v := 0) hx hb dX12_heard_21 (by decide) (hp_n (n := 22) rfl ?_)
      exact J22 α s.heap [] B σ hM a1 (0 : Int32) ls (lv_sub hl [0, 1] rfl) hf
    ·
      replace hf := ms_iF c6 hf
      refine lv_iconst (v := 5) hx hb dX12_heard_17 (by decide) (hp_n (n := 18) rfl ?_)
      refine lv_goto (tgt := 22) hx hb dX12_heard_18 (by decide) ?_
      exact J22 α s.heap [] B σ hM a1 (5 : Int32) ls (lv_sub hl [0, 1] rfl) hf
  ·
    replace hf := ms_iF c5 hf
    refine lv_iconst (v := 1) hx hb dX12_heard_5 (by decide) (hp_n (n := 6) rfl ?_)
    refine lv_goto (tgt := 22) hx hb dX12_heard_6 (by decide) ?_
    exact J22 α s.heap [] B σ hM a1 (1 : Int32) ls (lv_sub hl [0, 1] rfl) hf
def f_X12_fault (n : Nat) (σ : ms_T) (a1 : Int32) : Option (Int32 × ms_T) :=
  ms_l (ms_sI σ 653 (0 : Int32)) fun σh1 =>
  if a1 = 0 then
    some ((ms_I σh1 668), σh1)
  else
    if a1 = (1 : Int32) then
      some ((ms_I σh1 669), σh1)
    else
      some ((-1 : Int32), σh1)
set_option maxRecDepth 100000 in
set_option maxHeartbeats 4000000 in
theorem m_X12_fault (n : Nat) (Γ : hp_G) (l : Launch) (α : hp_T) (a0 : Nat) (ρ : Nat → Nat) (σ : ms_T) (hM : hm_M α a0 ρ σ) (a1 : Int32) (res : (Int32 × ms_T)) (hf : f_X12_fault n σ a1 = some res) : Met l yX12_fault (hp_ws yX12_fault cX12_fault 2 (some .int)) (hp_rm 0 0 0) (hp_Pc Γ α [.ref a0, .int a1]) (hp_Qi Γ (fun r β => r = res.1 ∧ mo α β ∧ hm_M β a0 ρ res.2)) 0 0 (hp_A Γ) := by
  unfold f_X12_fault at hf
  refine hp_start (by decide) ?_
  intro p e s m below meth c C hr hlk B0 hnm
  have C : hp_C Γ p m c cX12_fault 2 s ([.ref a0, .int a1] : List Value).toArray RX12 := C
  have hx := C.1.1
  have hb := C.1.2.1
  have hown := C.1.2.2.2.1
  have hts := C.1.2.2.2.2
  have B : hp_B Γ mo s α α s.heap [] := ⟨B0.1, B0.2.1, mo_rf⟩
  have hl := lv_entry ([.ref a0, .int a1]) (n := 2) (Nat.le_of_ble_eq_true rfl)
  show W p l e (hp_rm 0 0 0) s m ([.ref a0, .int a1] : List Value).toArray below meth c s.heap [] 0 0 (MQ below (hp_Qi Γ (fun r β => r = res.1 ∧ mo α β ∧ hm_M β a0 ρ res.2)) ([.ref a0, .int a1] : List Value).toArray s 0 0 (hp_A Γ)) (entryFrame m ([.ref a0, .int a1] : List Value).toArray 2)
  rw [lg_entry_eq]
  generalize (lg_sl ([.ref a0, .int a1]) ++ List.replicate (2 - (lg_sl ([.ref a0, .int a1])).length) Slot.unset).toArray = ls at hl ⊢
  have hl : lv_has ls 2 [(0, .ref a0), (1, .int a1)] := hl
  refine lv_aload_n hx hb dX12_fault_0 rfl (lv_at hl 0 rfl) (hp_n (n := 1) rfl ?_)
  refine lv_iconst (v := 0) hx hb dX12_fault_1 (by decide) (hp_n (n := 2) rfl ?_)
  refine m_puti (k := 3) (φ := 653) (pc' := 5) C B hM fl_X12_106 rfl rfl rfl rfl rfl dX12_fault_2 rfl (fun αh1 Hh1 Lh1 σh1 eh1 Bh1 Mh1 => ?_)
  replace hf := ms_lE eh1 hf
  refine lv_iload_n hx hb dX12_fault_5 rfl (lv_at hl 1 rfl) (hp_n (n := 6) rfl ?_)
  refine lv_if_ne (tgt := 16) hx hb dX12_fault_6 (by decide) (fun c2 => ?_) (fun c2 => hp_n (n := 9) rfl ?_)
  ·
    replace hf := ms_iF c2 hf
    refine lv_iload_n hx hb dX12_fault_16 rfl (lv_at hl 1 rfl) (hp_n (n := 17) rfl ?_)
    refine lv_iconst (v := 1) hx hb dX12_fault_17 (by decide) (hp_n (n := 18) rfl ?_)
    refine lv_icmp_ne (tgt := 28) hx hb dX12_fault_18 (by decide) (fun c3 => ?_) (fun c3 => hp_n (n := 21) rfl ?_)
    ·
      replace hf := ms_iF c3 hf
      refine lv_iconst (v := (-1)) hx hb dX12_fault_28 (by decide) (hp_n (n := 29) rfl ?_)
      cases hf
      exact q_iret C Bh1 hr hlk ⟨rfl, Bh1.2.2, Mh1⟩ dX12_fault_29
    ·
      replace hf := ms_iT c3 hf
      refine lv_aload_n hx hb dX12_fault_21 rfl (lv_at hl 0 rfl) (hp_n (n := 22) rfl ?_)
      refine m_geti (k := 19) (φ := 669) (pc' := 25) C Bh1 Mh1 fl_X12_39 rfl rfl dX12_fault_22 rfl ?_
      refine lv_goto (tgt := 29) hx hb dX12_fault_25 (by decide) ?_
      cases hf
      exact q_iret C Bh1 hr hlk ⟨rfl, Bh1.2.2, Mh1⟩ dX12_fault_29
  ·
    replace hf := ms_iT c2 hf
    refine lv_aload_n hx hb dX12_fault_9 rfl (lv_at hl 0 rfl) (hp_n (n := 10) rfl ?_)
    refine m_geti (k := 18) (φ := 668) (pc' := 13) C Bh1 Mh1 fl_X12_35 rfl rfl dX12_fault_10 rfl ?_
    refine lv_goto (tgt := 29) hx hb dX12_fault_13 (by decide) ?_
    cases hf
    exact q_iret C Bh1 hr hlk ⟨rfl, Bh1.2.2, Mh1⟩ dX12_fault_29
def f_X12_many_L39 (n : Nat) : Nat → ms_T → Int32 → Int32 → Option (Int32 × ms_T)
  | 0, _, _, _ => none
  | k39 + 1, σh6, v2_h6, v3_h6 =>
    if (4 : Int32) ≤ v3_h6 then
      some (v2_h6, σh6)
    else
      ms_b (f_X12_trust n σh6 v3_h6 (2 : Int32)) fun rh8 =>
      ms_l ((v2_h6 ||| (rh8 <<< (v3_h6 &&& 31)))) fun x9 =>
      ms_l (v3_h6 + 1) fun x10 =>
      (f_X12_many_L39 n k39) σh6 x9 x10
def f_X12_many_J15 (n : Nat) (σh2 : ms_T) (v1_h2 : Int32) (w0_h2 : Int32) : Option (Int32 × ms_T) :=
  ms_c (f_X12_is n σh2 w0_h2) fun rh3 σh3 =>
  if rh3 = 0 then
    some ((-1 : Int32), σh3)
  else
    if (5 : Int32) ≤ v1_h2 then
      f_X12_many_L39 n n σh3 (0 : Int32) (0 : Int32)
    else
      ms_g v1_h2 1980 <|
      some ((ms_E σh3 40 (v1_h2).toNatClampNeg), σh3)
def f_X12_many (n : Nat) (σ : ms_T) (a1 : Int32) : Option (Int32 × ms_T) :=
  ms_b (f_X12_isIn n a1 (0 : Int32) (5 : Int32)) fun rh1 =>
  if rh1 = 0 then
    f_X12_many_J15 n σ a1 (1 : Int32)
  else
    f_X12_many_J15 n σ a1 (0 : Int32)
set_option maxRecDepth 100000 in
set_option maxHeartbeats 4000000 in
theorem m_X12_many (n : Nat) (Γ : hp_G) (l : Launch) (α : hp_T) (a0 : Nat) (ρ : Nat → Nat) (σ : ms_T) (hM : hm_M α a0 ρ σ) (a1 : Int32) (res : (Int32 × ms_T)) (hf : f_X12_many n σ a1 = some res) : Met l yX12_many (hp_ws yX12_many cX12_many 4 (some .int)) (hp_rm 1 0 0) (hp_Pc Γ α [.ref a0, .int a1]) (hp_Qi Γ (fun r β => r = res.1 ∧ mo α β ∧ hm_M β a0 ρ res.2)) 0 0 (hp_A Γ) := by
  unfold f_X12_many at hf
  refine hp_start (by decide) ?_
  intro p e s m below meth c C hr hlk B0 hnm
  have C : hp_C Γ p m c cX12_many 4 s ([.ref a0, .int a1] : List Value).toArray RX12 := C
  have hx := C.1.1
  have hb := C.1.2.1
  have hown := C.1.2.2.2.1
  have hts := C.1.2.2.2.2
  have B : hp_B Γ mo s α α s.heap [] := ⟨B0.1, B0.2.1, mo_rf⟩
  have hl := lv_entry ([.ref a0, .int a1]) (n := 4) (Nat.le_of_ble_eq_true rfl)
  show W p l e (hp_rm 1 0 0) s m ([.ref a0, .int a1] : List Value).toArray below meth c s.heap [] 0 0 (MQ below (hp_Qi Γ (fun r β => r = res.1 ∧ mo α β ∧ hm_M β a0 ρ res.2)) ([.ref a0, .int a1] : List Value).toArray s 0 0 (hp_A Γ)) (entryFrame m ([.ref a0, .int a1] : List Value).toArray 4)
  rw [lg_entry_eq]
  generalize (lg_sl ([.ref a0, .int a1]) ++ List.replicate (4 - (lg_sl ([.ref a0, .int a1])).length) Slot.unset).toArray = ls at hl ⊢
  have hl : lv_has ls 4 [(0, .ref a0), (1, .int a1)] := hl
  refine lv_aload_n hx hb dX12_many_0 rfl (lv_at hl 0 rfl) (hp_n (n := 1) rfl ?_)
  refine lv_iload_n hx hb dX12_many_1 rfl (lv_at hl 1 rfl) (hp_n (n := 2) rfl ?_)
  refine lv_iconst (v := 0) hx hb dX12_many_2 (by decide) (hp_n (n := 3) rfl ?_)
  refine lv_iconst (v := 5) hx hb dX12_many_3 (by decide) (hp_n (n := 4) rfl ?_)
  obtain ⟨rh1, qh1, hf⟩ := ms_bE hf
  refine m_cp (pc' := 7) B (hp_runS (As := [.int a1, .int (0 : Int32), .int (5 : Int32)]) (rest := [.ref a0]) C B (m_X12_isIn n Γ l α a1 (0 : Int32) (5 : Int32) rh1 qh1) lb_X12_isIn ls_X12_isIn lk_X12_113 rfl (by decide) rfl hl.1 rfl (Nat.le_of_ble_eq_true rfl) dX12_many_4 ⟨Nat.le_refl _, Nat.le_refl _⟩) rfl (fun Hh1 Lh1 Bh1 => ?_)
  have J15 : ∀ (αh2 : hp_T) (Hh2 : Heap) (Lh2 : List Loc) (Bh2 : hp_B Γ mo s α αh2 Hh2 Lh2) (σh2 : ms_T) (Mh2 : hm_M αh2 a0 ρ σh2) (v1_h2 : Int32) (w0_h2 : Int32) (ls : Array Slot) (hl : lv_has ls 4 [(0, .ref a0), (1, .int v1_h2)]) (hf : f_X12_many_J15 n σh2 v1_h2 w0_h2 = some res), W p l e (hp_rm 1 0 0) s m ([.ref a0, .int a1] : List Value).toArray below meth c Hh2 Lh2 0 0 (MQ below (hp_Qi Γ (fun r β => r = res.1 ∧ mo α β ∧ hm_M β a0 ρ res.2)) ([.ref a0, .int a1] : List Value).toArray s 0 0 (hp_A Γ)) (F0 m 15 ls [.int w0_h2, .ref a0]) := by
    intro αh2 Hh2 Lh2 Bh2 σh2 Mh2 v1_h2 w0_h2 ls hl hf
    unfold f_X12_many_J15 at hf
    obtain ⟨rh3, σh3, qh3, hf⟩ := ms_cE hf
    refine m_ci (pc' := 18) (a := a0) (ρ := ρ) Bh2 (hp_runV (As := [.int w0_h2]) (rest := []) C Bh2 (m_X12_is n Γ l αh2 a0 ρ σh2 Mh2 w0_h2 (rh3, σh3) qh3) lb_X12_is lv_X12_is lk_X12_309 Mh2.1 rfl (by decide) rfl hl.1 rfl (Nat.le_of_ble_eq_true rfl) dX12_many_15 ⟨Nat.le_refl _, Nat.le_refl _⟩) rfl (fun αh3 Hh3 Lh3 Bh3 Mh3 => ?_)
    refine lv_if_ne (tgt := 23) hx hb dX12_many_18 (by decide) (fun c4 => ?_) (fun c4 => hp_n (n := 21) rfl ?_)
    ·
      replace hf := ms_iF c4 hf
      refine lv_iload_n hx hb dX12_many_23 rfl (lv_at hl 1 rfl) (hp_n (n := 24) rfl ?_)
      refine lv_iconst (v := 5) hx hb dX12_many_24 (by decide) (hp_n (n := 25) rfl ?_)
      refine lv_icmp_ge (tgt := 35) hx hb dX12_many_25 (by decide) (fun c5 => ?_) (fun c5 => hp_n (n := 28) rfl ?_)
      ·
        replace hf := ms_iT c5 hf
        refine lv_iconst (v := 0) hx hb dX12_many_35 (by decide) (hp_n (n := 36) rfl ?_)
        refine lv_istore_n (lv' := [(2, .int (0 : Int32)), (0, .ref a0), (1, .int v1_h2)]) hx hb dX12_many_36 rfl hl (by decide) rfl (fun ls hl => hp_n (n := 37) rfl ?_)
        refine lv_iconst (v := 0) hx hb dX12_many_37 (by decide) (hp_n (n := 38) rfl ?_)
        have J39 : ∀ (k39 : Nat) (αh6 : hp_T) (Hh6 : Heap) (Lh6 : List Loc) (Bh6 : hp_B Γ mo s α αh6 Hh6 Lh6) (σh6 : ms_T) (Mh6 : hm_M αh6 a0 ρ σh6) (v2_h6 : Int32) (v3_h6 : Int32) (ls : Array Slot) (hl : lv_has ls 4 [(0, .ref a0), (2, .int v2_h6), (3, .int v3_h6)]) (hf : f_X12_many_L39 n k39 σh6 v2_h6 v3_h6 = some res), W p l e (hp_rm 1 0 0) s m ([.ref a0, .int a1] : List Value).toArray below meth c Hh6 Lh6 0 0 (MQ below (hp_Qi Γ (fun r β => r = res.1 ∧ mo α β ∧ hm_M β a0 ρ res.2)) ([.ref a0, .int a1] : List Value).toArray s 0 0 (hp_A Γ)) (F0 m 39 ls []) := by
          intro k39
          induction k39 with
          | zero => intro αh6 Hh6 Lh6 Bh6 σh6 Mh6 v2_h6 v3_h6 ls hl hf; rw [f_X12_many_L39.eq_1] at hf; cases hf
          | succ k39 ih39 =>
            intro αh6 Hh6 Lh6 Bh6 σh6 Mh6 v2_h6 v3_h6 ls hl hf
            rw [f_X12_many_L39.eq_2] at hf
            refine lv_iload_n hx hb dX12_many_39 rfl (lv_at hl 2 rfl) (hp_n (n := 40) rfl ?_)
            refine lv_iconst (v := 4) hx hb dX12_many_40 (by decide) (hp_n (n := 41) rfl ?_)
            refine lv_icmp_ge (tgt := 61) hx hb dX12_many_41 (by decide) (fun c7 => ?_) (fun c7 => hp_n (n := 44) rfl ?_)
            ·
              replace hf := ms_iT c7 hf
              refine lv_iload_n hx hb dX12_many_61 rfl (lv_at hl 1 rfl) (hp_n (n := 62) rfl ?_)
              cases hf
              exact q_iret C Bh6 hr hlk ⟨rfl, Bh6.2.2, Mh6⟩ dX12_many_62
            ·
              replace hf := ms_iF c7 hf
              refine lv_iload_n hx hb dX12_many_44 rfl (lv_at hl 1 rfl) (hp_n (n := 45) rfl ?_)
              refine lv_aload_n hx hb dX12_many_45 rfl (lv_at hl 0 rfl) (hp_n (n := 46) rfl ?_)
              refine lv_iload_n hx hb dX12_many_46 rfl (lv_at hl 2 rfl) (hp_n (n := 47) rfl ?_)
              refine lv_iconst (v := 2) hx hb dX12_many_47 (by decide) (hp_n (n := 48) rfl ?_)
              obtain ⟨rh8, qh8, hf⟩ := ms_bE hf
              refine m_cp (pc' := 51) Bh6 (hp_runV (As := [.int v3_h6, .int (2 : Int32)]) (rest := [.int v2_h6]) C Bh6 (m_X12_trust n Γ l αh6 a0 ρ σh6 Mh6 v3_h6 (2 : Int32) rh8 qh8) lb_X12_trust lv_X12_trust lk_X12_221 Mh6.1 rfl (by decide) rfl hl.1 rfl (Nat.le_of_ble_eq_true rfl) dX12_many_48 ⟨Nat.le_refl _, Nat.le_refl _⟩) rfl (fun Hh8 Lh8 Bh8 => ?_)
              refine lv_iload_n hx hb dX12_many_51 rfl (lv_at hl 2 rfl) (hp_n (n := 52) rfl ?_)
              refine lv_ishl hx hb dX12_many_52 (hp_n (n := 53) rfl ?_)
              refine lv_ior hx hb dX12_many_53 (hp_n (n := 54) rfl ?_)
              refine lv_topi (fun x9 ex9 => ?_)
              replace hf := ms_lE ex9 hf
              refine lv_istore_n (lv' := [(2, .int x9), (0, .ref a0), (3, .int v3_h6)]) hx hb dX12_many_54 rfl hl (by decide) rfl (fun ls hl => hp_n (n := 55) rfl ?_)
              obtain ⟨x10, ex10⟩ : ∃ y : Int32, y = v3_h6 + 1 := ⟨_, rfl⟩
              replace hf := ms_lE ex10 hf
              refine lv_iinc (v := x10) (lv' := [(3, .int x10), (2, .int x9), (0, .ref a0)]) hx hb dX12_many_55 hl (k := 2) rfl (by rw [ex10]; rfl) (by decide) rfl (fun ls hl => hp_n (n := 58) rfl ?_)
              refine lv_goto (tgt := 39) hx hb dX12_many_58 (by decide) ?_
              exact ih39 αh6 Hh8 Lh8 Bh8 σh6 Mh6 x9 x10 ls (lv_sub hl [2, 1, 0] rfl) hf
        refine lv_istore_n (lv' := [(3, .int (0 : Int32)), (2, .int (0 : Int32)), (0, .ref a0), (1, .int v1_h2)]) hx hb dX12_many_38 rfl hl (by decide) rfl (fun ls hl => hp_n (n := 39) rfl ?_)
        exact J39 n αh3 Hh3 Lh3 Bh3 σh3 Mh3 (0 : Int32) (0 : Int32) ls (lv_sub hl [2, 1, 0] rfl) hf
      ·
        replace hf := ms_iF c5 hf
        refine lv_aload_n hx hb dX12_many_28 rfl (lv_at hl 0 rfl) (hp_n (n := 29) rfl ?_)
        refine m_getr (κ := 40) (k := 0) (pc' := 32) C Bh3 Mh3 fl_X12_7 rfl (by decide) dX12_many_29 rfl ?_
        refine lv_iload_n hx hb dX12_many_32 rfl (lv_at hl 1 rfl) (hp_n (n := 33) rfl ?_)
        obtain ⟨g11, hf⟩ := ms_gE hf
        refine m_ial (κ := 40) (φ := 650) (n := 1980) (pc' := 34) C Bh3 Mh3 (by decide) (by decide) rfl g11 dX12_many_33 rfl ?_
        cases hf
        exact q_iret C Bh3 hr hlk ⟨rfl, Bh3.2.2, Mh3⟩ dX12_many_34
    ·
      replace hf := ms_iT c4 hf
      refine lv_iconst (v := (-1)) hx hb dX12_many_21 (by decide) (hp_n (n := 22) rfl ?_)
      cases hf
      exact q_iret C Bh3 hr hlk ⟨rfl, Bh3.2.2, Mh3⟩ dX12_many_22
  refine lv_if_eq (tgt := 14) hx hb dX12_many_7 (by decide) (fun c12 => ?_) (fun c12 => hp_n (n := 10) rfl ?_)
  ·
    replace hf := ms_iT c12 hf
    refine lv_iconst (v := 1) hx hb dX12_many_14 (by decide) (hp_n (n := 15) rfl ?_)
    exact J15 α Hh1 Lh1 Bh1 σ hM a1 (1 : Int32) ls (lv_sub hl [0, 1] rfl) hf
  ·
    replace hf := ms_iF c12 hf
    refine lv_iconst (v := 0) hx hb dX12_many_10 (by decide) (hp_n (n := 11) rfl ?_)
    refine lv_goto (tgt := 15) hx hb dX12_many_11 (by decide) ?_
    exact J15 α Hh1 Lh1 Bh1 σ hM a1 (0 : Int32) ls (lv_sub hl [0, 1] rfl) hf
def f_X12_size_J14 (n : Nat) (σh2 : ms_T) (v1_h2 : Int32) (w0_h2 : Int32) : Option (Int32 × ms_T) :=
  ms_c (f_X12_is n σh2 w0_h2) fun rh3 σh3 =>
  if rh3 = 0 then
    some ((-1 : Int32), σh3)
  else
    ms_b (f_X12_sizeOf n σh3 v1_h2) fun rh5 =>
    some (rh5, σh3)
def f_X12_size (n : Nat) (σ : ms_T) (a1 : Int32) : Option (Int32 × ms_T) :=
  ms_b (f_X12_isRecord n σ a1) fun rh1 =>
  if rh1 = 0 then
    f_X12_size_J14 n σ a1 (2 : Int32)
  else
    f_X12_size_J14 n σ a1 (0 : Int32)
set_option maxRecDepth 100000 in
set_option maxHeartbeats 4000000 in
theorem m_X12_size (n : Nat) (Γ : hp_G) (l : Launch) (α : hp_T) (a0 : Nat) (ρ : Nat → Nat) (σ : ms_T) (hM : hm_M α a0 ρ σ) (a1 : Int32) (res : (Int32 × ms_T)) (hf : f_X12_size n σ a1 = some res) : Met l yX12_size (hp_ws yX12_size cX12_size 2 (some .int)) (hp_rm 2 0 0) (hp_Pc Γ α [.ref a0, .int a1]) (hp_Qi Γ (fun r β => r = res.1 ∧ mo α β ∧ hm_M β a0 ρ res.2)) 0 0 (hp_A Γ) := by
  unfold f_X12_size at hf
  refine hp_start (by decide) ?_
  intro p e s m below meth c C hr hlk B0 hnm
  have C : hp_C Γ p m c cX12_size 2 s ([.ref a0, .int a1] : List Value).toArray RX12 := C
  have hx := C.1.1
  have hb := C.1.2.1
  have hown := C.1.2.2.2.1
  have hts := C.1.2.2.2.2
  have B : hp_B Γ mo s α α s.heap [] := ⟨B0.1, B0.2.1, mo_rf⟩
  have hl := lv_entry ([.ref a0, .int a1]) (n := 2) (Nat.le_of_ble_eq_true rfl)
  show W p l e (hp_rm 2 0 0) s m ([.ref a0, .int a1] : List Value).toArray below meth c s.heap [] 0 0 (MQ below (hp_Qi Γ (fun r β => r = res.1 ∧ mo α β ∧ hm_M β a0 ρ res.2)) ([.ref a0, .int a1] : List Value).toArray s 0 0 (hp_A Γ)) (entryFrame m ([.ref a0, .int a1] : List Value).toArray 2)
  rw [lg_entry_eq]
  generalize (lg_sl ([.ref a0, .int a1]) ++ List.replicate (2 - (lg_sl ([.ref a0, .int a1])).length) Slot.unset).toArray = ls at hl ⊢
  have hl : lv_has ls 2 [(0, .ref a0), (1, .int a1)] := hl
  refine lv_aload_n hx hb dX12_size_0 rfl (lv_at hl 0 rfl) (hp_n (n := 1) rfl ?_)
  refine lv_aload_n hx hb dX12_size_1 rfl (lv_at hl 0 rfl) (hp_n (n := 2) rfl ?_)
  refine lv_iload_n hx hb dX12_size_2 rfl (lv_at hl 1 rfl) (hp_n (n := 3) rfl ?_)
  obtain ⟨rh1, qh1, hf⟩ := ms_bE hf
  refine m_cp (pc' := 6) B (hp_runV (As := [.int a1]) (rest := [.ref a0]) C B (m_X12_isRecord n Γ l α a0 ρ σ hM a1 rh1 qh1) lb_X12_isRecord lv_X12_isRecord lk_X12_344 hM.1 rfl (by decide) rfl hl.1 rfl (Nat.le_of_ble_eq_true rfl) dX12_size_3 ⟨Nat.le_refl _, Nat.le_refl _⟩) rfl (fun Hh1 Lh1 Bh1 => ?_)
  have J14 : ∀ (αh2 : hp_T) (Hh2 : Heap) (Lh2 : List Loc) (Bh2 : hp_B Γ mo s α αh2 Hh2 Lh2) (σh2 : ms_T) (Mh2 : hm_M αh2 a0 ρ σh2) (v1_h2 : Int32) (w0_h2 : Int32) (ls : Array Slot) (hl : lv_has ls 2 [(0, .ref a0), (1, .int v1_h2)]) (hf : f_X12_size_J14 n σh2 v1_h2 w0_h2 = some res), W p l e (hp_rm 2 0 0) s m ([.ref a0, .int a1] : List Value).toArray below meth c Hh2 Lh2 0 0 (MQ below (hp_Qi Γ (fun r β => r = res.1 ∧ mo α β ∧ hm_M β a0 ρ res.2)) ([.ref a0, .int a1] : List Value).toArray s 0 0 (hp_A Γ)) (F0 m 14 ls [.int w0_h2, .ref a0]) := by
    intro αh2 Hh2 Lh2 Bh2 σh2 Mh2 v1_h2 w0_h2 ls hl hf
    unfold f_X12_size_J14 at hf
    obtain ⟨rh3, σh3, qh3, hf⟩ := ms_cE hf
    refine m_ci (pc' := 17) (a := a0) (ρ := ρ) Bh2 (hp_runV (As := [.int w0_h2]) (rest := []) C Bh2 (m_X12_is n Γ l αh2 a0 ρ σh2 Mh2 w0_h2 (rh3, σh3) qh3) lb_X12_is lv_X12_is lk_X12_309 Mh2.1 rfl (by decide) rfl hl.1 rfl (Nat.le_of_ble_eq_true rfl) dX12_size_14 ⟨Nat.le_refl _, Nat.le_refl _⟩) rfl (fun αh3 Hh3 Lh3 Bh3 Mh3 => ?_)
    refine lv_if_eq (tgt := 28) hx hb dX12_size_17 (by decide) (fun c4 => ?_) (fun c4 => hp_n (n := 20) rfl ?_)
    ·
      replace hf := ms_iT c4 hf
      refine lv_iconst (v := (-1)) hx hb dX12_size_28 (by decide) (hp_n (n := 29) rfl ?_)
      cases hf
      exact q_iret C Bh3 hr hlk ⟨rfl, Bh3.2.2, Mh3⟩ dX12_size_29
    ·
      replace hf := ms_iF c4 hf
      refine lv_aload_n hx hb dX12_size_20 rfl (lv_at hl 0 rfl) (hp_n (n := 21) rfl ?_)
      refine lv_iload_n hx hb dX12_size_21 rfl (lv_at hl 1 rfl) (hp_n (n := 22) rfl ?_)
      obtain ⟨rh5, qh5, hf⟩ := ms_bE hf
      refine m_cp (pc' := 25) Bh3 (hp_runV (As := [.int v1_h2]) (rest := []) C Bh3 (m_X12_sizeOf n Γ l αh3 a0 ρ σh3 Mh3 v1_h2 rh5 qh5) lb_X12_sizeOf lv_X12_sizeOf lk_X12_209 Mh3.1 rfl (by decide) rfl hl.1 rfl (Nat.le_of_ble_eq_true rfl) dX12_size_22 ⟨Nat.le_refl _, Nat.le_refl _⟩) rfl (fun Hh5 Lh5 Bh5 => ?_)
      refine lv_goto (tgt := 29) hx hb dX12_size_25 (by decide) ?_
      cases hf
      exact q_iret C Bh5 hr hlk ⟨rfl, Bh5.2.2, Mh3⟩ dX12_size_29
  refine lv_if_eq (tgt := 13) hx hb dX12_size_6 (by decide) (fun c6 => ?_) (fun c6 => hp_n (n := 9) rfl ?_)
  ·
    replace hf := ms_iT c6 hf
    refine lv_iconst (v := 2) hx hb dX12_size_13 (by decide) (hp_n (n := 14) rfl ?_)
    exact J14 α Hh1 Lh1 Bh1 σ hM a1 (2 : Int32) ls (lv_sub hl [0, 1] rfl) hf
  ·
    replace hf := ms_iF c6 hf
    refine lv_iconst (v := 0) hx hb dX12_size_9 (by decide) (hp_n (n := 10) rfl ?_)
    refine lv_goto (tgt := 14) hx hb dX12_size_10 (by decide) ?_
    exact J14 α Hh1 Lh1 Bh1 σ hM a1 (0 : Int32) ls (lv_sub hl [0, 1] rfl) hf
def f_X12_entry_J39 (n : Nat) (σh1 : ms_T) (v1_h1 : Int32) (v2_h1 : Int32) (v3_h1 : Int32) (w0_h1 : Int32) : Option (Int32 × ms_T) :=
  ms_c (f_X12_is n σh1 w0_h1) fun rh2 σh2 =>
  if rh2 = 0 then
    some ((-1 : Int32), σh2)
  else
    ms_l ((((48 : Int32) * v1_h1) + v2_h1)) fun x4 =>
    if (2 : Int32) ≤ v3_h1 then
      ms_g ((252 : Int32) + x4) 1980 <|
      if (ms_E σh2 40 (((252 : Int32) + x4)).toNatClampNeg) ≤ (v3_h1 - (2 : Int32)) then
        ms_c (f_X12_refuse n σh2 (5 : Int32)) fun rh8 σh8 =>
        some (rh8, σh8)
      else
        ms_g ((((444 : Int32) + ((8 : Int32) * x4)) + v3_h1) - (2 : Int32)) 1980 <|
        some ((ms_E σh2 40 (((((444 : Int32) + ((8 : Int32) * x4)) + v3_h1) - (2 : Int32))).toNatClampNeg), σh2)
    else
      if v3_h1 = 0 then
        ms_g ((252 : Int32) + x4) 1980 <|
        some ((ms_E σh2 40 (((252 : Int32) + x4)).toNatClampNeg), σh2)
      else
        ms_b (f_X12_entryMark n σh2 v1_h1 v2_h1) fun rh11 =>
        some (rh11, σh2)
def f_X12_entry_J9 (n : Nat) (σh13 : ms_T) (v1_h13 : Int32) (v2_h13 : Int32) (v3_h13 : Int32) : Option (Int32 × ms_T) :=
  f_X12_entry_J39 n σh13 v1_h13 v2_h13 v3_h13 (1 : Int32)
def f_X12_entry (n : Nat) (σ : ms_T) (a1 : Int32) (a2 : Int32) (a3 : Int32) : Option (Int32 × ms_T) :=
  if a2 < 0 then
    f_X12_entry_J9 n σ a1 a2 a3
  else
    if 0 ≤ a3 then
      ms_b (f_X12_isRecord n σ a1) fun rh16 =>
      if rh16 = 0 then
        f_X12_entry_J39 n σ a1 a2 a3 (2 : Int32)
      else
        ms_b (f_X12_sizeOf n σ a1) fun rh18 =>
        if a2 < rh18 then
          f_X12_entry_J39 n σ a1 a2 a3 (0 : Int32)
        else
          f_X12_entry_J39 n σ a1 a2 a3 (5 : Int32)
    else
      f_X12_entry_J9 n σ a1 a2 a3
set_option maxRecDepth 100000 in
set_option maxHeartbeats 4000000 in
theorem m_X12_entry (n : Nat) (Γ : hp_G) (l : Launch) (α : hp_T) (a0 : Nat) (ρ : Nat → Nat) (σ : ms_T) (hM : hm_M α a0 ρ σ) (a1 : Int32) (a2 : Int32) (a3 : Int32) (res : (Int32 × ms_T)) (hf : f_X12_entry n σ a1 a2 a3 = some res) : Met l yX12_entry (hp_ws yX12_entry cX12_entry 5 (some .int)) (hp_rm 2 0 0) (hp_Pc Γ α [.ref a0, .int a1, .int a2, .int a3]) (hp_Qi Γ (fun r β => r = res.1 ∧ mo α β ∧ hm_M β a0 ρ res.2)) 0 0 (hp_A Γ) := by
  unfold f_X12_entry at hf
  refine hp_start (by decide) ?_
  intro p e s m below meth c C hr hlk B0 hnm
  have C : hp_C Γ p m c cX12_entry 5 s ([.ref a0, .int a1, .int a2, .int a3] : List Value).toArray RX12 := C
  have hx := C.1.1
  have hb := C.1.2.1
  have hown := C.1.2.2.2.1
  have hts := C.1.2.2.2.2
  have B : hp_B Γ mo s α α s.heap [] := ⟨B0.1, B0.2.1, mo_rf⟩
  have hl := lv_entry ([.ref a0, .int a1, .int a2, .int a3]) (n := 5) (Nat.le_of_ble_eq_true rfl)
  show W p l e (hp_rm 2 0 0) s m ([.ref a0, .int a1, .int a2, .int a3] : List Value).toArray below meth c s.heap [] 0 0 (MQ below (hp_Qi Γ (fun r β => r = res.1 ∧ mo α β ∧ hm_M β a0 ρ res.2)) ([.ref a0, .int a1, .int a2, .int a3] : List Value).toArray s 0 0 (hp_A Γ)) (entryFrame m ([.ref a0, .int a1, .int a2, .int a3] : List Value).toArray 5)
  rw [lg_entry_eq]
  generalize (lg_sl ([.ref a0, .int a1, .int a2, .int a3]) ++ List.replicate (5 - (lg_sl ([.ref a0, .int a1, .int a2, .int a3])).length) Slot.unset).toArray = ls at hl ⊢
  have hl : lv_has ls 5 [(0, .ref a0), (1, .int a1), (2, .int a2), (3, .int a3)] := hl
  refine lv_aload_n hx hb dX12_entry_0 rfl (lv_at hl 0 rfl) (hp_n (n := 1) rfl ?_)
  refine lv_iload_n hx hb dX12_entry_1 rfl (lv_at hl 2 rfl) (hp_n (n := 2) rfl ?_)
  have J39 : ∀ (αh1 : hp_T) (Hh1 : Heap) (Lh1 : List Loc) (Bh1 : hp_B Γ mo s α αh1 Hh1 Lh1) (σh1 : ms_T) (Mh1 : hm_M αh1 a0 ρ σh1) (v1_h1 : Int32) (v2_h1 : Int32) (v3_h1 : Int32) (w0_h1 : Int32) (ls : Array Slot) (hl : lv_has ls 5 [(0, .ref a0), (1, .int v1_h1), (2, .int v2_h1), (3, .int v3_h1)]) (hf : f_X12_entry_J39 n σh1 v1_h1 v2_h1 v3_h1 w0_h1 = some res), W p l e (hp_rm 2 0 0) s m ([.ref a0, .int a1, .int a2, .int a3] : List Value).toArray below meth c Hh1 Lh1 0 0 (MQ below (hp_Qi Γ (fun r β => r = res.1 ∧ mo α β ∧ hm_M β a0 ρ res.2)) ([.ref a0, .int a1, .int a2, .int a3] : List Value).toArray s 0 0 (hp_A Γ)) (F0 m 39 ls [.int w0_h1, .ref a0]) := by
    intro αh1 Hh1 Lh1 Bh1 σh1 Mh1 v1_h1 v2_h1 v3_h1 w0_h1 ls hl hf
    unfold f_X12_entry_J39 at hf
    obtain ⟨rh2, σh2, qh2, hf⟩ := ms_cE hf
    refine m_ci (pc' := 42) (a := a0) (ρ := ρ) Bh1 (hp_runV (As := [.int w0_h1]) (rest := []) C Bh1 (m_X12_is n Γ l αh1 a0 ρ σh1 Mh1 w0_h1 (rh2, σh2) qh2) lb_X12_is lv_X12_is lk_X12_309 Mh1.1 rfl (by decide) rfl hl.1 rfl (Nat.le_of_ble_eq_true rfl) dX12_entry_39 ⟨Nat.le_refl _, Nat.le_refl _⟩) rfl (fun αh2 Hh2 Lh2 Bh2 Mh2 => ?_)
    refine lv_if_ne (tgt := 47) hx hb dX12_entry_42 (by decide) (fun c3 => ?_) (fun c3 => hp_n (n := 45) rfl ?_)
    ·
      replace hf := ms_iF c3 hf
      refine lv_bipush (v := 48) hx hb dX12_entry_47 (by decide) (hp_n (n := 49) rfl ?_)
      refine lv_iload_n hx hb dX12_entry_49 rfl (lv_at hl 1 rfl) (hp_n (n := 50) rfl ?_)
      refine lv_imul hx hb dX12_entry_50 (hp_n (n := 51) rfl ?_)
      refine lv_iload_n hx hb dX12_entry_51 rfl (lv_at hl 2 rfl) (hp_n (n := 52) rfl ?_)
      refine lv_iadd hx hb dX12_entry_52 (hp_n (n := 53) rfl ?_)
      refine lv_topi (fun x4 ex4 => ?_)
      replace hf := ms_lE ex4 hf
      refine lv_istore (lv' := [(4, .int x4), (0, .ref a0), (1, .int v1_h1), (2, .int v2_h1), (3, .int v3_h1)]) hx hb dX12_entry_53 hl (by decide) rfl (fun ls hl => hp_n (n := 55) rfl ?_)
      refine lv_iload_n hx hb dX12_entry_55 rfl (lv_at hl 4 rfl) (hp_n (n := 56) rfl ?_)
      refine lv_iconst (v := 2) hx hb dX12_entry_56 (by decide) (hp_n (n := 57) rfl ?_)
      refine lv_icmp_ge (tgt := 85) hx hb dX12_entry_57 (by decide) (fun c5 => ?_) (fun c5 => hp_n (n := 60) rfl ?_)
      ·
        replace hf := ms_iT c5 hf
        refine lv_iload_n hx hb dX12_entry_85 rfl (lv_at hl 4 rfl) (hp_n (n := 86) rfl ?_)
        refine lv_iconst (v := 2) hx hb dX12_entry_86 (by decide) (hp_n (n := 87) rfl ?_)
        refine lv_isub hx hb dX12_entry_87 (hp_n (n := 88) rfl ?_)
        refine lv_aload_n hx hb dX12_entry_88 rfl (lv_at hl 1 rfl) (hp_n (n := 89) rfl ?_)
        refine m_getr (κ := 40) (k := 0) (pc' := 92) C Bh2 Mh2 fl_X12_7 rfl (by decide) dX12_entry_89 rfl ?_
        refine lv_sipush (v := 252) hx hb dX12_entry_92 (by decide) (hp_n (n := 95) rfl ?_)
        refine lv_iload hx hb dX12_entry_95 (lv_at hl 0 rfl) (hp_n (n := 97) rfl ?_)
        refine lv_iadd hx hb dX12_entry_97 (hp_n (n := 98) rfl ?_)
        obtain ⟨g6, hf⟩ := ms_gE hf
        refine m_ial (κ := 40) (φ := 650) (n := 1980) (pc' := 99) C Bh2 Mh2 (by decide) (by decide) rfl g6 dX12_entry_98 rfl ?_
        refine lv_icmp_ge (tgt := 123) hx hb dX12_entry_99 (by decide) (fun c7 => ?_) (fun c7 => hp_n (n := 102) rfl ?_)
        ·
          replace hf := ms_iT c7 hf
          refine lv_aload_n hx hb dX12_entry_123 rfl (lv_at hl 1 rfl) (hp_n (n := 124) rfl ?_)
          refine lv_iconst (v := 5) hx hb dX12_entry_124 (by decide) (hp_n (n := 125) rfl ?_)
          obtain ⟨rh8, σh8, qh8, hf⟩ := ms_cE hf
          refine m_ci (pc' := 128) (a := a0) (ρ := ρ) Bh2 (hp_runV (As := [.int (5 : Int32)]) (rest := []) C Bh2 (m_X12_refuse n Γ l αh2 a0 ρ σh2 Mh2 (5 : Int32) (rh8, σh8) qh8) lb_X12_refuse lv_X12_refuse lk_X12_212 Mh2.1 rfl (by decide) rfl hl.1 rfl (Nat.le_of_ble_eq_true rfl) dX12_entry_125 ⟨Nat.le_refl _, Nat.le_refl _⟩) rfl (fun αh8 Hh8 Lh8 Bh8 Mh8 => ?_)
          cases hf
          exact q_iret C Bh8 hr hlk ⟨rfl, Bh8.2.2, Mh8⟩ dX12_entry_128
        ·
          replace hf := ms_iF c7 hf
          refine lv_aload_n hx hb dX12_entry_102 rfl (lv_at hl 1 rfl) (hp_n (n := 103) rfl ?_)
          refine m_getr (κ := 40) (k := 0) (pc' := 106) C Bh2 Mh2 fl_X12_7 rfl (by decide) dX12_entry_103 rfl ?_
          refine lv_sipush (v := 444) hx hb dX12_entry_106 (by decide) (hp_n (n := 109) rfl ?_)
          refine lv_bipush (v := 8) hx hb dX12_entry_109 (by decide) (hp_n (n := 111) rfl ?_)
          refine lv_iload hx hb dX12_entry_111 (lv_at hl 0 rfl) (hp_n (n := 113) rfl ?_)
          refine lv_imul hx hb dX12_entry_113 (hp_n (n := 114) rfl ?_)
          refine lv_iadd hx hb dX12_entry_114 (hp_n (n := 115) rfl ?_)
          refine lv_iload_n hx hb dX12_entry_115 rfl (lv_at hl 4 rfl) (hp_n (n := 116) rfl ?_)
          refine lv_iadd hx hb dX12_entry_116 (hp_n (n := 117) rfl ?_)
          refine lv_iconst (v := 2) hx hb dX12_entry_117 (by decide) (hp_n (n := 118) rfl ?_)
          refine lv_isub hx hb dX12_entry_118 (hp_n (n := 119) rfl ?_)
          obtain ⟨g9, hf⟩ := ms_gE hf
          refine m_ial (κ := 40) (φ := 650) (n := 1980) (pc' := 120) C Bh2 Mh2 (by decide) (by decide) rfl g9 dX12_entry_119 rfl ?_
          refine lv_goto (tgt := 128) hx hb dX12_entry_120 (by decide) ?_
          cases hf
          exact q_iret C Bh2 hr hlk ⟨rfl, Bh2.2.2, Mh2⟩ dX12_entry_128
      ·
        replace hf := ms_iF c5 hf
        refine lv_iload_n hx hb dX12_entry_60 rfl (lv_at hl 4 rfl) (hp_n (n := 61) rfl ?_)
        refine lv_if_ne (tgt := 78) hx hb dX12_entry_61 (by decide) (fun c10 => ?_) (fun c10 => hp_n (n := 64) rfl ?_)
        ·
          replace hf := ms_iF c10 hf
          refine lv_aload_n hx hb dX12_entry_78 rfl (lv_at hl 1 rfl) (hp_n (n := 79) rfl ?_)
          refine lv_iload_n hx hb dX12_entry_79 rfl (lv_at hl 2 rfl) (hp_n (n := 80) rfl ?_)
          refine lv_iload_n hx hb dX12_entry_80 rfl (lv_at hl 3 rfl) (hp_n (n := 81) rfl ?_)
          obtain ⟨rh11, qh11, hf⟩ := ms_bE hf
          refine m_cp (pc' := 84) Bh2 (hp_runV (As := [.int v1_h1, .int v2_h1]) (rest := []) C Bh2 (m_X12_entryMark n Γ l αh2 a0 ρ σh2 Mh2 v1_h1 v2_h1 rh11 qh11) lb_X12_entryMark lv_X12_entryMark lk_X12_125 Mh2.1 rfl (by decide) rfl hl.1 rfl (Nat.le_of_ble_eq_true rfl) dX12_entry_81 ⟨Nat.le_refl _, Nat.le_refl _⟩) rfl (fun Hh11 Lh11 Bh11 => ?_)
          cases hf
          exact q_iret C Bh11 hr hlk ⟨rfl, Bh11.2.2, Mh2⟩ dX12_entry_84
        ·
          replace hf := ms_iT c10 hf
          refine lv_aload_n hx hb dX12_entry_64 rfl (lv_at hl 1 rfl) (hp_n (n := 65) rfl ?_)
          refine m_getr (κ := 40) (k := 0) (pc' := 68) C Bh2 Mh2 fl_X12_7 rfl (by decide) dX12_entry_65 rfl ?_
          refine lv_sipush (v := 252) hx hb dX12_entry_68 (by decide) (hp_n (n := 71) rfl ?_)
          refine lv_iload hx hb dX12_entry_71 (lv_at hl 0 rfl) (hp_n (n := 73) rfl ?_)
          refine lv_iadd hx hb dX12_entry_73 (hp_n (n := 74) rfl ?_)
          obtain ⟨g12, hf⟩ := ms_gE hf
          refine m_ial (κ := 40) (φ := 650) (n := 1980) (pc' := 75) C Bh2 Mh2 (by decide) (by decide) rfl g12 dX12_entry_74 rfl ?_
          refine lv_goto (tgt := 84) hx hb dX12_entry_75 (by decide) ?_
          cases hf
          exact q_iret C Bh2 hr hlk ⟨rfl, Bh2.2.2, Mh2⟩ dX12_entry_84
    ·
      replace hf := ms_iT c3 hf
      refine lv_iconst (v := (-1)) hx hb dX12_entry_45 (by decide) (hp_n (n := 46) rfl ?_)
      cases hf
      exact q_iret C Bh2 hr hlk ⟨rfl, Bh2.2.2, Mh2⟩ dX12_entry_46
  have J9 : ∀ (αh13 : hp_T) (Hh13 : Heap) (Lh13 : List Loc) (Bh13 : hp_B Γ mo s α αh13 Hh13 Lh13) (σh13 : ms_T) (Mh13 : hm_M αh13 a0 ρ σh13) (v1_h13 : Int32) (v2_h13 : Int32) (v3_h13 : Int32) (ls : Array Slot) (hl : lv_has ls 5 [(0, .ref a0), (1, .int v1_h13), (2, .int v2_h13), (3, .int v3_h13)]) (hf : f_X12_entry_J9 n σh13 v1_h13 v2_h13 v3_h13 = some res), W p l e (hp_rm 2 0 0) s m ([.ref a0, .int a1, .int a2, .int a3] : List Value).toArray below meth c Hh13 Lh13 0 0 (MQ below (hp_Qi Γ (fun r β => r = res.1 ∧ mo α β ∧ hm_M β a0 ρ res.2)) ([.ref a0, .int a1, .int a2, .int a3] : List Value).toArray s 0 0 (hp_A Γ)) (F0 m 9 ls [.ref a0]) := by
    intro αh13 Hh13 Lh13 Bh13 σh13 Mh13 v1_h13 v2_h13 v3_h13 ls hl hf
    unfold f_X12_entry_J9 at hf
    refine lv_iconst (v := 1) hx hb dX12_entry_9 (by decide) (hp_n (n := 10) rfl ?_)
    refine lv_goto (tgt := 39) hx hb dX12_entry_10 (by decide) ?_
    exact J39 αh13 Hh13 Lh13 Bh13 σh13 Mh13 v1_h13 v2_h13 v3_h13 (1 : Int32) ls (lv_sub hl [0, 1, 2, 3] rfl) hf
  refine lv_if_lt (tgt := 9) hx hb dX12_entry_2 (by decide) (fun c14 => ?_) (fun c14 => hp_n (n := 5) rfl ?_)
  ·
    replace hf := ms_iT c14 hf
    exact J9 α s.heap [] B σ hM a1 a2 a3 ls (lv_sub hl [0, 1, 2, 3] rfl) hf
  ·
    replace hf := ms_iF c14 hf
    refine lv_iload_n hx hb dX12_entry_5 rfl (lv_at hl 3 rfl) (hp_n (n := 6) rfl ?_)
    refine lv_if_ge (tgt := 13) hx hb dX12_entry_6 (by decide) (fun c15 => ?_) (fun c15 => hp_n (n := 9) rfl ?_)
    ·
      replace hf := ms_iT c15 hf
      refine lv_aload_n hx hb dX12_entry_13 rfl (lv_at hl 0 rfl) (hp_n (n := 14) rfl ?_)
      refine lv_iload_n hx hb dX12_entry_14 rfl (lv_at hl 1 rfl) (hp_n (n := 15) rfl ?_)
      obtain ⟨rh16, qh16, hf⟩ := ms_bE hf
      refine m_cp (pc' := 18) B (hp_runV (As := [.int a1]) (rest := [.ref a0]) C B (m_X12_isRecord n Γ l α a0 ρ σ hM a1 rh16 qh16) lb_X12_isRecord lv_X12_isRecord lk_X12_344 hM.1 rfl (by decide) rfl hl.1 rfl (Nat.le_of_ble_eq_true rfl) dX12_entry_15 ⟨Nat.le_refl _, Nat.le_refl _⟩) rfl (fun Hh16 Lh16 Bh16 => ?_)
      refine lv_if_ne (tgt := 25) hx hb dX12_entry_18 (by decide) (fun c17 => ?_) (fun c17 => hp_n (n := 21) rfl ?_)
      ·
        replace hf := ms_iF c17 hf
        refine lv_iload_n hx hb dX12_entry_25 rfl (lv_at hl 2 rfl) (hp_n (n := 26) rfl ?_)
        refine lv_aload_n hx hb dX12_entry_26 rfl (lv_at hl 0 rfl) (hp_n (n := 27) rfl ?_)
        refine lv_iload_n hx hb dX12_entry_27 rfl (lv_at hl 1 rfl) (hp_n (n := 28) rfl ?_)
        obtain ⟨rh18, qh18, hf⟩ := ms_bE hf
        refine m_cp (pc' := 31) Bh16 (hp_runV (As := [.int a1]) (rest := [.int a2, .ref a0]) C Bh16 (m_X12_sizeOf n Γ l α a0 ρ σ hM a1 rh18 qh18) lb_X12_sizeOf lv_X12_sizeOf lk_X12_209 hM.1 rfl (by decide) rfl hl.1 rfl (Nat.le_of_ble_eq_true rfl) dX12_entry_28 ⟨Nat.le_refl _, Nat.le_refl _⟩) rfl (fun Hh18 Lh18 Bh18 => ?_)
        refine lv_icmp_lt (tgt := 38) hx hb dX12_entry_31 (by decide) (fun c19 => ?_) (fun c19 => hp_n (n := 34) rfl ?_)
        ·
          replace hf := ms_iT c19 hf
          refine lv_iconst (v := 0) hx hb dX12_entry_38 (by decide) (hp_n (n := 39) rfl ?_)
          exact J39 α Hh18 Lh18 Bh18 σ hM a1 a2 a3 (0 : Int32) ls (lv_sub hl [0, 1, 2, 3] rfl) hf
        ·
          replace hf := ms_iF c19 hf
          refine lv_iconst (v := 5) hx hb dX12_entry_34 (by decide) (hp_n (n := 35) rfl ?_)
          refine lv_goto (tgt := 39) hx hb dX12_entry_35 (by decide) ?_
          exact J39 α Hh18 Lh18 Bh18 σ hM a1 a2 a3 (5 : Int32) ls (lv_sub hl [0, 1, 2, 3] rfl) hf
      ·
        replace hf := ms_iT c17 hf
        refine lv_iconst (v := 2) hx hb dX12_entry_21 (by decide) (hp_n (n := 22) rfl ?_)
        refine lv_goto (tgt := 39) hx hb dX12_entry_22 (by decide) ?_
        exact J39 α Hh16 Lh16 Bh16 σ hM a1 a2 a3 (2 : Int32) ls (lv_sub hl [0, 1, 2, 3] rfl) hf
    ·
      replace hf := ms_iF c15 hf
      exact J9 α s.heap [] B σ hM a1 a2 a3 ls (lv_sub hl [0, 1, 2, 3] rfl) hf
def f_X12_noSize (n : Nat) (σ : ms_T) (a1 : Int32) (a2 : Int32) : Option Int32 :=
  if 0 ≤ a2 then
    ms_b (f_X12_isRecord n σ a1) fun rh2 =>
    if rh2 = 0 then
      some (2 : Int32)
    else
      ms_b (f_X12_sizeOf n σ a1) fun rh4 =>
      if a2 ≤ rh4 then
        some (0 : Int32)
      else
        some (5 : Int32)
  else
    some (1 : Int32)
set_option maxRecDepth 100000 in
set_option maxHeartbeats 4000000 in
theorem m_X12_noSize (n : Nat) (Γ : hp_G) (l : Launch) (α : hp_T) (a0 : Nat) (ρ : Nat → Nat) (σ : ms_T) (hM : hm_M α a0 ρ σ) (a1 : Int32) (a2 : Int32) (res : Int32) (hf : f_X12_noSize n σ a1 a2 = some res) : Met l yX12_noSize (hp_ws yX12_noSize cX12_noSize 3 (some .int)) (hp_rm 2 0 0) (hp_Pc Γ α [.ref a0, .int a1, .int a2]) (hp_Qi Γ (fun r β => β = α ∧ r = res)) 0 0 (hp_A Γ) := by
  unfold f_X12_noSize at hf
  refine hp_start (by decide) ?_
  intro p e s m below meth c C hr hlk B0 hnm
  have C : hp_C Γ p m c cX12_noSize 3 s ([.ref a0, .int a1, .int a2] : List Value).toArray RX12 := C
  have hx := C.1.1
  have hb := C.1.2.1
  have hown := C.1.2.2.2.1
  have hts := C.1.2.2.2.2
  have B : hp_B Γ (fun _ _ => True) s α α s.heap [] := ⟨B0.1, B0.2.1, trivial⟩
  have hl := lv_entry ([.ref a0, .int a1, .int a2]) (n := 3) (Nat.le_of_ble_eq_true rfl)
  show W p l e (hp_rm 2 0 0) s m ([.ref a0, .int a1, .int a2] : List Value).toArray below meth c s.heap [] 0 0 (MQ below (hp_Qi Γ (fun r β => β = α ∧ r = res)) ([.ref a0, .int a1, .int a2] : List Value).toArray s 0 0 (hp_A Γ)) (entryFrame m ([.ref a0, .int a1, .int a2] : List Value).toArray 3)
  rw [lg_entry_eq]
  generalize (lg_sl ([.ref a0, .int a1, .int a2]) ++ List.replicate (3 - (lg_sl ([.ref a0, .int a1, .int a2])).length) Slot.unset).toArray = ls at hl ⊢
  have hl : lv_has ls 3 [(0, .ref a0), (1, .int a1), (2, .int a2)] := hl
  refine lv_iload_n hx hb dX12_noSize_0 rfl (lv_at hl 2 rfl) (hp_n (n := 1) rfl ?_)
  refine lv_if_ge (tgt := 8) hx hb dX12_noSize_1 (by decide) (fun c1 => ?_) (fun c1 => hp_n (n := 4) rfl ?_)
  ·
    replace hf := ms_iT c1 hf
    refine lv_aload_n hx hb dX12_noSize_8 rfl (lv_at hl 0 rfl) (hp_n (n := 9) rfl ?_)
    refine lv_iload_n hx hb dX12_noSize_9 rfl (lv_at hl 1 rfl) (hp_n (n := 10) rfl ?_)
    obtain ⟨rh2, qh2, hf⟩ := ms_bE hf
    refine m_cp (pc' := 13) B (hp_runV (As := [.int a1]) (rest := []) C B (m_X12_isRecord n Γ l α a0 ρ σ hM a1 rh2 qh2) lb_X12_isRecord lv_X12_isRecord lk_X12_344 hM.1 rfl (by decide) rfl hl.1 rfl (Nat.le_of_ble_eq_true rfl) dX12_noSize_10 ⟨Nat.le_refl _, Nat.le_refl _⟩) rfl (fun Hh2 Lh2 Bh2 => ?_)
    refine lv_if_ne (tgt := 20) hx hb dX12_noSize_13 (by decide) (fun c3 => ?_) (fun c3 => hp_n (n := 16) rfl ?_)
    ·
      replace hf := ms_iF c3 hf
      refine lv_iload_n hx hb dX12_noSize_20 rfl (lv_at hl 2 rfl) (hp_n (n := 21) rfl ?_)
      refine lv_aload_n hx hb dX12_noSize_21 rfl (lv_at hl 0 rfl) (hp_n (n := 22) rfl ?_)
      refine lv_iload_n hx hb dX12_noSize_22 rfl (lv_at hl 1 rfl) (hp_n (n := 23) rfl ?_)
      obtain ⟨rh4, qh4, hf⟩ := ms_bE hf
      refine m_cp (pc' := 26) Bh2 (hp_runV (As := [.int a1]) (rest := [.int a2]) C Bh2 (m_X12_sizeOf n Γ l α a0 ρ σ hM a1 rh4 qh4) lb_X12_sizeOf lv_X12_sizeOf lk_X12_209 hM.1 rfl (by decide) rfl hl.1 rfl (Nat.le_of_ble_eq_true rfl) dX12_noSize_23 ⟨Nat.le_refl _, Nat.le_refl _⟩) rfl (fun Hh4 Lh4 Bh4 => ?_)
      refine lv_icmp_le (tgt := 33) hx hb dX12_noSize_26 (by decide) (fun c5 => ?_) (fun c5 => hp_n (n := 29) rfl ?_)
      ·
        replace hf := ms_iT c5 hf
        refine lv_iconst (v := 0) hx hb dX12_noSize_33 (by decide) (hp_n (n := 34) rfl ?_)
        cases hf
        exact q_iret C Bh4 hr hlk ⟨rfl, rfl⟩ dX12_noSize_34
      ·
        replace hf := ms_iF c5 hf
        refine lv_iconst (v := 5) hx hb dX12_noSize_29 (by decide) (hp_n (n := 30) rfl ?_)
        refine lv_goto (tgt := 34) hx hb dX12_noSize_30 (by decide) ?_
        cases hf
        exact q_iret C Bh4 hr hlk ⟨rfl, rfl⟩ dX12_noSize_34
    ·
      replace hf := ms_iT c3 hf
      refine lv_iconst (v := 2) hx hb dX12_noSize_16 (by decide) (hp_n (n := 17) rfl ?_)
      refine lv_goto (tgt := 34) hx hb dX12_noSize_17 (by decide) ?_
      cases hf
      exact q_iret C Bh2 hr hlk ⟨rfl, rfl⟩ dX12_noSize_34
  ·
    replace hf := ms_iF c1 hf
    refine lv_iconst (v := 1) hx hb dX12_noSize_4 (by decide) (hp_n (n := 5) rfl ?_)
    refine lv_goto (tgt := 34) hx hb dX12_noSize_5 (by decide) ?_
    cases hf
    exact q_iret C B hr hlk ⟨rfl, rfl⟩ dX12_noSize_34
def f_X12_head (n : Nat) (σ : ms_T) (a1 : Int32) (a2 : Int32) : Option (Int32 × ms_T) :=
  ms_b (f_X12_noSize n σ a1 a2) fun rh1 =>
  ms_c (f_X12_is n σ rh1) fun rh2 σh2 =>
  if rh2 = 0 then
    some ((-1 : Int32), σh2)
  else
    ms_b (f_X12_headOf n σh2 a1 a2) fun rh4 =>
    some (rh4, σh2)
set_option maxRecDepth 100000 in
set_option maxHeartbeats 4000000 in
theorem m_X12_head (n : Nat) (Γ : hp_G) (l : Launch) (α : hp_T) (a0 : Nat) (ρ : Nat → Nat) (σ : ms_T) (hM : hm_M α a0 ρ σ) (a1 : Int32) (a2 : Int32) (res : (Int32 × ms_T)) (hf : f_X12_head n σ a1 a2 = some res) : Met l yX12_head (hp_ws yX12_head cX12_head 3 (some .int)) (hp_rm 43 0 0) (hp_Pc Γ α [.ref a0, .int a1, .int a2]) (hp_Qi Γ (fun r β => r = res.1 ∧ mo α β ∧ hm_M β a0 ρ res.2)) 0 0 (hp_A Γ) := by
  unfold f_X12_head at hf
  refine hp_start (by decide) ?_
  intro p e s m below meth c C hr hlk B0 hnm
  have C : hp_C Γ p m c cX12_head 3 s ([.ref a0, .int a1, .int a2] : List Value).toArray RX12 := C
  have hx := C.1.1
  have hb := C.1.2.1
  have hown := C.1.2.2.2.1
  have hts := C.1.2.2.2.2
  have B : hp_B Γ mo s α α s.heap [] := ⟨B0.1, B0.2.1, mo_rf⟩
  have hl := lv_entry ([.ref a0, .int a1, .int a2]) (n := 3) (Nat.le_of_ble_eq_true rfl)
  show W p l e (hp_rm 43 0 0) s m ([.ref a0, .int a1, .int a2] : List Value).toArray below meth c s.heap [] 0 0 (MQ below (hp_Qi Γ (fun r β => r = res.1 ∧ mo α β ∧ hm_M β a0 ρ res.2)) ([.ref a0, .int a1, .int a2] : List Value).toArray s 0 0 (hp_A Γ)) (entryFrame m ([.ref a0, .int a1, .int a2] : List Value).toArray 3)
  rw [lg_entry_eq]
  generalize (lg_sl ([.ref a0, .int a1, .int a2]) ++ List.replicate (3 - (lg_sl ([.ref a0, .int a1, .int a2])).length) Slot.unset).toArray = ls at hl ⊢
  have hl : lv_has ls 3 [(0, .ref a0), (1, .int a1), (2, .int a2)] := hl
  refine lv_aload_n hx hb dX12_head_0 rfl (lv_at hl 0 rfl) (hp_n (n := 1) rfl ?_)
  refine lv_aload_n hx hb dX12_head_1 rfl (lv_at hl 0 rfl) (hp_n (n := 2) rfl ?_)
  refine lv_iload_n hx hb dX12_head_2 rfl (lv_at hl 1 rfl) (hp_n (n := 3) rfl ?_)
  refine lv_iload_n hx hb dX12_head_3 rfl (lv_at hl 2 rfl) (hp_n (n := 4) rfl ?_)
  obtain ⟨rh1, qh1, hf⟩ := ms_bE hf
  refine m_cp (pc' := 7) B (hp_runV (As := [.int a1, .int a2]) (rest := [.ref a0]) C B (m_X12_noSize n Γ l α a0 ρ σ hM a1 a2 rh1 qh1) lb_X12_noSize lv_X12_noSize lk_X12_347 hM.1 rfl (by decide) rfl hl.1 rfl (Nat.le_of_ble_eq_true rfl) dX12_head_4 ⟨Nat.le_refl _, Nat.le_refl _⟩) rfl (fun Hh1 Lh1 Bh1 => ?_)
  obtain ⟨rh2, σh2, qh2, hf⟩ := ms_cE hf
  refine m_ci (pc' := 10) (a := a0) (ρ := ρ) Bh1 (hp_runV (As := [.int rh1]) (rest := []) C Bh1 (m_X12_is n Γ l α a0 ρ σ hM rh1 (rh2, σh2) qh2) lb_X12_is lv_X12_is lk_X12_309 hM.1 rfl (by decide) rfl hl.1 rfl (Nat.le_of_ble_eq_true rfl) dX12_head_7 ⟨Nat.le_refl _, Nat.le_refl _⟩) rfl (fun αh2 Hh2 Lh2 Bh2 Mh2 => ?_)
  refine lv_if_eq (tgt := 22) hx hb dX12_head_10 (by decide) (fun c3 => ?_) (fun c3 => hp_n (n := 13) rfl ?_)
  ·
    replace hf := ms_iT c3 hf
    refine lv_iconst (v := (-1)) hx hb dX12_head_22 (by decide) (hp_n (n := 23) rfl ?_)
    cases hf
    exact q_iret C Bh2 hr hlk ⟨rfl, Bh2.2.2, Mh2⟩ dX12_head_23
  ·
    replace hf := ms_iF c3 hf
    refine lv_aload_n hx hb dX12_head_13 rfl (lv_at hl 0 rfl) (hp_n (n := 14) rfl ?_)
    refine lv_iload_n hx hb dX12_head_14 rfl (lv_at hl 1 rfl) (hp_n (n := 15) rfl ?_)
    refine lv_iload_n hx hb dX12_head_15 rfl (lv_at hl 2 rfl) (hp_n (n := 16) rfl ?_)
    obtain ⟨rh4, qh4, hf⟩ := ms_bE hf
    refine m_cp (pc' := 19) Bh2 (hp_runV (As := [.int a1, .int a2]) (rest := []) C Bh2 (m_X12_headOf n Γ l αh2 a0 ρ σh2 Mh2 a1 a2 rh4 qh4) lb_X12_headOf lv_X12_headOf lk_X12_215 Mh2.1 rfl (by decide) rfl hl.1 rfl (Nat.le_of_ble_eq_true rfl) dX12_head_16 ⟨Nat.le_refl _, Nat.le_refl _⟩) rfl (fun Hh4 Lh4 Bh4 => ?_)
    refine lv_goto (tgt := 23) hx hb dX12_head_19 (by decide) ?_
    cases hf
    exact q_iret C Bh4 hr hlk ⟨rfl, Bh4.2.2, Mh2⟩ dX12_head_23
def f_X12_join_J22 (n : Nat) (σh2 : ms_T) (v1_h2 : Int32) (v2_h2 : Int32) (w0_h2 : Int32) : Option (Int32 × ms_T) :=
  ms_c (f_X12_is n σh2 w0_h2) fun rh3 σh3 =>
  if rh3 = 0 then
    some ((-1 : Int32), σh3)
  else
    ms_b (f_X12_both n σh3 v1_h2 v2_h2) fun rh5 =>
    some (rh5, σh3)
def f_X12_join_J21 (n : Nat) (σh6 : ms_T) (v1_h6 : Int32) (v2_h6 : Int32) : Option (Int32 × ms_T) :=
  f_X12_join_J22 n σh6 v1_h6 v2_h6 (1 : Int32)
def f_X12_join (n : Nat) (σ : ms_T) (a1 : Int32) (a2 : Int32) : Option (Int32 × ms_T) :=
  ms_b (f_X12_isMark n σ a1) fun rh1 =>
  if rh1 = 0 then
    f_X12_join_J21 n σ a1 a2
  else
    ms_b (f_X12_isMark n σ a2) fun rh8 =>
    if rh8 = 0 then
      f_X12_join_J21 n σ a1 a2
    else
      f_X12_join_J22 n σ a1 a2 (0 : Int32)
set_option maxRecDepth 100000 in
set_option maxHeartbeats 4000000 in
theorem m_X12_join (n : Nat) (Γ : hp_G) (l : Launch) (α : hp_T) (a0 : Nat) (ρ : Nat → Nat) (σ : ms_T) (hM : hm_M α a0 ρ σ) (a1 : Int32) (a2 : Int32) (res : (Int32 × ms_T)) (hf : f_X12_join n σ a1 a2 = some res) : Met l yX12_join (hp_ws yX12_join cX12_join 3 (some .int)) (hp_rm 2 0 0) (hp_Pc Γ α [.ref a0, .int a1, .int a2]) (hp_Qi Γ (fun r β => r = res.1 ∧ mo α β ∧ hm_M β a0 ρ res.2)) 0 0 (hp_A Γ) := by
  unfold f_X12_join at hf
  refine hp_start (by decide) ?_
  intro p e s m below meth c C hr hlk B0 hnm
  have C : hp_C Γ p m c cX12_join 3 s ([.ref a0, .int a1, .int a2] : List Value).toArray RX12 := C
  have hx := C.1.1
  have hb := C.1.2.1
  have hown := C.1.2.2.2.1
  have hts := C.1.2.2.2.2
  have B : hp_B Γ mo s α α s.heap [] := ⟨B0.1, B0.2.1, mo_rf⟩
  have hl := lv_entry ([.ref a0, .int a1, .int a2]) (n := 3) (Nat.le_of_ble_eq_true rfl)
  show W p l e (hp_rm 2 0 0) s m ([.ref a0, .int a1, .int a2] : List Value).toArray below meth c s.heap [] 0 0 (MQ below (hp_Qi Γ (fun r β => r = res.1 ∧ mo α β ∧ hm_M β a0 ρ res.2)) ([.ref a0, .int a1, .int a2] : List Value).toArray s 0 0 (hp_A Γ)) (entryFrame m ([.ref a0, .int a1, .int a2] : List Value).toArray 3)
  rw [lg_entry_eq]
  generalize (lg_sl ([.ref a0, .int a1, .int a2]) ++ List.replicate (3 - (lg_sl ([.ref a0, .int a1, .int a2])).length) Slot.unset).toArray = ls at hl ⊢
  have hl : lv_has ls 3 [(0, .ref a0), (1, .int a1), (2, .int a2)] := hl
  refine lv_aload_n hx hb dX12_join_0 rfl (lv_at hl 0 rfl) (hp_n (n := 1) rfl ?_)
  refine lv_aload_n hx hb dX12_join_1 rfl (lv_at hl 0 rfl) (hp_n (n := 2) rfl ?_)
  refine lv_iload_n hx hb dX12_join_2 rfl (lv_at hl 1 rfl) (hp_n (n := 3) rfl ?_)
  obtain ⟨rh1, qh1, hf⟩ := ms_bE hf
  refine m_cp (pc' := 6) B (hp_runV (As := [.int a1]) (rest := [.ref a0]) C B (m_X12_isMark n Γ l α a0 ρ σ hM a1 rh1 qh1) lb_X12_isMark lv_X12_isMark lk_X12_321 hM.1 rfl (by decide) rfl hl.1 rfl (Nat.le_of_ble_eq_true rfl) dX12_join_3 ⟨Nat.le_refl _, Nat.le_refl _⟩) rfl (fun Hh1 Lh1 Bh1 => ?_)
  have J22 : ∀ (αh2 : hp_T) (Hh2 : Heap) (Lh2 : List Loc) (Bh2 : hp_B Γ mo s α αh2 Hh2 Lh2) (σh2 : ms_T) (Mh2 : hm_M αh2 a0 ρ σh2) (v1_h2 : Int32) (v2_h2 : Int32) (w0_h2 : Int32) (ls : Array Slot) (hl : lv_has ls 3 [(0, .ref a0), (1, .int v1_h2), (2, .int v2_h2)]) (hf : f_X12_join_J22 n σh2 v1_h2 v2_h2 w0_h2 = some res), W p l e (hp_rm 2 0 0) s m ([.ref a0, .int a1, .int a2] : List Value).toArray below meth c Hh2 Lh2 0 0 (MQ below (hp_Qi Γ (fun r β => r = res.1 ∧ mo α β ∧ hm_M β a0 ρ res.2)) ([.ref a0, .int a1, .int a2] : List Value).toArray s 0 0 (hp_A Γ)) (F0 m 22 ls [.int w0_h2, .ref a0]) := by
    intro αh2 Hh2 Lh2 Bh2 σh2 Mh2 v1_h2 v2_h2 w0_h2 ls hl hf
    unfold f_X12_join_J22 at hf
    obtain ⟨rh3, σh3, qh3, hf⟩ := ms_cE hf
    refine m_ci (pc' := 25) (a := a0) (ρ := ρ) Bh2 (hp_runV (As := [.int w0_h2]) (rest := []) C Bh2 (m_X12_is n Γ l αh2 a0 ρ σh2 Mh2 w0_h2 (rh3, σh3) qh3) lb_X12_is lv_X12_is lk_X12_309 Mh2.1 rfl (by decide) rfl hl.1 rfl (Nat.le_of_ble_eq_true rfl) dX12_join_22 ⟨Nat.le_refl _, Nat.le_refl _⟩) rfl (fun αh3 Hh3 Lh3 Bh3 Mh3 => ?_)
    refine lv_if_eq (tgt := 37) hx hb dX12_join_25 (by decide) (fun c4 => ?_) (fun c4 => hp_n (n := 28) rfl ?_)
    ·
      replace hf := ms_iT c4 hf
      refine lv_iconst (v := (-1)) hx hb dX12_join_37 (by decide) (hp_n (n := 38) rfl ?_)
      cases hf
      exact q_iret C Bh3 hr hlk ⟨rfl, Bh3.2.2, Mh3⟩ dX12_join_38
    ·
      replace hf := ms_iF c4 hf
      refine lv_aload_n hx hb dX12_join_28 rfl (lv_at hl 0 rfl) (hp_n (n := 29) rfl ?_)
      refine lv_iload_n hx hb dX12_join_29 rfl (lv_at hl 1 rfl) (hp_n (n := 30) rfl ?_)
      refine lv_iload_n hx hb dX12_join_30 rfl (lv_at hl 2 rfl) (hp_n (n := 31) rfl ?_)
      obtain ⟨rh5, qh5, hf⟩ := ms_bE hf
      refine m_cp (pc' := 34) Bh3 (hp_runV (As := [.int v1_h2, .int v2_h2]) (rest := []) C Bh3 (m_X12_both n Γ l αh3 a0 ρ σh3 Mh3 v1_h2 v2_h2 rh5 qh5) lb_X12_both lv_X12_both lk_X12_136 Mh3.1 rfl (by decide) rfl hl.1 rfl (Nat.le_of_ble_eq_true rfl) dX12_join_31 ⟨Nat.le_refl _, Nat.le_refl _⟩) rfl (fun Hh5 Lh5 Bh5 => ?_)
      refine lv_goto (tgt := 38) hx hb dX12_join_34 (by decide) ?_
      cases hf
      exact q_iret C Bh5 hr hlk ⟨rfl, Bh5.2.2, Mh3⟩ dX12_join_38
  have J21 : ∀ (αh6 : hp_T) (Hh6 : Heap) (Lh6 : List Loc) (Bh6 : hp_B Γ mo s α αh6 Hh6 Lh6) (σh6 : ms_T) (Mh6 : hm_M αh6 a0 ρ σh6) (v1_h6 : Int32) (v2_h6 : Int32) (ls : Array Slot) (hl : lv_has ls 3 [(0, .ref a0), (1, .int v1_h6), (2, .int v2_h6)]) (hf : f_X12_join_J21 n σh6 v1_h6 v2_h6 = some res), W p l e (hp_rm 2 0 0) s m ([.ref a0, .int a1, .int a2] : List Value).toArray below meth c Hh6 Lh6 0 0 (MQ below (hp_Qi Γ (fun r β => r = res.1 ∧ mo α β ∧ hm_M β a0 ρ res.2)) ([.ref a0, .int a1, .int a2] : List Value).toArray s 0 0 (hp_A Γ)) (F0 m 21 ls [.ref a0]) := by
    intro αh6 Hh6 Lh6 Bh6 σh6 Mh6 v1_h6 v2_h6 ls hl hf
    unfold f_X12_join_J21 at hf
    refine lv_iconst (v := 1) hx hb dX12_join_21 (by decide) (hp_n (n := 22) rfl ?_)
    exact J22 αh6 Hh6 Lh6 Bh6 σh6 Mh6 v1_h6 v2_h6 (1 : Int32) ls (lv_sub hl [0, 1, 2] rfl) hf
  refine lv_if_eq (tgt := 21) hx hb dX12_join_6 (by decide) (fun c7 => ?_) (fun c7 => hp_n (n := 9) rfl ?_)
  ·
    replace hf := ms_iT c7 hf
    exact J21 α Hh1 Lh1 Bh1 σ hM a1 a2 ls (lv_sub hl [0, 1, 2] rfl) hf
  ·
    replace hf := ms_iF c7 hf
    refine lv_aload_n hx hb dX12_join_9 rfl (lv_at hl 0 rfl) (hp_n (n := 10) rfl ?_)
    refine lv_iload_n hx hb dX12_join_10 rfl (lv_at hl 2 rfl) (hp_n (n := 11) rfl ?_)
    obtain ⟨rh8, qh8, hf⟩ := ms_bE hf
    refine m_cp (pc' := 14) Bh1 (hp_runV (As := [.int a2]) (rest := [.ref a0]) C Bh1 (m_X12_isMark n Γ l α a0 ρ σ hM a2 rh8 qh8) lb_X12_isMark lv_X12_isMark lk_X12_321 hM.1 rfl (by decide) rfl hl.1 rfl (Nat.le_of_ble_eq_true rfl) dX12_join_11 ⟨Nat.le_refl _, Nat.le_refl _⟩) rfl (fun Hh8 Lh8 Bh8 => ?_)
    refine lv_if_eq (tgt := 21) hx hb dX12_join_14 (by decide) (fun c9 => ?_) (fun c9 => hp_n (n := 17) rfl ?_)
    ·
      replace hf := ms_iT c9 hf
      exact J21 α Hh8 Lh8 Bh8 σ hM a1 a2 ls (lv_sub hl [0, 1, 2] rfl) hf
    ·
      replace hf := ms_iF c9 hf
      refine lv_iconst (v := 0) hx hb dX12_join_17 (by decide) (hp_n (n := 18) rfl ?_)
      refine lv_goto (tgt := 22) hx hb dX12_join_18 (by decide) ?_
      exact J22 α Hh8 Lh8 Bh8 σ hM a1 a2 (0 : Int32) ls (lv_sub hl [0, 1, 2] rfl) hf
def f_X12_mark_L10 (n : Nat) : Nat → ms_T → Int32 → Int32 → Option (Int32 × ms_T)
  | 0, _, _, _ => none
  | k10 + 1, σh2, v1_h2, v2_h2 =>
    if (ms_I σh2 664) ≤ v2_h2 then
      some (v1_h2, σh2)
    else
      ms_g v2_h2 8 <|
      ms_b (f_X12_mixed n σh2 v1_h2 (ms_E σh2 45 (v2_h2).toNatClampNeg)) fun rh5 =>
      ms_l (v2_h2 + 1) fun x6 =>
      (f_X12_mark_L10 n k10) σh2 rh5 x6
def f_X12_mark (n : Nat) (σ : ms_T) : Option (Int32 × ms_T) :=
  ms_c (f_X12_is n σ (0 : Int32)) fun rh1 σh1 =>
  f_X12_mark_L10 n n σh1 (1 : Int32) (0 : Int32)
set_option maxRecDepth 100000 in
set_option maxHeartbeats 4000000 in
theorem m_X12_mark (n : Nat) (Γ : hp_G) (l : Launch) (α : hp_T) (a0 : Nat) (ρ : Nat → Nat) (σ : ms_T) (hM : hm_M α a0 ρ σ)  (res : (Int32 × ms_T)) (hf : f_X12_mark n σ = some res) : Met l yX12_mark (hp_ws yX12_mark cX12_mark 3 (some .int)) (hp_rm 1 0 0) (hp_Pc Γ α [.ref a0]) (hp_Qi Γ (fun r β => r = res.1 ∧ mo α β ∧ hm_M β a0 ρ res.2)) 0 0 (hp_A Γ) := by
  unfold f_X12_mark at hf
  refine hp_start (by decide) ?_
  intro p e s m below meth c C hr hlk B0 hnm
  have C : hp_C Γ p m c cX12_mark 3 s ([.ref a0] : List Value).toArray RX12 := C
  have hx := C.1.1
  have hb := C.1.2.1
  have hown := C.1.2.2.2.1
  have hts := C.1.2.2.2.2
  have B : hp_B Γ mo s α α s.heap [] := ⟨B0.1, B0.2.1, mo_rf⟩
  have hl := lv_entry ([.ref a0]) (n := 3) (Nat.le_of_ble_eq_true rfl)
  show W p l e (hp_rm 1 0 0) s m ([.ref a0] : List Value).toArray below meth c s.heap [] 0 0 (MQ below (hp_Qi Γ (fun r β => r = res.1 ∧ mo α β ∧ hm_M β a0 ρ res.2)) ([.ref a0] : List Value).toArray s 0 0 (hp_A Γ)) (entryFrame m ([.ref a0] : List Value).toArray 3)
  rw [lg_entry_eq]
  generalize (lg_sl ([.ref a0]) ++ List.replicate (3 - (lg_sl ([.ref a0])).length) Slot.unset).toArray = ls at hl ⊢
  have hl : lv_has ls 3 [(0, .ref a0)] := hl
  refine lv_aload_n hx hb dX12_mark_0 rfl (lv_at hl 0 rfl) (hp_n (n := 1) rfl ?_)
  refine lv_iconst (v := 0) hx hb dX12_mark_1 (by decide) (hp_n (n := 2) rfl ?_)
  obtain ⟨rh1, σh1, qh1, hf⟩ := ms_cE hf
  refine m_ci (pc' := 5) (a := a0) (ρ := ρ) B (hp_runV (As := [.int (0 : Int32)]) (rest := []) C B (m_X12_is n Γ l α a0 ρ σ hM (0 : Int32) (rh1, σh1) qh1) lb_X12_is lv_X12_is lk_X12_309 hM.1 rfl (by decide) rfl hl.1 rfl (Nat.le_of_ble_eq_true rfl) dX12_mark_2 ⟨Nat.le_refl _, Nat.le_refl _⟩) rfl (fun αh1 Hh1 Lh1 Bh1 Mh1 => ?_)
  refine lv_pop hx hb dX12_mark_5 rfl (hp_n (n := 6) rfl ?_)
  refine lv_iconst (v := 1) hx hb dX12_mark_6 (by decide) (hp_n (n := 7) rfl ?_)
  refine lv_istore_n (lv' := [(1, .int (1 : Int32)), (0, .ref a0)]) hx hb dX12_mark_7 rfl hl (by decide) rfl (fun ls hl => hp_n (n := 8) rfl ?_)
  refine lv_iconst (v := 0) hx hb dX12_mark_8 (by decide) (hp_n (n := 9) rfl ?_)
  have J10 : ∀ (k10 : Nat) (αh2 : hp_T) (Hh2 : Heap) (Lh2 : List Loc) (Bh2 : hp_B Γ mo s α αh2 Hh2 Lh2) (σh2 : ms_T) (Mh2 : hm_M αh2 a0 ρ σh2) (v1_h2 : Int32) (v2_h2 : Int32) (ls : Array Slot) (hl : lv_has ls 3 [(0, .ref a0), (1, .int v1_h2), (2, .int v2_h2)]) (hf : f_X12_mark_L10 n k10 σh2 v1_h2 v2_h2 = some res), W p l e (hp_rm 1 0 0) s m ([.ref a0] : List Value).toArray below meth c Hh2 Lh2 0 0 (MQ below (hp_Qi Γ (fun r β => r = res.1 ∧ mo α β ∧ hm_M β a0 ρ res.2)) ([.ref a0] : List Value).toArray s 0 0 (hp_A Γ)) (F0 m 10 ls []) := by
    intro k10
    induction k10 with
    | zero => intro αh2 Hh2 Lh2 Bh2 σh2 Mh2 v1_h2 v2_h2 ls hl hf; rw [f_X12_mark_L10.eq_1] at hf; cases hf
    | succ k10 ih10 =>
      intro αh2 Hh2 Lh2 Bh2 σh2 Mh2 v1_h2 v2_h2 ls hl hf
      rw [f_X12_mark_L10.eq_2] at hf
      refine lv_iload_n hx hb dX12_mark_10 rfl (lv_at hl 2 rfl) (hp_n (n := 11) rfl ?_)
      refine lv_aload_n hx hb dX12_mark_11 rfl (lv_at hl 0 rfl) (hp_n (n := 12) rfl ?_)
      refine m_geti (k := 14) (φ := 664) (pc' := 15) C Bh2 Mh2 fl_X12_203 rfl rfl dX12_mark_12 rfl ?_
      refine lv_icmp_ge (tgt := 36) hx hb dX12_mark_15 (by decide) (fun c3 => ?_) (fun c3 => hp_n (n := 18) rfl ?_)
      ·
        replace hf := ms_iT c3 hf
        refine lv_iload_n hx hb dX12_mark_36 rfl (lv_at hl 1 rfl) (hp_n (n := 37) rfl ?_)
        cases hf
        exact q_iret C Bh2 hr hlk ⟨rfl, Bh2.2.2, Mh2⟩ dX12_mark_37
      ·
        replace hf := ms_iF c3 hf
        refine lv_aload_n hx hb dX12_mark_18 rfl (lv_at hl 0 rfl) (hp_n (n := 19) rfl ?_)
        refine lv_iload_n hx hb dX12_mark_19 rfl (lv_at hl 1 rfl) (hp_n (n := 20) rfl ?_)
        refine lv_aload_n hx hb dX12_mark_20 rfl (lv_at hl 0 rfl) (hp_n (n := 21) rfl ?_)
        refine m_getr (κ := 45) (k := 12) (pc' := 24) C Bh2 Mh2 fl_X12_25 rfl (by decide) dX12_mark_21 rfl ?_
        refine lv_iload_n hx hb dX12_mark_24 rfl (lv_at hl 2 rfl) (hp_n (n := 25) rfl ?_)
        obtain ⟨g4, hf⟩ := ms_gE hf
        refine m_ial (κ := 45) (φ := 662) (n := 8) (pc' := 26) C Bh2 Mh2 (by decide) (by decide) rfl g4 dX12_mark_25 rfl ?_
        obtain ⟨rh5, qh5, hf⟩ := ms_bE hf
        refine m_cp (pc' := 29) Bh2 (hp_runV (As := [.int v1_h2, .int (ms_E σh2 45 (v2_h2).toNatClampNeg)]) (rest := []) C Bh2 (m_X12_mixed n Γ l αh2 a0 ρ σh2 Mh2 v1_h2 (ms_E σh2 45 (v2_h2).toNatClampNeg) rh5 qh5) lb_X12_mixed lv_X12_mixed lk_X12_121 Mh2.1 rfl (by decide) rfl hl.1 rfl (Nat.le_of_ble_eq_true rfl) dX12_mark_26 ⟨Nat.le_refl _, Nat.le_refl _⟩) rfl (fun Hh5 Lh5 Bh5 => ?_)
        refine lv_istore_n (lv' := [(1, .int rh5), (0, .ref a0), (2, .int v2_h2)]) hx hb dX12_mark_29 rfl hl (by decide) rfl (fun ls hl => hp_n (n := 30) rfl ?_)
        obtain ⟨x6, ex6⟩ : ∃ y : Int32, y = v2_h2 + 1 := ⟨_, rfl⟩
        replace hf := ms_lE ex6 hf
        refine lv_iinc (v := x6) (lv' := [(2, .int x6), (1, .int rh5), (0, .ref a0)]) hx hb dX12_mark_30 hl (k := 2) rfl (by rw [ex6]; rfl) (by decide) rfl (fun ls hl => hp_n (n := 33) rfl ?_)
        refine lv_goto (tgt := 10) hx hb dX12_mark_33 (by decide) ?_
        exact ih10 αh2 Hh5 Lh5 Bh5 σh2 Mh2 rh5 x6 ls (lv_sub hl [2, 1, 0] rfl) hf
  refine lv_istore_n (lv' := [(2, .int (0 : Int32)), (1, .int (1 : Int32)), (0, .ref a0)]) hx hb dX12_mark_9 rfl hl (by decide) rfl (fun ls hl => hp_n (n := 10) rfl ?_)
  exact J10 n αh1 Hh1 Lh1 Bh1 σh1 Mh1 (1 : Int32) (0 : Int32) ls (lv_sub hl [2, 1, 0] rfl) hf
def f_X12_froze (n : Nat) (σ : ms_T) (a1 : Int32) (a2 : Int32) : Option Int32 :=
  ms_g (((92 : Int32) + ((10 : Int32) * a1)) + a2) 1980 <|
  some (ms_E σ 40 ((((92 : Int32) + ((10 : Int32) * a1)) + a2)).toNatClampNeg)
set_option maxRecDepth 100000 in
set_option maxHeartbeats 4000000 in
theorem m_X12_froze (n : Nat) (Γ : hp_G) (l : Launch) (α : hp_T) (a0 : Nat) (ρ : Nat → Nat) (σ : ms_T) (hM : hm_M α a0 ρ σ) (a1 : Int32) (a2 : Int32) (res : Int32) (hf : f_X12_froze n σ a1 a2 = some res) : Met l yX12_froze (hp_ws yX12_froze cX12_froze 3 (some .int)) (hp_rm 0 0 0) (hp_Pc Γ α [.ref a0, .int a1, .int a2]) (hp_Qi Γ (fun r β => β = α ∧ r = res)) 0 0 (hp_A Γ) := by
  unfold f_X12_froze at hf
  refine hp_start (by decide) ?_
  intro p e s m below meth c C hr hlk B0 hnm
  have C : hp_C Γ p m c cX12_froze 3 s ([.ref a0, .int a1, .int a2] : List Value).toArray RX12 := C
  have hx := C.1.1
  have hb := C.1.2.1
  have hown := C.1.2.2.2.1
  have hts := C.1.2.2.2.2
  have B : hp_B Γ (fun _ _ => True) s α α s.heap [] := ⟨B0.1, B0.2.1, trivial⟩
  have hl := lv_entry ([.ref a0, .int a1, .int a2]) (n := 3) (Nat.le_of_ble_eq_true rfl)
  show W p l e (hp_rm 0 0 0) s m ([.ref a0, .int a1, .int a2] : List Value).toArray below meth c s.heap [] 0 0 (MQ below (hp_Qi Γ (fun r β => β = α ∧ r = res)) ([.ref a0, .int a1, .int a2] : List Value).toArray s 0 0 (hp_A Γ)) (entryFrame m ([.ref a0, .int a1, .int a2] : List Value).toArray 3)
  rw [lg_entry_eq]
  generalize (lg_sl ([.ref a0, .int a1, .int a2]) ++ List.replicate (3 - (lg_sl ([.ref a0, .int a1, .int a2])).length) Slot.unset).toArray = ls at hl ⊢
  have hl : lv_has ls 3 [(0, .ref a0), (1, .int a1), (2, .int a2)] := hl
  refine lv_aload_n hx hb dX12_froze_0 rfl (lv_at hl 0 rfl) (hp_n (n := 1) rfl ?_)
  refine m_getr (κ := 40) (k := 0) (pc' := 4) C B hM fl_X12_7 rfl (by decide) dX12_froze_1 rfl ?_
  refine lv_bipush (v := 92) hx hb dX12_froze_4 (by decide) (hp_n (n := 6) rfl ?_)
  refine lv_bipush (v := 10) hx hb dX12_froze_6 (by decide) (hp_n (n := 8) rfl ?_)
  refine lv_iload_n hx hb dX12_froze_8 rfl (lv_at hl 1 rfl) (hp_n (n := 9) rfl ?_)
  refine lv_imul hx hb dX12_froze_9 (hp_n (n := 10) rfl ?_)
  refine lv_iadd hx hb dX12_froze_10 (hp_n (n := 11) rfl ?_)
  refine lv_iload_n hx hb dX12_froze_11 rfl (lv_at hl 2 rfl) (hp_n (n := 12) rfl ?_)
  refine lv_iadd hx hb dX12_froze_12 (hp_n (n := 13) rfl ?_)
  obtain ⟨g1, hf⟩ := ms_gE hf
  refine m_ial (κ := 40) (φ := 650) (n := 1980) (pc' := 14) C B hM (by decide) (by decide) rfl g1 dX12_froze_13 rfl ?_
  cases hf
  exact q_iret C B hr hlk ⟨rfl, rfl⟩ dX12_froze_14
def f_X12_isSound (n : Nat) (σ : ms_T) (a1 : Int32) : Option Int32 :=
  ms_b (f_X12_froze n σ a1 (0 : Int32)) fun rh1 =>
  ms_b (f_X12_froze n σ a1 (1 : Int32)) fun rh2 =>
  ms_b (f_X12_headOf n σ rh1 rh2) fun rh3 =>
  ms_b (f_X12_froze n σ a1 (2 : Int32)) fun rh4 =>
  if rh3 = rh4 then
    some (1 : Int32)
  else
    some (0 : Int32)
set_option maxRecDepth 100000 in
set_option maxHeartbeats 4000000 in
theorem m_X12_isSound (n : Nat) (Γ : hp_G) (l : Launch) (α : hp_T) (a0 : Nat) (ρ : Nat → Nat) (σ : ms_T) (hM : hm_M α a0 ρ σ) (a1 : Int32) (res : Int32) (hf : f_X12_isSound n σ a1 = some res) : Met l yX12_isSound (hp_ws yX12_isSound cX12_isSound 2 (some .boolean)) (hp_rm 43 0 0) (hp_Pc Γ α [.ref a0, .int a1]) (hp_Qi Γ (fun r β => β = α ∧ r = res)) 0 0 (hp_A Γ) := by
  unfold f_X12_isSound at hf
  refine hp_start (by decide) ?_
  intro p e s m below meth c C hr hlk B0 hnm
  have C : hp_C Γ p m c cX12_isSound 2 s ([.ref a0, .int a1] : List Value).toArray RX12 := C
  have hx := C.1.1
  have hb := C.1.2.1
  have hown := C.1.2.2.2.1
  have hts := C.1.2.2.2.2
  have B : hp_B Γ (fun _ _ => True) s α α s.heap [] := ⟨B0.1, B0.2.1, trivial⟩
  have hl := lv_entry ([.ref a0, .int a1]) (n := 2) (Nat.le_of_ble_eq_true rfl)
  show W p l e (hp_rm 43 0 0) s m ([.ref a0, .int a1] : List Value).toArray below meth c s.heap [] 0 0 (MQ below (hp_Qi Γ (fun r β => β = α ∧ r = res)) ([.ref a0, .int a1] : List Value).toArray s 0 0 (hp_A Γ)) (entryFrame m ([.ref a0, .int a1] : List Value).toArray 2)
  rw [lg_entry_eq]
  generalize (lg_sl ([.ref a0, .int a1]) ++ List.replicate (2 - (lg_sl ([.ref a0, .int a1])).length) Slot.unset).toArray = ls at hl ⊢
  have hl : lv_has ls 2 [(0, .ref a0), (1, .int a1)] := hl
  refine lv_aload_n hx hb dX12_isSound_0 rfl (lv_at hl 0 rfl) (hp_n (n := 1) rfl ?_)
  refine lv_aload_n hx hb dX12_isSound_1 rfl (lv_at hl 0 rfl) (hp_n (n := 2) rfl ?_)
  refine lv_iload_n hx hb dX12_isSound_2 rfl (lv_at hl 1 rfl) (hp_n (n := 3) rfl ?_)
  refine lv_iconst (v := 0) hx hb dX12_isSound_3 (by decide) (hp_n (n := 4) rfl ?_)
  obtain ⟨rh1, qh1, hf⟩ := ms_bE hf
  refine m_cp (pc' := 7) B (hp_runV (As := [.int a1, .int (0 : Int32)]) (rest := [.ref a0]) C B (m_X12_froze n Γ l α a0 ρ σ hM a1 (0 : Int32) rh1 qh1) lb_X12_froze lv_X12_froze lk_X12_350 hM.1 rfl (by decide) rfl hl.1 rfl (Nat.le_of_ble_eq_true rfl) dX12_isSound_4 ⟨Nat.le_refl _, Nat.le_refl _⟩) rfl (fun Hh1 Lh1 Bh1 => ?_)
  refine lv_aload_n hx hb dX12_isSound_7 rfl (lv_at hl 0 rfl) (hp_n (n := 8) rfl ?_)
  refine lv_iload_n hx hb dX12_isSound_8 rfl (lv_at hl 1 rfl) (hp_n (n := 9) rfl ?_)
  refine lv_iconst (v := 1) hx hb dX12_isSound_9 (by decide) (hp_n (n := 10) rfl ?_)
  obtain ⟨rh2, qh2, hf⟩ := ms_bE hf
  refine m_cp (pc' := 13) Bh1 (hp_runV (As := [.int a1, .int (1 : Int32)]) (rest := [.int rh1, .ref a0]) C Bh1 (m_X12_froze n Γ l α a0 ρ σ hM a1 (1 : Int32) rh2 qh2) lb_X12_froze lv_X12_froze lk_X12_350 hM.1 rfl (by decide) rfl hl.1 rfl (Nat.le_of_ble_eq_true rfl) dX12_isSound_10 ⟨Nat.le_refl _, Nat.le_refl _⟩) rfl (fun Hh2 Lh2 Bh2 => ?_)
  obtain ⟨rh3, qh3, hf⟩ := ms_bE hf
  refine m_cp (pc' := 16) Bh2 (hp_runV (As := [.int rh1, .int rh2]) (rest := []) C Bh2 (m_X12_headOf n Γ l α a0 ρ σ hM rh1 rh2 rh3 qh3) lb_X12_headOf lv_X12_headOf lk_X12_215 hM.1 rfl (by decide) rfl hl.1 rfl (Nat.le_of_ble_eq_true rfl) dX12_isSound_13 ⟨Nat.le_refl _, Nat.le_refl _⟩) rfl (fun Hh3 Lh3 Bh3 => ?_)
  refine lv_aload_n hx hb dX12_isSound_16 rfl (lv_at hl 0 rfl) (hp_n (n := 17) rfl ?_)
  refine lv_iload_n hx hb dX12_isSound_17 rfl (lv_at hl 1 rfl) (hp_n (n := 18) rfl ?_)
  refine lv_iconst (v := 2) hx hb dX12_isSound_18 (by decide) (hp_n (n := 19) rfl ?_)
  obtain ⟨rh4, qh4, hf⟩ := ms_bE hf
  refine m_cp (pc' := 22) Bh3 (hp_runV (As := [.int a1, .int (2 : Int32)]) (rest := [.int rh3]) C Bh3 (m_X12_froze n Γ l α a0 ρ σ hM a1 (2 : Int32) rh4 qh4) lb_X12_froze lv_X12_froze lk_X12_350 hM.1 rfl (by decide) rfl hl.1 rfl (Nat.le_of_ble_eq_true rfl) dX12_isSound_19 ⟨Nat.le_refl _, Nat.le_refl _⟩) rfl (fun Hh4 Lh4 Bh4 => ?_)
  refine lv_icmp_ne (tgt := 29) hx hb dX12_isSound_22 (by decide) (fun c5 => ?_) (fun c5 => hp_n (n := 25) rfl ?_)
  ·
    replace hf := ms_iF c5 hf
    refine lv_iconst (v := 0) hx hb dX12_isSound_29 (by decide) (hp_n (n := 30) rfl ?_)
    cases hf
    exact q_zret C Bh4 hr hlk (by decide) ⟨rfl, rfl⟩ dX12_isSound_30
  ·
    replace hf := ms_iT c5 hf
    refine lv_iconst (v := 1) hx hb dX12_isSound_25 (by decide) (hp_n (n := 26) rfl ?_)
    refine lv_goto (tgt := 30) hx hb dX12_isSound_26 (by decide) ?_
    cases hf
    exact q_zret C Bh4 hr hlk (by decide) ⟨rfl, rfl⟩ dX12_isSound_30
def f_X12_frozen_J33 (n : Nat) (σh1 : ms_T) (v1_h1 : Int32) (v2_h1 : Int32) (w0_h1 : Int32) : Option (Int32 × ms_T) :=
  ms_c (f_X12_is n σh1 w0_h1) fun rh2 σh2 =>
  if rh2 = 0 then
    some ((-1 : Int32), σh2)
  else
    if (4 : Int32) ≤ v2_h1 then
      ms_b (f_X12_isSound n σh2 v1_h1) fun rh5 =>
      if rh5 = 0 then
        some ((0 : Int32), σh2)
      else
        some ((1 : Int32), σh2)
    else
      ms_b (f_X12_froze n σh2 v1_h1 v2_h1) fun rh7 =>
      some (rh7, σh2)
def f_X12_frozen_J14 (n : Nat) (σh8 : ms_T) (v1_h8 : Int32) (v2_h8 : Int32) : Option (Int32 × ms_T) :=
  f_X12_frozen_J33 n σh8 v1_h8 v2_h8 (1 : Int32)
def f_X12_frozen (n : Nat) (σ : ms_T) (a1 : Int32) (a2 : Int32) : Option (Int32 × ms_T) :=
  if a1 < 0 then
    f_X12_frozen_J14 n σ a1 a2
  else
    ms_b (f_X12_isIn n a2 (0 : Int32) (4 : Int32)) fun rh10 =>
    if rh10 = 0 then
      f_X12_frozen_J14 n σ a1 a2
    else
      ms_g (3 : Int32) 1980 <|
      if a1 < (ms_E σ 40 ((3 : Int32)).toNatClampNeg) then
        f_X12_frozen_J33 n σ a1 a2 (0 : Int32)
      else
        f_X12_frozen_J33 n σ a1 a2 (5 : Int32)
set_option maxRecDepth 100000 in
set_option maxHeartbeats 4000000 in
theorem m_X12_frozen (n : Nat) (Γ : hp_G) (l : Launch) (α : hp_T) (a0 : Nat) (ρ : Nat → Nat) (σ : ms_T) (hM : hm_M α a0 ρ σ) (a1 : Int32) (a2 : Int32) (res : (Int32 × ms_T)) (hf : f_X12_frozen n σ a1 a2 = some res) : Met l yX12_frozen (hp_ws yX12_frozen cX12_frozen 3 (some .int)) (hp_rm 44 0 0) (hp_Pc Γ α [.ref a0, .int a1, .int a2]) (hp_Qi Γ (fun r β => r = res.1 ∧ mo α β ∧ hm_M β a0 ρ res.2)) 0 0 (hp_A Γ) := by
  unfold f_X12_frozen at hf
  refine hp_start (by decide) ?_
  intro p e s m below meth c C hr hlk B0 hnm
  have C : hp_C Γ p m c cX12_frozen 3 s ([.ref a0, .int a1, .int a2] : List Value).toArray RX12 := C
  have hx := C.1.1
  have hb := C.1.2.1
  have hown := C.1.2.2.2.1
  have hts := C.1.2.2.2.2
  have B : hp_B Γ mo s α α s.heap [] := ⟨B0.1, B0.2.1, mo_rf⟩
  have hl := lv_entry ([.ref a0, .int a1, .int a2]) (n := 3) (Nat.le_of_ble_eq_true rfl)
  show W p l e (hp_rm 44 0 0) s m ([.ref a0, .int a1, .int a2] : List Value).toArray below meth c s.heap [] 0 0 (MQ below (hp_Qi Γ (fun r β => r = res.1 ∧ mo α β ∧ hm_M β a0 ρ res.2)) ([.ref a0, .int a1, .int a2] : List Value).toArray s 0 0 (hp_A Γ)) (entryFrame m ([.ref a0, .int a1, .int a2] : List Value).toArray 3)
  rw [lg_entry_eq]
  generalize (lg_sl ([.ref a0, .int a1, .int a2]) ++ List.replicate (3 - (lg_sl ([.ref a0, .int a1, .int a2])).length) Slot.unset).toArray = ls at hl ⊢
  have hl : lv_has ls 3 [(0, .ref a0), (1, .int a1), (2, .int a2)] := hl
  refine lv_aload_n hx hb dX12_frozen_0 rfl (lv_at hl 0 rfl) (hp_n (n := 1) rfl ?_)
  refine lv_iload_n hx hb dX12_frozen_1 rfl (lv_at hl 1 rfl) (hp_n (n := 2) rfl ?_)
  have J33 : ∀ (αh1 : hp_T) (Hh1 : Heap) (Lh1 : List Loc) (Bh1 : hp_B Γ mo s α αh1 Hh1 Lh1) (σh1 : ms_T) (Mh1 : hm_M αh1 a0 ρ σh1) (v1_h1 : Int32) (v2_h1 : Int32) (w0_h1 : Int32) (ls : Array Slot) (hl : lv_has ls 3 [(0, .ref a0), (1, .int v1_h1), (2, .int v2_h1)]) (hf : f_X12_frozen_J33 n σh1 v1_h1 v2_h1 w0_h1 = some res), W p l e (hp_rm 44 0 0) s m ([.ref a0, .int a1, .int a2] : List Value).toArray below meth c Hh1 Lh1 0 0 (MQ below (hp_Qi Γ (fun r β => r = res.1 ∧ mo α β ∧ hm_M β a0 ρ res.2)) ([.ref a0, .int a1, .int a2] : List Value).toArray s 0 0 (hp_A Γ)) (F0 m 33 ls [.int w0_h1, .ref a0]) := by
    intro αh1 Hh1 Lh1 Bh1 σh1 Mh1 v1_h1 v2_h1 w0_h1 ls hl hf
    unfold f_X12_frozen_J33 at hf
    obtain ⟨rh2, σh2, qh2, hf⟩ := ms_cE hf
    refine m_ci (pc' := 36) (a := a0) (ρ := ρ) Bh1 (hp_runV (As := [.int w0_h1]) (rest := []) C Bh1 (m_X12_is n Γ l αh1 a0 ρ σh1 Mh1 w0_h1 (rh2, σh2) qh2) lb_X12_is lv_X12_is lk_X12_309 Mh1.1 rfl (by decide) rfl hl.1 rfl (Nat.le_of_ble_eq_true rfl) dX12_frozen_33 ⟨Nat.le_refl _, Nat.le_refl _⟩) rfl (fun αh2 Hh2 Lh2 Bh2 Mh2 => ?_)
    refine lv_if_ne (tgt := 41) hx hb dX12_frozen_36 (by decide) (fun c3 => ?_) (fun c3 => hp_n (n := 39) rfl ?_)
    ·
      replace hf := ms_iF c3 hf
      refine lv_iload_n hx hb dX12_frozen_41 rfl (lv_at hl 2 rfl) (hp_n (n := 42) rfl ?_)
      refine lv_iconst (v := 4) hx hb dX12_frozen_42 (by decide) (hp_n (n := 43) rfl ?_)
      refine lv_icmp_ge (tgt := 55) hx hb dX12_frozen_43 (by decide) (fun c4 => ?_) (fun c4 => hp_n (n := 46) rfl ?_)
      ·
        replace hf := ms_iT c4 hf
        refine lv_aload_n hx hb dX12_frozen_55 rfl (lv_at hl 0 rfl) (hp_n (n := 56) rfl ?_)
        refine lv_iload_n hx hb dX12_frozen_56 rfl (lv_at hl 1 rfl) (hp_n (n := 57) rfl ?_)
        obtain ⟨rh5, qh5, hf⟩ := ms_bE hf
        refine m_cp (pc' := 60) Bh2 (hp_runV (As := [.int v1_h1]) (rest := []) C Bh2 (m_X12_isSound n Γ l αh2 a0 ρ σh2 Mh2 v1_h1 rh5 qh5) lb_X12_isSound lv_X12_isSound lk_X12_353 Mh2.1 rfl (by decide) rfl hl.1 rfl (Nat.le_of_ble_eq_true rfl) dX12_frozen_57 ⟨Nat.le_refl _, Nat.le_refl _⟩) rfl (fun Hh5 Lh5 Bh5 => ?_)
        refine lv_if_eq (tgt := 67) hx hb dX12_frozen_60 (by decide) (fun c6 => ?_) (fun c6 => hp_n (n := 63) rfl ?_)
        ·
          replace hf := ms_iT c6 hf
          refine lv_iconst (v := 0) hx hb dX12_frozen_67 (by decide) (hp_n (n := 68) rfl ?_)
          cases hf
          exact q_iret C Bh5 hr hlk ⟨rfl, Bh5.2.2, Mh2⟩ dX12_frozen_68
        ·
          replace hf := ms_iF c6 hf
          refine lv_iconst (v := 1) hx hb dX12_frozen_63 (by decide) (hp_n (n := 64) rfl ?_)
          refine lv_goto (tgt := 68) hx hb dX12_frozen_64 (by decide) ?_
          cases hf
          exact q_iret C Bh5 hr hlk ⟨rfl, Bh5.2.2, Mh2⟩ dX12_frozen_68
      ·
        replace hf := ms_iF c4 hf
        refine lv_aload_n hx hb dX12_frozen_46 rfl (lv_at hl 0 rfl) (hp_n (n := 47) rfl ?_)
        refine lv_iload_n hx hb dX12_frozen_47 rfl (lv_at hl 1 rfl) (hp_n (n := 48) rfl ?_)
        refine lv_iload_n hx hb dX12_frozen_48 rfl (lv_at hl 2 rfl) (hp_n (n := 49) rfl ?_)
        obtain ⟨rh7, qh7, hf⟩ := ms_bE hf
        refine m_cp (pc' := 52) Bh2 (hp_runV (As := [.int v1_h1, .int v2_h1]) (rest := []) C Bh2 (m_X12_froze n Γ l αh2 a0 ρ σh2 Mh2 v1_h1 v2_h1 rh7 qh7) lb_X12_froze lv_X12_froze lk_X12_350 Mh2.1 rfl (by decide) rfl hl.1 rfl (Nat.le_of_ble_eq_true rfl) dX12_frozen_49 ⟨Nat.le_refl _, Nat.le_refl _⟩) rfl (fun Hh7 Lh7 Bh7 => ?_)
        refine lv_goto (tgt := 68) hx hb dX12_frozen_52 (by decide) ?_
        cases hf
        exact q_iret C Bh7 hr hlk ⟨rfl, Bh7.2.2, Mh2⟩ dX12_frozen_68
    ·
      replace hf := ms_iT c3 hf
      refine lv_iconst (v := (-1)) hx hb dX12_frozen_39 (by decide) (hp_n (n := 40) rfl ?_)
      cases hf
      exact q_iret C Bh2 hr hlk ⟨rfl, Bh2.2.2, Mh2⟩ dX12_frozen_40
  have J14 : ∀ (αh8 : hp_T) (Hh8 : Heap) (Lh8 : List Loc) (Bh8 : hp_B Γ mo s α αh8 Hh8 Lh8) (σh8 : ms_T) (Mh8 : hm_M αh8 a0 ρ σh8) (v1_h8 : Int32) (v2_h8 : Int32) (ls : Array Slot) (hl : lv_has ls 3 [(0, .ref a0), (1, .int v1_h8), (2, .int v2_h8)]) (hf : f_X12_frozen_J14 n σh8 v1_h8 v2_h8 = some res), W p l e (hp_rm 44 0 0) s m ([.ref a0, .int a1, .int a2] : List Value).toArray below meth c Hh8 Lh8 0 0 (MQ below (hp_Qi Γ (fun r β => r = res.1 ∧ mo α β ∧ hm_M β a0 ρ res.2)) ([.ref a0, .int a1, .int a2] : List Value).toArray s 0 0 (hp_A Γ)) (F0 m 14 ls [.ref a0]) := by
    intro αh8 Hh8 Lh8 Bh8 σh8 Mh8 v1_h8 v2_h8 ls hl hf
    unfold f_X12_frozen_J14 at hf
    refine lv_iconst (v := 1) hx hb dX12_frozen_14 (by decide) (hp_n (n := 15) rfl ?_)
    refine lv_goto (tgt := 33) hx hb dX12_frozen_15 (by decide) ?_
    exact J33 αh8 Hh8 Lh8 Bh8 σh8 Mh8 v1_h8 v2_h8 (1 : Int32) ls (lv_sub hl [0, 1, 2] rfl) hf
  refine lv_if_lt (tgt := 14) hx hb dX12_frozen_2 (by decide) (fun c9 => ?_) (fun c9 => hp_n (n := 5) rfl ?_)
  ·
    replace hf := ms_iT c9 hf
    exact J14 α s.heap [] B σ hM a1 a2 ls (lv_sub hl [0, 1, 2] rfl) hf
  ·
    replace hf := ms_iF c9 hf
    refine lv_iload_n hx hb dX12_frozen_5 rfl (lv_at hl 2 rfl) (hp_n (n := 6) rfl ?_)
    refine lv_iconst (v := 0) hx hb dX12_frozen_6 (by decide) (hp_n (n := 7) rfl ?_)
    refine lv_iconst (v := 4) hx hb dX12_frozen_7 (by decide) (hp_n (n := 8) rfl ?_)
    obtain ⟨rh10, qh10, hf⟩ := ms_bE hf
    refine m_cp (pc' := 11) B (hp_runS (As := [.int a2, .int (0 : Int32), .int (4 : Int32)]) (rest := [.ref a0]) C B (m_X12_isIn n Γ l α a2 (0 : Int32) (4 : Int32) rh10 qh10) lb_X12_isIn ls_X12_isIn lk_X12_113 rfl (by decide) rfl hl.1 rfl (Nat.le_of_ble_eq_true rfl) dX12_frozen_8 ⟨Nat.le_refl _, Nat.le_refl _⟩) rfl (fun Hh10 Lh10 Bh10 => ?_)
    refine lv_if_ne (tgt := 18) hx hb dX12_frozen_11 (by decide) (fun c11 => ?_) (fun c11 => hp_n (n := 14) rfl ?_)
    ·
      replace hf := ms_iF c11 hf
      refine lv_iload_n hx hb dX12_frozen_18 rfl (lv_at hl 1 rfl) (hp_n (n := 19) rfl ?_)
      refine lv_aload_n hx hb dX12_frozen_19 rfl (lv_at hl 0 rfl) (hp_n (n := 20) rfl ?_)
      refine m_getr (κ := 40) (k := 0) (pc' := 23) C Bh10 hM fl_X12_7 rfl (by decide) dX12_frozen_20 rfl ?_
      refine lv_iconst (v := 3) hx hb dX12_frozen_23 (by decide) (hp_n (n := 24) rfl ?_)
      obtain ⟨g12, hf⟩ := ms_gE hf
      refine m_ial (κ := 40) (φ := 650) (n := 1980) (pc' := 25) C Bh10 hM (by decide) (by decide) rfl g12 dX12_frozen_24 rfl ?_
      refine lv_icmp_lt (tgt := 32) hx hb dX12_frozen_25 (by decide) (fun c13 => ?_) (fun c13 => hp_n (n := 28) rfl ?_)
      ·
        replace hf := ms_iT c13 hf
        refine lv_iconst (v := 0) hx hb dX12_frozen_32 (by decide) (hp_n (n := 33) rfl ?_)
        exact J33 α Hh10 Lh10 Bh10 σ hM a1 a2 (0 : Int32) ls (lv_sub hl [0, 1, 2] rfl) hf
      ·
        replace hf := ms_iF c13 hf
        refine lv_iconst (v := 5) hx hb dX12_frozen_28 (by decide) (hp_n (n := 29) rfl ?_)
        refine lv_goto (tgt := 33) hx hb dX12_frozen_29 (by decide) ?_
        exact J33 α Hh10 Lh10 Bh10 σ hM a1 a2 (5 : Int32) ls (lv_sub hl [0, 1, 2] rfl) hf
    ·
      replace hf := ms_iT c11 hf
      exact J14 α Hh10 Lh10 Bh10 σ hM a1 a2 ls (lv_sub hl [0, 1, 2] rfl) hf
def f_X12_isWatcher (n : Nat) (a0 : Int32) : Option Int32 :=
  ms_b (f_X12_isIn n a0 (0 : Int32) (3 : Int32)) fun rh1 =>
  ms_z rh1 <|
  some rh1
set_option maxRecDepth 100000 in
set_option maxHeartbeats 4000000 in
theorem m_X12_isWatcher (n : Nat) (Γ : hp_G) (l : Launch) (α : hp_T) (a0 : Int32) (res : Int32) (hf : f_X12_isWatcher n a0 = some res) : Met l yX12_isWatcher (hp_ws yX12_isWatcher cX12_isWatcher 1 (some .boolean)) (hp_rm 1 0 0) (hp_Pc Γ α [.int a0]) (hp_Qi Γ (fun r β => β = α ∧ r = res)) 0 0 (hp_A Γ) := by
  unfold f_X12_isWatcher at hf
  refine hp_start (by decide) ?_
  intro p e s m below meth c C hr hlk B0 hnm
  have C : hp_C Γ p m c cX12_isWatcher 1 s ([.int a0] : List Value).toArray RX12 := C
  have hx := C.1.1
  have hb := C.1.2.1
  have hown := C.1.2.2.2.1
  have hts := C.1.2.2.2.2
  have B : hp_B Γ (fun _ _ => True) s α α s.heap [] := ⟨B0.1, B0.2.1, trivial⟩
  have hl := lv_entry ([.int a0]) (n := 1) (Nat.le_of_ble_eq_true rfl)
  show W p l e (hp_rm 1 0 0) s m ([.int a0] : List Value).toArray below meth c s.heap [] 0 0 (MQ below (hp_Qi Γ (fun r β => β = α ∧ r = res)) ([.int a0] : List Value).toArray s 0 0 (hp_A Γ)) (entryFrame m ([.int a0] : List Value).toArray 1)
  rw [lg_entry_eq]
  generalize (lg_sl ([.int a0]) ++ List.replicate (1 - (lg_sl ([.int a0])).length) Slot.unset).toArray = ls at hl ⊢
  have hl : lv_has ls 1 [(0, .int a0)] := hl
  refine lv_iload_n hx hb dX12_isWatcher_0 rfl (lv_at hl 0 rfl) (hp_n (n := 1) rfl ?_)
  refine lv_iconst (v := 0) hx hb dX12_isWatcher_1 (by decide) (hp_n (n := 2) rfl ?_)
  refine lv_iconst (v := 3) hx hb dX12_isWatcher_2 (by decide) (hp_n (n := 3) rfl ?_)
  obtain ⟨rh1, qh1, hf⟩ := ms_bE hf
  refine m_cp (pc' := 6) B (hp_runS (As := [.int a0, .int (0 : Int32), .int (3 : Int32)]) (rest := []) C B (m_X12_isIn n Γ l α a0 (0 : Int32) (3 : Int32) rh1 qh1) lb_X12_isIn ls_X12_isIn lk_X12_113 rfl (by decide) rfl hl.1 rfl (Nat.le_of_ble_eq_true rfl) dX12_isWatcher_3 ⟨Nat.le_refl _, Nat.le_refl _⟩) rfl (fun Hh1 Lh1 Bh1 => ?_)
  obtain ⟨g2, hf⟩ := ms_zE hf
  cases hf
  exact q_zret C Bh1 hr hlk (nz_z g2) ⟨rfl, rfl⟩ dX12_isWatcher_6
def f_X12_watcher_J26 (n : Nat) (σh2 : ms_T) (v1_h2 : Int32) (v2_h2 : Int32) (w0_h2 : Int32) : Option (Int32 × ms_T) :=
  ms_c (f_X12_is n σh2 w0_h2) fun rh3 σh3 =>
  if rh3 = 0 then
    some ((-1 : Int32), σh3)
  else
    ms_b (f_X12_trust n σh3 v1_h2 v2_h2) fun rh5 =>
    some (rh5, σh3)
def f_X12_watcher (n : Nat) (σ : ms_T) (a1 : Int32) (a2 : Int32) : Option (Int32 × ms_T) :=
  ms_b (f_X12_isIn n a2 (0 : Int32) (3 : Int32)) fun rh1 =>
  if rh1 = 0 then
    f_X12_watcher_J26 n σ a1 a2 (1 : Int32)
  else
    ms_b (f_X12_isWatcher n a1) fun rh7 =>
    if rh7 = 0 then
      f_X12_watcher_J26 n σ a1 a2 (2 : Int32)
    else
      f_X12_watcher_J26 n σ a1 a2 (0 : Int32)
set_option maxRecDepth 100000 in
set_option maxHeartbeats 4000000 in
theorem m_X12_watcher (n : Nat) (Γ : hp_G) (l : Launch) (α : hp_T) (a0 : Nat) (ρ : Nat → Nat) (σ : ms_T) (hM : hm_M α a0 ρ σ) (a1 : Int32) (a2 : Int32) (res : (Int32 × ms_T)) (hf : f_X12_watcher n σ a1 a2 = some res) : Met l yX12_watcher (hp_ws yX12_watcher cX12_watcher 3 (some .int)) (hp_rm 2 0 0) (hp_Pc Γ α [.ref a0, .int a1, .int a2]) (hp_Qi Γ (fun r β => r = res.1 ∧ mo α β ∧ hm_M β a0 ρ res.2)) 0 0 (hp_A Γ) := by
  unfold f_X12_watcher at hf
  refine hp_start (by decide) ?_
  intro p e s m below meth c C hr hlk B0 hnm
  have C : hp_C Γ p m c cX12_watcher 3 s ([.ref a0, .int a1, .int a2] : List Value).toArray RX12 := C
  have hx := C.1.1
  have hb := C.1.2.1
  have hown := C.1.2.2.2.1
  have hts := C.1.2.2.2.2
  have B : hp_B Γ mo s α α s.heap [] := ⟨B0.1, B0.2.1, mo_rf⟩
  have hl := lv_entry ([.ref a0, .int a1, .int a2]) (n := 3) (Nat.le_of_ble_eq_true rfl)
  show W p l e (hp_rm 2 0 0) s m ([.ref a0, .int a1, .int a2] : List Value).toArray below meth c s.heap [] 0 0 (MQ below (hp_Qi Γ (fun r β => r = res.1 ∧ mo α β ∧ hm_M β a0 ρ res.2)) ([.ref a0, .int a1, .int a2] : List Value).toArray s 0 0 (hp_A Γ)) (entryFrame m ([.ref a0, .int a1, .int a2] : List Value).toArray 3)
  rw [lg_entry_eq]
  generalize (lg_sl ([.ref a0, .int a1, .int a2]) ++ List.replicate (3 - (lg_sl ([.ref a0, .int a1, .int a2])).length) Slot.unset).toArray = ls at hl ⊢
  have hl : lv_has ls 3 [(0, .ref a0), (1, .int a1), (2, .int a2)] := hl
  refine lv_aload_n hx hb dX12_watcher_0 rfl (lv_at hl 0 rfl) (hp_n (n := 1) rfl ?_)
  refine lv_iload_n hx hb dX12_watcher_1 rfl (lv_at hl 2 rfl) (hp_n (n := 2) rfl ?_)
  refine lv_iconst (v := 0) hx hb dX12_watcher_2 (by decide) (hp_n (n := 3) rfl ?_)
  refine lv_iconst (v := 3) hx hb dX12_watcher_3 (by decide) (hp_n (n := 4) rfl ?_)
  obtain ⟨rh1, qh1, hf⟩ := ms_bE hf
  refine m_cp (pc' := 7) B (hp_runS (As := [.int a2, .int (0 : Int32), .int (3 : Int32)]) (rest := [.ref a0]) C B (m_X12_isIn n Γ l α a2 (0 : Int32) (3 : Int32) rh1 qh1) lb_X12_isIn ls_X12_isIn lk_X12_113 rfl (by decide) rfl hl.1 rfl (Nat.le_of_ble_eq_true rfl) dX12_watcher_4 ⟨Nat.le_refl _, Nat.le_refl _⟩) rfl (fun Hh1 Lh1 Bh1 => ?_)
  have J26 : ∀ (αh2 : hp_T) (Hh2 : Heap) (Lh2 : List Loc) (Bh2 : hp_B Γ mo s α αh2 Hh2 Lh2) (σh2 : ms_T) (Mh2 : hm_M αh2 a0 ρ σh2) (v1_h2 : Int32) (v2_h2 : Int32) (w0_h2 : Int32) (ls : Array Slot) (hl : lv_has ls 3 [(0, .ref a0), (1, .int v1_h2), (2, .int v2_h2)]) (hf : f_X12_watcher_J26 n σh2 v1_h2 v2_h2 w0_h2 = some res), W p l e (hp_rm 2 0 0) s m ([.ref a0, .int a1, .int a2] : List Value).toArray below meth c Hh2 Lh2 0 0 (MQ below (hp_Qi Γ (fun r β => r = res.1 ∧ mo α β ∧ hm_M β a0 ρ res.2)) ([.ref a0, .int a1, .int a2] : List Value).toArray s 0 0 (hp_A Γ)) (F0 m 26 ls [.int w0_h2, .ref a0]) := by
    intro αh2 Hh2 Lh2 Bh2 σh2 Mh2 v1_h2 v2_h2 w0_h2 ls hl hf
    unfold f_X12_watcher_J26 at hf
    obtain ⟨rh3, σh3, qh3, hf⟩ := ms_cE hf
    refine m_ci (pc' := 29) (a := a0) (ρ := ρ) Bh2 (hp_runV (As := [.int w0_h2]) (rest := []) C Bh2 (m_X12_is n Γ l αh2 a0 ρ σh2 Mh2 w0_h2 (rh3, σh3) qh3) lb_X12_is lv_X12_is lk_X12_309 Mh2.1 rfl (by decide) rfl hl.1 rfl (Nat.le_of_ble_eq_true rfl) dX12_watcher_26 ⟨Nat.le_refl _, Nat.le_refl _⟩) rfl (fun αh3 Hh3 Lh3 Bh3 Mh3 => ?_)
    refine lv_if_eq (tgt := 41) hx hb dX12_watcher_29 (by decide) (fun c4 => ?_) (fun c4 => hp_n (n := 32) rfl ?_)
    ·
      replace hf := ms_iT c4 hf
      refine lv_iconst (v := (-1)) hx hb dX12_watcher_41 (by decide) (hp_n (n := 42) rfl ?_)
      cases hf
      exact q_iret C Bh3 hr hlk ⟨rfl, Bh3.2.2, Mh3⟩ dX12_watcher_42
    ·
      replace hf := ms_iF c4 hf
      refine lv_aload_n hx hb dX12_watcher_32 rfl (lv_at hl 0 rfl) (hp_n (n := 33) rfl ?_)
      refine lv_iload_n hx hb dX12_watcher_33 rfl (lv_at hl 1 rfl) (hp_n (n := 34) rfl ?_)
      refine lv_iload_n hx hb dX12_watcher_34 rfl (lv_at hl 2 rfl) (hp_n (n := 35) rfl ?_)
      obtain ⟨rh5, qh5, hf⟩ := ms_bE hf
      refine m_cp (pc' := 38) Bh3 (hp_runV (As := [.int v1_h2, .int v2_h2]) (rest := []) C Bh3 (m_X12_trust n Γ l αh3 a0 ρ σh3 Mh3 v1_h2 v2_h2 rh5 qh5) lb_X12_trust lv_X12_trust lk_X12_221 Mh3.1 rfl (by decide) rfl hl.1 rfl (Nat.le_of_ble_eq_true rfl) dX12_watcher_35 ⟨Nat.le_refl _, Nat.le_refl _⟩) rfl (fun Hh5 Lh5 Bh5 => ?_)
      refine lv_goto (tgt := 42) hx hb dX12_watcher_38 (by decide) ?_
      cases hf
      exact q_iret C Bh5 hr hlk ⟨rfl, Bh5.2.2, Mh3⟩ dX12_watcher_42
  refine lv_if_ne (tgt := 14) hx hb dX12_watcher_7 (by decide) (fun c6 => ?_) (fun c6 => hp_n (n := 10) rfl ?_)
  ·
    replace hf := ms_iF c6 hf
    refine lv_iload_n hx hb dX12_watcher_14 rfl (lv_at hl 1 rfl) (hp_n (n := 15) rfl ?_)
    obtain ⟨rh7, qh7, hf⟩ := ms_bE hf
    refine m_cp (pc' := 18) Bh1 (hp_runS (As := [.int a1]) (rest := [.ref a0]) C Bh1 (m_X12_isWatcher n Γ l α a1 rh7 qh7) lb_X12_isWatcher ls_X12_isWatcher lk_X12_356 rfl (by decide) rfl hl.1 rfl (Nat.le_of_ble_eq_true rfl) dX12_watcher_15 ⟨Nat.le_refl _, Nat.le_refl _⟩) rfl (fun Hh7 Lh7 Bh7 => ?_)
    refine lv_if_ne (tgt := 25) hx hb dX12_watcher_18 (by decide) (fun c8 => ?_) (fun c8 => hp_n (n := 21) rfl ?_)
    ·
      replace hf := ms_iF c8 hf
      refine lv_iconst (v := 0) hx hb dX12_watcher_25 (by decide) (hp_n (n := 26) rfl ?_)
      exact J26 α Hh7 Lh7 Bh7 σ hM a1 a2 (0 : Int32) ls (lv_sub hl [0, 1, 2] rfl) hf
    ·
      replace hf := ms_iT c8 hf
      refine lv_iconst (v := 2) hx hb dX12_watcher_21 (by decide) (hp_n (n := 22) rfl ?_)
      refine lv_goto (tgt := 26) hx hb dX12_watcher_22 (by decide) ?_
      exact J26 α Hh7 Lh7 Bh7 σ hM a1 a2 (2 : Int32) ls (lv_sub hl [0, 1, 2] rfl) hf
  ·
    replace hf := ms_iT c6 hf
    refine lv_iconst (v := 1) hx hb dX12_watcher_10 (by decide) (hp_n (n := 11) rfl ?_)
    refine lv_goto (tgt := 26) hx hb dX12_watcher_11 (by decide) ?_
    exact J26 α Hh1 Lh1 Bh1 σ hM a1 a2 (1 : Int32) ls (lv_sub hl [0, 1, 2] rfl) hf
def f_X12_add_J14 (n : Nat) (σh2 : ms_T) (v1_h2 : Int32) (w0_h2 : Int32) : Option (Int32 × ms_T) :=
  ms_c (f_X12_is n σh2 w0_h2) fun rh3 σh3 =>
  if rh3 = 0 then
    some ((-1 : Int32), σh3)
  else
    ms_b (f_X12_hand n σh3) fun σh5 =>
    ms_c (f_X12_adds n σh5 v1_h2) fun rh6 σh6 =>
    some (rh6, σh6)
def f_X12_add (n : Nat) (σ : ms_T) (a1 : Int32) : Option (Int32 × ms_T) :=
  ms_b (f_X12_isRecord n σ a1) fun rh1 =>
  if rh1 = 0 then
    f_X12_add_J14 n σ a1 (2 : Int32)
  else
    f_X12_add_J14 n σ a1 (0 : Int32)
set_option maxRecDepth 100000 in
set_option maxHeartbeats 4000000 in
theorem m_X12_add (n : Nat) (Γ : hp_G) (l : Launch) (α : hp_T) (a0 : Nat) (ρ : Nat → Nat) (σ : ms_T) (hM : hm_M α a0 ρ σ) (a1 : Int32) (res : (Int32 × ms_T)) (hf : f_X12_add n σ a1 = some res) : Met l yX12_add (hp_ws yX12_add cX12_add 2 (some .int)) (hp_rm 2 0 0) (hp_Pc Γ α [.ref a0, .int a1]) (hp_Qi Γ (fun r β => r = res.1 ∧ mo α β ∧ hm_M β a0 ρ res.2)) 0 0 (hp_A Γ) := by
  unfold f_X12_add at hf
  refine hp_start (by decide) ?_
  intro p e s m below meth c C hr hlk B0 hnm
  have C : hp_C Γ p m c cX12_add 2 s ([.ref a0, .int a1] : List Value).toArray RX12 := C
  have hx := C.1.1
  have hb := C.1.2.1
  have hown := C.1.2.2.2.1
  have hts := C.1.2.2.2.2
  have B : hp_B Γ mo s α α s.heap [] := ⟨B0.1, B0.2.1, mo_rf⟩
  have hl := lv_entry ([.ref a0, .int a1]) (n := 2) (Nat.le_of_ble_eq_true rfl)
  show W p l e (hp_rm 2 0 0) s m ([.ref a0, .int a1] : List Value).toArray below meth c s.heap [] 0 0 (MQ below (hp_Qi Γ (fun r β => r = res.1 ∧ mo α β ∧ hm_M β a0 ρ res.2)) ([.ref a0, .int a1] : List Value).toArray s 0 0 (hp_A Γ)) (entryFrame m ([.ref a0, .int a1] : List Value).toArray 2)
  rw [lg_entry_eq]
  generalize (lg_sl ([.ref a0, .int a1]) ++ List.replicate (2 - (lg_sl ([.ref a0, .int a1])).length) Slot.unset).toArray = ls at hl ⊢
  have hl : lv_has ls 2 [(0, .ref a0), (1, .int a1)] := hl
  refine lv_aload_n hx hb dX12_add_0 rfl (lv_at hl 0 rfl) (hp_n (n := 1) rfl ?_)
  refine lv_aload_n hx hb dX12_add_1 rfl (lv_at hl 0 rfl) (hp_n (n := 2) rfl ?_)
  refine lv_iload_n hx hb dX12_add_2 rfl (lv_at hl 1 rfl) (hp_n (n := 3) rfl ?_)
  obtain ⟨rh1, qh1, hf⟩ := ms_bE hf
  refine m_cp (pc' := 6) B (hp_runV (As := [.int a1]) (rest := [.ref a0]) C B (m_X12_isRecord n Γ l α a0 ρ σ hM a1 rh1 qh1) lb_X12_isRecord lv_X12_isRecord lk_X12_344 hM.1 rfl (by decide) rfl hl.1 rfl (Nat.le_of_ble_eq_true rfl) dX12_add_3 ⟨Nat.le_refl _, Nat.le_refl _⟩) rfl (fun Hh1 Lh1 Bh1 => ?_)
  have J14 : ∀ (αh2 : hp_T) (Hh2 : Heap) (Lh2 : List Loc) (Bh2 : hp_B Γ mo s α αh2 Hh2 Lh2) (σh2 : ms_T) (Mh2 : hm_M αh2 a0 ρ σh2) (v1_h2 : Int32) (w0_h2 : Int32) (ls : Array Slot) (hl : lv_has ls 2 [(0, .ref a0), (1, .int v1_h2)]) (hf : f_X12_add_J14 n σh2 v1_h2 w0_h2 = some res), W p l e (hp_rm 2 0 0) s m ([.ref a0, .int a1] : List Value).toArray below meth c Hh2 Lh2 0 0 (MQ below (hp_Qi Γ (fun r β => r = res.1 ∧ mo α β ∧ hm_M β a0 ρ res.2)) ([.ref a0, .int a1] : List Value).toArray s 0 0 (hp_A Γ)) (F0 m 14 ls [.int w0_h2, .ref a0]) := by
    intro αh2 Hh2 Lh2 Bh2 σh2 Mh2 v1_h2 w0_h2 ls hl hf
    unfold f_X12_add_J14 at hf
    obtain ⟨rh3, σh3, qh3, hf⟩ := ms_cE hf
    refine m_ci (pc' := 17) (a := a0) (ρ := ρ) Bh2 (hp_runV (As := [.int w0_h2]) (rest := []) C Bh2 (m_X12_is n Γ l αh2 a0 ρ σh2 Mh2 w0_h2 (rh3, σh3) qh3) lb_X12_is lv_X12_is lk_X12_309 Mh2.1 rfl (by decide) rfl hl.1 rfl (Nat.le_of_ble_eq_true rfl) dX12_add_14 ⟨Nat.le_refl _, Nat.le_refl _⟩) rfl (fun αh3 Hh3 Lh3 Bh3 Mh3 => ?_)
    refine lv_if_ne (tgt := 22) hx hb dX12_add_17 (by decide) (fun c4 => ?_) (fun c4 => hp_n (n := 20) rfl ?_)
    ·
      replace hf := ms_iF c4 hf
      refine lv_aload_n hx hb dX12_add_22 rfl (lv_at hl 0 rfl) (hp_n (n := 23) rfl ?_)
      obtain ⟨σh5, qh5, hf⟩ := ms_bE hf
      refine m_cv (pc' := 26) (a := a0) (ρ := ρ) Bh3 (hp_runV (As := []) (rest := []) C Bh3 (m_X12_hand n Γ l αh3 a0 ρ σh3 Mh3  σh5 qh5) lb_X12_hand lv_X12_hand lk_X12_359 Mh3.1 rfl (by decide) rfl hl.1 rfl (Nat.le_of_ble_eq_true rfl) dX12_add_23 ⟨Nat.le_refl _, Nat.le_refl _⟩) rfl (fun αh5 Hh5 Lh5 Bh5 Mh5 => ?_)
      refine lv_aload_n hx hb dX12_add_26 rfl (lv_at hl 0 rfl) (hp_n (n := 27) rfl ?_)
      refine lv_iload_n hx hb dX12_add_27 rfl (lv_at hl 1 rfl) (hp_n (n := 28) rfl ?_)
      obtain ⟨rh6, σh6, qh6, hf⟩ := ms_cE hf
      refine m_ci (pc' := 31) (a := a0) (ρ := ρ) Bh5 (hp_runV (As := [.int v1_h2]) (rest := []) C Bh5 (m_X12_adds n Γ l αh5 a0 ρ σh5 Mh5 v1_h2 (rh6, σh6) qh6) lb_X12_adds lv_X12_adds lk_X12_288 Mh5.1 rfl (by decide) rfl hl.1 rfl (Nat.le_of_ble_eq_true rfl) dX12_add_28 ⟨Nat.le_refl _, Nat.le_refl _⟩) rfl (fun αh6 Hh6 Lh6 Bh6 Mh6 => ?_)
      cases hf
      exact q_iret C Bh6 hr hlk ⟨rfl, Bh6.2.2, Mh6⟩ dX12_add_31
    ·
      replace hf := ms_iT c4 hf
      refine lv_iconst (v := (-1)) hx hb dX12_add_20 (by decide) (hp_n (n := 21) rfl ?_)
      cases hf
      exact q_iret C Bh3 hr hlk ⟨rfl, Bh3.2.2, Mh3⟩ dX12_add_21
  refine lv_if_eq (tgt := 13) hx hb dX12_add_6 (by decide) (fun c7 => ?_) (fun c7 => hp_n (n := 9) rfl ?_)
  ·
    replace hf := ms_iT c7 hf
    refine lv_iconst (v := 2) hx hb dX12_add_13 (by decide) (hp_n (n := 14) rfl ?_)
    exact J14 α Hh1 Lh1 Bh1 σ hM a1 (2 : Int32) ls (lv_sub hl [0, 1] rfl) hf
  ·
    replace hf := ms_iF c7 hf
    refine lv_iconst (v := 0) hx hb dX12_add_9 (by decide) (hp_n (n := 10) rfl ?_)
    refine lv_goto (tgt := 14) hx hb dX12_add_10 (by decide) ?_
    exact J14 α Hh1 Lh1 Bh1 σ hM a1 (0 : Int32) ls (lv_sub hl [0, 1] rfl) hf
def f_X12_fork_J22 (n : Nat) (σh1 : ms_T) (v1_h1 : Int32) (v2_h1 : Int32) (w0_h1 : Int32) : Option (Int32 × ms_T) :=
  ms_c (f_X12_is n σh1 w0_h1) fun rh2 σh2 =>
  if rh2 = 0 then
    some ((-1 : Int32), σh2)
  else
    ms_c (f_X12_forks n σh2 v1_h1 v2_h1) fun rh4 σh4 =>
    some (rh4, σh4)
def f_X12_fork (n : Nat) (σ : ms_T) (a1 : Int32) (a2 : Int32) : Option (Int32 × ms_T) :=
  if 0 ≤ a2 then
    ms_b (f_X12_isRecord n σ a1) fun rh6 =>
    if rh6 = 0 then
      f_X12_fork_J22 n σ a1 a2 (2 : Int32)
    else
      f_X12_fork_J22 n σ a1 a2 (0 : Int32)
  else
    f_X12_fork_J22 n σ a1 a2 (1 : Int32)
set_option maxRecDepth 100000 in
set_option maxHeartbeats 4000000 in
theorem m_X12_fork (n : Nat) (Γ : hp_G) (l : Launch) (α : hp_T) (a0 : Nat) (ρ : Nat → Nat) (σ : ms_T) (hM : hm_M α a0 ρ σ) (a1 : Int32) (a2 : Int32) (res : (Int32 × ms_T)) (hf : f_X12_fork n σ a1 a2 = some res) : Met l yX12_fork (hp_ws yX12_fork cX12_fork 3 (some .int)) (hp_rm 2 0 0) (hp_Pc Γ α [.ref a0, .int a1, .int a2]) (hp_Qi Γ (fun r β => r = res.1 ∧ mo α β ∧ hm_M β a0 ρ res.2)) 0 0 (hp_A Γ) := by
  unfold f_X12_fork at hf
  refine hp_start (by decide) ?_
  intro p e s m below meth c C hr hlk B0 hnm
  have C : hp_C Γ p m c cX12_fork 3 s ([.ref a0, .int a1, .int a2] : List Value).toArray RX12 := C
  have hx := C.1.1
  have hb := C.1.2.1
  have hown := C.1.2.2.2.1
  have hts := C.1.2.2.2.2
  have B : hp_B Γ mo s α α s.heap [] := ⟨B0.1, B0.2.1, mo_rf⟩
  have hl := lv_entry ([.ref a0, .int a1, .int a2]) (n := 3) (Nat.le_of_ble_eq_true rfl)
  show W p l e (hp_rm 2 0 0) s m ([.ref a0, .int a1, .int a2] : List Value).toArray below meth c s.heap [] 0 0 (MQ below (hp_Qi Γ (fun r β => r = res.1 ∧ mo α β ∧ hm_M β a0 ρ res.2)) ([.ref a0, .int a1, .int a2] : List Value).toArray s 0 0 (hp_A Γ)) (entryFrame m ([.ref a0, .int a1, .int a2] : List Value).toArray 3)
  rw [lg_entry_eq]
  generalize (lg_sl ([.ref a0, .int a1, .int a2]) ++ List.replicate (3 - (lg_sl ([.ref a0, .int a1, .int a2])).length) Slot.unset).toArray = ls at hl ⊢
  have hl : lv_has ls 3 [(0, .ref a0), (1, .int a1), (2, .int a2)] := hl
  refine lv_aload_n hx hb dX12_fork_0 rfl (lv_at hl 0 rfl) (hp_n (n := 1) rfl ?_)
  refine lv_iload_n hx hb dX12_fork_1 rfl (lv_at hl 2 rfl) (hp_n (n := 2) rfl ?_)
  have J22 : ∀ (αh1 : hp_T) (Hh1 : Heap) (Lh1 : List Loc) (Bh1 : hp_B Γ mo s α αh1 Hh1 Lh1) (σh1 : ms_T) (Mh1 : hm_M αh1 a0 ρ σh1) (v1_h1 : Int32) (v2_h1 : Int32) (w0_h1 : Int32) (ls : Array Slot) (hl : lv_has ls 3 [(0, .ref a0), (1, .int v1_h1), (2, .int v2_h1)]) (hf : f_X12_fork_J22 n σh1 v1_h1 v2_h1 w0_h1 = some res), W p l e (hp_rm 2 0 0) s m ([.ref a0, .int a1, .int a2] : List Value).toArray below meth c Hh1 Lh1 0 0 (MQ below (hp_Qi Γ (fun r β => r = res.1 ∧ mo α β ∧ hm_M β a0 ρ res.2)) ([.ref a0, .int a1, .int a2] : List Value).toArray s 0 0 (hp_A Γ)) (F0 m 22 ls [.int w0_h1, .ref a0]) := by
    intro αh1 Hh1 Lh1 Bh1 σh1 Mh1 v1_h1 v2_h1 w0_h1 ls hl hf
    unfold f_X12_fork_J22 at hf
    obtain ⟨rh2, σh2, qh2, hf⟩ := ms_cE hf
    refine m_ci (pc' := 25) (a := a0) (ρ := ρ) Bh1 (hp_runV (As := [.int w0_h1]) (rest := []) C Bh1 (m_X12_is n Γ l αh1 a0 ρ σh1 Mh1 w0_h1 (rh2, σh2) qh2) lb_X12_is lv_X12_is lk_X12_309 Mh1.1 rfl (by decide) rfl hl.1 rfl (Nat.le_of_ble_eq_true rfl) dX12_fork_22 ⟨Nat.le_refl _, Nat.le_refl _⟩) rfl (fun αh2 Hh2 Lh2 Bh2 Mh2 => ?_)
    refine lv_if_eq (tgt := 37) hx hb dX12_fork_25 (by decide) (fun c3 => ?_) (fun c3 => hp_n (n := 28) rfl ?_)
    ·
      replace hf := ms_iT c3 hf
      refine lv_iconst (v := (-1)) hx hb dX12_fork_37 (by decide) (hp_n (n := 38) rfl ?_)
      cases hf
      exact q_iret C Bh2 hr hlk ⟨rfl, Bh2.2.2, Mh2⟩ dX12_fork_38
    ·
      replace hf := ms_iF c3 hf
      refine lv_aload_n hx hb dX12_fork_28 rfl (lv_at hl 0 rfl) (hp_n (n := 29) rfl ?_)
      refine lv_iload_n hx hb dX12_fork_29 rfl (lv_at hl 1 rfl) (hp_n (n := 30) rfl ?_)
      refine lv_iload_n hx hb dX12_fork_30 rfl (lv_at hl 2 rfl) (hp_n (n := 31) rfl ?_)
      obtain ⟨rh4, σh4, qh4, hf⟩ := ms_cE hf
      refine m_ci (pc' := 34) (a := a0) (ρ := ρ) Bh2 (hp_runV (As := [.int v1_h1, .int v2_h1]) (rest := []) C Bh2 (m_X12_forks n Γ l αh2 a0 ρ σh2 Mh2 v1_h1 v2_h1 (rh4, σh4) qh4) lb_X12_forks lv_X12_forks lk_X12_291 Mh2.1 rfl (by decide) rfl hl.1 rfl (Nat.le_of_ble_eq_true rfl) dX12_fork_31 ⟨Nat.le_refl _, Nat.le_refl _⟩) rfl (fun αh4 Hh4 Lh4 Bh4 Mh4 => ?_)
      refine lv_goto (tgt := 38) hx hb dX12_fork_34 (by decide) ?_
      cases hf
      exact q_iret C Bh4 hr hlk ⟨rfl, Bh4.2.2, Mh4⟩ dX12_fork_38
  refine lv_if_ge (tgt := 9) hx hb dX12_fork_2 (by decide) (fun c5 => ?_) (fun c5 => hp_n (n := 5) rfl ?_)
  ·
    replace hf := ms_iT c5 hf
    refine lv_aload_n hx hb dX12_fork_9 rfl (lv_at hl 0 rfl) (hp_n (n := 10) rfl ?_)
    refine lv_iload_n hx hb dX12_fork_10 rfl (lv_at hl 1 rfl) (hp_n (n := 11) rfl ?_)
    obtain ⟨rh6, qh6, hf⟩ := ms_bE hf
    refine m_cp (pc' := 14) B (hp_runV (As := [.int a1]) (rest := [.ref a0]) C B (m_X12_isRecord n Γ l α a0 ρ σ hM a1 rh6 qh6) lb_X12_isRecord lv_X12_isRecord lk_X12_344 hM.1 rfl (by decide) rfl hl.1 rfl (Nat.le_of_ble_eq_true rfl) dX12_fork_11 ⟨Nat.le_refl _, Nat.le_refl _⟩) rfl (fun Hh6 Lh6 Bh6 => ?_)
    refine lv_if_ne (tgt := 21) hx hb dX12_fork_14 (by decide) (fun c7 => ?_) (fun c7 => hp_n (n := 17) rfl ?_)
    ·
      replace hf := ms_iF c7 hf
      refine lv_iconst (v := 0) hx hb dX12_fork_21 (by decide) (hp_n (n := 22) rfl ?_)
      exact J22 α Hh6 Lh6 Bh6 σ hM a1 a2 (0 : Int32) ls (lv_sub hl [0, 1, 2] rfl) hf
    ·
      replace hf := ms_iT c7 hf
      refine lv_iconst (v := 2) hx hb dX12_fork_17 (by decide) (hp_n (n := 18) rfl ?_)
      refine lv_goto (tgt := 22) hx hb dX12_fork_18 (by decide) ?_
      exact J22 α Hh6 Lh6 Bh6 σ hM a1 a2 (2 : Int32) ls (lv_sub hl [0, 1, 2] rfl) hf
  ·
    replace hf := ms_iF c5 hf
    refine lv_iconst (v := 1) hx hb dX12_fork_5 (by decide) (hp_n (n := 6) rfl ?_)
    refine lv_goto (tgt := 22) hx hb dX12_fork_6 (by decide) ?_
    exact J22 α s.heap [] B σ hM a1 a2 (1 : Int32) ls (lv_sub hl [0, 1, 2] rfl) hf
def f_X12_freeze_J14 (n : Nat) (σh2 : ms_T) (v1_h2 : Int32) (w0_h2 : Int32) : Option (Int32 × ms_T) :=
  ms_c (f_X12_is n σh2 w0_h2) fun rh3 σh3 =>
  if rh3 = 0 then
    some ((-1 : Int32), σh3)
  else
    ms_c (f_X12_freezes n σh3 v1_h2) fun rh5 σh5 =>
    some (rh5, σh5)
def f_X12_freeze (n : Nat) (σ : ms_T) (a1 : Int32) : Option (Int32 × ms_T) :=
  ms_b (f_X12_isRecord n σ a1) fun rh1 =>
  if rh1 = 0 then
    f_X12_freeze_J14 n σ a1 (2 : Int32)
  else
    f_X12_freeze_J14 n σ a1 (0 : Int32)
set_option maxRecDepth 100000 in
set_option maxHeartbeats 4000000 in
theorem m_X12_freeze (n : Nat) (Γ : hp_G) (l : Launch) (α : hp_T) (a0 : Nat) (ρ : Nat → Nat) (σ : ms_T) (hM : hm_M α a0 ρ σ) (a1 : Int32) (res : (Int32 × ms_T)) (hf : f_X12_freeze n σ a1 = some res) : Met l yX12_freeze (hp_ws yX12_freeze cX12_freeze 2 (some .int)) (hp_rm 44 0 0) (hp_Pc Γ α [.ref a0, .int a1]) (hp_Qi Γ (fun r β => r = res.1 ∧ mo α β ∧ hm_M β a0 ρ res.2)) 0 0 (hp_A Γ) := by
  unfold f_X12_freeze at hf
  refine hp_start (by decide) ?_
  intro p e s m below meth c C hr hlk B0 hnm
  have C : hp_C Γ p m c cX12_freeze 2 s ([.ref a0, .int a1] : List Value).toArray RX12 := C
  have hx := C.1.1
  have hb := C.1.2.1
  have hown := C.1.2.2.2.1
  have hts := C.1.2.2.2.2
  have B : hp_B Γ mo s α α s.heap [] := ⟨B0.1, B0.2.1, mo_rf⟩
  have hl := lv_entry ([.ref a0, .int a1]) (n := 2) (Nat.le_of_ble_eq_true rfl)
  show W p l e (hp_rm 44 0 0) s m ([.ref a0, .int a1] : List Value).toArray below meth c s.heap [] 0 0 (MQ below (hp_Qi Γ (fun r β => r = res.1 ∧ mo α β ∧ hm_M β a0 ρ res.2)) ([.ref a0, .int a1] : List Value).toArray s 0 0 (hp_A Γ)) (entryFrame m ([.ref a0, .int a1] : List Value).toArray 2)
  rw [lg_entry_eq]
  generalize (lg_sl ([.ref a0, .int a1]) ++ List.replicate (2 - (lg_sl ([.ref a0, .int a1])).length) Slot.unset).toArray = ls at hl ⊢
  have hl : lv_has ls 2 [(0, .ref a0), (1, .int a1)] := hl
  refine lv_aload_n hx hb dX12_freeze_0 rfl (lv_at hl 0 rfl) (hp_n (n := 1) rfl ?_)
  refine lv_aload_n hx hb dX12_freeze_1 rfl (lv_at hl 0 rfl) (hp_n (n := 2) rfl ?_)
  refine lv_iload_n hx hb dX12_freeze_2 rfl (lv_at hl 1 rfl) (hp_n (n := 3) rfl ?_)
  obtain ⟨rh1, qh1, hf⟩ := ms_bE hf
  refine m_cp (pc' := 6) B (hp_runV (As := [.int a1]) (rest := [.ref a0]) C B (m_X12_isRecord n Γ l α a0 ρ σ hM a1 rh1 qh1) lb_X12_isRecord lv_X12_isRecord lk_X12_344 hM.1 rfl (by decide) rfl hl.1 rfl (Nat.le_of_ble_eq_true rfl) dX12_freeze_3 ⟨Nat.le_refl _, Nat.le_refl _⟩) rfl (fun Hh1 Lh1 Bh1 => ?_)
  have J14 : ∀ (αh2 : hp_T) (Hh2 : Heap) (Lh2 : List Loc) (Bh2 : hp_B Γ mo s α αh2 Hh2 Lh2) (σh2 : ms_T) (Mh2 : hm_M αh2 a0 ρ σh2) (v1_h2 : Int32) (w0_h2 : Int32) (ls : Array Slot) (hl : lv_has ls 2 [(0, .ref a0), (1, .int v1_h2)]) (hf : f_X12_freeze_J14 n σh2 v1_h2 w0_h2 = some res), W p l e (hp_rm 44 0 0) s m ([.ref a0, .int a1] : List Value).toArray below meth c Hh2 Lh2 0 0 (MQ below (hp_Qi Γ (fun r β => r = res.1 ∧ mo α β ∧ hm_M β a0 ρ res.2)) ([.ref a0, .int a1] : List Value).toArray s 0 0 (hp_A Γ)) (F0 m 14 ls [.int w0_h2, .ref a0]) := by
    intro αh2 Hh2 Lh2 Bh2 σh2 Mh2 v1_h2 w0_h2 ls hl hf
    unfold f_X12_freeze_J14 at hf
    obtain ⟨rh3, σh3, qh3, hf⟩ := ms_cE hf
    refine m_ci (pc' := 17) (a := a0) (ρ := ρ) Bh2 (hp_runV (As := [.int w0_h2]) (rest := []) C Bh2 (m_X12_is n Γ l αh2 a0 ρ σh2 Mh2 w0_h2 (rh3, σh3) qh3) lb_X12_is lv_X12_is lk_X12_309 Mh2.1 rfl (by decide) rfl hl.1 rfl (Nat.le_of_ble_eq_true rfl) dX12_freeze_14 ⟨Nat.le_refl _, Nat.le_refl _⟩) rfl (fun αh3 Hh3 Lh3 Bh3 Mh3 => ?_)
    refine lv_if_eq (tgt := 28) hx hb dX12_freeze_17 (by decide) (fun c4 => ?_) (fun c4 => hp_n (n := 20) rfl ?_)
    ·
      replace hf := ms_iT c4 hf
      refine lv_iconst (v := (-1)) hx hb dX12_freeze_28 (by decide) (hp_n (n := 29) rfl ?_)
      cases hf
      exact q_iret C Bh3 hr hlk ⟨rfl, Bh3.2.2, Mh3⟩ dX12_freeze_29
    ·
      replace hf := ms_iF c4 hf
      refine lv_aload_n hx hb dX12_freeze_20 rfl (lv_at hl 0 rfl) (hp_n (n := 21) rfl ?_)
      refine lv_iload_n hx hb dX12_freeze_21 rfl (lv_at hl 1 rfl) (hp_n (n := 22) rfl ?_)
      obtain ⟨rh5, σh5, qh5, hf⟩ := ms_cE hf
      refine m_ci (pc' := 25) (a := a0) (ρ := ρ) Bh3 (hp_runV (As := [.int v1_h2]) (rest := []) C Bh3 (m_X12_freezes n Γ l αh3 a0 ρ σh3 Mh3 v1_h2 (rh5, σh5) qh5) lb_X12_freezes lv_X12_freezes lk_X12_300 Mh3.1 rfl (by decide) rfl hl.1 rfl (Nat.le_of_ble_eq_true rfl) dX12_freeze_22 ⟨Nat.le_refl _, Nat.le_refl _⟩) rfl (fun αh5 Hh5 Lh5 Bh5 Mh5 => ?_)
      refine lv_goto (tgt := 29) hx hb dX12_freeze_25 (by decide) ?_
      cases hf
      exact q_iret C Bh5 hr hlk ⟨rfl, Bh5.2.2, Mh5⟩ dX12_freeze_29
  refine lv_if_eq (tgt := 13) hx hb dX12_freeze_6 (by decide) (fun c6 => ?_) (fun c6 => hp_n (n := 9) rfl ?_)
  ·
    replace hf := ms_iT c6 hf
    refine lv_iconst (v := 2) hx hb dX12_freeze_13 (by decide) (hp_n (n := 14) rfl ?_)
    exact J14 α Hh1 Lh1 Bh1 σ hM a1 (2 : Int32) ls (lv_sub hl [0, 1] rfl) hf
  ·
    replace hf := ms_iF c6 hf
    refine lv_iconst (v := 0) hx hb dX12_freeze_9 (by decide) (hp_n (n := 10) rfl ?_)
    refine lv_goto (tgt := 14) hx hb dX12_freeze_10 (by decide) ?_
    exact J14 α Hh1 Lh1 Bh1 σ hM a1 (0 : Int32) ls (lv_sub hl [0, 1] rfl) hf
def f_X12_show_J42 (n : Nat) (σh1 : ms_T) (v1_h1 : Int32) (v2_h1 : Int32) (v3_h1 : Int32) (w0_h1 : Int32) : Option (Int32 × ms_T) :=
  ms_c (f_X12_is n σh1 w0_h1) fun rh2 σh2 =>
  if rh2 = 0 then
    some ((-1 : Int32), σh2)
  else
    ms_c (f_X12_shows n σh2 v1_h1 v2_h1 v3_h1) fun rh4 σh4 =>
    some (rh4, σh4)
def f_X12_show_J24 (n : Nat) (σh7 : ms_T) (v1_h7 : Int32) (v2_h7 : Int32) (v3_h7 : Int32) : Option (Int32 × ms_T) :=
  f_X12_show_J42 n σh7 v1_h7 v2_h7 v3_h7 (2 : Int32)
def f_X12_show (n : Nat) (σ : ms_T) (a1 : Int32) (a2 : Int32) (a3 : Int32) : Option (Int32 × ms_T) :=
  if 0 ≤ a3 then
    ms_b (f_X12_isWatcher n a1) fun rh6 =>
    if rh6 = 0 then
      f_X12_show_J24 n σ a1 a2 a3
    else
      ms_b (f_X12_isRecord n σ a2) fun rh9 =>
      if rh9 = 0 then
        f_X12_show_J24 n σ a1 a2 a3
      else
        ms_b (f_X12_sizeOf n σ a2) fun rh11 =>
        if a3 ≤ rh11 then
          f_X12_show_J42 n σ a1 a2 a3 (0 : Int32)
        else
          f_X12_show_J42 n σ a1 a2 a3 (5 : Int32)
  else
    f_X12_show_J42 n σ a1 a2 a3 (1 : Int32)
set_option maxRecDepth 100000 in
set_option maxHeartbeats 4000000 in
theorem m_X12_show (n : Nat) (Γ : hp_G) (l : Launch) (α : hp_T) (a0 : Nat) (ρ : Nat → Nat) (σ : ms_T) (hM : hm_M α a0 ρ σ) (a1 : Int32) (a2 : Int32) (a3 : Int32) (res : (Int32 × ms_T)) (hf : f_X12_show n σ a1 a2 a3 = some res) : Met l yX12_show (hp_ws yX12_show cX12_show 4 (some .int)) (hp_rm 45 0 0) (hp_Pc Γ α [.ref a0, .int a1, .int a2, .int a3]) (hp_Qi Γ (fun r β => r = res.1 ∧ mo α β ∧ hm_M β a0 ρ res.2)) 0 0 (hp_A Γ) := by
  unfold f_X12_show at hf
  refine hp_start (by decide) ?_
  intro p e s m below meth c C hr hlk B0 hnm
  have C : hp_C Γ p m c cX12_show 4 s ([.ref a0, .int a1, .int a2, .int a3] : List Value).toArray RX12 := C
  have hx := C.1.1
  have hb := C.1.2.1
  have hown := C.1.2.2.2.1
  have hts := C.1.2.2.2.2
  have B : hp_B Γ mo s α α s.heap [] := ⟨B0.1, B0.2.1, mo_rf⟩
  have hl := lv_entry ([.ref a0, .int a1, .int a2, .int a3]) (n := 4) (Nat.le_of_ble_eq_true rfl)
  show W p l e (hp_rm 45 0 0) s m ([.ref a0, .int a1, .int a2, .int a3] : List Value).toArray below meth c s.heap [] 0 0 (MQ below (hp_Qi Γ (fun r β => r = res.1 ∧ mo α β ∧ hm_M β a0 ρ res.2)) ([.ref a0, .int a1, .int a2, .int a3] : List Value).toArray s 0 0 (hp_A Γ)) (entryFrame m ([.ref a0, .int a1, .int a2, .int a3] : List Value).toArray 4)
  rw [lg_entry_eq]
  generalize (lg_sl ([.ref a0, .int a1, .int a2, .int a3]) ++ List.replicate (4 - (lg_sl ([.ref a0, .int a1, .int a2, .int a3])).length) Slot.unset).toArray = ls at hl ⊢
  have hl : lv_has ls 4 [(0, .ref a0), (1, .int a1), (2, .int a2), (3, .int a3)] := hl
  refine lv_aload_n hx hb dX12_show_0 rfl (lv_at hl 0 rfl) (hp_n (n := 1) rfl ?_)
  refine lv_iload_n hx hb dX12_show_1 rfl (lv_at hl 3 rfl) (hp_n (n := 2) rfl ?_)
  have J42 : ∀ (αh1 : hp_T) (Hh1 : Heap) (Lh1 : List Loc) (Bh1 : hp_B Γ mo s α αh1 Hh1 Lh1) (σh1 : ms_T) (Mh1 : hm_M αh1 a0 ρ σh1) (v1_h1 : Int32) (v2_h1 : Int32) (v3_h1 : Int32) (w0_h1 : Int32) (ls : Array Slot) (hl : lv_has ls 4 [(0, .ref a0), (1, .int v1_h1), (2, .int v2_h1), (3, .int v3_h1)]) (hf : f_X12_show_J42 n σh1 v1_h1 v2_h1 v3_h1 w0_h1 = some res), W p l e (hp_rm 45 0 0) s m ([.ref a0, .int a1, .int a2, .int a3] : List Value).toArray below meth c Hh1 Lh1 0 0 (MQ below (hp_Qi Γ (fun r β => r = res.1 ∧ mo α β ∧ hm_M β a0 ρ res.2)) ([.ref a0, .int a1, .int a2, .int a3] : List Value).toArray s 0 0 (hp_A Γ)) (F0 m 42 ls [.int w0_h1, .ref a0]) := by
    intro αh1 Hh1 Lh1 Bh1 σh1 Mh1 v1_h1 v2_h1 v3_h1 w0_h1 ls hl hf
    unfold f_X12_show_J42 at hf
    obtain ⟨rh2, σh2, qh2, hf⟩ := ms_cE hf
    refine m_ci (pc' := 45) (a := a0) (ρ := ρ) Bh1 (hp_runV (As := [.int w0_h1]) (rest := []) C Bh1 (m_X12_is n Γ l αh1 a0 ρ σh1 Mh1 w0_h1 (rh2, σh2) qh2) lb_X12_is lv_X12_is lk_X12_309 Mh1.1 rfl (by decide) rfl hl.1 rfl (Nat.le_of_ble_eq_true rfl) dX12_show_42 ⟨Nat.le_refl _, Nat.le_refl _⟩) rfl (fun αh2 Hh2 Lh2 Bh2 Mh2 => ?_)
    refine lv_if_ne (tgt := 50) hx hb dX12_show_45 (by decide) (fun c3 => ?_) (fun c3 => hp_n (n := 48) rfl ?_)
    ·
      replace hf := ms_iF c3 hf
      refine lv_aload_n hx hb dX12_show_50 rfl (lv_at hl 0 rfl) (hp_n (n := 51) rfl ?_)
      refine lv_iload_n hx hb dX12_show_51 rfl (lv_at hl 1 rfl) (hp_n (n := 52) rfl ?_)
      refine lv_iload_n hx hb dX12_show_52 rfl (lv_at hl 2 rfl) (hp_n (n := 53) rfl ?_)
      refine lv_iload_n hx hb dX12_show_53 rfl (lv_at hl 3 rfl) (hp_n (n := 54) rfl ?_)
      obtain ⟨rh4, σh4, qh4, hf⟩ := ms_cE hf
      refine m_ci (pc' := 57) (a := a0) (ρ := ρ) Bh2 (hp_runV (As := [.int v1_h1, .int v2_h1, .int v3_h1]) (rest := []) C Bh2 (m_X12_shows n Γ l αh2 a0 ρ σh2 Mh2 v1_h1 v2_h1 v3_h1 (rh4, σh4) qh4) lb_X12_shows lv_X12_shows lk_X12_306 Mh2.1 rfl (by decide) rfl hl.1 rfl (Nat.le_of_ble_eq_true rfl) dX12_show_54 ⟨Nat.le_refl _, Nat.le_refl _⟩) rfl (fun αh4 Hh4 Lh4 Bh4 Mh4 => ?_)
      cases hf
      exact q_iret C Bh4 hr hlk ⟨rfl, Bh4.2.2, Mh4⟩ dX12_show_57
    ·
      replace hf := ms_iT c3 hf
      refine lv_iconst (v := (-1)) hx hb dX12_show_48 (by decide) (hp_n (n := 49) rfl ?_)
      cases hf
      exact q_iret C Bh2 hr hlk ⟨rfl, Bh2.2.2, Mh2⟩ dX12_show_49
  refine lv_if_ge (tgt := 9) hx hb dX12_show_2 (by decide) (fun c5 => ?_) (fun c5 => hp_n (n := 5) rfl ?_)
  ·
    replace hf := ms_iT c5 hf
    refine lv_iload_n hx hb dX12_show_9 rfl (lv_at hl 1 rfl) (hp_n (n := 10) rfl ?_)
    obtain ⟨rh6, qh6, hf⟩ := ms_bE hf
    refine m_cp (pc' := 13) B (hp_runS (As := [.int a1]) (rest := [.ref a0]) C B (m_X12_isWatcher n Γ l α a1 rh6 qh6) lb_X12_isWatcher ls_X12_isWatcher lk_X12_356 rfl (by decide) rfl hl.1 rfl (Nat.le_of_ble_eq_true rfl) dX12_show_10 ⟨Nat.le_refl _, Nat.le_refl _⟩) rfl (fun Hh6 Lh6 Bh6 => ?_)
    have J24 : ∀ (αh7 : hp_T) (Hh7 : Heap) (Lh7 : List Loc) (Bh7 : hp_B Γ mo s α αh7 Hh7 Lh7) (σh7 : ms_T) (Mh7 : hm_M αh7 a0 ρ σh7) (v1_h7 : Int32) (v2_h7 : Int32) (v3_h7 : Int32) (ls : Array Slot) (hl : lv_has ls 4 [(0, .ref a0), (1, .int v1_h7), (2, .int v2_h7), (3, .int v3_h7)]) (hf : f_X12_show_J24 n σh7 v1_h7 v2_h7 v3_h7 = some res), W p l e (hp_rm 45 0 0) s m ([.ref a0, .int a1, .int a2, .int a3] : List Value).toArray below meth c Hh7 Lh7 0 0 (MQ below (hp_Qi Γ (fun r β => r = res.1 ∧ mo α β ∧ hm_M β a0 ρ res.2)) ([.ref a0, .int a1, .int a2, .int a3] : List Value).toArray s 0 0 (hp_A Γ)) (F0 m 24 ls [.ref a0]) := by
      intro αh7 Hh7 Lh7 Bh7 σh7 Mh7 v1_h7 v2_h7 v3_h7 ls hl hf
      unfold f_X12_show_J24 at hf
      refine lv_iconst (v := 2) hx hb dX12_show_24 (by decide) (hp_n (n := 25) rfl ?_)
      refine lv_goto (tgt := 42) hx hb dX12_show_25 (by decide) ?_
      exact J42 αh7 Hh7 Lh7 Bh7 σh7 Mh7 v1_h7 v2_h7 v3_h7 (2 : Int32) ls (lv_sub hl [0, 1, 2, 3] rfl) hf
    refine lv_if_eq (tgt := 24) hx hb dX12_show_13 (by decide) (fun c8 => ?_) (fun c8 => hp_n (n := 16) rfl ?_)
    ·
      replace hf := ms_iT c8 hf
      exact J24 α Hh6 Lh6 Bh6 σ hM a1 a2 a3 ls (lv_sub hl [0, 1, 2, 3] rfl) hf
    ·
      replace hf := ms_iF c8 hf
      refine lv_aload_n hx hb dX12_show_16 rfl (lv_at hl 0 rfl) (hp_n (n := 17) rfl ?_)
      refine lv_iload_n hx hb dX12_show_17 rfl (lv_at hl 2 rfl) (hp_n (n := 18) rfl ?_)
      obtain ⟨rh9, qh9, hf⟩ := ms_bE hf
      refine m_cp (pc' := 21) Bh6 (hp_runV (As := [.int a2]) (rest := [.ref a0]) C Bh6 (m_X12_isRecord n Γ l α a0 ρ σ hM a2 rh9 qh9) lb_X12_isRecord lv_X12_isRecord lk_X12_344 hM.1 rfl (by decide) rfl hl.1 rfl (Nat.le_of_ble_eq_true rfl) dX12_show_18 ⟨Nat.le_refl _, Nat.le_refl _⟩) rfl (fun Hh9 Lh9 Bh9 => ?_)
      refine lv_if_ne (tgt := 28) hx hb dX12_show_21 (by decide) (fun c10 => ?_) (fun c10 => hp_n (n := 24) rfl ?_)
      ·
        replace hf := ms_iF c10 hf
        refine lv_iload_n hx hb dX12_show_28 rfl (lv_at hl 3 rfl) (hp_n (n := 29) rfl ?_)
        refine lv_aload_n hx hb dX12_show_29 rfl (lv_at hl 0 rfl) (hp_n (n := 30) rfl ?_)
        refine lv_iload_n hx hb dX12_show_30 rfl (lv_at hl 2 rfl) (hp_n (n := 31) rfl ?_)
        obtain ⟨rh11, qh11, hf⟩ := ms_bE hf
        refine m_cp (pc' := 34) Bh9 (hp_runV (As := [.int a2]) (rest := [.int a3, .ref a0]) C Bh9 (m_X12_sizeOf n Γ l α a0 ρ σ hM a2 rh11 qh11) lb_X12_sizeOf lv_X12_sizeOf lk_X12_209 hM.1 rfl (by decide) rfl hl.1 rfl (Nat.le_of_ble_eq_true rfl) dX12_show_31 ⟨Nat.le_refl _, Nat.le_refl _⟩) rfl (fun Hh11 Lh11 Bh11 => ?_)
        refine lv_icmp_le (tgt := 41) hx hb dX12_show_34 (by decide) (fun c12 => ?_) (fun c12 => hp_n (n := 37) rfl ?_)
        ·
          replace hf := ms_iT c12 hf
          refine lv_iconst (v := 0) hx hb dX12_show_41 (by decide) (hp_n (n := 42) rfl ?_)
          exact J42 α Hh11 Lh11 Bh11 σ hM a1 a2 a3 (0 : Int32) ls (lv_sub hl [0, 1, 2, 3] rfl) hf
        ·
          replace hf := ms_iF c12 hf
          refine lv_iconst (v := 5) hx hb dX12_show_37 (by decide) (hp_n (n := 38) rfl ?_)
          refine lv_goto (tgt := 42) hx hb dX12_show_38 (by decide) ?_
          exact J42 α Hh11 Lh11 Bh11 σ hM a1 a2 a3 (5 : Int32) ls (lv_sub hl [0, 1, 2, 3] rfl) hf
      ·
        replace hf := ms_iT c10 hf
        exact J24 α Hh9 Lh9 Bh9 σ hM a1 a2 a3 ls (lv_sub hl [0, 1, 2, 3] rfl) hf
  ·
    replace hf := ms_iF c5 hf
    refine lv_iconst (v := 1) hx hb dX12_show_5 (by decide) (hp_n (n := 6) rfl ?_)
    refine lv_goto (tgt := 42) hx hb dX12_show_6 (by decide) ?_
    exact J42 α s.heap [] B σ hM a1 a2 a3 (1 : Int32) ls (lv_sub hl [0, 1, 2, 3] rfl) hf
def f_X12_meet_J196 (n : Nat) (σh14 : ms_T) (v8_h14 : Int32) : Option (Int32 × ms_T) :=
  ms_g (4 : Int32) 1980 <|
  ms_g (4 : Int32) 1980 <|
  ms_l (ms_sE σh14 40 ((4 : Int32)).toNatClampNeg ((ms_E σh14 40 ((4 : Int32)).toNatClampNeg) + (1 : Int32))) fun σh17 =>
  some (v8_h14, σh17)
def f_X12_meet_J155 (n : Nat) (σh13 : ms_T) (v5_h13 : Int32) (v6_h13 : Int32) (v8_h13 : Int32) : Option (Int32 × ms_T) :=
  if v8_h13 ≤ 0 then
    f_X12_meet_J196 n σh13 v8_h13
  else
    if (5 : Int32) ≤ v8_h13 then
      f_X12_meet_J196 n σh13 v8_h13
    else
      ms_g (((76 : Int32) + ((4 : Int32) * v5_h13)) + (2 : Int32)) 1980 <|
      ms_l (ms_sE σh13 40 ((((76 : Int32) + ((4 : Int32) * v5_h13)) + (2 : Int32))).toNatClampNeg (1 : Int32)) fun σh21 =>
      ms_g (((76 : Int32) + ((4 : Int32) * v6_h13)) + (2 : Int32)) 1980 <|
      ms_l (ms_sE σh21 40 ((((76 : Int32) + ((4 : Int32) * v6_h13)) + (2 : Int32))).toNatClampNeg (1 : Int32)) fun σh23 =>
      f_X12_meet_J196 n σh23 v8_h13
def f_X12_meet_J133 (n : Nat) (σh12 : ms_T) (v5_h12 : Int32) (v6_h12 : Int32) (v7_h12 : Int32) (w0_h12 : Int32) : Option (Int32 × ms_T) :=
  if w0_h12 = 0 then
    ms_b (f_X12_trust n σh12 v6_h12 (1 : Int32)) fun rh25 =>
    ms_b (f_X12_trusts n σh12 v5_h12 v7_h12 rh25) fun σh26 =>
    f_X12_meet_J155 n σh26 v5_h12 v6_h12 w0_h12
  else
    f_X12_meet_J155 n σh12 v5_h12 v6_h12 w0_h12
def f_X12_meet_J80 (n : Nat) (σh9 : ms_T) (v3_h9 : Int32) (v5_h9 : Int32) (w0_h9 : Int32) : Option (Int32 × ms_T) :=
  ms_b (f_X12_trust n σh9 w0_h9 (0 : Int32)) fun rh10 =>
  ms_b (f_X12_sizeOf n σh9 v3_h9) fun rh11 =>
  if rh10 ≤ rh11 then
    ms_b (f_X12_trust n σh9 v5_h9 (0 : Int32)) fun rh28 =>
    ms_b (f_X12_trust n σh9 v5_h9 (1 : Int32)) fun rh29 =>
    ms_b (f_X12_trust n σh9 w0_h9 (1 : Int32)) fun rh30 =>
    ms_c (f_X12_whyByRecord n σh9 v3_h9 rh28 rh29 rh10 rh30) fun rh31 σh31 =>
    f_X12_meet_J133 n σh31 v5_h9 w0_h9 rh10 rh31
  else
    f_X12_meet_J133 n σh9 v5_h9 w0_h9 rh10 (5 : Int32)
def f_X12_meet_J68 (n : Nat) (σh8 : ms_T) (v1_h8 : Int32) (v2_h8 : Int32) (v3_h8 : Int32) (v4_h8 : Int32) (w0_h8 : Int32) : Option (Int32 × ms_T) :=
  if v4_h8 = 0 then
    f_X12_meet_J80 n σh8 v3_h8 w0_h8 v1_h8
  else
    f_X12_meet_J80 n σh8 v3_h8 w0_h8 v2_h8
def f_X12_meet_J56 (n : Nat) (σh7 : ms_T) (v1_h7 : Int32) (v2_h7 : Int32) (v3_h7 : Int32) (w0_h7 : Int32) : Option (Int32 × ms_T) :=
  if w0_h7 = 0 then
    f_X12_meet_J68 n σh7 v1_h7 v2_h7 v3_h7 w0_h7 v2_h7
  else
    f_X12_meet_J68 n σh7 v1_h7 v2_h7 v3_h7 w0_h7 v1_h7
def f_X12_meet_J28 (n : Nat) (σh2 : ms_T) (v1_h2 : Int32) (v2_h2 : Int32) (v3_h2 : Int32) (w0_h2 : Int32) : Option (Int32 × ms_T) :=
  ms_c (f_X12_is n σh2 w0_h2) fun rh3 σh3 =>
  if rh3 = 0 then
    some ((-1 : Int32), σh3)
  else
    ms_b (f_X12_trust n σh3 v1_h2 (0 : Int32)) fun rh5 =>
    ms_b (f_X12_trust n σh3 v2_h2 (0 : Int32)) fun rh6 =>
    if rh6 < rh5 then
      f_X12_meet_J56 n σh3 v1_h2 v2_h2 v3_h2 (0 : Int32)
    else
      f_X12_meet_J56 n σh3 v1_h2 v2_h2 v3_h2 (1 : Int32)
def f_X12_meet_J27 (n : Nat) (σh35 : ms_T) (v1_h35 : Int32) (v2_h35 : Int32) (v3_h35 : Int32) : Option (Int32 × ms_T) :=
  f_X12_meet_J28 n σh35 v1_h35 v2_h35 v3_h35 (2 : Int32)
def f_X12_meet (n : Nat) (σ : ms_T) (a1 : Int32) (a2 : Int32) (a3 : Int32) : Option (Int32 × ms_T) :=
  ms_b (f_X12_isWatcher n a1) fun rh1 =>
  if rh1 = 0 then
    f_X12_meet_J27 n σ a1 a2 a3
  else
    ms_b (f_X12_isWatcher n a2) fun rh37 =>
    if rh37 = 0 then
      f_X12_meet_J27 n σ a1 a2 a3
    else
      ms_b (f_X12_isRecord n σ a3) fun rh39 =>
      if rh39 = 0 then
        f_X12_meet_J27 n σ a1 a2 a3
      else
        f_X12_meet_J28 n σ a1 a2 a3 (0 : Int32)
set_option maxRecDepth 100000 in
set_option maxHeartbeats 4000000 in
theorem m_X12_meet (n : Nat) (Γ : hp_G) (l : Launch) (α : hp_T) (a0 : Nat) (ρ : Nat → Nat) (σ : ms_T) (hM : hm_M α a0 ρ σ) (a1 : Int32) (a2 : Int32) (a3 : Int32) (res : (Int32 × ms_T)) (hf : f_X12_meet n σ a1 a2 a3 = some res) : Met l yX12_meet (hp_ws yX12_meet cX12_meet 9 (some .int)) (hp_rm 44 0 0) (hp_Pc Γ α [.ref a0, .int a1, .int a2, .int a3]) (hp_Qi Γ (fun r β => r = res.1 ∧ mo α β ∧ hm_M β a0 ρ res.2)) 0 0 (hp_A Γ) := by
  unfold f_X12_meet at hf
  refine hp_start (by decide) ?_
  intro p e s m below meth c C hr hlk B0 hnm
  have C : hp_C Γ p m c cX12_meet 9 s ([.ref a0, .int a1, .int a2, .int a3] : List Value).toArray RX12 := C
  have hx := C.1.1
  have hb := C.1.2.1
  have hown := C.1.2.2.2.1
  have hts := C.1.2.2.2.2
  have B : hp_B Γ mo s α α s.heap [] := ⟨B0.1, B0.2.1, mo_rf⟩
  have hl := lv_entry ([.ref a0, .int a1, .int a2, .int a3]) (n := 9) (Nat.le_of_ble_eq_true rfl)
  show W p l e (hp_rm 44 0 0) s m ([.ref a0, .int a1, .int a2, .int a3] : List Value).toArray below meth c s.heap [] 0 0 (MQ below (hp_Qi Γ (fun r β => r = res.1 ∧ mo α β ∧ hm_M β a0 ρ res.2)) ([.ref a0, .int a1, .int a2, .int a3] : List Value).toArray s 0 0 (hp_A Γ)) (entryFrame m ([.ref a0, .int a1, .int a2, .int a3] : List Value).toArray 9)
  rw [lg_entry_eq]
  generalize (lg_sl ([.ref a0, .int a1, .int a2, .int a3]) ++ List.replicate (9 - (lg_sl ([.ref a0, .int a1, .int a2, .int a3])).length) Slot.unset).toArray = ls at hl ⊢
  have hl : lv_has ls 9 [(0, .ref a0), (1, .int a1), (2, .int a2), (3, .int a3)] := hl
  refine lv_aload_n hx hb dX12_meet_0 rfl (lv_at hl 0 rfl) (hp_n (n := 1) rfl ?_)
  refine lv_iload_n hx hb dX12_meet_1 rfl (lv_at hl 1 rfl) (hp_n (n := 2) rfl ?_)
  obtain ⟨rh1, qh1, hf⟩ := ms_bE hf
  refine m_cp (pc' := 5) B (hp_runS (As := [.int a1]) (rest := [.ref a0]) C B (m_X12_isWatcher n Γ l α a1 rh1 qh1) lb_X12_isWatcher ls_X12_isWatcher lk_X12_356 rfl (by decide) rfl hl.1 rfl (Nat.le_of_ble_eq_true rfl) dX12_meet_2 ⟨Nat.le_refl _, Nat.le_refl _⟩) rfl (fun Hh1 Lh1 Bh1 => ?_)
  have J28 : ∀ (αh2 : hp_T) (Hh2 : Heap) (Lh2 : List Loc) (Bh2 : hp_B Γ mo s α αh2 Hh2 Lh2) (σh2 : ms_T) (Mh2 : hm_M αh2 a0 ρ σh2) (v1_h2 : Int32) (v2_h2 : Int32) (v3_h2 : Int32) (w0_h2 : Int32) (ls : Array Slot) (hl : lv_has ls 9 [(0, .ref a0), (1, .int v1_h2), (2, .int v2_h2), (3, .int v3_h2)]) (hf : f_X12_meet_J28 n σh2 v1_h2 v2_h2 v3_h2 w0_h2 = some res), W p l e (hp_rm 44 0 0) s m ([.ref a0, .int a1, .int a2, .int a3] : List Value).toArray below meth c Hh2 Lh2 0 0 (MQ below (hp_Qi Γ (fun r β => r = res.1 ∧ mo α β ∧ hm_M β a0 ρ res.2)) ([.ref a0, .int a1, .int a2, .int a3] : List Value).toArray s 0 0 (hp_A Γ)) (F0 m 28 ls [.int w0_h2, .ref a0]) := by
    intro αh2 Hh2 Lh2 Bh2 σh2 Mh2 v1_h2 v2_h2 v3_h2 w0_h2 ls hl hf
    unfold f_X12_meet_J28 at hf
    obtain ⟨rh3, σh3, qh3, hf⟩ := ms_cE hf
    refine m_ci (pc' := 31) (a := a0) (ρ := ρ) Bh2 (hp_runV (As := [.int w0_h2]) (rest := []) C Bh2 (m_X12_is n Γ l αh2 a0 ρ σh2 Mh2 w0_h2 (rh3, σh3) qh3) lb_X12_is lv_X12_is lk_X12_309 Mh2.1 rfl (by decide) rfl hl.1 rfl (Nat.le_of_ble_eq_true rfl) dX12_meet_28 ⟨Nat.le_refl _, Nat.le_refl _⟩) rfl (fun αh3 Hh3 Lh3 Bh3 Mh3 => ?_)
    refine lv_if_ne (tgt := 36) hx hb dX12_meet_31 (by decide) (fun c4 => ?_) (fun c4 => hp_n (n := 34) rfl ?_)
    ·
      replace hf := ms_iF c4 hf
      refine lv_aload_n hx hb dX12_meet_36 rfl (lv_at hl 0 rfl) (hp_n (n := 37) rfl ?_)
      refine lv_iload_n hx hb dX12_meet_37 rfl (lv_at hl 1 rfl) (hp_n (n := 38) rfl ?_)
      refine lv_iconst (v := 0) hx hb dX12_meet_38 (by decide) (hp_n (n := 39) rfl ?_)
      obtain ⟨rh5, qh5, hf⟩ := ms_bE hf
      refine m_cp (pc' := 42) Bh3 (hp_runV (As := [.int v1_h2, .int (0 : Int32)]) (rest := []) C Bh3 (m_X12_trust n Γ l αh3 a0 ρ σh3 Mh3 v1_h2 (0 : Int32) rh5 qh5) lb_X12_trust lv_X12_trust lk_X12_221 Mh3.1 rfl (by decide) rfl hl.1 rfl (Nat.le_of_ble_eq_true rfl) dX12_meet_39 ⟨Nat.le_refl _, Nat.le_refl _⟩) rfl (fun Hh5 Lh5 Bh5 => ?_)
      refine lv_aload_n hx hb dX12_meet_42 rfl (lv_at hl 0 rfl) (hp_n (n := 43) rfl ?_)
      refine lv_iload_n hx hb dX12_meet_43 rfl (lv_at hl 2 rfl) (hp_n (n := 44) rfl ?_)
      refine lv_iconst (v := 0) hx hb dX12_meet_44 (by decide) (hp_n (n := 45) rfl ?_)
      obtain ⟨rh6, qh6, hf⟩ := ms_bE hf
      refine m_cp (pc' := 48) Bh5 (hp_runV (As := [.int v2_h2, .int (0 : Int32)]) (rest := [.int rh5]) C Bh5 (m_X12_trust n Γ l αh3 a0 ρ σh3 Mh3 v2_h2 (0 : Int32) rh6 qh6) lb_X12_trust lv_X12_trust lk_X12_221 Mh3.1 rfl (by decide) rfl hl.1 rfl (Nat.le_of_ble_eq_true rfl) dX12_meet_45 ⟨Nat.le_refl _, Nat.le_refl _⟩) rfl (fun Hh6 Lh6 Bh6 => ?_)
      have J56 : ∀ (αh7 : hp_T) (Hh7 : Heap) (Lh7 : List Loc) (Bh7 : hp_B Γ mo s α αh7 Hh7 Lh7) (σh7 : ms_T) (Mh7 : hm_M αh7 a0 ρ σh7) (v1_h7 : Int32) (v2_h7 : Int32) (v3_h7 : Int32) (w0_h7 : Int32) (ls : Array Slot) (hl : lv_has ls 9 [(0, .ref a0), (1, .int v1_h7), (2, .int v2_h7), (3, .int v3_h7)]) (hf : f_X12_meet_J56 n σh7 v1_h7 v2_h7 v3_h7 w0_h7 = some res), W p l e (hp_rm 44 0 0) s m ([.ref a0, .int a1, .int a2, .int a3] : List Value).toArray below meth c Hh7 Lh7 0 0 (MQ below (hp_Qi Γ (fun r β => r = res.1 ∧ mo α β ∧ hm_M β a0 ρ res.2)) ([.ref a0, .int a1, .int a2, .int a3] : List Value).toArray s 0 0 (hp_A Γ)) (F0 m 56 ls [.int w0_h7]) := by
        intro αh7 Hh7 Lh7 Bh7 σh7 Mh7 v1_h7 v2_h7 v3_h7 w0_h7 ls hl hf
        unfold f_X12_meet_J56 at hf
        refine lv_istore (lv' := [(4, .int w0_h7), (0, .ref a0), (1, .int v1_h7), (2, .int v2_h7), (3, .int v3_h7)]) hx hb dX12_meet_56 hl (by decide) rfl (fun ls hl => hp_n (n := 58) rfl ?_)
        refine lv_iload hx hb dX12_meet_58 (lv_at hl 0 rfl) (hp_n (n := 60) rfl ?_)
        have J68 : ∀ (αh8 : hp_T) (Hh8 : Heap) (Lh8 : List Loc) (Bh8 : hp_B Γ mo s α αh8 Hh8 Lh8) (σh8 : ms_T) (Mh8 : hm_M αh8 a0 ρ σh8) (v1_h8 : Int32) (v2_h8 : Int32) (v3_h8 : Int32) (v4_h8 : Int32) (w0_h8 : Int32) (ls : Array Slot) (hl : lv_has ls 9 [(0, .ref a0), (1, .int v1_h8), (2, .int v2_h8), (3, .int v3_h8), (4, .int v4_h8)]) (hf : f_X12_meet_J68 n σh8 v1_h8 v2_h8 v3_h8 v4_h8 w0_h8 = some res), W p l e (hp_rm 44 0 0) s m ([.ref a0, .int a1, .int a2, .int a3] : List Value).toArray below meth c Hh8 Lh8 0 0 (MQ below (hp_Qi Γ (fun r β => r = res.1 ∧ mo α β ∧ hm_M β a0 ρ res.2)) ([.ref a0, .int a1, .int a2, .int a3] : List Value).toArray s 0 0 (hp_A Γ)) (F0 m 68 ls [.int w0_h8]) := by
          intro αh8 Hh8 Lh8 Bh8 σh8 Mh8 v1_h8 v2_h8 v3_h8 v4_h8 w0_h8 ls hl hf
          unfold f_X12_meet_J68 at hf
          refine lv_istore (lv' := [(5, .int w0_h8), (0, .ref a0), (1, .int v1_h8), (2, .int v2_h8), (3, .int v3_h8), (4, .int v4_h8)]) hx hb dX12_meet_68 hl (by decide) rfl (fun ls hl => hp_n (n := 70) rfl ?_)
          refine lv_iload hx hb dX12_meet_70 (lv_at hl 5 rfl) (hp_n (n := 72) rfl ?_)
          have J80 : ∀ (αh9 : hp_T) (Hh9 : Heap) (Lh9 : List Loc) (Bh9 : hp_B Γ mo s α αh9 Hh9 Lh9) (σh9 : ms_T) (Mh9 : hm_M αh9 a0 ρ σh9) (v3_h9 : Int32) (v5_h9 : Int32) (w0_h9 : Int32) (ls : Array Slot) (hl : lv_has ls 9 [(0, .ref a0), (3, .int v3_h9), (5, .int v5_h9)]) (hf : f_X12_meet_J80 n σh9 v3_h9 v5_h9 w0_h9 = some res), W p l e (hp_rm 44 0 0) s m ([.ref a0, .int a1, .int a2, .int a3] : List Value).toArray below meth c Hh9 Lh9 0 0 (MQ below (hp_Qi Γ (fun r β => r = res.1 ∧ mo α β ∧ hm_M β a0 ρ res.2)) ([.ref a0, .int a1, .int a2, .int a3] : List Value).toArray s 0 0 (hp_A Γ)) (F0 m 80 ls [.int w0_h9]) := by
            intro αh9 Hh9 Lh9 Bh9 σh9 Mh9 v3_h9 v5_h9 w0_h9 ls hl hf
            unfold f_X12_meet_J80 at hf
            refine lv_istore (lv' := [(6, .int w0_h9), (0, .ref a0), (3, .int v3_h9), (5, .int v5_h9)]) hx hb dX12_meet_80 hl (by decide) rfl (fun ls hl => hp_n (n := 82) rfl ?_)
            refine lv_aload_n hx hb dX12_meet_82 rfl (lv_at hl 1 rfl) (hp_n (n := 83) rfl ?_)
            refine lv_iload hx hb dX12_meet_83 (lv_at hl 0 rfl) (hp_n (n := 85) rfl ?_)
            refine lv_iconst (v := 0) hx hb dX12_meet_85 (by decide) (hp_n (n := 86) rfl ?_)
            obtain ⟨rh10, qh10, hf⟩ := ms_bE hf
            refine m_cp (pc' := 89) Bh9 (hp_runV (As := [.int w0_h9, .int (0 : Int32)]) (rest := []) C Bh9 (m_X12_trust n Γ l αh9 a0 ρ σh9 Mh9 w0_h9 (0 : Int32) rh10 qh10) lb_X12_trust lv_X12_trust lk_X12_221 Mh9.1 rfl (by decide) rfl hl.1 rfl (Nat.le_of_ble_eq_true rfl) dX12_meet_86 ⟨Nat.le_refl _, Nat.le_refl _⟩) rfl (fun Hh10 Lh10 Bh10 => ?_)
            refine lv_istore (lv' := [(7, .int rh10), (6, .int w0_h9), (0, .ref a0), (3, .int v3_h9), (5, .int v5_h9)]) hx hb dX12_meet_89 hl (by decide) rfl (fun ls hl => hp_n (n := 91) rfl ?_)
            refine lv_iload hx hb dX12_meet_91 (lv_at hl 0 rfl) (hp_n (n := 93) rfl ?_)
            refine lv_aload_n hx hb dX12_meet_93 rfl (lv_at hl 2 rfl) (hp_n (n := 94) rfl ?_)
            refine lv_iload_n hx hb dX12_meet_94 rfl (lv_at hl 3 rfl) (hp_n (n := 95) rfl ?_)
            obtain ⟨rh11, qh11, hf⟩ := ms_bE hf
            refine m_cp (pc' := 98) Bh10 (hp_runV (As := [.int v3_h9]) (rest := [.int rh10]) C Bh10 (m_X12_sizeOf n Γ l αh9 a0 ρ σh9 Mh9 v3_h9 rh11 qh11) lb_X12_sizeOf lv_X12_sizeOf lk_X12_209 Mh9.1 rfl (by decide) rfl hl.1 rfl (Nat.le_of_ble_eq_true rfl) dX12_meet_95 ⟨Nat.le_refl _, Nat.le_refl _⟩) rfl (fun Hh11 Lh11 Bh11 => ?_)
            have J133 : ∀ (αh12 : hp_T) (Hh12 : Heap) (Lh12 : List Loc) (Bh12 : hp_B Γ mo s α αh12 Hh12 Lh12) (σh12 : ms_T) (Mh12 : hm_M αh12 a0 ρ σh12) (v5_h12 : Int32) (v6_h12 : Int32) (v7_h12 : Int32) (w0_h12 : Int32) (ls : Array Slot) (hl : lv_has ls 9 [(0, .ref a0), (5, .int v5_h12), (6, .int v6_h12), (7, .int v7_h12)]) (hf : f_X12_meet_J133 n σh12 v5_h12 v6_h12 v7_h12 w0_h12 = some res), W p l e (hp_rm 44 0 0) s m ([.ref a0, .int a1, .int a2, .int a3] : List Value).toArray below meth c Hh12 Lh12 0 0 (MQ below (hp_Qi Γ (fun r β => r = res.1 ∧ mo α β ∧ hm_M β a0 ρ res.2)) ([.ref a0, .int a1, .int a2, .int a3] : List Value).toArray s 0 0 (hp_A Γ)) (F0 m 133 ls [.int w0_h12]) := by
              intro αh12 Hh12 Lh12 Bh12 σh12 Mh12 v5_h12 v6_h12 v7_h12 w0_h12 ls hl hf
              unfold f_X12_meet_J133 at hf
              refine lv_istore (lv' := [(8, .int w0_h12), (0, .ref a0), (5, .int v5_h12), (6, .int v6_h12), (7, .int v7_h12)]) hx hb dX12_meet_133 hl (by decide) rfl (fun ls hl => hp_n (n := 135) rfl ?_)
              refine lv_iload hx hb dX12_meet_135 (lv_at hl 0 rfl) (hp_n (n := 137) rfl ?_)
              have J155 : ∀ (αh13 : hp_T) (Hh13 : Heap) (Lh13 : List Loc) (Bh13 : hp_B Γ mo s α αh13 Hh13 Lh13) (σh13 : ms_T) (Mh13 : hm_M αh13 a0 ρ σh13) (v5_h13 : Int32) (v6_h13 : Int32) (v8_h13 : Int32) (ls : Array Slot) (hl : lv_has ls 9 [(0, .ref a0), (5, .int v5_h13), (6, .int v6_h13), (8, .int v8_h13)]) (hf : f_X12_meet_J155 n σh13 v5_h13 v6_h13 v8_h13 = some res), W p l e (hp_rm 44 0 0) s m ([.ref a0, .int a1, .int a2, .int a3] : List Value).toArray below meth c Hh13 Lh13 0 0 (MQ below (hp_Qi Γ (fun r β => r = res.1 ∧ mo α β ∧ hm_M β a0 ρ res.2)) ([.ref a0, .int a1, .int a2, .int a3] : List Value).toArray s 0 0 (hp_A Γ)) (F0 m 155 ls []) := by
                intro αh13 Hh13 Lh13 Bh13 σh13 Mh13 v5_h13 v6_h13 v8_h13 ls hl hf
                unfold f_X12_meet_J155 at hf
                refine lv_iload hx hb dX12_meet_155 (lv_at hl 3 rfl) (hp_n (n := 157) rfl ?_)
                have J196 : ∀ (αh14 : hp_T) (Hh14 : Heap) (Lh14 : List Loc) (Bh14 : hp_B Γ mo s α αh14 Hh14 Lh14) (σh14 : ms_T) (Mh14 : hm_M αh14 a0 ρ σh14) (v8_h14 : Int32) (ls : Array Slot) (hl : lv_has ls 9 [(0, .ref a0), (8, .int v8_h14)]) (hf : f_X12_meet_J196 n σh14 v8_h14 = some res), W p l e (hp_rm 44 0 0) s m ([.ref a0, .int a1, .int a2, .int a3] : List Value).toArray below meth c Hh14 Lh14 0 0 (MQ below (hp_Qi Γ (fun r β => r = res.1 ∧ mo α β ∧ hm_M β a0 ρ res.2)) ([.ref a0, .int a1, .int a2, .int a3] : List Value).toArray s 0 0 (hp_A Γ)) (F0 m 196 ls []) := by
                  intro αh14 Hh14 Lh14 Bh14 σh14 Mh14 v8_h14 ls hl hf
                  unfold f_X12_meet_J196 at hf
                  refine lv_aload_n hx hb dX12_meet_196 rfl (lv_at hl 0 rfl) (hp_n (n := 197) rfl ?_)
                  refine m_getr (κ := 40) (k := 0) (pc' := 200) C Bh14 Mh14 fl_X12_7 rfl (by decide) dX12_meet_197 rfl ?_
                  refine lv_iconst (v := 4) hx hb dX12_meet_200 (by decide) (hp_n (n := 201) rfl ?_)
                  refine lv_dup2_11 hx hb dX12_meet_201 rfl rfl (hp_n (n := 202) rfl ?_)
                  obtain ⟨g15, hf⟩ := ms_gE hf
                  refine m_ial (κ := 40) (φ := 650) (n := 1980) (pc' := 203) C Bh14 Mh14 (by decide) (by decide) rfl g15 dX12_meet_202 rfl ?_
                  refine lv_iconst (v := 1) hx hb dX12_meet_203 (by decide) (hp_n (n := 204) rfl ?_)
                  refine lv_iadd hx hb dX12_meet_204 (hp_n (n := 205) rfl ?_)
                  obtain ⟨g16, hf⟩ := ms_gE hf
                  refine m_ias (κ := 40) (φ := 650) (n := 1980) (pc' := 206) C Bh14 Mh14 (by decide) (by decide) rfl g16 dX12_meet_205 rfl (fun αh17 Hh17 Lh17 σh17 eh17 Bh17 Mh17 => ?_)
                  replace hf := ms_lE eh17 hf
                  refine lv_iload hx hb dX12_meet_206 (lv_at hl 1 rfl) (hp_n (n := 208) rfl ?_)
                  cases hf
                  exact q_iret C Bh17 hr hlk ⟨rfl, Bh17.2.2, Mh17⟩ dX12_meet_208
                refine lv_if_le (tgt := 196) hx hb dX12_meet_157 (by decide) (fun c18 => ?_) (fun c18 => hp_n (n := 160) rfl ?_)
                ·
                  replace hf := ms_iT c18 hf
                  exact J196 αh13 Hh13 Lh13 Bh13 σh13 Mh13 v8_h13 ls (lv_sub hl [0, 3] rfl) hf
                ·
                  replace hf := ms_iF c18 hf
                  refine lv_iload hx hb dX12_meet_160 (lv_at hl 3 rfl) (hp_n (n := 162) rfl ?_)
                  refine lv_iconst (v := 5) hx hb dX12_meet_162 (by decide) (hp_n (n := 163) rfl ?_)
                  refine lv_icmp_ge (tgt := 196) hx hb dX12_meet_163 (by decide) (fun c19 => ?_) (fun c19 => hp_n (n := 166) rfl ?_)
                  ·
                    replace hf := ms_iT c19 hf
                    exact J196 αh13 Hh13 Lh13 Bh13 σh13 Mh13 v8_h13 ls (lv_sub hl [0, 3] rfl) hf
                  ·
                    replace hf := ms_iF c19 hf
                    refine lv_aload_n hx hb dX12_meet_166 rfl (lv_at hl 0 rfl) (hp_n (n := 167) rfl ?_)
                    refine m_getr (κ := 40) (k := 0) (pc' := 170) C Bh13 Mh13 fl_X12_7 rfl (by decide) dX12_meet_167 rfl ?_
                    refine lv_bipush (v := 76) hx hb dX12_meet_170 (by decide) (hp_n (n := 172) rfl ?_)
                    refine lv_iconst (v := 4) hx hb dX12_meet_172 (by decide) (hp_n (n := 173) rfl ?_)
                    refine lv_iload hx hb dX12_meet_173 (lv_at hl 1 rfl) (hp_n (n := 175) rfl ?_)
                    refine lv_imul hx hb dX12_meet_175 (hp_n (n := 176) rfl ?_)
                    refine lv_iadd hx hb dX12_meet_176 (hp_n (n := 177) rfl ?_)
                    refine lv_iconst (v := 2) hx hb dX12_meet_177 (by decide) (hp_n (n := 178) rfl ?_)
                    refine lv_iadd hx hb dX12_meet_178 (hp_n (n := 179) rfl ?_)
                    refine lv_iconst (v := 1) hx hb dX12_meet_179 (by decide) (hp_n (n := 180) rfl ?_)
                    obtain ⟨g20, hf⟩ := ms_gE hf
                    refine m_ias (κ := 40) (φ := 650) (n := 1980) (pc' := 181) C Bh13 Mh13 (by decide) (by decide) rfl g20 dX12_meet_180 rfl (fun αh21 Hh21 Lh21 σh21 eh21 Bh21 Mh21 => ?_)
                    replace hf := ms_lE eh21 hf
                    refine lv_aload_n hx hb dX12_meet_181 rfl (lv_at hl 0 rfl) (hp_n (n := 182) rfl ?_)
                    refine m_getr (κ := 40) (k := 0) (pc' := 185) C Bh21 Mh21 fl_X12_7 rfl (by decide) dX12_meet_182 rfl ?_
                    refine lv_bipush (v := 76) hx hb dX12_meet_185 (by decide) (hp_n (n := 187) rfl ?_)
                    refine lv_iconst (v := 4) hx hb dX12_meet_187 (by decide) (hp_n (n := 188) rfl ?_)
                    refine lv_iload hx hb dX12_meet_188 (lv_at hl 2 rfl) (hp_n (n := 190) rfl ?_)
                    refine lv_imul hx hb dX12_meet_190 (hp_n (n := 191) rfl ?_)
                    refine lv_iadd hx hb dX12_meet_191 (hp_n (n := 192) rfl ?_)
                    refine lv_iconst (v := 2) hx hb dX12_meet_192 (by decide) (hp_n (n := 193) rfl ?_)
                    refine lv_iadd hx hb dX12_meet_193 (hp_n (n := 194) rfl ?_)
                    refine lv_iconst (v := 1) hx hb dX12_meet_194 (by decide) (hp_n (n := 195) rfl ?_)
                    obtain ⟨g22, hf⟩ := ms_gE hf
                    refine m_ias (κ := 40) (φ := 650) (n := 1980) (pc' := 196) C Bh21 Mh21 (by decide) (by decide) rfl g22 dX12_meet_195 rfl (fun αh23 Hh23 Lh23 σh23 eh23 Bh23 Mh23 => ?_)
                    replace hf := ms_lE eh23 hf
                    exact J196 αh23 Hh23 Lh23 Bh23 σh23 Mh23 v8_h13 ls (lv_sub hl [0, 3] rfl) hf
              refine lv_if_ne (tgt := 155) hx hb dX12_meet_137 (by decide) (fun c24 => ?_) (fun c24 => hp_n (n := 140) rfl ?_)
              ·
                replace hf := ms_iF c24 hf
                exact J155 αh12 Hh12 Lh12 Bh12 σh12 Mh12 v5_h12 v6_h12 w0_h12 ls (lv_sub hl [1, 2, 3, 0] rfl) hf
              ·
                replace hf := ms_iT c24 hf
                refine lv_aload_n hx hb dX12_meet_140 rfl (lv_at hl 1 rfl) (hp_n (n := 141) rfl ?_)
                refine lv_iload hx hb dX12_meet_141 (lv_at hl 2 rfl) (hp_n (n := 143) rfl ?_)
                refine lv_iload hx hb dX12_meet_143 (lv_at hl 4 rfl) (hp_n (n := 145) rfl ?_)
                refine lv_aload_n hx hb dX12_meet_145 rfl (lv_at hl 1 rfl) (hp_n (n := 146) rfl ?_)
                refine lv_iload hx hb dX12_meet_146 (lv_at hl 3 rfl) (hp_n (n := 148) rfl ?_)
                refine lv_iconst (v := 1) hx hb dX12_meet_148 (by decide) (hp_n (n := 149) rfl ?_)
                obtain ⟨rh25, qh25, hf⟩ := ms_bE hf
                refine m_cp (pc' := 152) Bh12 (hp_runV (As := [.int v6_h12, .int (1 : Int32)]) (rest := [.int v7_h12, .int v5_h12, .ref a0]) C Bh12 (m_X12_trust n Γ l αh12 a0 ρ σh12 Mh12 v6_h12 (1 : Int32) rh25 qh25) lb_X12_trust lv_X12_trust lk_X12_221 Mh12.1 rfl (by decide) rfl hl.1 rfl (Nat.le_of_ble_eq_true rfl) dX12_meet_149 ⟨Nat.le_refl _, Nat.le_refl _⟩) rfl (fun Hh25 Lh25 Bh25 => ?_)
                obtain ⟨σh26, qh26, hf⟩ := ms_bE hf
                refine m_cv (pc' := 155) (a := a0) (ρ := ρ) Bh25 (hp_runV (As := [.int v5_h12, .int v7_h12, .int rh25]) (rest := []) C Bh25 (m_X12_trusts n Γ l αh12 a0 ρ σh12 Mh12 v5_h12 v7_h12 rh25 σh26 qh26) lb_X12_trusts lv_X12_trusts lk_X12_227 Mh12.1 rfl (by decide) rfl hl.1 rfl (Nat.le_of_ble_eq_true rfl) dX12_meet_152 ⟨Nat.le_refl _, Nat.le_refl _⟩) rfl (fun αh26 Hh26 Lh26 Bh26 Mh26 => ?_)
                exact J155 αh26 Hh26 Lh26 Bh26 σh26 Mh26 v5_h12 v6_h12 w0_h12 ls (lv_sub hl [1, 2, 3, 0] rfl) hf
            refine lv_icmp_le (tgt := 105) hx hb dX12_meet_98 (by decide) (fun c27 => ?_) (fun c27 => hp_n (n := 101) rfl ?_)
            ·
              replace hf := ms_iT c27 hf
              refine lv_aload_n hx hb dX12_meet_105 rfl (lv_at hl 2 rfl) (hp_n (n := 106) rfl ?_)
              refine lv_iload_n hx hb dX12_meet_106 rfl (lv_at hl 3 rfl) (hp_n (n := 107) rfl ?_)
              refine lv_aload_n hx hb dX12_meet_107 rfl (lv_at hl 2 rfl) (hp_n (n := 108) rfl ?_)
              refine lv_iload hx hb dX12_meet_108 (lv_at hl 4 rfl) (hp_n (n := 110) rfl ?_)
              refine lv_iconst (v := 0) hx hb dX12_meet_110 (by decide) (hp_n (n := 111) rfl ?_)
              obtain ⟨rh28, qh28, hf⟩ := ms_bE hf
              refine m_cp (pc' := 114) Bh11 (hp_runV (As := [.int v5_h9, .int (0 : Int32)]) (rest := [.int v3_h9, .ref a0]) C Bh11 (m_X12_trust n Γ l αh9 a0 ρ σh9 Mh9 v5_h9 (0 : Int32) rh28 qh28) lb_X12_trust lv_X12_trust lk_X12_221 Mh9.1 rfl (by decide) rfl hl.1 rfl (Nat.le_of_ble_eq_true rfl) dX12_meet_111 ⟨Nat.le_refl _, Nat.le_refl _⟩) rfl (fun Hh28 Lh28 Bh28 => ?_)
              refine lv_aload_n hx hb dX12_meet_114 rfl (lv_at hl 2 rfl) (hp_n (n := 115) rfl ?_)
              refine lv_iload hx hb dX12_meet_115 (lv_at hl 4 rfl) (hp_n (n := 117) rfl ?_)
              refine lv_iconst (v := 1) hx hb dX12_meet_117 (by decide) (hp_n (n := 118) rfl ?_)
              obtain ⟨rh29, qh29, hf⟩ := ms_bE hf
              refine m_cp (pc' := 121) Bh28 (hp_runV (As := [.int v5_h9, .int (1 : Int32)]) (rest := [.int rh28, .int v3_h9, .ref a0]) C Bh28 (m_X12_trust n Γ l αh9 a0 ρ σh9 Mh9 v5_h9 (1 : Int32) rh29 qh29) lb_X12_trust lv_X12_trust lk_X12_221 Mh9.1 rfl (by decide) rfl hl.1 rfl (Nat.le_of_ble_eq_true rfl) dX12_meet_118 ⟨Nat.le_refl _, Nat.le_refl _⟩) rfl (fun Hh29 Lh29 Bh29 => ?_)
              refine lv_iload hx hb dX12_meet_121 (lv_at hl 0 rfl) (hp_n (n := 123) rfl ?_)
              refine lv_aload_n hx hb dX12_meet_123 rfl (lv_at hl 2 rfl) (hp_n (n := 124) rfl ?_)
              refine lv_iload hx hb dX12_meet_124 (lv_at hl 1 rfl) (hp_n (n := 126) rfl ?_)
              refine lv_iconst (v := 1) hx hb dX12_meet_126 (by decide) (hp_n (n := 127) rfl ?_)
              obtain ⟨rh30, qh30, hf⟩ := ms_bE hf
              refine m_cp (pc' := 130) Bh29 (hp_runV (As := [.int w0_h9, .int (1 : Int32)]) (rest := [.int rh10, .int rh29, .int rh28, .int v3_h9, .ref a0]) C Bh29 (m_X12_trust n Γ l αh9 a0 ρ σh9 Mh9 w0_h9 (1 : Int32) rh30 qh30) lb_X12_trust lv_X12_trust lk_X12_221 Mh9.1 rfl (by decide) rfl hl.1 rfl (Nat.le_of_ble_eq_true rfl) dX12_meet_127 ⟨Nat.le_refl _, Nat.le_refl _⟩) rfl (fun Hh30 Lh30 Bh30 => ?_)
              obtain ⟨rh31, σh31, qh31, hf⟩ := ms_cE hf
              refine m_ci (pc' := 133) (a := a0) (ρ := ρ) Bh30 (hp_runV (As := [.int v3_h9, .int rh28, .int rh29, .int rh10, .int rh30]) (rest := []) C Bh30 (m_X12_whyByRecord n Γ l αh9 a0 ρ σh9 Mh9 v3_h9 rh28 rh29 rh10 rh30 (rh31, σh31) qh31) lb_X12_whyByRecord lv_X12_whyByRecord lk_X12_224 Mh9.1 rfl (by decide) rfl hl.1 rfl (Nat.le_of_ble_eq_true rfl) dX12_meet_130 ⟨Nat.le_refl _, Nat.le_refl _⟩) rfl (fun αh31 Hh31 Lh31 Bh31 Mh31 => ?_)
              exact J133 αh31 Hh31 Lh31 Bh31 σh31 Mh31 v5_h9 w0_h9 rh10 rh31 ls (lv_sub hl [2, 4, 1, 0] rfl) hf
            ·
              replace hf := ms_iF c27 hf
              refine lv_iconst (v := 5) hx hb dX12_meet_101 (by decide) (hp_n (n := 102) rfl ?_)
              refine lv_goto (tgt := 133) hx hb dX12_meet_102 (by decide) ?_
              exact J133 αh9 Hh11 Lh11 Bh11 σh9 Mh9 v5_h9 w0_h9 rh10 (5 : Int32) ls (lv_sub hl [2, 4, 1, 0] rfl) hf
          refine lv_if_eq (tgt := 79) hx hb dX12_meet_72 (by decide) (fun c32 => ?_) (fun c32 => hp_n (n := 75) rfl ?_)
          ·
            replace hf := ms_iT c32 hf
            refine lv_iload_n hx hb dX12_meet_79 rfl (lv_at hl 2 rfl) (hp_n (n := 80) rfl ?_)
            exact J80 αh8 Hh8 Lh8 Bh8 σh8 Mh8 v3_h8 w0_h8 v1_h8 ls (lv_sub hl [1, 4, 0] rfl) hf
          ·
            replace hf := ms_iF c32 hf
            refine lv_iload_n hx hb dX12_meet_75 rfl (lv_at hl 3 rfl) (hp_n (n := 76) rfl ?_)
            refine lv_goto (tgt := 80) hx hb dX12_meet_76 (by decide) ?_
            exact J80 αh8 Hh8 Lh8 Bh8 σh8 Mh8 v3_h8 w0_h8 v2_h8 ls (lv_sub hl [1, 4, 0] rfl) hf
        refine lv_if_eq (tgt := 67) hx hb dX12_meet_60 (by decide) (fun c33 => ?_) (fun c33 => hp_n (n := 63) rfl ?_)
        ·
          replace hf := ms_iT c33 hf
          refine lv_iload_n hx hb dX12_meet_67 rfl (lv_at hl 3 rfl) (hp_n (n := 68) rfl ?_)
          exact J68 αh7 Hh7 Lh7 Bh7 σh7 Mh7 v1_h7 v2_h7 v3_h7 w0_h7 v2_h7 ls (lv_sub hl [1, 2, 3, 4, 0] rfl) hf
        ·
          replace hf := ms_iF c33 hf
          refine lv_iload_n hx hb dX12_meet_63 rfl (lv_at hl 2 rfl) (hp_n (n := 64) rfl ?_)
          refine lv_goto (tgt := 68) hx hb dX12_meet_64 (by decide) ?_
          exact J68 αh7 Hh7 Lh7 Bh7 σh7 Mh7 v1_h7 v2_h7 v3_h7 w0_h7 v1_h7 ls (lv_sub hl [1, 2, 3, 4, 0] rfl) hf
      refine lv_icmp_gt (tgt := 55) hx hb dX12_meet_48 (by decide) (fun c34 => ?_) (fun c34 => hp_n (n := 51) rfl ?_)
      ·
        replace hf := ms_iT c34 hf
        refine lv_iconst (v := 0) hx hb dX12_meet_55 (by decide) (hp_n (n := 56) rfl ?_)
        exact J56 αh3 Hh6 Lh6 Bh6 σh3 Mh3 v1_h2 v2_h2 v3_h2 (0 : Int32) ls (lv_sub hl [0, 1, 2, 3] rfl) hf
      ·
        replace hf := ms_iF c34 hf
        refine lv_iconst (v := 1) hx hb dX12_meet_51 (by decide) (hp_n (n := 52) rfl ?_)
        refine lv_goto (tgt := 56) hx hb dX12_meet_52 (by decide) ?_
        exact J56 αh3 Hh6 Lh6 Bh6 σh3 Mh3 v1_h2 v2_h2 v3_h2 (1 : Int32) ls (lv_sub hl [0, 1, 2, 3] rfl) hf
    ·
      replace hf := ms_iT c4 hf
      refine lv_iconst (v := (-1)) hx hb dX12_meet_34 (by decide) (hp_n (n := 35) rfl ?_)
      cases hf
      exact q_iret C Bh3 hr hlk ⟨rfl, Bh3.2.2, Mh3⟩ dX12_meet_35
  have J27 : ∀ (αh35 : hp_T) (Hh35 : Heap) (Lh35 : List Loc) (Bh35 : hp_B Γ mo s α αh35 Hh35 Lh35) (σh35 : ms_T) (Mh35 : hm_M αh35 a0 ρ σh35) (v1_h35 : Int32) (v2_h35 : Int32) (v3_h35 : Int32) (ls : Array Slot) (hl : lv_has ls 9 [(0, .ref a0), (1, .int v1_h35), (2, .int v2_h35), (3, .int v3_h35)]) (hf : f_X12_meet_J27 n σh35 v1_h35 v2_h35 v3_h35 = some res), W p l e (hp_rm 44 0 0) s m ([.ref a0, .int a1, .int a2, .int a3] : List Value).toArray below meth c Hh35 Lh35 0 0 (MQ below (hp_Qi Γ (fun r β => r = res.1 ∧ mo α β ∧ hm_M β a0 ρ res.2)) ([.ref a0, .int a1, .int a2, .int a3] : List Value).toArray s 0 0 (hp_A Γ)) (F0 m 27 ls [.ref a0]) := by
    intro αh35 Hh35 Lh35 Bh35 σh35 Mh35 v1_h35 v2_h35 v3_h35 ls hl hf
    unfold f_X12_meet_J27 at hf
    refine lv_iconst (v := 2) hx hb dX12_meet_27 (by decide) (hp_n (n := 28) rfl ?_)
    exact J28 αh35 Hh35 Lh35 Bh35 σh35 Mh35 v1_h35 v2_h35 v3_h35 (2 : Int32) ls (lv_sub hl [0, 1, 2, 3] rfl) hf
  refine lv_if_eq (tgt := 27) hx hb dX12_meet_5 (by decide) (fun c36 => ?_) (fun c36 => hp_n (n := 8) rfl ?_)
  ·
    replace hf := ms_iT c36 hf
    exact J27 α Hh1 Lh1 Bh1 σ hM a1 a2 a3 ls (lv_sub hl [0, 1, 2, 3] rfl) hf
  ·
    replace hf := ms_iF c36 hf
    refine lv_iload_n hx hb dX12_meet_8 rfl (lv_at hl 2 rfl) (hp_n (n := 9) rfl ?_)
    obtain ⟨rh37, qh37, hf⟩ := ms_bE hf
    refine m_cp (pc' := 12) Bh1 (hp_runS (As := [.int a2]) (rest := [.ref a0]) C Bh1 (m_X12_isWatcher n Γ l α a2 rh37 qh37) lb_X12_isWatcher ls_X12_isWatcher lk_X12_356 rfl (by decide) rfl hl.1 rfl (Nat.le_of_ble_eq_true rfl) dX12_meet_9 ⟨Nat.le_refl _, Nat.le_refl _⟩) rfl (fun Hh37 Lh37 Bh37 => ?_)
    refine lv_if_eq (tgt := 27) hx hb dX12_meet_12 (by decide) (fun c38 => ?_) (fun c38 => hp_n (n := 15) rfl ?_)
    ·
      replace hf := ms_iT c38 hf
      exact J27 α Hh37 Lh37 Bh37 σ hM a1 a2 a3 ls (lv_sub hl [0, 1, 2, 3] rfl) hf
    ·
      replace hf := ms_iF c38 hf
      refine lv_aload_n hx hb dX12_meet_15 rfl (lv_at hl 0 rfl) (hp_n (n := 16) rfl ?_)
      refine lv_iload_n hx hb dX12_meet_16 rfl (lv_at hl 3 rfl) (hp_n (n := 17) rfl ?_)
      obtain ⟨rh39, qh39, hf⟩ := ms_bE hf
      refine m_cp (pc' := 20) Bh37 (hp_runV (As := [.int a3]) (rest := [.ref a0]) C Bh37 (m_X12_isRecord n Γ l α a0 ρ σ hM a3 rh39 qh39) lb_X12_isRecord lv_X12_isRecord lk_X12_344 hM.1 rfl (by decide) rfl hl.1 rfl (Nat.le_of_ble_eq_true rfl) dX12_meet_17 ⟨Nat.le_refl _, Nat.le_refl _⟩) rfl (fun Hh39 Lh39 Bh39 => ?_)
      refine lv_if_eq (tgt := 27) hx hb dX12_meet_20 (by decide) (fun c40 => ?_) (fun c40 => hp_n (n := 23) rfl ?_)
      ·
        replace hf := ms_iT c40 hf
        exact J27 α Hh39 Lh39 Bh39 σ hM a1 a2 a3 ls (lv_sub hl [0, 1, 2, 3] rfl) hf
      ·
        replace hf := ms_iF c40 hf
        refine lv_iconst (v := 0) hx hb dX12_meet_23 (by decide) (hp_n (n := 24) rfl ?_)
        refine lv_goto (tgt := 28) hx hb dX12_meet_24 (by decide) ?_
        exact J28 α Hh39 Lh39 Bh39 σ hM a1 a2 a3 (0 : Int32) ls (lv_sub hl [0, 1, 2, 3] rfl) hf
end JN5_3
