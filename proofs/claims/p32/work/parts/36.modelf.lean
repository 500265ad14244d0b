def f_X12_isAgreed_J54 (n : Nat) (σ : ms_T) (rec2 : Int32 → Int32 → Int32 → Option Int32) (v1_h7 : Int32) (v2_h7 : Int32) (v3_h7 : Int32) : Option Int32 :=
  ms_l (v3_h7 + 1) fun x8 =>
  rec2 v1_h7 v2_h7 x8
def f_X12_isAgreed_L2 (n : Nat) (σ : ms_T) : Nat → Int32 → Int32 → Int32 → Option Int32
  | 0, _, _, _ => none
  | k2 + 1, v1_h1, v2_h1, v3_h1 =>
    ms_g (0 : Int32) 1980 <|
    if (ms_E σ 40 ((0 : Int32)).toNatClampNeg) ≤ v3_h1 then
      some (0 : Int32)
    else
      ms_b (f_X12_trust n σ v1_h1 (0 : Int32)) fun rh4 =>
      ms_b (f_X12_trust n σ v1_h1 (1 : Int32)) fun rh5 =>
      ms_b (f_X12_isHead n σ v3_h1 rh4 rh5) fun rh6 =>
      if rh6 = 0 then
        f_X12_isAgreed_J54 n σ (f_X12_isAgreed_L2 n σ k2) v1_h1 v2_h1 v3_h1
      else
        ms_b (f_X12_trust n σ v2_h1 (0 : Int32)) fun rh10 =>
        ms_b (f_X12_trust n σ v2_h1 (1 : Int32)) fun rh11 =>
        ms_b (f_X12_isHead n σ v3_h1 rh10 rh11) fun rh12 =>
        if rh12 = 0 then
          f_X12_isAgreed_J54 n σ (f_X12_isAgreed_L2 n σ k2) v1_h1 v2_h1 v3_h1
        else
          some (1 : Int32)
def f_X12_isAgreed (n : Nat) (σ : ms_T) (a1 : Int32) (a2 : Int32) : Option Int32 :=
  f_X12_isAgreed_L2 n σ n a1 a2 (0 : Int32)
set_option maxRecDepth 100000 in
set_option maxHeartbeats 4000000 in
theorem m_X12_isAgreed (n : Nat) (Γ : hp_G) (l : Launch) (α : hp_T) (a0 : Nat) (ρ : Nat → Nat) (σ : ms_T) (hM : hm_M α a0 ρ σ) (a1 : Int32) (a2 : Int32) (res : Int32) (hf : f_X12_isAgreed n σ a1 a2 = some res) : Met l yX12_isAgreed (hp_ws yX12_isAgreed cX12_isAgreed 4 (some .boolean)) (hp_rm 44 0 0) (hp_Pc Γ α [.ref a0, .int a1, .int a2]) (hp_Qi Γ (fun r β => β = α ∧ r = res)) 0 0 (hp_A Γ) := by
  unfold f_X12_isAgreed at hf
  refine hp_start (by decide) ?_
  intro p e s m below meth c C hr hlk B0 hnm
  have C : hp_C Γ p m c cX12_isAgreed 4 s ([.ref a0, .int a1, .int a2] : List Value).toArray RX12 := C
  have hx := C.1.1
  have hb := C.1.2.1
  have hown := C.1.2.2.2.1
  have hts := C.1.2.2.2.2
  have B : hp_B Γ (fun _ _ => True) s α α s.heap [] := ⟨B0.1, B0.2.1, trivial⟩
  have hl := lv_entry ([.ref a0, .int a1, .int a2]) (n := 4) (Nat.le_of_ble_eq_true rfl)
  show W p l e (hp_rm 44 0 0) s m ([.ref a0, .int a1, .int a2] : List Value).toArray below meth c s.heap [] 0 0 (MQ below (hp_Qi Γ (fun r β => β = α ∧ r = res)) ([.ref a0, .int a1, .int a2] : List Value).toArray s 0 0 (hp_A Γ)) (entryFrame m ([.ref a0, .int a1, .int a2] : List Value).toArray 4)
  rw [lg_entry_eq]
  generalize (lg_sl ([.ref a0, .int a1, .int a2]) ++ List.replicate (4 - (lg_sl ([.ref a0, .int a1, .int a2])).length) Slot.unset).toArray = ls at hl ⊢
  have hl : lv_has ls 4 [(0, .ref a0), (1, .int a1), (2, .int a2)] := hl
  refine lv_iconst (v := 0) hx hb dX12_isAgreed_0 (by decide) (hp_n (n := 1) rfl ?_)
  have J2 : ∀ (k2 : Nat) (Hh1 : Heap) (Lh1 : List Loc) (Bh1 : hp_B Γ (fun _ _ => True) s α α Hh1 Lh1) (v1_h1 : Int32) (v2_h1 : Int32) (v3_h1 : Int32) (ls : Array Slot) (hl : lv_has ls 4 [(0, .ref a0), (1, .int v1_h1), (2, .int v2_h1), (3, .int v3_h1)]) (hf : f_X12_isAgreed_L2 n σ k2 v1_h1 v2_h1 v3_h1 = some res), W p l e (hp_rm 44 0 0) s m ([.ref a0, .int a1, .int a2] : List Value).toArray below meth c Hh1 Lh1 0 0 (MQ below (hp_Qi Γ (fun r β => β = α ∧ r = res)) ([.ref a0, .int a1, .int a2] : List Value).toArray s 0 0 (hp_A Γ)) (F0 m 2 ls []) := by
    intro k2
    induction k2 with
    | zero => intro Hh1 Lh1 Bh1 v1_h1 v2_h1 v3_h1 ls hl hf; rw [f_X12_isAgreed_L2.eq_1] at hf; cases hf
    | succ k2 ih2 =>
      intro Hh1 Lh1 Bh1 v1_h1 v2_h1 v3_h1 ls hl hf
      rw [f_X12_isAgreed_L2.eq_2] at hf
      refine lv_iload_n hx hb dX12_isAgreed_2 rfl (lv_at hl 3 rfl) (hp_n (n := 3) rfl ?_)
      refine lv_aload_n hx hb dX12_isAgreed_3 rfl (lv_at hl 0 rfl) (hp_n (n := 4) rfl ?_)
      refine m_getr (κ := 40) (k := 0) (pc' := 7) C Bh1 hM fl_X12_7 rfl (by decide) dX12_isAgreed_4 rfl ?_
      refine lv_iconst (v := 0) hx hb dX12_isAgreed_7 (by decide) (hp_n (n := 8) rfl ?_)
      obtain ⟨g2, hf⟩ := ms_gE hf
      refine m_ial (κ := 40) (φ := 650) (n := 1980) (pc' := 9) C Bh1 hM (by decide) (by decide) rfl g2 dX12_isAgreed_8 rfl ?_
      refine lv_icmp_ge (tgt := 60) hx hb dX12_isAgreed_9 (by decide) (fun c3 => ?_) (fun c3 => hp_n (n := 12) rfl ?_)
      ·
        replace hf := ms_iT c3 hf
        refine lv_iconst (v := 0) hx hb dX12_isAgreed_60 (by decide) (hp_n (n := 61) rfl ?_)
        cases hf
        exact q_zret C Bh1 hr hlk (by decide) ⟨rfl, rfl⟩ dX12_isAgreed_61
      ·
        replace hf := ms_iF c3 hf
        refine lv_aload_n hx hb dX12_isAgreed_12 rfl (lv_at hl 0 rfl) (hp_n (n := 13) rfl ?_)
        refine lv_iload_n hx hb dX12_isAgreed_13 rfl (lv_at hl 3 rfl) (hp_n (n := 14) rfl ?_)
        refine lv_aload_n hx hb dX12_isAgreed_14 rfl (lv_at hl 0 rfl) (hp_n (n := 15) rfl ?_)
        refine lv_iload_n hx hb dX12_isAgreed_15 rfl (lv_at hl 1 rfl) (hp_n (n := 16) rfl ?_)
        refine lv_iconst (v := 0) hx hb dX12_isAgreed_16 (by decide) (hp_n (n := 17) rfl ?_)
        obtain ⟨rh4, qh4, hf⟩ := ms_bE hf
        refine m_cp (pc' := 20) Bh1 (hp_runV (As := [.int v1_h1, .int (0 : Int32)]) (rest := [.int v3_h1, .ref a0]) C Bh1 (m_X12_trust n Γ l α a0 ρ σ hM v1_h1 (0 : Int32) rh4 qh4) lb_X12_trust lv_X12_trust lk_X12_221 hM.1 rfl (by decide) rfl hl.1 rfl (Nat.le_of_ble_eq_true rfl) dX12_isAgreed_17 ⟨Nat.le_refl _, Nat.le_refl _⟩) rfl (fun Hh4 Lh4 Bh4 => ?_)
        refine lv_aload_n hx hb dX12_isAgreed_20 rfl (lv_at hl 0 rfl) (hp_n (n := 21) rfl ?_)
        refine lv_iload_n hx hb dX12_isAgreed_21 rfl (lv_at hl 1 rfl) (hp_n (n := 22) rfl ?_)
        refine lv_iconst (v := 1) hx hb dX12_isAgreed_22 (by decide) (hp_n (n := 23) rfl ?_)
        obtain ⟨rh5, qh5, hf⟩ := ms_bE hf
        refine m_cp (pc' := 26) Bh4 (hp_runV (As := [.int v1_h1, .int (1 : Int32)]) (rest := [.int rh4, .int v3_h1, .ref a0]) C Bh4 (m_X12_trust n Γ l α a0 ρ σ hM v1_h1 (1 : Int32) rh5 qh5) lb_X12_trust lv_X12_trust lk_X12_221 hM.1 rfl (by decide) rfl hl.1 rfl (Nat.le_of_ble_eq_true rfl) dX12_isAgreed_23 ⟨Nat.le_refl _, Nat.le_refl _⟩) rfl (fun Hh5 Lh5 Bh5 => ?_)
        obtain ⟨rh6, qh6, hf⟩ := ms_bE hf
        refine m_cp (pc' := 29) Bh5 (hp_runV (As := [.int v3_h1, .int rh4, .int rh5]) (rest := []) C Bh5 (m_X12_isHead n Γ l α a0 ρ σ hM v3_h1 rh4 rh5 rh6 qh6) lb_X12_isHead lv_X12_isHead lk_X12_387 hM.1 rfl (by decide) rfl hl.1 rfl (Nat.le_of_ble_eq_true rfl) dX12_isAgreed_26 ⟨Nat.le_refl _, Nat.le_refl _⟩) rfl (fun Hh6 Lh6 Bh6 => ?_)
        have J54 : ∀ (Hh7 : Heap) (Lh7 : List Loc) (Bh7 : hp_B Γ (fun _ _ => True) s α α Hh7 Lh7) (v1_h7 : Int32) (v2_h7 : Int32) (v3_h7 : Int32) (ls : Array Slot) (hl : lv_has ls 4 [(0, .ref a0), (1, .int v1_h7), (2, .int v2_h7), (3, .int v3_h7)]) (hf : f_X12_isAgreed_J54 n σ (f_X12_isAgreed_L2 n σ k2) v1_h7 v2_h7 v3_h7 = some res), W p l e (hp_rm 44 0 0) s m ([.ref a0, .int a1, .int a2] : List Value).toArray below meth c Hh7 Lh7 0 0 (MQ below (hp_Qi Γ (fun r β => β = α ∧ r = res)) ([.ref a0, .int a1, .int a2] : List Value).toArray s 0 0 (hp_A Γ)) (F0 m 54 ls []) := by
          intro Hh7 Lh7 Bh7 v1_h7 v2_h7 v3_h7 ls hl hf
          unfold f_X12_isAgreed_J54 at hf
          obtain ⟨x8, ex8⟩ : ∃ y : Int32, y = v3_h7 + 1 := ⟨_, rfl⟩
          replace hf := ms_lE ex8 hf
          refine lv_iinc (v := x8) (lv' := [(3, .int x8), (0, .ref a0), (1, .int v1_h7), (2, .int v2_h7)]) hx hb dX12_isAgreed_54 hl (k := 3) rfl (by rw [ex8]; rfl) (by decide) rfl (fun ls hl => hp_n (n := 57) rfl ?_)
          refine lv_goto (tgt := 2) hx hb dX12_isAgreed_57 (by decide) ?_
          exact ih2 Hh7 Lh7 Bh7 v1_h7 v2_h7 x8 ls (lv_sub hl [1, 2, 3, 0] rfl) hf
        refine lv_if_eq (tgt := 54) hx hb dX12_isAgreed_29 (by decide) (fun c9 => ?_) (fun c9 => hp_n (n := 32) rfl ?_)
        ·
          replace hf := ms_iT c9 hf
          exact J54 Hh6 Lh6 Bh6 v1_h1 v2_h1 v3_h1 ls (lv_sub hl [0, 1, 2, 3] rfl) hf
        ·
          replace hf := ms_iF c9 hf
          refine lv_aload_n hx hb dX12_isAgreed_32 rfl (lv_at hl 0 rfl) (hp_n (n := 33) rfl ?_)
          refine lv_iload_n hx hb dX12_isAgreed_33 rfl (lv_at hl 3 rfl) (hp_n (n := 34) rfl ?_)
          refine lv_aload_n hx hb dX12_isAgreed_34 rfl (lv_at hl 0 rfl) (hp_n (n := 35) rfl ?_)
          refine lv_iload_n hx hb dX12_isAgreed_35 rfl (lv_at hl 2 rfl) (hp_n (n := 36) rfl ?_)
          refine lv_iconst (v := 0) hx hb dX12_isAgreed_36 (by decide) (hp_n (n := 37) rfl ?_)
          obtain ⟨rh10, qh10, hf⟩ := ms_bE hf
          refine m_cp (pc' := 40) Bh6 (hp_runV (As := [.int v2_h1, .int (0 : Int32)]) (rest := [.int v3_h1, .ref a0]) C Bh6 (m_X12_trust n Γ l α a0 ρ σ hM v2_h1 (0 : Int32) rh10 qh10) lb_X12_trust lv_X12_trust lk_X12_221 hM.1 rfl (by decide) rfl hl.1 rfl (Nat.le_of_ble_eq_true rfl) dX12_isAgreed_37 ⟨Nat.le_refl _, Nat.le_refl _⟩) rfl (fun Hh10 Lh10 Bh10 => ?_)
          refine lv_aload_n hx hb dX12_isAgreed_40 rfl (lv_at hl 0 rfl) (hp_n (n := 41) rfl ?_)
          refine lv_iload_n hx hb dX12_isAgreed_41 rfl (lv_at hl 2 rfl) (hp_n (n := 42) rfl ?_)
          refine lv_iconst (v := 1) hx hb dX12_isAgreed_42 (by decide) (hp_n (n := 43) rfl ?_)
          obtain ⟨rh11, qh11, hf⟩ := ms_bE hf
          refine m_cp (pc' := 46) Bh10 (hp_runV (As := [.int v2_h1, .int (1 : Int32)]) (rest := [.int rh10, .int v3_h1, .ref a0]) C Bh10 (m_X12_trust n Γ l α a0 ρ σ hM v2_h1 (1 : Int32) rh11 qh11) lb_X12_trust lv_X12_trust lk_X12_221 hM.1 rfl (by decide) rfl hl.1 rfl (Nat.le_of_ble_eq_true rfl) dX12_isAgreed_43 ⟨Nat.le_refl _, Nat.le_refl _⟩) rfl (fun Hh11 Lh11 Bh11 => ?_)
          obtain ⟨rh12, qh12, hf⟩ := ms_bE hf
          refine m_cp (pc' := 49) Bh11 (hp_runV (As := [.int v3_h1, .int rh10, .int rh11]) (rest := []) C Bh11 (m_X12_isHead n Γ l α a0 ρ σ hM v3_h1 rh10 rh11 rh12 qh12) lb_X12_isHead lv_X12_isHead lk_X12_387 hM.1 rfl (by decide) rfl hl.1 rfl (Nat.le_of_ble_eq_true rfl) dX12_isAgreed_46 ⟨Nat.le_refl _, Nat.le_refl _⟩) rfl (fun Hh12 Lh12 Bh12 => ?_)
          refine lv_if_eq (tgt := 54) hx hb dX12_isAgreed_49 (by decide) (fun c13 => ?_) (fun c13 => hp_n (n := 52) rfl ?_)
          ·
            replace hf := ms_iT c13 hf
            exact J54 Hh12 Lh12 Bh12 v1_h1 v2_h1 v3_h1 ls (lv_sub hl [0, 1, 2, 3] rfl) hf
          ·
            replace hf := ms_iF c13 hf
            refine lv_iconst (v := 1) hx hb dX12_isAgreed_52 (by decide) (hp_n (n := 53) rfl ?_)
            cases hf
            exact q_zret C Bh12 hr hlk (by decide) ⟨rfl, rfl⟩ dX12_isAgreed_53
  refine lv_istore_n (lv' := [(3, .int (0 : Int32)), (0, .ref a0), (1, .int a1), (2, .int a2)]) hx hb dX12_isAgreed_1 rfl hl (by decide) rfl (fun ls hl => hp_n (n := 2) rfl ?_)
  exact J2 n s.heap [] B a1 a2 (0 : Int32) ls (lv_sub hl [1, 2, 3, 0] rfl) hf
def f_X12_agree_J20 (n : Nat) (σh2 : ms_T) (v1_h2 : Int32) (v2_h2 : Int32) (w0_h2 : Int32) : Option (Int32 × ms_T) :=
  ms_c (f_X12_is n σh2 w0_h2) fun rh3 σh3 =>
  if rh3 = 0 then
    some ((-1 : Int32), σh3)
  else
    ms_b (f_X12_isAgreed n σh3 v1_h2 v2_h2) fun rh5 =>
    if rh5 = 0 then
      some ((0 : Int32), σh3)
    else
      some ((1 : Int32), σh3)
def f_X12_agree_J19 (n : Nat) (σh7 : ms_T) (v1_h7 : Int32) (v2_h7 : Int32) : Option (Int32 × ms_T) :=
  f_X12_agree_J20 n σh7 v1_h7 v2_h7 (2 : Int32)
def f_X12_agree (n : Nat) (σ : ms_T) (a1 : Int32) (a2 : Int32) : Option (Int32 × ms_T) :=
  ms_b (f_X12_isWatcher n a1) fun rh1 =>
  if rh1 = 0 then
    f_X12_agree_J19 n σ a1 a2
  else
    ms_b (f_X12_isWatcher n a2) fun rh9 =>
    if rh9 = 0 then
      f_X12_agree_J19 n σ a1 a2
    else
      f_X12_agree_J20 n σ a1 a2 (0 : Int32)
set_option maxRecDepth 100000 in
set_option maxHeartbeats 4000000 in
theorem m_X12_agree (n : Nat) (Γ : hp_G) (l : Launch) (α : hp_T) (a0 : Nat) (ρ : Nat → Nat) (σ : ms_T) (hM : hm_M α a0 ρ σ) (a1 : Int32) (a2 : Int32) (res : (Int32 × ms_T)) (hf : f_X12_agree n σ a1 a2 = some res) : Met l yX12_agree (hp_ws yX12_agree cX12_agree 3 (some .int)) (hp_rm 45 0 0) (hp_Pc Γ α [.ref a0, .int a1, .int a2]) (hp_Qi Γ (fun r β => r = res.1 ∧ mo α β ∧ hm_M β a0 ρ res.2)) 0 0 (hp_A Γ) := by
  unfold f_X12_agree at hf
  refine hp_start (by decide) ?_
  intro p e s m below meth c C hr hlk B0 hnm
  have C : hp_C Γ p m c cX12_agree 3 s ([.ref a0, .int a1, .int a2] : List Value).toArray RX12 := C
  have hx := C.1.1
  have hb := C.1.2.1
  have hown := C.1.2.2.2.1
  have hts := C.1.2.2.2.2
  have B : hp_B Γ mo s α α s.heap [] := ⟨B0.1, B0.2.1, mo_rf⟩
  have hl := lv_entry ([.ref a0, .int a1, .int a2]) (n := 3) (Nat.le_of_ble_eq_true rfl)
  show W p l e (hp_rm 45 0 0) s m ([.ref a0, .int a1, .int a2] : List Value).toArray below meth c s.heap [] 0 0 (MQ below (hp_Qi Γ (fun r β => r = res.1 ∧ mo α β ∧ hm_M β a0 ρ res.2)) ([.ref a0, .int a1, .int a2] : List Value).toArray s 0 0 (hp_A Γ)) (entryFrame m ([.ref a0, .int a1, .int a2] : List Value).toArray 3)
  rw [lg_entry_eq]
  generalize (lg_sl ([.ref a0, .int a1, .int a2]) ++ List.replicate (3 - (lg_sl ([.ref a0, .int a1, .int a2])).length) Slot.unset).toArray = ls at hl ⊢
  have hl : lv_has ls 3 [(0, .ref a0), (1, .int a1), (2, .int a2)] := hl
  refine lv_aload_n hx hb dX12_agree_0 rfl (lv_at hl 0 rfl) (hp_n (n := 1) rfl ?_)
  refine lv_iload_n hx hb dX12_agree_1 rfl (lv_at hl 1 rfl) (hp_n (n := 2) rfl ?_)
  obtain ⟨rh1, qh1, hf⟩ := ms_bE hf
  refine m_cp (pc' := 5) B (hp_runS (As := [.int a1]) (rest := [.ref a0]) C B (m_X12_isWatcher n Γ l α a1 rh1 qh1) lb_X12_isWatcher ls_X12_isWatcher lk_X12_356 rfl (by decide) rfl hl.1 rfl (Nat.le_of_ble_eq_true rfl) dX12_agree_2 ⟨Nat.le_refl _, Nat.le_refl _⟩) rfl (fun Hh1 Lh1 Bh1 => ?_)
  have J20 : ∀ (αh2 : hp_T) (Hh2 : Heap) (Lh2 : List Loc) (Bh2 : hp_B Γ mo s α αh2 Hh2 Lh2) (σh2 : ms_T) (Mh2 : hm_M αh2 a0 ρ σh2) (v1_h2 : Int32) (v2_h2 : Int32) (w0_h2 : Int32) (ls : Array Slot) (hl : lv_has ls 3 [(0, .ref a0), (1, .int v1_h2), (2, .int v2_h2)]) (hf : f_X12_agree_J20 n σh2 v1_h2 v2_h2 w0_h2 = some res), W p l e (hp_rm 45 0 0) s m ([.ref a0, .int a1, .int a2] : List Value).toArray below meth c Hh2 Lh2 0 0 (MQ below (hp_Qi Γ (fun r β => r = res.1 ∧ mo α β ∧ hm_M β a0 ρ res.2)) ([.ref a0, .int a1, .int a2] : List Value).toArray s 0 0 (hp_A Γ)) (F0 m 20 ls [.int w0_h2, .ref a0]) := by
    intro αh2 Hh2 Lh2 Bh2 σh2 Mh2 v1_h2 v2_h2 w0_h2 ls hl hf
    unfold f_X12_agree_J20 at hf
    obtain ⟨rh3, σh3, qh3, hf⟩ := ms_cE hf
    refine m_ci (pc' := 23) (a := a0) (ρ := ρ) Bh2 (hp_runV (As := [.int w0_h2]) (rest := []) C Bh2 (m_X12_is n Γ l αh2 a0 ρ σh2 Mh2 w0_h2 (rh3, σh3) qh3) lb_X12_is lv_X12_is lk_X12_309 Mh2.1 rfl (by decide) rfl hl.1 rfl (Nat.le_of_ble_eq_true rfl) dX12_agree_20 ⟨Nat.le_refl _, Nat.le_refl _⟩) rfl (fun αh3 Hh3 Lh3 Bh3 Mh3 => ?_)
    refine lv_if_eq (tgt := 43) hx hb dX12_agree_23 (by decide) (fun c4 => ?_) (fun c4 => hp_n (n := 26) rfl ?_)
    ·
      replace hf := ms_iT c4 hf
      refine lv_iconst (v := (-1)) hx hb dX12_agree_43 (by decide) (hp_n (n := 44) rfl ?_)
      cases hf
      exact q_iret C Bh3 hr hlk ⟨rfl, Bh3.2.2, Mh3⟩ dX12_agree_44
    ·
      replace hf := ms_iF c4 hf
      refine lv_aload_n hx hb dX12_agree_26 rfl (lv_at hl 0 rfl) (hp_n (n := 27) rfl ?_)
      refine lv_iload_n hx hb dX12_agree_27 rfl (lv_at hl 1 rfl) (hp_n (n := 28) rfl ?_)
      refine lv_iload_n hx hb dX12_agree_28 rfl (lv_at hl 2 rfl) (hp_n (n := 29) rfl ?_)
      obtain ⟨rh5, qh5, hf⟩ := ms_bE hf
      refine m_cp (pc' := 32) Bh3 (hp_runV (As := [.int v1_h2, .int v2_h2]) (rest := []) C Bh3 (m_X12_isAgreed n Γ l αh3 a0 ρ σh3 Mh3 v1_h2 v2_h2 rh5 qh5) lb_X12_isAgreed lv_X12_isAgreed lk_X12_390 Mh3.1 rfl (by decide) rfl hl.1 rfl (Nat.le_of_ble_eq_true rfl) dX12_agree_29 ⟨Nat.le_refl _, Nat.le_refl _⟩) rfl (fun Hh5 Lh5 Bh5 => ?_)
      refine lv_if_eq (tgt := 39) hx hb dX12_agree_32 (by decide) (fun c6 => ?_) (fun c6 => hp_n (n := 35) rfl ?_)
      ·
        replace hf := ms_iT c6 hf
        refine lv_iconst (v := 0) hx hb dX12_agree_39 (by decide) (hp_n (n := 40) rfl ?_)
        refine lv_goto (tgt := 44) hx hb dX12_agree_40 (by decide) ?_
        cases hf
        exact q_iret C Bh5 hr hlk ⟨rfl, Bh5.2.2, Mh3⟩ dX12_agree_44
      ·
        replace hf := ms_iF c6 hf
        refine lv_iconst (v := 1) hx hb dX12_agree_35 (by decide) (hp_n (n := 36) rfl ?_)
        refine lv_goto (tgt := 44) hx hb dX12_agree_36 (by decide) ?_
        cases hf
        exact q_iret C Bh5 hr hlk ⟨rfl, Bh5.2.2, Mh3⟩ dX12_agree_44
  have J19 : ∀ (αh7 : hp_T) (Hh7 : Heap) (Lh7 : List Loc) (Bh7 : hp_B Γ mo s α αh7 Hh7 Lh7) (σh7 : ms_T) (Mh7 : hm_M αh7 a0 ρ σh7) (v1_h7 : Int32) (v2_h7 : Int32) (ls : Array Slot) (hl : lv_has ls 3 [(0, .ref a0), (1, .int v1_h7), (2, .int v2_h7)]) (hf : f_X12_agree_J19 n σh7 v1_h7 v2_h7 = some res), W p l e (hp_rm 45 0 0) s m ([.ref a0, .int a1, .int a2] : List Value).toArray below meth c Hh7 Lh7 0 0 (MQ below (hp_Qi Γ (fun r β => r = res.1 ∧ mo α β ∧ hm_M β a0 ρ res.2)) ([.ref a0, .int a1, .int a2] : List Value).toArray s 0 0 (hp_A Γ)) (F0 m 19 ls [.ref a0]) := by
    intro αh7 Hh7 Lh7 Bh7 σh7 Mh7 v1_h7 v2_h7 ls hl hf
    unfold f_X12_agree_J19 at hf
    refine lv_iconst (v := 2) hx hb dX12_agree_19 (by decide) (hp_n (n := 20) rfl ?_)
    exact J20 αh7 Hh7 Lh7 Bh7 σh7 Mh7 v1_h7 v2_h7 (2 : Int32) ls (lv_sub hl [0, 1, 2] rfl) hf
  refine lv_if_eq (tgt := 19) hx hb dX12_agree_5 (by decide) (fun c8 => ?_) (fun c8 => hp_n (n := 8) rfl ?_)
  ·
    replace hf := ms_iT c8 hf
    exact J19 α Hh1 Lh1 Bh1 σ hM a1 a2 ls (lv_sub hl [0, 1, 2] rfl) hf
  ·
    replace hf := ms_iF c8 hf
    refine lv_iload_n hx hb dX12_agree_8 rfl (lv_at hl 2 rfl) (hp_n (n := 9) rfl ?_)
    obtain ⟨rh9, qh9, hf⟩ := ms_bE hf
    refine m_cp (pc' := 12) Bh1 (hp_runS (As := [.int a2]) (rest := [.ref a0]) C Bh1 (m_X12_isWatcher n Γ l α a2 rh9 qh9) lb_X12_isWatcher ls_X12_isWatcher lk_X12_356 rfl (by decide) rfl hl.1 rfl (Nat.le_of_ble_eq_true rfl) dX12_agree_9 ⟨Nat.le_refl _, Nat.le_refl _⟩) rfl (fun Hh9 Lh9 Bh9 => ?_)
    refine lv_if_eq (tgt := 19) hx hb dX12_agree_12 (by decide) (fun c10 => ?_) (fun c10 => hp_n (n := 15) rfl ?_)
    ·
      replace hf := ms_iT c10 hf
      exact J19 α Hh9 Lh9 Bh9 σ hM a1 a2 ls (lv_sub hl [0, 1, 2] rfl) hf
    ·
      replace hf := ms_iF c10 hf
      refine lv_iconst (v := 0) hx hb dX12_agree_15 (by decide) (hp_n (n := 16) rfl ?_)
      refine lv_goto (tgt := 20) hx hb dX12_agree_16 (by decide) ?_
      exact J20 α Hh9 Lh9 Bh9 σ hM a1 a2 (0 : Int32) ls (lv_sub hl [0, 1, 2] rfl) hf
def f_X12_isTyped_L21 (n : Nat) (σ : ms_T) : Nat → Int32 → Int32 → Option Int32
  | 0, _, _ => none
  | k21 + 1, v1_h3, v2_h3 =>
    if (ms_I σ 664) ≤ v2_h3 then
      some (1 : Int32)
    else
      ms_g (((444 : Int32) + ((8 : Int32) * v1_h3)) + v2_h3) 1980 <|
      ms_g v2_h3 8 <|
      if (ms_E σ 40 ((((444 : Int32) + ((8 : Int32) * v1_h3)) + v2_h3)).toNatClampNeg) = (ms_E σ 45 (v2_h3).toNatClampNeg) then
        ms_l (v2_h3 + 1) fun x8 =>
        (f_X12_isTyped_L21 n σ k21) v1_h3 x8
      else
        some (0 : Int32)
def f_X12_isTyped (n : Nat) (σ : ms_T) (a1 : Int32) : Option Int32 :=
  ms_g ((252 : Int32) + a1) 1980 <|
  if (ms_E σ 40 (((252 : Int32) + a1)).toNatClampNeg) = (ms_I σ 664) then
    f_X12_isTyped_L21 n σ n a1 (0 : Int32)
  else
    some (0 : Int32)
set_option maxRecDepth 100000 in
set_option maxHeartbeats 4000000 in
theorem m_X12_isTyped (n : Nat) (Γ : hp_G) (l : Launch) (α : hp_T) (a0 : Nat) (ρ : Nat → Nat) (σ : ms_T) (hM : hm_M α a0 ρ σ) (a1 : Int32) (res : Int32) (hf : f_X12_isTyped n σ a1 = some res) : Met l yX12_isTyped (hp_ws yX12_isTyped cX12_isTyped 3 (some .boolean)) (hp_rm 0 0 0) (hp_Pc Γ α [.ref a0, .int a1]) (hp_Qi Γ (fun r β => β = α ∧ r = res)) 0 0 (hp_A Γ) := by
  unfold f_X12_isTyped at hf
  refine hp_start (by decide) ?_
  intro p e s m below meth c C hr hlk B0 hnm
  have C : hp_C Γ p m c cX12_isTyped 3 s ([.ref a0, .int a1] : List Value).toArray RX12 := C
  have hx := C.1.1
  have hb := C.1.2.1
  have hown := C.1.2.2.2.1
  have hts := C.1.2.2.2.2
  have B : hp_B Γ (fun _ _ => True) s α α s.heap [] := ⟨B0.1, B0.2.1, trivial⟩
  have hl := lv_entry ([.ref a0, .int a1]) (n := 3) (Nat.le_of_ble_eq_true rfl)
  show W p l e (hp_rm 0 0 0) s m ([.ref a0, .int a1] : List Value).toArray below meth c s.heap [] 0 0 (MQ below (hp_Qi Γ (fun r β => β = α ∧ r = res)) ([.ref a0, .int a1] : List Value).toArray s 0 0 (hp_A Γ)) (entryFrame m ([.ref a0, .int a1] : List Value).toArray 3)
  rw [lg_entry_eq]
  generalize (lg_sl ([.ref a0, .int a1]) ++ List.replicate (3 - (lg_sl ([.ref a0, .int a1])).length) Slot.unset).toArray = ls at hl ⊢
  have hl : lv_has ls 3 [(0, .ref a0), (1, .int a1)] := hl
  refine lv_aload_n hx hb dX12_isTyped_0 rfl (lv_at hl 0 rfl) (hp_n (n := 1) rfl ?_)
  refine m_getr (κ := 40) (k := 0) (pc' := 4) C B hM fl_X12_7 rfl (by decide) dX12_isTyped_1 rfl ?_
  refine lv_sipush (v := 252) hx hb dX12_isTyped_4 (by decide) (hp_n (n := 7) rfl ?_)
  refine lv_iload_n hx hb dX12_isTyped_7 rfl (lv_at hl 1 rfl) (hp_n (n := 8) rfl ?_)
  refine lv_iadd hx hb dX12_isTyped_8 (hp_n (n := 9) rfl ?_)
  obtain ⟨g1, hf⟩ := ms_gE hf
  refine m_ial (κ := 40) (φ := 650) (n := 1980) (pc' := 10) C B hM (by decide) (by decide) rfl g1 dX12_isTyped_9 rfl ?_
  refine lv_aload_n hx hb dX12_isTyped_10 rfl (lv_at hl 0 rfl) (hp_n (n := 11) rfl ?_)
  refine m_geti (k := 14) (φ := 664) (pc' := 14) C B hM fl_X12_203 rfl rfl dX12_isTyped_11 rfl ?_
  refine lv_icmp_eq (tgt := 19) hx hb dX12_isTyped_14 (by decide) (fun c2 => ?_) (fun c2 => hp_n (n := 17) rfl ?_)
  ·
    replace hf := ms_iT c2 hf
    refine lv_iconst (v := 0) hx hb dX12_isTyped_19 (by decide) (hp_n (n := 20) rfl ?_)
    have J21 : ∀ (k21 : Nat) (Hh3 : Heap) (Lh3 : List Loc) (Bh3 : hp_B Γ (fun _ _ => True) s α α Hh3 Lh3) (v1_h3 : Int32) (v2_h3 : Int32) (ls : Array Slot) (hl : lv_has ls 3 [(0, .ref a0), (1, .int v1_h3), (2, .int v2_h3)]) (hf : f_X12_isTyped_L21 n σ k21 v1_h3 v2_h3 = some res), W p l e (hp_rm 0 0 0) s m ([.ref a0, .int a1] : List Value).toArray below meth c Hh3 Lh3 0 0 (MQ below (hp_Qi Γ (fun r β => β = α ∧ r = res)) ([.ref a0, .int a1] : List Value).toArray s 0 0 (hp_A Γ)) (F0 m 21 ls []) := by
      intro k21
      induction k21 with
      | zero => intro Hh3 Lh3 Bh3 v1_h3 v2_h3 ls hl hf; rw [f_X12_isTyped_L21.eq_1] at hf; cases hf
      | succ k21 ih21 =>
        intro Hh3 Lh3 Bh3 v1_h3 v2_h3 ls hl hf
        rw [f_X12_isTyped_L21.eq_2] at hf
        refine lv_iload_n hx hb dX12_isTyped_21 rfl (lv_at hl 2 rfl) (hp_n (n := 22) rfl ?_)
        refine lv_aload_n hx hb dX12_isTyped_22 rfl (lv_at hl 0 rfl) (hp_n (n := 23) rfl ?_)
        refine m_geti (k := 14) (φ := 664) (pc' := 26) C Bh3 hM fl_X12_203 rfl rfl dX12_isTyped_23 rfl ?_
        refine lv_icmp_ge (tgt := 61) hx hb dX12_isTyped_26 (by decide) (fun c4 => ?_) (fun c4 => hp_n (n := 29) rfl ?_)
        ·
          replace hf := ms_iT c4 hf
          refine lv_iconst (v := 1) hx hb dX12_isTyped_61 (by decide) (hp_n (n := 62) rfl ?_)
          cases hf
          exact q_zret C Bh3 hr hlk (by decide) ⟨rfl, rfl⟩ dX12_isTyped_62
        ·
          replace hf := ms_iF c4 hf
          refine lv_aload_n hx hb dX12_isTyped_29 rfl (lv_at hl 0 rfl) (hp_n (n := 30) rfl ?_)
          refine m_getr (κ := 40) (k := 0) (pc' := 33) C Bh3 hM fl_X12_7 rfl (by decide) dX12_isTyped_30 rfl ?_
          refine lv_sipush (v := 444) hx hb dX12_isTyped_33 (by decide) (hp_n (n := 36) rfl ?_)
          refine lv_bipush (v := 8) hx hb dX12_isTyped_36 (by decide) (hp_n (n := 38) rfl ?_)
          refine lv_iload_n hx hb dX12_isTyped_38 rfl (lv_at hl 1 rfl) (hp_n (n := 39) rfl ?_)
          refine lv_imul hx hb dX12_isTyped_39 (hp_n (n := 40) rfl ?_)
          refine lv_iadd hx hb dX12_isTyped_40 (hp_n (n := 41) rfl ?_)
          refine lv_iload_n hx hb dX12_isTyped_41 rfl (lv_at hl 2 rfl) (hp_n (n := 42) rfl ?_)
          refine lv_iadd hx hb dX12_isTyped_42 (hp_n (n := 43) rfl ?_)
          obtain ⟨g5, hf⟩ := ms_gE hf
          refine m_ial (κ := 40) (φ := 650) (n := 1980) (pc' := 44) C Bh3 hM (by decide) (by decide) rfl g5 dX12_isTyped_43 rfl ?_
          refine lv_aload_n hx hb dX12_isTyped_44 rfl (lv_at hl 0 rfl) (hp_n (n := 45) rfl ?_)
          refine m_getr (κ := 45) (k := 12) (pc' := 48) C Bh3 hM fl_X12_25 rfl (by decide) dX12_isTyped_45 rfl ?_
          refine lv_iload_n hx hb dX12_isTyped_48 rfl (lv_at hl 2 rfl) (hp_n (n := 49) rfl ?_)
          obtain ⟨g6, hf⟩ := ms_gE hf
          refine m_ial (κ := 45) (φ := 662) (n := 8) (pc' := 50) C Bh3 hM (by decide) (by decide) rfl g6 dX12_isTyped_49 rfl ?_
          refine lv_icmp_eq (tgt := 55) hx hb dX12_isTyped_50 (by decide) (fun c7 => ?_) (fun c7 => hp_n (n := 53) rfl ?_)
          ·
            replace hf := ms_iT c7 hf
            obtain ⟨x8, ex8⟩ : ∃ y : Int32, y = v2_h3 + 1 := ⟨_, rfl⟩
            replace hf := ms_lE ex8 hf
            refine lv_iinc (v := x8) (lv' := [(2, .int x8), (0, .ref a0), (1, .int v1_h3)]) hx hb dX12_isTyped_55 hl (k := 2) rfl (by rw [ex8]; rfl) (by decide) rfl (fun ls hl => hp_n (n := 58) rfl ?_)
            refine lv_goto (tgt := 21) hx hb dX12_isTyped_58 (by decide) ?_
            exact ih21 Hh3 Lh3 Bh3 v1_h3 x8 ls (lv_sub hl [1, 2, 0] rfl) hf
          ·
            replace hf := ms_iF c7 hf
            refine lv_iconst (v := 0) hx hb dX12_isTyped_53 (by decide) (hp_n (n := 54) rfl ?_)
            cases hf
            exact q_zret C Bh3 hr hlk (by decide) ⟨rfl, rfl⟩ dX12_isTyped_54
    refine lv_istore_n (lv' := [(2, .int (0 : Int32)), (0, .ref a0), (1, .int a1)]) hx hb dX12_isTyped_20 rfl hl (by decide) rfl (fun ls hl => hp_n (n := 21) rfl ?_)
    exact J21 n s.heap [] B a1 (0 : Int32) ls (lv_sub hl [1, 2, 0] rfl) hf
  ·
    replace hf := ms_iF c2 hf
    refine lv_iconst (v := 0) hx hb dX12_isTyped_17 (by decide) (hp_n (n := 18) rfl ?_)
    cases hf
    exact q_zret C B hr hlk (by decide) ⟨rfl, rfl⟩ dX12_isTyped_18
def f_X12_where_J87 (n : Nat) (rec43 : ms_T → Int32 → Int32 → Int32 → Int32 → Int32 → Option (Int32 × ms_T)) (σh12 : ms_T) (v1_h12 : Int32) (v2_h12 : Int32) (v3_h12 : Int32) (v4_h12 : Int32) (v5_h12 : Int32) : Option (Int32 × ms_T) :=
  ms_l (v5_h12 + 1) fun x13 =>
  rec43 σh12 v1_h12 v2_h12 v3_h12 v4_h12 x13
def f_X12_where_J85 (n : Nat) (rec43 : ms_T → Int32 → Int32 → Int32 → Int32 → Int32 → Option (Int32 × ms_T)) (σh16 : ms_T) (v1_h16 : Int32) (v2_h16 : Int32) (v3_h16 : Int32) (v5_h16 : Int32) (w0_h16 : Int32) : Option (Int32 × ms_T) :=
  f_X12_where_J87 n rec43 σh16 v1_h16 v2_h16 v3_h16 w0_h16 v5_h16
def f_X12_where_L43 (n : Nat) : Nat → ms_T → Int32 → Int32 → Int32 → Int32 → Int32 → Option (Int32 × ms_T)
  | 0, _, _, _, _, _, _ => none
  | k43 + 1, σh5, v1_h5, v2_h5, v3_h5, v4_h5, v5_h5 =>
    ms_b (f_X12_sizeOf n σh5 v1_h5) fun rh6 =>
    if rh6 ≤ v5_h5 then
      if v2_h5 = (1 : Int32) then
        some (v3_h5, σh5)
      else
        if 0 ≤ v4_h5 then
          some (v4_h5, σh5)
        else
          ms_c (f_X12_refuse n σh5 (5 : Int32)) fun rh10 σh10 =>
          some (rh10, σh10)
    else
      ms_b (f_X12_isTyped n σh5 (((48 : Int32) * v1_h5) + v5_h5)) fun rh11 =>
      if rh11 = 0 then
        f_X12_where_J87 n (f_X12_where_L43 n k43) σh5 v1_h5 v2_h5 v3_h5 v4_h5 v5_h5
      else
        ms_l (v3_h5 + 1) fun x15 =>
        if 0 ≤ v4_h5 then
          f_X12_where_J85 n (f_X12_where_L43 n k43) σh5 v1_h5 v2_h5 x15 v5_h5 v4_h5
        else
          f_X12_where_J85 n (f_X12_where_L43 n k43) σh5 v1_h5 v2_h5 x15 v5_h5 v5_h5
def f_X12_where_J27 (n : Nat) (σh2 : ms_T) (v1_h2 : Int32) (v2_h2 : Int32) (w0_h2 : Int32) : Option (Int32 × ms_T) :=
  ms_c (f_X12_is n σh2 w0_h2) fun rh3 σh3 =>
  if rh3 = 0 then
    some ((-1 : Int32), σh3)
  else
    f_X12_where_L43 n n σh3 v1_h2 v2_h2 (0 : Int32) (-1 : Int32) (0 : Int32)
def f_X12_where (n : Nat) (σ : ms_T) (a1 : Int32) (a2 : Int32) : Option (Int32 × ms_T) :=
  ms_b (f_X12_isIn n a2 (0 : Int32) (1 : Int32)) fun rh1 =>
  if rh1 = 0 then
    f_X12_where_J27 n σ a1 a2 (1 : Int32)
  else
    ms_b (f_X12_isRecord n σ a1) fun rh19 =>
    if rh19 = 0 then
      f_X12_where_J27 n σ a1 a2 (2 : Int32)
    else
      f_X12_where_J27 n σ a1 a2 (0 : Int32)
set_option maxRecDepth 100000 in
set_option maxHeartbeats 4000000 in
theorem m_X12_where (n : Nat) (Γ : hp_G) (l : Launch) (α : hp_T) (a0 : Nat) (ρ : Nat → Nat) (σ : ms_T) (hM : hm_M α a0 ρ σ) (a1 : Int32) (a2 : Int32) (res : (Int32 × ms_T)) (hf : f_X12_where n σ a1 a2 = some res) : Met l yX12_where (hp_ws yX12_where cX12_where 6 (some .int)) (hp_rm 2 0 0) (hp_Pc Γ α [.ref a0, .int a1, .int a2]) (hp_Qi Γ (fun r β => r = res.1 ∧ mo α β ∧ hm_M β a0 ρ res.2)) 0 0 (hp_A Γ) := by
  unfold f_X12_where at hf
  refine hp_start (by decide) ?_
  intro p e s m below meth c C hr hlk B0 hnm
  have C : hp_C Γ p m c cX12_where 6 s ([.ref a0, .int a1, .int a2] : List Value).toArray RX12 := C
  have hx := C.1.1
  have hb := C.1.2.1
  have hown := C.1.2.2.2.1
  have hts := C.1.2.2.2.2
  have B : hp_B Γ mo s α α s.heap [] := ⟨B0.1, B0.2.1, mo_rf⟩
  have hl := lv_entry ([.ref a0, .int a1, .int a2]) (n := 6) (Nat.le_of_ble_eq_true rfl)
  show W p l e (hp_rm 2 0 0) s m ([.ref a0, .int a1, .int a2] : List Value).toArray below meth c s.heap [] 0 0 (MQ below (hp_Qi Γ (fun r β => r = res.1 ∧ mo α β ∧ hm_M β a0 ρ res.2)) ([.ref a0, .int a1, .int a2] : List Value).toArray s 0 0 (hp_A Γ)) (entryFrame m ([.ref a0, .int a1, .int a2] : List Value).toArray 6)
  rw [lg_entry_eq]
  generalize (lg_sl ([.ref a0, .int a1, .int a2]) ++ List.replicate (6 - (lg_sl ([.ref a0, .int a1, .int a2])).length) Slot.unset).toArray = ls at hl ⊢
  have hl : lv_has ls 6 [(0, .ref a0), (1, .int a1), (2, .int a2)] := hl
  refine lv_aload_n hx hb dX12_where_0 rfl (lv_at hl 0 rfl) (hp_n (n := 1) rfl ?_)
  refine lv_iload_n hx hb dX12_where_1 rfl (lv_at hl 2 rfl) (hp_n (n := 2) rfl ?_)
  refine lv_iconst (v := 0) hx hb dX12_where_2 (by decide) (hp_n (n := 3) rfl ?_)
  refine lv_iconst (v := 1) hx hb dX12_where_3 (by decide) (hp_n (n := 4) rfl ?_)
  obtain ⟨rh1, qh1, hf⟩ := ms_bE hf
  refine m_cp (pc' := 7) B (hp_runS (As := [.int a2, .int (0 : Int32), .int (1 : Int32)]) (rest := [.ref a0]) C B (m_X12_isIn n Γ l α a2 (0 : Int32) (1 : Int32) rh1 qh1) lb_X12_isIn ls_X12_isIn lk_X12_113 rfl (by decide) rfl hl.1 rfl (Nat.le_of_ble_eq_true rfl) dX12_where_4 ⟨Nat.le_refl _, Nat.le_refl _⟩) rfl (fun Hh1 Lh1 Bh1 => ?_)
  have J27 : ∀ (αh2 : hp_T) (Hh2 : Heap) (Lh2 : List Loc) (Bh2 : hp_B Γ mo s α αh2 Hh2 Lh2) (σh2 : ms_T) (Mh2 : hm_M αh2 a0 ρ σh2) (v1_h2 : Int32) (v2_h2 : Int32) (w0_h2 : Int32) (ls : Array Slot) (hl : lv_has ls 6 [(0, .ref a0), (1, .int v1_h2), (2, .int v2_h2)]) (hf : f_X12_where_J27 n σh2 v1_h2 v2_h2 w0_h2 = some res), W p l e (hp_rm 2 0 0) s m ([.ref a0, .int a1, .int a2] : List Value).toArray below meth c Hh2 Lh2 0 0 (MQ below (hp_Qi Γ (fun r β => r = res.1 ∧ mo α β ∧ hm_M β a0 ρ res.2)) ([.ref a0, .int a1, .int a2] : List Value).toArray s 0 0 (hp_A Γ)) (F0 m 27 ls [.int w0_h2, .ref a0]) := by
    intro αh2 Hh2 Lh2 Bh2 σh2 Mh2 v1_h2 v2_h2 w0_h2 ls hl hf
    unfold f_X12_where_J27 at hf
    obtain ⟨rh3, σh3, qh3, hf⟩ := ms_cE hf
    refine m_ci (pc' := 30) (a := a0) (ρ := ρ) Bh2 (hp_runV (As := [.int w0_h2]) (rest := []) C Bh2 (m_X12_is n Γ l αh2 a0 ρ σh2 Mh2 w0_h2 (rh3, σh3) qh3) lb_X12_is lv_X12_is lk_X12_309 Mh2.1 rfl (by decide) rfl hl.1 rfl (Nat.le_of_ble_eq_true rfl) dX12_where_27 ⟨Nat.le_refl _, Nat.le_refl _⟩) rfl (fun αh3 Hh3 Lh3 Bh3 Mh3 => ?_)
    refine lv_if_ne (tgt := 35) hx hb dX12_where_30 (by decide) (fun c4 => ?_) (fun c4 => hp_n (n := 33) rfl ?_)
    ·
      replace hf := ms_iF c4 hf
      refine lv_iconst (v := 0) hx hb dX12_where_35 (by decide) (hp_n (n := 36) rfl ?_)
      refine lv_istore_n (lv' := [(3, .int (0 : Int32)), (0, .ref a0), (1, .int v1_h2), (2, .int v2_h2)]) hx hb dX12_where_36 rfl hl (by decide) rfl (fun ls hl => hp_n (n := 37) rfl ?_)
      refine lv_iconst (v := (-1)) hx hb dX12_where_37 (by decide) (hp_n (n := 38) rfl ?_)
      refine lv_istore (lv' := [(4, .int (-1 : Int32)), (3, .int (0 : Int32)), (0, .ref a0), (1, .int v1_h2), (2, .int v2_h2)]) hx hb dX12_where_38 hl (by decide) rfl (fun ls hl => hp_n (n := 40) rfl ?_)
      refine lv_iconst (v := 0) hx hb dX12_where_40 (by decide) (hp_n (n := 41) rfl ?_)
      have J43 : ∀ (k43 : Nat) (αh5 : hp_T) (Hh5 : Heap) (Lh5 : List Loc) (Bh5 : hp_B Γ mo s α αh5 Hh5 Lh5) (σh5 : ms_T) (Mh5 : hm_M αh5 a0 ρ σh5) (v1_h5 : Int32) (v2_h5 : Int32) (v3_h5 : Int32) (v4_h5 : Int32) (v5_h5 : Int32) (ls : Array Slot) (hl : lv_has ls 6 [(0, .ref a0), (1, .int v1_h5), (2, .int v2_h5), (3, .int v3_h5), (4, .int v4_h5), (5, .int v5_h5)]) (hf : f_X12_where_L43 n k43 σh5 v1_h5 v2_h5 v3_h5 v4_h5 v5_h5 = some res), W p l e (hp_rm 2 0 0) s m ([.ref a0, .int a1, .int a2] : List Value).toArray below meth c Hh5 Lh5 0 0 (MQ below (hp_Qi Γ (fun r β => r = res.1 ∧ mo α β ∧ hm_M β a0 ρ res.2)) ([.ref a0, .int a1, .int a2] : List Value).toArray s 0 0 (hp_A Γ)) (F0 m 43 ls []) := by
        intro k43
        induction k43 with
        | zero => intro αh5 Hh5 Lh5 Bh5 σh5 Mh5 v1_h5 v2_h5 v3_h5 v4_h5 v5_h5 ls hl hf; rw [f_X12_where_L43.eq_1] at hf; cases hf
        | succ k43 ih43 =>
          intro αh5 Hh5 Lh5 Bh5 σh5 Mh5 v1_h5 v2_h5 v3_h5 v4_h5 v5_h5 ls hl hf
          rw [f_X12_where_L43.eq_2] at hf
          refine lv_iload hx hb dX12_where_43 (lv_at hl 5 rfl) (hp_n (n := 45) rfl ?_)
          refine lv_aload_n hx hb dX12_where_45 rfl (lv_at hl 0 rfl) (hp_n (n := 46) rfl ?_)
          refine lv_iload_n hx hb dX12_where_46 rfl (lv_at hl 1 rfl) (hp_n (n := 47) rfl ?_)
          obtain ⟨rh6, qh6, hf⟩ := ms_bE hf
          refine m_cp (pc' := 50) Bh5 (hp_runV (As := [.int v1_h5]) (rest := [.int v5_h5]) C Bh5 (m_X12_sizeOf n Γ l αh5 a0 ρ σh5 Mh5 v1_h5 rh6 qh6) lb_X12_sizeOf lv_X12_sizeOf lk_X12_209 Mh5.1 rfl (by decide) rfl hl.1 rfl (Nat.le_of_ble_eq_true rfl) dX12_where_47 ⟨Nat.le_refl _, Nat.le_refl _⟩) rfl (fun Hh6 Lh6 Bh6 => ?_)
          refine lv_icmp_ge (tgt := 93) hx hb dX12_where_50 (by decide) (fun c7 => ?_) (fun c7 => hp_n (n := 53) rfl ?_)
          ·
            replace hf := ms_iT c7 hf
            refine lv_iload_n hx hb dX12_where_93 rfl (lv_at hl 2 rfl) (hp_n (n := 94) rfl ?_)
            refine lv_iconst (v := 1) hx hb dX12_where_94 (by decide) (hp_n (n := 95) rfl ?_)
            refine lv_icmp_ne (tgt := 102) hx hb dX12_where_95 (by decide) (fun c8 => ?_) (fun c8 => hp_n (n := 98) rfl ?_)
            ·
              replace hf := ms_iF c8 hf
              refine lv_iload hx hb dX12_where_102 (lv_at hl 4 rfl) (hp_n (n := 104) rfl ?_)
              refine lv_if_ge (tgt := 115) hx hb dX12_where_104 (by decide) (fun c9 => ?_) (fun c9 => hp_n (n := 107) rfl ?_)
              ·
                replace hf := ms_iT c9 hf
                refine lv_iload hx hb dX12_where_115 (lv_at hl 4 rfl) (hp_n (n := 117) rfl ?_)
                cases hf
                exact q_iret C Bh6 hr hlk ⟨rfl, Bh6.2.2, Mh5⟩ dX12_where_117
              ·
                replace hf := ms_iF c9 hf
                refine lv_aload_n hx hb dX12_where_107 rfl (lv_at hl 0 rfl) (hp_n (n := 108) rfl ?_)
                refine lv_iconst (v := 5) hx hb dX12_where_108 (by decide) (hp_n (n := 109) rfl ?_)
                obtain ⟨rh10, σh10, qh10, hf⟩ := ms_cE hf
                refine m_ci (pc' := 112) (a := a0) (ρ := ρ) Bh6 (hp_runV (As := [.int (5 : Int32)]) (rest := []) C Bh6 (m_X12_refuse n Γ l αh5 a0 ρ σh5 Mh5 (5 : Int32) (rh10, σh10) qh10) lb_X12_refuse lv_X12_refuse lk_X12_212 Mh5.1 rfl (by decide) rfl hl.1 rfl (Nat.le_of_ble_eq_true rfl) dX12_where_109 ⟨Nat.le_refl _, Nat.le_refl _⟩) rfl (fun αh10 Hh10 Lh10 Bh10 Mh10 => ?_)
                refine lv_goto (tgt := 117) hx hb dX12_where_112 (by decide) ?_
                cases hf
                exact q_iret C Bh10 hr hlk ⟨rfl, Bh10.2.2, Mh10⟩ dX12_where_117
            ·
              replace hf := ms_iT c8 hf
              refine lv_iload_n hx hb dX12_where_98 rfl (lv_at hl 3 rfl) (hp_n (n := 99) rfl ?_)
              refine lv_goto (tgt := 117) hx hb dX12_where_99 (by decide) ?_
              cases hf
              exact q_iret C Bh6 hr hlk ⟨rfl, Bh6.2.2, Mh5⟩ dX12_where_117
          ·
            replace hf := ms_iF c7 hf
            refine lv_aload_n hx hb dX12_where_53 rfl (lv_at hl 0 rfl) (hp_n (n := 54) rfl ?_)
            refine lv_bipush (v := 48) hx hb dX12_where_54 (by decide) (hp_n (n := 56) rfl ?_)
            refine lv_iload_n hx hb dX12_where_56 rfl (lv_at hl 1 rfl) (hp_n (n := 57) rfl ?_)
            refine lv_imul hx hb dX12_where_57 (hp_n (n := 58) rfl ?_)
            refine lv_iload hx hb dX12_where_58 (lv_at hl 5 rfl) (hp_n (n := 60) rfl ?_)
            refine lv_iadd hx hb dX12_where_60 (hp_n (n := 61) rfl ?_)
            obtain ⟨rh11, qh11, hf⟩ := ms_bE hf
            refine m_cp (pc' := 64) Bh6 (hp_runV (As := [.int (((48 : Int32) * v1_h5) + v5_h5)]) (rest := []) C Bh6 (m_X12_isTyped n Γ l αh5 a0 ρ σh5 Mh5 (((48 : Int32) * v1_h5) + v5_h5) rh11 qh11) lb_X12_isTyped lv_X12_isTyped lk_X12_393 Mh5.1 rfl (by decide) rfl hl.1 rfl (Nat.le_of_ble_eq_true rfl) dX12_where_61 ⟨Nat.le_refl _, Nat.le_refl _⟩) rfl (fun Hh11 Lh11 Bh11 => ?_)
            have J87 : ∀ (αh12 : hp_T) (Hh12 : Heap) (Lh12 : List Loc) (Bh12 : hp_B Γ mo s α αh12 Hh12 Lh12) (σh12 : ms_T) (Mh12 : hm_M αh12 a0 ρ σh12) (v1_h12 : Int32) (v2_h12 : Int32) (v3_h12 : Int32) (v4_h12 : Int32) (v5_h12 : Int32) (ls : Array Slot) (hl : lv_has ls 6 [(0, .ref a0), (1, .int v1_h12), (2, .int v2_h12), (3, .int v3_h12), (4, .int v4_h12), (5, .int v5_h12)]) (hf : f_X12_where_J87 n (f_X12_where_L43 n k43) σh12 v1_h12 v2_h12 v3_h12 v4_h12 v5_h12 = some res), W p l e (hp_rm 2 0 0) s m ([.ref a0, .int a1, .int a2] : List Value).toArray below meth c Hh12 Lh12 0 0 (MQ below (hp_Qi Γ (fun r β => r = res.1 ∧ mo α β ∧ hm_M β a0 ρ res.2)) ([.ref a0, .int a1, .int a2] : List Value).toArray s 0 0 (hp_A Γ)) (F0 m 87 ls []) := by
              intro αh12 Hh12 Lh12 Bh12 σh12 Mh12 v1_h12 v2_h12 v3_h12 v4_h12 v5_h12 ls hl hf
              unfold f_X12_where_J87 at hf
              obtain ⟨x13, ex13⟩ : ∃ y : Int32, y = v5_h12 + 1 := ⟨_, rfl⟩
              replace hf := ms_lE ex13 hf
              refine lv_iinc (v := x13) (lv' := [(5, .int x13), (0, .ref a0), (1, .int v1_h12), (2, .int v2_h12), (3, .int v3_h12), (4, .int v4_h12)]) hx hb dX12_where_87 hl (k := 5) rfl (by rw [ex13]; rfl) (by decide) rfl (fun ls hl => hp_n (n := 90) rfl ?_)
              refine lv_goto (tgt := 43) hx hb dX12_where_90 (by decide) ?_
              exact ih43 αh12 Hh12 Lh12 Bh12 σh12 Mh12 v1_h12 v2_h12 v3_h12 v4_h12 x13 ls (lv_sub hl [1, 2, 3, 4, 5, 0] rfl) hf
            refine lv_if_ne (tgt := 70) hx hb dX12_where_64 (by decide) (fun c14 => ?_) (fun c14 => hp_n (n := 67) rfl ?_)
            ·
              replace hf := ms_iF c14 hf
              obtain ⟨x15, ex15⟩ : ∃ y : Int32, y = v3_h5 + 1 := ⟨_, rfl⟩
              replace hf := ms_lE ex15 hf
              refine lv_iinc (v := x15) (lv' := [(3, .int x15), (0, .ref a0), (1, .int v1_h5), (2, .int v2_h5), (4, .int v4_h5), (5, .int v5_h5)]) hx hb dX12_where_70 hl (k := 3) rfl (by rw [ex15]; rfl) (by decide) rfl (fun ls hl => hp_n (n := 73) rfl ?_)
              refine lv_iload hx hb dX12_where_73 (lv_at hl 4 rfl) (hp_n (n := 75) rfl ?_)
              have J85 : ∀ (αh16 : hp_T) (Hh16 : Heap) (Lh16 : List Loc) (Bh16 : hp_B Γ mo s α αh16 Hh16 Lh16) (σh16 : ms_T) (Mh16 : hm_M αh16 a0 ρ σh16) (v1_h16 : Int32) (v2_h16 : Int32) (v3_h16 : Int32) (v5_h16 : Int32) (w0_h16 : Int32) (ls : Array Slot) (hl : lv_has ls 6 [(0, .ref a0), (1, .int v1_h16), (2, .int v2_h16), (3, .int v3_h16), (5, .int v5_h16)]) (hf : f_X12_where_J85 n (f_X12_where_L43 n k43) σh16 v1_h16 v2_h16 v3_h16 v5_h16 w0_h16 = some res), W p l e (hp_rm 2 0 0) s m ([.ref a0, .int a1, .int a2] : List Value).toArray below meth c Hh16 Lh16 0 0 (MQ below (hp_Qi Γ (fun r β => r = res.1 ∧ mo α β ∧ hm_M β a0 ρ res.2)) ([.ref a0, .int a1, .int a2] : List Value).toArray s 0 0 (hp_A Γ)) (F0 m 85 ls [.int w0_h16]) := by
                intro αh16 Hh16 Lh16 Bh16 σh16 Mh16 v1_h16 v2_h16 v3_h16 v5_h16 w0_h16 ls hl hf
                unfold f_X12_where_J85 at hf
                refine lv_istore (lv' := [(4, .int w0_h16), (0, .ref a0), (1, .int v1_h16), (2, .int v2_h16), (3, .int v3_h16), (5, .int v5_h16)]) hx hb dX12_where_85 hl (by decide) rfl (fun ls hl => hp_n (n := 87) rfl ?_)
                exact J87 αh16 Hh16 Lh16 Bh16 σh16 Mh16 v1_h16 v2_h16 v3_h16 w0_h16 v5_h16 ls (lv_sub hl [1, 2, 3, 4, 0, 5] rfl) hf
              refine lv_if_ge (tgt := 83) hx hb dX12_where_75 (by decide) (fun c17 => ?_) (fun c17 => hp_n (n := 78) rfl ?_)
              ·
                replace hf := ms_iT c17 hf
                refine lv_iload hx hb dX12_where_83 (lv_at hl 4 rfl) (hp_n (n := 85) rfl ?_)
                exact J85 αh5 Hh11 Lh11 Bh11 σh5 Mh5 v1_h5 v2_h5 x15 v5_h5 v4_h5 ls (lv_sub hl [1, 2, 3, 0, 5] rfl) hf
              ·
                replace hf := ms_iF c17 hf
                refine lv_iload hx hb dX12_where_78 (lv_at hl 5 rfl) (hp_n (n := 80) rfl ?_)
                refine lv_goto (tgt := 85) hx hb dX12_where_80 (by decide) ?_
                exact J85 αh5 Hh11 Lh11 Bh11 σh5 Mh5 v1_h5 v2_h5 x15 v5_h5 v5_h5 ls (lv_sub hl [1, 2, 3, 0, 5] rfl) hf
            ·
              replace hf := ms_iT c14 hf
              refine lv_goto (tgt := 87) hx hb dX12_where_67 (by decide) ?_
              exact J87 αh5 Hh11 Lh11 Bh11 σh5 Mh5 v1_h5 v2_h5 v3_h5 v4_h5 v5_h5 ls (lv_sub hl [0, 1, 2, 3, 4, 5] rfl) hf
      refine lv_istore (lv' := [(5, .int (0 : Int32)), (4, .int (-1 : Int32)), (3, .int (0 : Int32)), (0, .ref a0), (1, .int v1_h2), (2, .int v2_h2)]) hx hb dX12_where_41 hl (by decide) rfl (fun ls hl => hp_n (n := 43) rfl ?_)
      exact J43 n αh3 Hh3 Lh3 Bh3 σh3 Mh3 v1_h2 v2_h2 (0 : Int32) (-1 : Int32) (0 : Int32) ls (lv_sub hl [3, 4, 5, 2, 1, 0] rfl) hf
    ·
      replace hf := ms_iT c4 hf
      refine lv_iconst (v := (-1)) hx hb dX12_where_33 (by decide) (hp_n (n := 34) rfl ?_)
      cases hf
      exact q_iret C Bh3 hr hlk ⟨rfl, Bh3.2.2, Mh3⟩ dX12_where_34
  refine lv_if_ne (tgt := 14) hx hb dX12_where_7 (by decide) (fun c18 => ?_) (fun c18 => hp_n (n := 10) rfl ?_)
  ·
    replace hf := ms_iF c18 hf
    refine lv_aload_n hx hb dX12_where_14 rfl (lv_at hl 0 rfl) (hp_n (n := 15) rfl ?_)
    refine lv_iload_n hx hb dX12_where_15 rfl (lv_at hl 1 rfl) (hp_n (n := 16) rfl ?_)
    obtain ⟨rh19, qh19, hf⟩ := ms_bE hf
    refine m_cp (pc' := 19) Bh1 (hp_runV (As := [.int a1]) (rest := [.ref a0]) C Bh1 (m_X12_isRecord n Γ l α a0 ρ σ hM a1 rh19 qh19) lb_X12_isRecord lv_X12_isRecord lk_X12_344 hM.1 rfl (by decide) rfl hl.1 rfl (Nat.le_of_ble_eq_true rfl) dX12_where_16 ⟨Nat.le_refl _, Nat.le_refl _⟩) rfl (fun Hh19 Lh19 Bh19 => ?_)
    refine lv_if_ne (tgt := 26) hx hb dX12_where_19 (by decide) (fun c20 => ?_) (fun c20 => hp_n (n := 22) rfl ?_)
    ·
      replace hf := ms_iF c20 hf
      refine lv_iconst (v := 0) hx hb dX12_where_26 (by decide) (hp_n (n := 27) rfl ?_)
      exact J27 α Hh19 Lh19 Bh19 σ hM a1 a2 (0 : Int32) ls (lv_sub hl [0, 1, 2] rfl) hf
    ·
      replace hf := ms_iT c20 hf
      refine lv_iconst (v := 2) hx hb dX12_where_22 (by decide) (hp_n (n := 23) rfl ?_)
      refine lv_goto (tgt := 27) hx hb dX12_where_23 (by decide) ?_
      exact J27 α Hh19 Lh19 Bh19 σ hM a1 a2 (2 : Int32) ls (lv_sub hl [0, 1, 2] rfl) hf
  ·
    replace hf := ms_iT c18 hf
    refine lv_iconst (v := 1) hx hb dX12_where_10 (by decide) (hp_n (n := 11) rfl ?_)
    refine lv_goto (tgt := 27) hx hb dX12_where_11 (by decide) ?_
    exact J27 α Hh1 Lh1 Bh1 σ hM a1 a2 (1 : Int32) ls (lv_sub hl [0, 1, 2] rfl) hf
def f_X12_seeks_J29 (n : Nat) (recM : ms_T → Int32 → Int32 → Option ms_T) (σh3 : ms_T) (v1_h3 : Int32) (v2_h3 : Int32) : Option ms_T :=
  ms_l (ms_sI σh3 683 ((ms_I σh3 683) - (1 : Int32))) fun σh4 =>
  if v2_h3 = (1 : Int32) then
    some σh4
  else
    ms_b (f_X12_part0 n v2_h3) fun rh6 =>
    ms_b (recM σh4 v1_h3 rh6) fun σh7 =>
    ms_b (recM σh7 (v1_h3 + rh6) (v2_h3 - rh6)) fun σh8 =>
    some σh8
def f_X12_seeks (n : Nat) : Nat → ms_T → Int32 → Int32 → Option ms_T
  | 0, _, _, _ => none
  | d + 1, σ, a1, a2 =>
    if a2 = 0 then
      some σ
    else
      if 0 ≤ (ms_I σ 683) then
        if (ms_I σ 683) = 0 then
          ms_l (ms_sI σ 684 a1) fun σh10 =>
          ms_l (ms_sI σh10 685 a2) fun σh11 =>
          f_X12_seeks_J29 n (f_X12_seeks n d) σh11 a1 a2
        else
          f_X12_seeks_J29 n (f_X12_seeks n d) σ a1 a2
      else
        some σ
set_option maxRecDepth 100000 in
set_option maxHeartbeats 4000000 in
theorem m_X12_seeks (n : Nat) : ∀ (d : Nat) (Γ : hp_G) (l : Launch) (α : hp_T) (a0 : Nat) (ρ : Nat → Nat) (σ : ms_T) (hM : hm_M α a0 ρ σ) (a1 : Int32) (a2 : Int32) (res : ms_T) (hf : f_X12_seeks n d σ a1 a2 = some res), Met l yX12_seeks (hp_ws yX12_seeks cX12_seeks 4 none) (hp_rm (d + 0) 0 0) (hp_Pc Γ α [.ref a0, .int a1, .int a2]) (hp_Qv Γ (fun β => mo α β ∧ hm_M β a0 ρ res)) 0 0 (hp_A Γ) := by
  intro d
  induction d with
  | zero => intro Γ l α a0 ρ σ hM a1 a2 res hf; rw [f_X12_seeks.eq_1] at hf; cases hf
  | succ d ihM =>
    intro Γ l α a0 ρ σ hM a1 a2 res hf
    rw [f_X12_seeks.eq_2] at hf
    refine hp_start (by decide) ?_
    intro p e s m below meth c C hr hlk B0 hnm
    have C : hp_C Γ p m c cX12_seeks 4 s ([.ref a0, .int a1, .int a2] : List Value).toArray RX12 := C
    have hx := C.1.1
    have hb := C.1.2.1
    have hown := C.1.2.2.2.1
    have hts := C.1.2.2.2.2
    have B : hp_B Γ mo s α α s.heap [] := ⟨B0.1, B0.2.1, mo_rf⟩
    have hl := lv_entry ([.ref a0, .int a1, .int a2]) (n := 4) (Nat.le_of_ble_eq_true rfl)
    show W p l e (hp_rm (d + 1 + 0) 0 0) s m ([.ref a0, .int a1, .int a2] : List Value).toArray below meth c s.heap [] 0 0 (MQ below (hp_Qv Γ (fun β => mo α β ∧ hm_M β a0 ρ res)) ([.ref a0, .int a1, .int a2] : List Value).toArray s 0 0 (hp_A Γ)) (entryFrame m ([.ref a0, .int a1, .int a2] : List Value).toArray 4)
    rw [lg_entry_eq]
    generalize (lg_sl ([.ref a0, .int a1, .int a2]) ++ List.replicate (4 - (lg_sl ([.ref a0, .int a1, .int a2])).length) Slot.unset).toArray = ls at hl ⊢
    have hl : lv_has ls 4 [(0, .ref a0), (1, .int a1), (2, .int a2)] := hl
    refine lv_iload_n hx hb dX12_seeks_0 rfl (lv_at hl 2 rfl) (hp_n (n := 1) rfl ?_)
    refine lv_if_eq (tgt := 11) hx hb dX12_seeks_1 (by decide) (fun c1 => ?_) (fun c1 => hp_n (n := 4) rfl ?_)
    ·
      replace hf := ms_iT c1 hf
      cases hf
      exact q_vret C B hr hlk ⟨B.2.2, hM⟩ dX12_seeks_11
    ·
      replace hf := ms_iF c1 hf
      refine lv_aload_n hx hb dX12_seeks_4 rfl (lv_at hl 0 rfl) (hp_n (n := 5) rfl ?_)
      refine m_geti (k := 33) (φ := 683) (pc' := 8) C B hM fl_X12_396 rfl rfl dX12_seeks_5 rfl ?_
      refine lv_if_ge (tgt := 12) hx hb dX12_seeks_8 (by decide) (fun c2 => ?_) (fun c2 => hp_n (n := 11) rfl ?_)
      ·
        replace hf := ms_iT c2 hf
        refine lv_aload_n hx hb dX12_seeks_12 rfl (lv_at hl 0 rfl) (hp_n (n := 13) rfl ?_)
        refine m_geti (k := 33) (φ := 683) (pc' := 16) C B hM fl_X12_396 rfl rfl dX12_seeks_13 rfl ?_
        have J29 : ∀ (αh3 : hp_T) (Hh3 : Heap) (Lh3 : List Loc) (Bh3 : hp_B Γ mo s α αh3 Hh3 Lh3) (σh3 : ms_T) (Mh3 : hm_M αh3 a0 ρ σh3) (v1_h3 : Int32) (v2_h3 : Int32) (ls : Array Slot) (hl : lv_has ls 4 [(0, .ref a0), (1, .int v1_h3), (2, .int v2_h3)]) (hf : f_X12_seeks_J29 n (f_X12_seeks n d) σh3 v1_h3 v2_h3 = some res), W p l e (hp_rm (d + 1 + 0) 0 0) s m ([.ref a0, .int a1, .int a2] : List Value).toArray below meth c Hh3 Lh3 0 0 (MQ below (hp_Qv Γ (fun β => mo α β ∧ hm_M β a0 ρ res)) ([.ref a0, .int a1, .int a2] : List Value).toArray s 0 0 (hp_A Γ)) (F0 m 29 ls []) := by
          intro αh3 Hh3 Lh3 Bh3 σh3 Mh3 v1_h3 v2_h3 ls hl hf
          unfold f_X12_seeks_J29 at hf
          refine lv_aload_n hx hb dX12_seeks_29 rfl (lv_at hl 0 rfl) (hp_n (n := 30) rfl ?_)
          refine lv_dup hx hb dX12_seeks_30 rfl (hp_n (n := 31) rfl ?_)
          refine m_geti (k := 33) (φ := 683) (pc' := 34) C Bh3 Mh3 fl_X12_396 rfl rfl dX12_seeks_31 rfl ?_
          refine lv_iconst (v := 1) hx hb dX12_seeks_34 (by decide) (hp_n (n := 35) rfl ?_)
          refine lv_isub hx hb dX12_seeks_35 (hp_n (n := 36) rfl ?_)
          refine m_puti (k := 33) (φ := 683) (pc' := 39) C Bh3 Mh3 fl_X12_396 rfl rfl rfl rfl rfl dX12_seeks_36 rfl (fun αh4 Hh4 Lh4 σh4 eh4 Bh4 Mh4 => ?_)
          replace hf := ms_lE eh4 hf
          refine lv_iload_n hx hb dX12_seeks_39 rfl (lv_at hl 2 rfl) (hp_n (n := 40) rfl ?_)
          refine lv_iconst (v := 1) hx hb dX12_seeks_40 (by decide) (hp_n (n := 41) rfl ?_)
          refine lv_icmp_ne (tgt := 45) hx hb dX12_seeks_41 (by decide) (fun c5 => ?_) (fun c5 => hp_n (n := 44) rfl ?_)
          ·
            replace hf := ms_iF c5 hf
            refine lv_iload_n hx hb dX12_seeks_45 rfl (lv_at hl 2 rfl) (hp_n (n := 46) rfl ?_)
            obtain ⟨rh6, qh6, hf⟩ := ms_bE hf
            refine m_cp (pc' := 49) Bh4 (hp_runS (As := [.int v2_h3]) (rest := []) C Bh4 (m_X12_part0 n Γ l αh4 v2_h3 rh6 qh6) lb_X12_part0 ls_X12_part0 lk_X12_128 rfl (by omega) rfl hl.1 rfl (Nat.le_of_ble_eq_true rfl) dX12_seeks_46 ⟨Nat.le_refl _, Nat.le_refl _⟩) rfl (fun Hh6 Lh6 Bh6 => ?_)
            refine lv_istore_n (lv' := [(3, .int rh6), (0, .ref a0), (1, .int v1_h3), (2, .int v2_h3)]) hx hb dX12_seeks_49 rfl hl (by decide) rfl (fun ls hl => hp_n (n := 50) rfl ?_)
            refine lv_aload_n hx hb dX12_seeks_50 rfl (lv_at hl 1 rfl) (hp_n (n := 51) rfl ?_)
            refine lv_iload_n hx hb dX12_seeks_51 rfl (lv_at hl 2 rfl) (hp_n (n := 52) rfl ?_)
            refine lv_iload_n hx hb dX12_seeks_52 rfl (lv_at hl 0 rfl) (hp_n (n := 53) rfl ?_)
            obtain ⟨σh7, qh7, hf⟩ := ms_bE hf
            refine m_cv (pc' := 56) (a := a0) (ρ := ρ) Bh6 (hp_runV (As := [.int v1_h3, .int rh6]) (rest := []) C Bh6 (ihM Γ l αh4 a0 ρ σh4 Mh4 v1_h3 rh6 σh7 qh7) lb_X12_seeks lv_X12_seeks lk_X12_405 Mh4.1 rfl (by omega) rfl hl.1 rfl (Nat.le_of_ble_eq_true rfl) dX12_seeks_53 ⟨Nat.le_refl _, Nat.le_refl _⟩) rfl (fun αh7 Hh7 Lh7 Bh7 Mh7 => ?_)
            refine lv_aload_n hx hb dX12_seeks_56 rfl (lv_at hl 1 rfl) (hp_n (n := 57) rfl ?_)
            refine lv_iload_n hx hb dX12_seeks_57 rfl (lv_at hl 2 rfl) (hp_n (n := 58) rfl ?_)
            refine lv_iload_n hx hb dX12_seeks_58 rfl (lv_at hl 0 rfl) (hp_n (n := 59) rfl ?_)
            refine lv_iadd hx hb dX12_seeks_59 (hp_n (n := 60) rfl ?_)
            refine lv_iload_n hx hb dX12_seeks_60 rfl (lv_at hl 3 rfl) (hp_n (n := 61) rfl ?_)
            refine lv_iload_n hx hb dX12_seeks_61 rfl (lv_at hl 0 rfl) (hp_n (n := 62) rfl ?_)
            refine lv_isub hx hb dX12_seeks_62 (hp_n (n := 63) rfl ?_)
            obtain ⟨σh8, qh8, hf⟩ := ms_bE hf
            refine m_cv (pc' := 66) (a := a0) (ρ := ρ) Bh7 (hp_runV (As := [.int (v1_h3 + rh6), .int (v2_h3 - rh6)]) (rest := []) C Bh7 (ihM Γ l αh7 a0 ρ σh7 Mh7 (v1_h3 + rh6) (v2_h3 - rh6) σh8 qh8) lb_X12_seeks lv_X12_seeks lk_X12_405 Mh7.1 rfl (by omega) rfl hl.1 rfl (Nat.le_of_ble_eq_true rfl) dX12_seeks_63 ⟨Nat.le_refl _, Nat.le_refl _⟩) rfl (fun αh8 Hh8 Lh8 Bh8 Mh8 => ?_)
            cases hf
            exact q_vret C Bh8 hr hlk ⟨Bh8.2.2, Mh8⟩ dX12_seeks_66
          ·
            replace hf := ms_iT c5 hf
            cases hf
            exact q_vret C Bh4 hr hlk ⟨Bh4.2.2, Mh4⟩ dX12_seeks_44
        refine lv_if_ne (tgt := 29) hx hb dX12_seeks_16 (by decide) (fun c9 => ?_) (fun c9 => hp_n (n := 19) rfl ?_)
        ·
          replace hf := ms_iF c9 hf
          exact J29 α s.heap [] B σ hM a1 a2 ls (lv_sub hl [0, 1, 2] rfl) hf
        ·
          replace hf := ms_iT c9 hf
          refine lv_aload_n hx hb dX12_seeks_19 rfl (lv_at hl 0 rfl) (hp_n (n := 20) rfl ?_)
          refine lv_iload_n hx hb dX12_seeks_20 rfl (lv_at hl 1 rfl) (hp_n (n := 21) rfl ?_)
          refine m_puti (k := 34) (φ := 684) (pc' := 24) C B hM fl_X12_399 rfl rfl rfl rfl rfl dX12_seeks_21 rfl (fun αh10 Hh10 Lh10 σh10 eh10 Bh10 Mh10 => ?_)
          replace hf := ms_lE eh10 hf
          refine lv_aload_n hx hb dX12_seeks_24 rfl (lv_at hl 0 rfl) (hp_n (n := 25) rfl ?_)
          refine lv_iload_n hx hb dX12_seeks_25 rfl (lv_at hl 2 rfl) (hp_n (n := 26) rfl ?_)
          refine m_puti (k := 35) (φ := 685) (pc' := 29) C Bh10 Mh10 fl_X12_402 rfl rfl rfl rfl rfl dX12_seeks_26 rfl (fun αh11 Hh11 Lh11 σh11 eh11 Bh11 Mh11 => ?_)
          replace hf := ms_lE eh11 hf
          exact J29 αh11 Hh11 Lh11 Bh11 σh11 Mh11 a1 a2 ls (lv_sub hl [0, 1, 2] rfl) hf
      ·
        replace hf := ms_iF c2 hf
        cases hf
        exact q_vret C B hr hlk ⟨B.2.2, hM⟩ dX12_seeks_11
def f_X12_tree_J25 (n : Nat) (σh1 : ms_T) (v1_h1 : Int32) (v2_h1 : Int32) (v3_h1 : Int32) (v4_h1 : Int32) (w0_h1 : Int32) : Option (Int32 × ms_T) :=
  ms_c (f_X12_is n σh1 w0_h1) fun rh2 σh2 =>
  if rh2 = 0 then
    some ((-1 : Int32), σh2)
  else
    ms_l (ms_sI σh2 683 v3_h1) fun σh4 =>
    ms_b (f_X12_seeks n 40 σh4 (0 : Int32) v2_h1) fun σh5 =>
    if (ms_I σh5 683) < 0 then
      if v4_h1 = 0 then
        some ((ms_I σh5 684), σh5)
      else
        if v4_h1 = (1 : Int32) then
          some ((ms_I σh5 685), σh5)
        else
          ms_b (f_X12_treeMark n 40 σh5 v1_h1 (ms_I σh5 684) (ms_I σh5 685)) fun rh9 =>
          some (rh9, σh5)
    else
      ms_c (f_X12_refuse n σh5 (5 : Int32)) fun rh10 σh10 =>
      some (rh10, σh10)
def f_X12_tree_J15 (n : Nat) (σh11 : ms_T) (v1_h11 : Int32) (v2_h11 : Int32) (v3_h11 : Int32) (v4_h11 : Int32) : Option (Int32 × ms_T) :=
  f_X12_tree_J25 n σh11 v1_h11 v2_h11 v3_h11 v4_h11 (1 : Int32)
def f_X12_tree (n : Nat) (σ : ms_T) (a1 : Int32) (a2 : Int32) (a3 : Int32) (a4 : Int32) : Option (Int32 × ms_T) :=
  if a3 < 0 then
    f_X12_tree_J15 n σ a1 a2 a3 a4
  else
    ms_b (f_X12_isIn n a4 (0 : Int32) (2 : Int32)) fun rh13 =>
    if rh13 = 0 then
      f_X12_tree_J15 n σ a1 a2 a3 a4
    else
      ms_b (f_X12_noSize n σ a1 a2) fun rh15 =>
      f_X12_tree_J25 n σ a1 a2 a3 a4 rh15
set_option maxRecDepth 100000 in
set_option maxHeartbeats 4000000 in
theorem m_X12_tree (n : Nat) (Γ : hp_G) (l : Launch) (α : hp_T) (a0 : Nat) (ρ : Nat → Nat) (σ : ms_T) (hM : hm_M α a0 ρ σ) (a1 : Int32) (a2 : Int32) (a3 : Int32) (a4 : Int32) (res : (Int32 × ms_T)) (hf : f_X12_tree n σ a1 a2 a3 a4 = some res) : Met l yX12_tree (hp_ws yX12_tree cX12_tree 5 (some .int)) (hp_rm 42 0 0) (hp_Pc Γ α [.ref a0, .int a1, .int a2, .int a3, .int a4]) (hp_Qi Γ (fun r β => r = res.1 ∧ mo α β ∧ hm_M β a0 ρ res.2)) 0 0 (hp_A Γ) := by
  unfold f_X12_tree at hf
  refine hp_start (by decide) ?_
  intro p e s m below meth c C hr hlk B0 hnm
  have C : hp_C Γ p m c cX12_tree 5 s ([.ref a0, .int a1, .int a2, .int a3, .int a4] : List Value).toArray RX12 := C
  have hx := C.1.1
  have hb := C.1.2.1
  have hown := C.1.2.2.2.1
  have hts := C.1.2.2.2.2
  have B : hp_B Γ mo s α α s.heap [] := ⟨B0.1, B0.2.1, mo_rf⟩
  have hl := lv_entry ([.ref a0, .int a1, .int a2, .int a3, .int a4]) (n := 5) (Nat.le_of_ble_eq_true rfl)
  show W p l e (hp_rm 42 0 0) s m ([.ref a0, .int a1, .int a2, .int a3, .int a4] : List Value).toArray below meth c s.heap [] 0 0 (MQ below (hp_Qi Γ (fun r β => r = res.1 ∧ mo α β ∧ hm_M β a0 ρ res.2)) ([.ref a0, .int a1, .int a2, .int a3, .int a4] : List Value).toArray s 0 0 (hp_A Γ)) (entryFrame m ([.ref a0, .int a1, .int a2, .int a3, .int a4] : List Value).toArray 5)
  rw [lg_entry_eq]
  generalize (lg_sl ([.ref a0, .int a1, .int a2, .int a3, .int a4]) ++ List.replicate (5 - (lg_sl ([.ref a0, .int a1, .int a2, .int a3, .int a4])).length) Slot.unset).toArray = ls at hl ⊢
  have hl : lv_has ls 5 [(0, .ref a0), (1, .int a1), (2, .int a2), (3, .int a3), (4, .int a4)] := hl
  refine lv_aload_n hx hb dX12_tree_0 rfl (lv_at hl 0 rfl) (hp_n (n := 1) rfl ?_)
  refine lv_iload_n hx hb dX12_tree_1 rfl (lv_at hl 3 rfl) (hp_n (n := 2) rfl ?_)
  have J25 : ∀ (αh1 : hp_T) (Hh1 : Heap) (Lh1 : List Loc) (Bh1 : hp_B Γ mo s α αh1 Hh1 Lh1) (σh1 : ms_T) (Mh1 : hm_M αh1 a0 ρ σh1) (v1_h1 : Int32) (v2_h1 : Int32) (v3_h1 : Int32) (v4_h1 : Int32) (w0_h1 : Int32) (ls : Array Slot) (hl : lv_has ls 5 [(0, .ref a0), (1, .int v1_h1), (2, .int v2_h1), (3, .int v3_h1), (4, .int v4_h1)]) (hf : f_X12_tree_J25 n σh1 v1_h1 v2_h1 v3_h1 v4_h1 w0_h1 = some res), W p l e (hp_rm 42 0 0) s m ([.ref a0, .int a1, .int a2, .int a3, .int a4] : List Value).toArray below meth c Hh1 Lh1 0 0 (MQ below (hp_Qi Γ (fun r β => r = res.1 ∧ mo α β ∧ hm_M β a0 ρ res.2)) ([.ref a0, .int a1, .int a2, .int a3, .int a4] : List Value).toArray s 0 0 (hp_A Γ)) (F0 m 25 ls [.int w0_h1, .ref a0]) := by
    intro αh1 Hh1 Lh1 Bh1 σh1 Mh1 v1_h1 v2_h1 v3_h1 v4_h1 w0_h1 ls hl hf
    unfold f_X12_tree_J25 at hf
    obtain ⟨rh2, σh2, qh2, hf⟩ := ms_cE hf
    refine m_ci (pc' := 28) (a := a0) (ρ := ρ) Bh1 (hp_runV (As := [.int w0_h1]) (rest := []) C Bh1 (m_X12_is n Γ l αh1 a0 ρ σh1 Mh1 w0_h1 (rh2, σh2) qh2) lb_X12_is lv_X12_is lk_X12_309 Mh1.1 rfl (by decide) rfl hl.1 rfl (Nat.le_of_ble_eq_true rfl) dX12_tree_25 ⟨Nat.le_refl _, Nat.le_refl _⟩) rfl (fun αh2 Hh2 Lh2 Bh2 Mh2 => ?_)
    refine lv_if_ne (tgt := 33) hx hb dX12_tree_28 (by decide) (fun c3 => ?_) (fun c3 => hp_n (n := 31) rfl ?_)
    ·
      replace hf := ms_iF c3 hf
      refine lv_aload_n hx hb dX12_tree_33 rfl (lv_at hl 0 rfl) (hp_n (n := 34) rfl ?_)
      refine lv_iload_n hx hb dX12_tree_34 rfl (lv_at hl 3 rfl) (hp_n (n := 35) rfl ?_)
      refine m_puti (k := 33) (φ := 683) (pc' := 38) C Bh2 Mh2 fl_X12_396 rfl rfl rfl rfl rfl dX12_tree_35 rfl (fun αh4 Hh4 Lh4 σh4 eh4 Bh4 Mh4 => ?_)
      replace hf := ms_lE eh4 hf
      refine lv_aload_n hx hb dX12_tree_38 rfl (lv_at hl 0 rfl) (hp_n (n := 39) rfl ?_)
      refine lv_iconst (v := 0) hx hb dX12_tree_39 (by decide) (hp_n (n := 40) rfl ?_)
      refine lv_iload_n hx hb dX12_tree_40 rfl (lv_at hl 2 rfl) (hp_n (n := 41) rfl ?_)
      obtain ⟨σh5, qh5, hf⟩ := ms_bE hf
      refine m_cv (pc' := 44) (a := a0) (ρ := ρ) Bh4 (hp_runV (As := [.int (0 : Int32), .int v2_h1]) (rest := []) C Bh4 (m_X12_seeks n 40 Γ l αh4 a0 ρ σh4 Mh4 (0 : Int32) v2_h1 σh5 qh5) lb_X12_seeks lv_X12_seeks lk_X12_405 Mh4.1 rfl (by decide) rfl hl.1 rfl (Nat.le_of_ble_eq_true rfl) dX12_tree_41 ⟨Nat.le_refl _, Nat.le_refl _⟩) rfl (fun αh5 Hh5 Lh5 Bh5 Mh5 => ?_)
      refine lv_aload_n hx hb dX12_tree_44 rfl (lv_at hl 0 rfl) (hp_n (n := 45) rfl ?_)
      refine m_geti (k := 33) (φ := 683) (pc' := 48) C Bh5 Mh5 fl_X12_396 rfl rfl dX12_tree_45 rfl ?_
      refine lv_if_lt (tgt := 57) hx hb dX12_tree_48 (by decide) (fun c6 => ?_) (fun c6 => hp_n (n := 51) rfl ?_)
      ·
        replace hf := ms_iT c6 hf
        refine lv_iload hx hb dX12_tree_57 (lv_at hl 4 rfl) (hp_n (n := 59) rfl ?_)
        refine lv_if_ne (tgt := 69) hx hb dX12_tree_59 (by decide) (fun c7 => ?_) (fun c7 => hp_n (n := 62) rfl ?_)
        ·
          replace hf := ms_iF c7 hf
          refine lv_iload hx hb dX12_tree_69 (lv_at hl 4 rfl) (hp_n (n := 71) rfl ?_)
          refine lv_iconst (v := 1) hx hb dX12_tree_71 (by decide) (hp_n (n := 72) rfl ?_)
          refine lv_icmp_ne (tgt := 82) hx hb dX12_tree_72 (by decide) (fun c8 => ?_) (fun c8 => hp_n (n := 75) rfl ?_)
          ·
            replace hf := ms_iF c8 hf
            refine lv_aload_n hx hb dX12_tree_82 rfl (lv_at hl 0 rfl) (hp_n (n := 83) rfl ?_)
            refine lv_iload_n hx hb dX12_tree_83 rfl (lv_at hl 1 rfl) (hp_n (n := 84) rfl ?_)
            refine lv_aload_n hx hb dX12_tree_84 rfl (lv_at hl 0 rfl) (hp_n (n := 85) rfl ?_)
            refine m_geti (k := 34) (φ := 684) (pc' := 88) C Bh5 Mh5 fl_X12_399 rfl rfl dX12_tree_85 rfl ?_
            refine lv_aload_n hx hb dX12_tree_88 rfl (lv_at hl 0 rfl) (hp_n (n := 89) rfl ?_)
            refine m_geti (k := 35) (φ := 685) (pc' := 92) C Bh5 Mh5 fl_X12_402 rfl rfl dX12_tree_89 rfl ?_
            obtain ⟨rh9, qh9, hf⟩ := ms_bE hf
            refine m_cp (pc' := 95) Bh5 (hp_runV (As := [.int v1_h1, .int (ms_I σh5 684), .int (ms_I σh5 685)]) (rest := []) C Bh5 (m_X12_treeMark n 40 Γ l αh5 a0 ρ σh5 Mh5 v1_h1 (ms_I σh5 684) (ms_I σh5 685) rh9 qh9) lb_X12_treeMark lv_X12_treeMark lk_X12_132 Mh5.1 rfl (by decide) rfl hl.1 rfl (Nat.le_of_ble_eq_true rfl) dX12_tree_92 ⟨Nat.le_refl _, Nat.le_refl _⟩) rfl (fun Hh9 Lh9 Bh9 => ?_)
            cases hf
            exact q_iret C Bh9 hr hlk ⟨rfl, Bh9.2.2, Mh5⟩ dX12_tree_95
          ·
            replace hf := ms_iT c8 hf
            refine lv_aload_n hx hb dX12_tree_75 rfl (lv_at hl 0 rfl) (hp_n (n := 76) rfl ?_)
            refine m_geti (k := 35) (φ := 685) (pc' := 79) C Bh5 Mh5 fl_X12_402 rfl rfl dX12_tree_76 rfl ?_
            refine lv_goto (tgt := 95) hx hb dX12_tree_79 (by decide) ?_
            cases hf
            exact q_iret C Bh5 hr hlk ⟨rfl, Bh5.2.2, Mh5⟩ dX12_tree_95
        ·
          replace hf := ms_iT c7 hf
          refine lv_aload_n hx hb dX12_tree_62 rfl (lv_at hl 0 rfl) (hp_n (n := 63) rfl ?_)
          refine m_geti (k := 34) (φ := 684) (pc' := 66) C Bh5 Mh5 fl_X12_399 rfl rfl dX12_tree_63 rfl ?_
          refine lv_goto (tgt := 95) hx hb dX12_tree_66 (by decide) ?_
          cases hf
          exact q_iret C Bh5 hr hlk ⟨rfl, Bh5.2.2, Mh5⟩ dX12_tree_95
      ·
        replace hf := ms_iF c6 hf
        refine lv_aload_n hx hb dX12_tree_51 rfl (lv_at hl 0 rfl) (hp_n (n := 52) rfl ?_)
        refine lv_iconst (v := 5) hx hb dX12_tree_52 (by decide) (hp_n (n := 53) rfl ?_)
        obtain ⟨rh10, σh10, qh10, hf⟩ := ms_cE hf
        refine m_ci (pc' := 56) (a := a0) (ρ := ρ) Bh5 (hp_runV (As := [.int (5 : Int32)]) (rest := []) C Bh5 (m_X12_refuse n Γ l αh5 a0 ρ σh5 Mh5 (5 : Int32) (rh10, σh10) qh10) lb_X12_refuse lv_X12_refuse lk_X12_212 Mh5.1 rfl (by decide) rfl hl.1 rfl (Nat.le_of_ble_eq_true rfl) dX12_tree_53 ⟨Nat.le_refl _, Nat.le_refl _⟩) rfl (fun αh10 Hh10 Lh10 Bh10 Mh10 => ?_)
        cases hf
        exact q_iret C Bh10 hr hlk ⟨rfl, Bh10.2.2, Mh10⟩ dX12_tree_56
    ·
      replace hf := ms_iT c3 hf
      refine lv_iconst (v := (-1)) hx hb dX12_tree_31 (by decide) (hp_n (n := 32) rfl ?_)
      cases hf
      exact q_iret C Bh2 hr hlk ⟨rfl, Bh2.2.2, Mh2⟩ dX12_tree_32
  have J15 : ∀ (αh11 : hp_T) (Hh11 : Heap) (Lh11 : List Loc) (Bh11 : hp_B Γ mo s α αh11 Hh11 Lh11) (σh11 : ms_T) (Mh11 : hm_M αh11 a0 ρ σh11) (v1_h11 : Int32) (v2_h11 : Int32) (v3_h11 : Int32) (v4_h11 : Int32) (ls : Array Slot) (hl : lv_has ls 5 [(0, .ref a0), (1, .int v1_h11), (2, .int v2_h11), (3, .int v3_h11), (4, .int v4_h11)]) (hf : f_X12_tree_J15 n σh11 v1_h11 v2_h11 v3_h11 v4_h11 = some res), W p l e (hp_rm 42 0 0) s m ([.ref a0, .int a1, .int a2, .int a3, .int a4] : List Value).toArray below meth c Hh11 Lh11 0 0 (MQ below (hp_Qi Γ (fun r β => r = res.1 ∧ mo α β ∧ hm_M β a0 ρ res.2)) ([.ref a0, .int a1, .int a2, .int a3, .int a4] : List Value).toArray s 0 0 (hp_A Γ)) (F0 m 15 ls [.ref a0]) := by
    intro αh11 Hh11 Lh11 Bh11 σh11 Mh11 v1_h11 v2_h11 v3_h11 v4_h11 ls hl hf
    unfold f_X12_tree_J15 at hf
    refine lv_iconst (v := 1) hx hb dX12_tree_15 (by decide) (hp_n (n := 16) rfl ?_)
    refine lv_goto (tgt := 25) hx hb dX12_tree_16 (by decide) ?_
    exact J25 αh11 Hh11 Lh11 Bh11 σh11 Mh11 v1_h11 v2_h11 v3_h11 v4_h11 (1 : Int32) ls (lv_sub hl [0, 1, 2, 3, 4] rfl) hf
  refine lv_if_lt (tgt := 15) hx hb dX12_tree_2 (by decide) (fun c12 => ?_) (fun c12 => hp_n (n := 5) rfl ?_)
  ·
    replace hf := ms_iT c12 hf
    exact J15 α s.heap [] B σ hM a1 a2 a3 a4 ls (lv_sub hl [0, 1, 2, 3, 4] rfl) hf
  ·
    replace hf := ms_iF c12 hf
    refine lv_iload hx hb dX12_tree_5 (lv_at hl 4 rfl) (hp_n (n := 7) rfl ?_)
    refine lv_iconst (v := 0) hx hb dX12_tree_7 (by decide) (hp_n (n := 8) rfl ?_)
    refine lv_iconst (v := 2) hx hb dX12_tree_8 (by decide) (hp_n (n := 9) rfl ?_)
    obtain ⟨rh13, qh13, hf⟩ := ms_bE hf
    refine m_cp (pc' := 12) B (hp_runS (As := [.int a4, .int (0 : Int32), .int (2 : Int32)]) (rest := [.ref a0]) C B (m_X12_isIn n Γ l α a4 (0 : Int32) (2 : Int32) rh13 qh13) lb_X12_isIn ls_X12_isIn lk_X12_113 rfl (by decide) rfl hl.1 rfl (Nat.le_of_ble_eq_true rfl) dX12_tree_9 ⟨Nat.le_refl _, Nat.le_refl _⟩) rfl (fun Hh13 Lh13 Bh13 => ?_)
    refine lv_if_ne (tgt := 19) hx hb dX12_tree_12 (by decide) (fun c14 => ?_) (fun c14 => hp_n (n := 15) rfl ?_)
    ·
      replace hf := ms_iF c14 hf
      refine lv_aload_n hx hb dX12_tree_19 rfl (lv_at hl 0 rfl) (hp_n (n := 20) rfl ?_)
      refine lv_iload_n hx hb dX12_tree_20 rfl (lv_at hl 1 rfl) (hp_n (n := 21) rfl ?_)
      refine lv_iload_n hx hb dX12_tree_21 rfl (lv_at hl 2 rfl) (hp_n (n := 22) rfl ?_)
      obtain ⟨rh15, qh15, hf⟩ := ms_bE hf
      refine m_cp (pc' := 25) Bh13 (hp_runV (As := [.int a1, .int a2]) (rest := [.ref a0]) C Bh13 (m_X12_noSize n Γ l α a0 ρ σ hM a1 a2 rh15 qh15) lb_X12_noSize lv_X12_noSize lk_X12_347 hM.1 rfl (by decide) rfl hl.1 rfl (Nat.le_of_ble_eq_true rfl) dX12_tree_22 ⟨Nat.le_refl _, Nat.le_refl _⟩) rfl (fun Hh15 Lh15 Bh15 => ?_)
      exact J25 α Hh15 Lh15 Bh15 σ hM a1 a2 a3 a4 rh15 ls (lv_sub hl [0, 1, 2, 3, 4] rfl) hf
    ·
      replace hf := ms_iT c14 hf
      exact J15 α Hh13 Lh13 Bh13 σ hM a1 a2 a3 a4 ls (lv_sub hl [0, 1, 2, 3, 4] rfl) hf
def f_X12_proves_J57 (n : Nat) (σh1 : ms_T) (v1_h1 : Int32) (v2_h1 : Int32) (w0_h1 : Int32) : Option (Int32 × ms_T) :=
  ms_c (f_X12_is n σh1 w0_h1) fun rh2 σh2 =>
  if rh2 = 0 then
    some ((-1 : Int32), σh2)
  else
    ms_b (f_X12_froze n σh2 v2_h1 (0 : Int32)) fun rh4 =>
    ms_b (f_X12_froze n σh2 v1_h1 (1 : Int32)) fun rh5 =>
    ms_b (f_X12_froze n σh2 v1_h1 (2 : Int32)) fun rh6 =>
    ms_b (f_X12_froze n σh2 v2_h1 (1 : Int32)) fun rh7 =>
    ms_b (f_X12_froze n σh2 v2_h1 (2 : Int32)) fun rh8 =>
    ms_c (f_X12_whyByRecord n σh2 rh4 rh5 rh6 rh7 rh8) fun rh9 σh9 =>
    some (rh9, σh9)
def f_X12_proves_J9 (n : Nat) (σh10 : ms_T) (v1_h10 : Int32) (v2_h10 : Int32) : Option (Int32 × ms_T) :=
  f_X12_proves_J57 n σh10 v1_h10 v2_h10 (1 : Int32)
def f_X12_proves_J33 (n : Nat) (σh14 : ms_T) (v1_h14 : Int32) (v2_h14 : Int32) : Option (Int32 × ms_T) :=
  f_X12_proves_J57 n σh14 v1_h14 v2_h14 (5 : Int32)
def f_X12_proves (n : Nat) (σ : ms_T) (a1 : Int32) (a2 : Int32) : Option (Int32 × ms_T) :=
  if a1 < 0 then
    f_X12_proves_J9 n σ a1 a2
  else
    if 0 ≤ a2 then
      ms_g (3 : Int32) 1980 <|
      if (ms_E σ 40 ((3 : Int32)).toNatClampNeg) ≤ a1 then
        f_X12_proves_J33 n σ a1 a2
      else
        ms_g (3 : Int32) 1980 <|
        if a2 < (ms_E σ 40 ((3 : Int32)).toNatClampNeg) then
          ms_b (f_X12_froze n σ a1 (1 : Int32)) fun rh18 =>
          ms_b (f_X12_froze n σ a2 (1 : Int32)) fun rh19 =>
          if rh18 ≤ rh19 then
            f_X12_proves_J57 n σ a1 a2 (0 : Int32)
          else
            f_X12_proves_J57 n σ a1 a2 (5 : Int32)
        else
          f_X12_proves_J33 n σ a1 a2
    else
      f_X12_proves_J9 n σ a1 a2
set_option maxRecDepth 100000 in
set_option maxHeartbeats 4000000 in
theorem m_X12_proves (n : Nat) (Γ : hp_G) (l : Launch) (α : hp_T) (a0 : Nat) (ρ : Nat → Nat) (σ : ms_T) (hM : hm_M α a0 ρ σ) (a1 : Int32) (a2 : Int32) (res : (Int32 × ms_T)) (hf : f_X12_proves n σ a1 a2 = some res) : Met l yX12_proves (hp_ws yX12_proves cX12_proves 3 (some .int)) (hp_rm 44 0 0) (hp_Pc Γ α [.ref a0, .int a1, .int a2]) (hp_Qi Γ (fun r β => r = res.1 ∧ mo α β ∧ hm_M β a0 ρ res.2)) 0 0 (hp_A Γ) := by
  unfold f_X12_proves at hf
  refine hp_start (by decide) ?_
  intro p e s m below meth c C hr hlk B0 hnm
  have C : hp_C Γ p m c cX12_proves 3 s ([.ref a0, .int a1, .int a2] : List Value).toArray RX12 := C
  have hx := C.1.1
  have hb := C.1.2.1
  have hown := C.1.2.2.2.1
  have hts := C.1.2.2.2.2
  have B : hp_B Γ mo s α α s.heap [] := ⟨B0.1, B0.2.1, mo_rf⟩
  have hl := lv_entry ([.ref a0, .int a1, .int a2]) (n := 3) (Nat.le_of_ble_eq_true rfl)
  show W p l e (hp_rm 44 0 0) s m ([.ref a0, .int a1, .int a2] : List Value).toArray below meth c s.heap [] 0 0 (MQ below (hp_Qi Γ (fun r β => r = res.1 ∧ mo α β ∧ hm_M β a0 ρ res.2)) ([.ref a0, .int a1, .int a2] : List Value).toArray s 0 0 (hp_A Γ)) (entryFrame m ([.ref a0, .int a1, .int a2] : List Value).toArray 3)
  rw [lg_entry_eq]
  generalize (lg_sl ([.ref a0, .int a1, .int a2]) ++ List.replicate (3 - (lg_sl ([.ref a0, .int a1, .int a2])).length) Slot.unset).toArray = ls at hl ⊢
  have hl : lv_has ls 3 [(0, .ref a0), (1, .int a1), (2, .int a2)] := hl
  refine lv_aload_n hx hb dX12_proves_0 rfl (lv_at hl 0 rfl) (hp_n (n := 1) rfl ?_)
  refine lv_iload_n hx hb dX12_proves_1 rfl (lv_at hl 1 rfl) (hp_n (n := 2) rfl ?_)
  have J57 : ∀ (αh1 : hp_T) (Hh1 : Heap) (Lh1 : List Loc) (Bh1 : hp_B Γ mo s α αh1 Hh1 Lh1) (σh1 : ms_T) (Mh1 : hm_M αh1 a0 ρ σh1) (v1_h1 : Int32) (v2_h1 : Int32) (w0_h1 : Int32) (ls : Array Slot) (hl : lv_has ls 3 [(0, .ref a0), (1, .int v1_h1), (2, .int v2_h1)]) (hf : f_X12_proves_J57 n σh1 v1_h1 v2_h1 w0_h1 = some res), W p l e (hp_rm 44 0 0) s m ([.ref a0, .int a1, .int a2] : List Value).toArray below meth c Hh1 Lh1 0 0 (MQ below (hp_Qi Γ (fun r β => r = res.1 ∧ mo α β ∧ hm_M β a0 ρ res.2)) ([.ref a0, .int a1, .int a2] : List Value).toArray s 0 0 (hp_A Γ)) (F0 m 57 ls [.int w0_h1, .ref a0]) := by
    intro αh1 Hh1 Lh1 Bh1 σh1 Mh1 v1_h1 v2_h1 w0_h1 ls hl hf
    unfold f_X12_proves_J57 at hf
    obtain ⟨rh2, σh2, qh2, hf⟩ := ms_cE hf
    refine m_ci (pc' := 60) (a := a0) (ρ := ρ) Bh1 (hp_runV (As := [.int w0_h1]) (rest := []) C Bh1 (m_X12_is n Γ l αh1 a0 ρ σh1 Mh1 w0_h1 (rh2, σh2) qh2) lb_X12_is lv_X12_is lk_X12_309 Mh1.1 rfl (by decide) rfl hl.1 rfl (Nat.le_of_ble_eq_true rfl) dX12_proves_57 ⟨Nat.le_refl _, Nat.le_refl _⟩) rfl (fun αh2 Hh2 Lh2 Bh2 Mh2 => ?_)
    refine lv_if_ne (tgt := 65) hx hb dX12_proves_60 (by decide) (fun c3 => ?_) (fun c3 => hp_n (n := 63) rfl ?_)
    ·
      replace hf := ms_iF c3 hf
      refine lv_aload_n hx hb dX12_proves_65 rfl (lv_at hl 0 rfl) (hp_n (n := 66) rfl ?_)
      refine lv_aload_n hx hb dX12_proves_66 rfl (lv_at hl 0 rfl) (hp_n (n := 67) rfl ?_)
      refine lv_iload_n hx hb dX12_proves_67 rfl (lv_at hl 2 rfl) (hp_n (n := 68) rfl ?_)
      refine lv_iconst (v := 0) hx hb dX12_proves_68 (by decide) (hp_n (n := 69) rfl ?_)
      obtain ⟨rh4, qh4, hf⟩ := ms_bE hf
      refine m_cp (pc' := 72) Bh2 (hp_runV (As := [.int v2_h1, .int (0 : Int32)]) (rest := [.ref a0]) C Bh2 (m_X12_froze n Γ l αh2 a0 ρ σh2 Mh2 v2_h1 (0 : Int32) rh4 qh4) lb_X12_froze lv_X12_froze lk_X12_350 Mh2.1 rfl (by decide) rfl hl.1 rfl (Nat.le_of_ble_eq_true rfl) dX12_proves_69 ⟨Nat.le_refl _, Nat.le_refl _⟩) rfl (fun Hh4 Lh4 Bh4 => ?_)
      refine lv_aload_n hx hb dX12_proves_72 rfl (lv_at hl 0 rfl) (hp_n (n := 73) rfl ?_)
      refine lv_iload_n hx hb dX12_proves_73 rfl (lv_at hl 1 rfl) (hp_n (n := 74) rfl ?_)
      refine lv_iconst (v := 1) hx hb dX12_proves_74 (by decide) (hp_n (n := 75) rfl ?_)
      obtain ⟨rh5, qh5, hf⟩ := ms_bE hf
      refine m_cp (pc' := 78) Bh4 (hp_runV (As := [.int v1_h1, .int (1 : Int32)]) (rest := [.int rh4, .ref a0]) C Bh4 (m_X12_froze n Γ l αh2 a0 ρ σh2 Mh2 v1_h1 (1 : Int32) rh5 qh5) lb_X12_froze lv_X12_froze lk_X12_350 Mh2.1 rfl (by decide) rfl hl.1 rfl (Nat.le_of_ble_eq_true rfl) dX12_proves_75 ⟨Nat.le_refl _, Nat.le_refl _⟩) rfl (fun Hh5 Lh5 Bh5 => ?_)
      refine lv_aload_n hx hb dX12_proves_78 rfl (lv_at hl 0 rfl) (hp_n (n := 79) rfl ?_)
      refine lv_iload_n hx hb dX12_proves_79 rfl (lv_at hl 1 rfl) (hp_n (n := 80) rfl ?_)
      refine lv_iconst (v := 2) hx hb dX12_proves_80 (by decide) (hp_n (n := 81) rfl ?_)
      obtain ⟨rh6, qh6, hf⟩ := ms_bE hf
      refine m_cp (pc' := 84) Bh5 (hp_runV (As := [.int v1_h1, .int (2 : Int32)]) (rest := [.int rh5, .int rh4, .ref a0]) C Bh5 (m_X12_froze n Γ l αh2 a0 ρ σh2 Mh2 v1_h1 (2 : Int32) rh6 qh6) lb_X12_froze lv_X12_froze lk_X12_350 Mh2.1 rfl (by decide) rfl hl.1 rfl (Nat.le_of_ble_eq_true rfl) dX12_proves_81 ⟨Nat.le_refl _, Nat.le_refl _⟩) rfl (fun Hh6 Lh6 Bh6 => ?_)
      refine lv_aload_n hx hb dX12_proves_84 rfl (lv_at hl 0 rfl) (hp_n (n := 85) rfl ?_)
      refine lv_iload_n hx hb dX12_proves_85 rfl (lv_at hl 2 rfl) (hp_n (n := 86) rfl ?_)
      refine lv_iconst (v := 1) hx hb dX12_proves_86 (by decide) (hp_n (n := 87) rfl ?_)
      obtain ⟨rh7, qh7, hf⟩ := ms_bE hf
      refine m_cp (pc' := 90) Bh6 (hp_runV (As := [.int v2_h1, .int (1 : Int32)]) (rest := [.int rh6, .int rh5, .int rh4, .ref a0]) C Bh6 (m_X12_froze n Γ l αh2 a0 ρ σh2 Mh2 v2_h1 (1 : Int32) rh7 qh7) lb_X12_froze lv_X12_froze lk_X12_350 Mh2.1 rfl (by decide) rfl hl.1 rfl (Nat.le_of_ble_eq_true rfl) dX12_proves_87 ⟨Nat.le_refl _, Nat.le_refl _⟩) rfl (fun Hh7 Lh7 Bh7 => ?_)
      refine lv_aload_n hx hb dX12_proves_90 rfl (lv_at hl 0 rfl) (hp_n (n := 91) rfl ?_)
      refine lv_iload_n hx hb dX12_proves_91 rfl (lv_at hl 2 rfl) (hp_n (n := 92) rfl ?_)
      refine lv_iconst (v := 2) hx hb dX12_proves_92 (by decide) (hp_n (n := 93) rfl ?_)
      obtain ⟨rh8, qh8, hf⟩ := ms_bE hf
      refine m_cp (pc' := 96) Bh7 (hp_runV (As := [.int v2_h1, .int (2 : Int32)]) (rest := [.int rh7, .int rh6, .int rh5, .int rh4, .ref a0]) C Bh7 (m_X12_froze n Γ l αh2 a0 ρ σh2 Mh2 v2_h1 (2 : Int32) rh8 qh8) lb_X12_froze lv_X12_froze lk_X12_350 Mh2.1 rfl (by decide) rfl hl.1 rfl (Nat.le_of_ble_eq_true rfl) dX12_proves_93 ⟨Nat.le_refl _, Nat.le_refl _⟩) rfl (fun Hh8 Lh8 Bh8 => ?_)
      obtain ⟨rh9, σh9, qh9, hf⟩ := ms_cE hf
      refine m_ci (pc' := 99) (a := a0) (ρ := ρ) Bh8 (hp_runV (As := [.int rh4, .int rh5, .int rh6, .int rh7, .int rh8]) (rest := []) C Bh8 (m_X12_whyByRecord n Γ l αh2 a0 ρ σh2 Mh2 rh4 rh5 rh6 rh7 rh8 (rh9, σh9) qh9) lb_X12_whyByRecord lv_X12_whyByRecord lk_X12_224 Mh2.1 rfl (by decide) rfl hl.1 rfl (Nat.le_of_ble_eq_true rfl) dX12_proves_96 ⟨Nat.le_refl _, Nat.le_refl _⟩) rfl (fun αh9 Hh9 Lh9 Bh9 Mh9 => ?_)
      cases hf
      exact q_iret C Bh9 hr hlk ⟨rfl, Bh9.2.2, Mh9⟩ dX12_proves_99
    ·
      replace hf := ms_iT c3 hf
      refine lv_iconst (v := (-1)) hx hb dX12_proves_63 (by decide) (hp_n (n := 64) rfl ?_)
      cases hf
      exact q_iret C Bh2 hr hlk ⟨rfl, Bh2.2.2, Mh2⟩ dX12_proves_64
  have J9 : ∀ (αh10 : hp_T) (Hh10 : Heap) (Lh10 : List Loc) (Bh10 : hp_B Γ mo s α αh10 Hh10 Lh10) (σh10 : ms_T) (Mh10 : hm_M αh10 a0 ρ σh10) (v1_h10 : Int32) (v2_h10 : Int32) (ls : Array Slot) (hl : lv_has ls 3 [(0, .ref a0), (1, .int v1_h10), (2, .int v2_h10)]) (hf : f_X12_proves_J9 n σh10 v1_h10 v2_h10 = some res), W p l e (hp_rm 44 0 0) s m ([.ref a0, .int a1, .int a2] : List Value).toArray below meth c Hh10 Lh10 0 0 (MQ below (hp_Qi Γ (fun r β => r = res.1 ∧ mo α β ∧ hm_M β a0 ρ res.2)) ([.ref a0, .int a1, .int a2] : List Value).toArray s 0 0 (hp_A Γ)) (F0 m 9 ls [.ref a0]) := by
    intro αh10 Hh10 Lh10 Bh10 σh10 Mh10 v1_h10 v2_h10 ls hl hf
    unfold f_X12_proves_J9 at hf
    refine lv_iconst (v := 1) hx hb dX12_proves_9 (by decide) (hp_n (n := 10) rfl ?_)
    refine lv_goto (tgt := 57) hx hb dX12_proves_10 (by decide) ?_
    exact J57 αh10 Hh10 Lh10 Bh10 σh10 Mh10 v1_h10 v2_h10 (1 : Int32) ls (lv_sub hl [0, 1, 2] rfl) hf
  refine lv_if_lt (tgt := 9) hx hb dX12_proves_2 (by decide) (fun c11 => ?_) (fun c11 => hp_n (n := 5) rfl ?_)
  ·
    replace hf := ms_iT c11 hf
    exact J9 α s.heap [] B σ hM a1 a2 ls (lv_sub hl [0, 1, 2] rfl) hf
  ·
    replace hf := ms_iF c11 hf
    refine lv_iload_n hx hb dX12_proves_5 rfl (lv_at hl 2 rfl) (hp_n (n := 6) rfl ?_)
    refine lv_if_ge (tgt := 13) hx hb dX12_proves_6 (by decide) (fun c12 => ?_) (fun c12 => hp_n (n := 9) rfl ?_)
    ·
      replace hf := ms_iT c12 hf
      refine lv_iload_n hx hb dX12_proves_13 rfl (lv_at hl 1 rfl) (hp_n (n := 14) rfl ?_)
      refine lv_aload_n hx hb dX12_proves_14 rfl (lv_at hl 0 rfl) (hp_n (n := 15) rfl ?_)
      refine m_getr (κ := 40) (k := 0) (pc' := 18) C B hM fl_X12_7 rfl (by decide) dX12_proves_15 rfl ?_
      refine lv_iconst (v := 3) hx hb dX12_proves_18 (by decide) (hp_n (n := 19) rfl ?_)
      obtain ⟨g13, hf⟩ := ms_gE hf
      refine m_ial (κ := 40) (φ := 650) (n := 1980) (pc' := 20) C B hM (by decide) (by decide) rfl g13 dX12_proves_19 rfl ?_
      have J33 : ∀ (αh14 : hp_T) (Hh14 : Heap) (Lh14 : List Loc) (Bh14 : hp_B Γ mo s α αh14 Hh14 Lh14) (σh14 : ms_T) (Mh14 : hm_M αh14 a0 ρ σh14) (v1_h14 : Int32) (v2_h14 : Int32) (ls : Array Slot) (hl : lv_has ls 3 [(0, .ref a0), (1, .int v1_h14), (2, .int v2_h14)]) (hf : f_X12_proves_J33 n σh14 v1_h14 v2_h14 = some res), W p l e (hp_rm 44 0 0) s m ([.ref a0, .int a1, .int a2] : List Value).toArray below meth c Hh14 Lh14 0 0 (MQ below (hp_Qi Γ (fun r β => r = res.1 ∧ mo α β ∧ hm_M β a0 ρ res.2)) ([.ref a0, .int a1, .int a2] : List Value).toArray s 0 0 (hp_A Γ)) (F0 m 33 ls [.ref a0]) := by
        intro αh14 Hh14 Lh14 Bh14 σh14 Mh14 v1_h14 v2_h14 ls hl hf
        unfold f_X12_proves_J33 at hf
        refine lv_iconst (v := 5) hx hb dX12_proves_33 (by decide) (hp_n (n := 34) rfl ?_)
        refine lv_goto (tgt := 57) hx hb dX12_proves_34 (by decide) ?_
        exact J57 αh14 Hh14 Lh14 Bh14 σh14 Mh14 v1_h14 v2_h14 (5 : Int32) ls (lv_sub hl [0, 1, 2] rfl) hf
      refine lv_icmp_ge (tgt := 33) hx hb dX12_proves_20 (by decide) (fun c15 => ?_) (fun c15 => hp_n (n := 23) rfl ?_)
      ·
        replace hf := ms_iT c15 hf
        exact J33 α s.heap [] B σ hM a1 a2 ls (lv_sub hl [0, 1, 2] rfl) hf
      ·
        replace hf := ms_iF c15 hf
        refine lv_iload_n hx hb dX12_proves_23 rfl (lv_at hl 2 rfl) (hp_n (n := 24) rfl ?_)
        refine lv_aload_n hx hb dX12_proves_24 rfl (lv_at hl 0 rfl) (hp_n (n := 25) rfl ?_)
        refine m_getr (κ := 40) (k := 0) (pc' := 28) C B hM fl_X12_7 rfl (by decide) dX12_proves_25 rfl ?_
        refine lv_iconst (v := 3) hx hb dX12_proves_28 (by decide) (hp_n (n := 29) rfl ?_)
        obtain ⟨g16, hf⟩ := ms_gE hf
        refine m_ial (κ := 40) (φ := 650) (n := 1980) (pc' := 30) C B hM (by decide) (by decide) rfl g16 dX12_proves_29 rfl ?_
        refine lv_icmp_lt (tgt := 37) hx hb dX12_proves_30 (by decide) (fun c17 => ?_) (fun c17 => hp_n (n := 33) rfl ?_)
        ·
          replace hf := ms_iT c17 hf
          refine lv_aload_n hx hb dX12_proves_37 rfl (lv_at hl 0 rfl) (hp_n (n := 38) rfl ?_)
          refine lv_iload_n hx hb dX12_proves_38 rfl (lv_at hl 1 rfl) (hp_n (n := 39) rfl ?_)
          refine lv_iconst (v := 1) hx hb dX12_proves_39 (by decide) (hp_n (n := 40) rfl ?_)
          obtain ⟨rh18, qh18, hf⟩ := ms_bE hf
          refine m_cp (pc' := 43) B (hp_runV (As := [.int a1, .int (1 : Int32)]) (rest := [.ref a0]) C B (m_X12_froze n Γ l α a0 ρ σ hM a1 (1 : Int32) rh18 qh18) lb_X12_froze lv_X12_froze lk_X12_350 hM.1 rfl (by decide) rfl hl.1 rfl (Nat.le_of_ble_eq_true rfl) dX12_proves_40 ⟨Nat.le_refl _, Nat.le_refl _⟩) rfl (fun Hh18 Lh18 Bh18 => ?_)
          refine lv_aload_n hx hb dX12_proves_43 rfl (lv_at hl 0 rfl) (hp_n (n := 44) rfl ?_)
          refine lv_iload_n hx hb dX12_proves_44 rfl (lv_at hl 2 rfl) (hp_n (n := 45) rfl ?_)
          refine lv_iconst (v := 1) hx hb dX12_proves_45 (by decide) (hp_n (n := 46) rfl ?_)
          obtain ⟨rh19, qh19, hf⟩ := ms_bE hf
          refine m_cp (pc' := 49) Bh18 (hp_runV (As := [.int a2, .int (1 : Int32)]) (rest := [.int rh18, .ref a0]) C Bh18 (m_X12_froze n Γ l α a0 ρ σ hM a2 (1 : Int32) rh19 qh19) lb_X12_froze lv_X12_froze lk_X12_350 hM.1 rfl (by decide) rfl hl.1 rfl (Nat.le_of_ble_eq_true rfl) dX12_proves_46 ⟨Nat.le_refl _, Nat.le_refl _⟩) rfl (fun Hh19 Lh19 Bh19 => ?_)
          refine lv_icmp_le (tgt := 56) hx hb dX12_proves_49 (by decide) (fun c20 => ?_) (fun c20 => hp_n (n := 52) rfl ?_)
          ·
            replace hf := ms_iT c20 hf
            refine lv_iconst (v := 0) hx hb dX12_proves_56 (by decide) (hp_n (n := 57) rfl ?_)
            exact J57 α Hh19 Lh19 Bh19 σ hM a1 a2 (0 : Int32) ls (lv_sub hl [0, 1, 2] rfl) hf
          ·
            replace hf := ms_iF c20 hf
            refine lv_iconst (v := 5) hx hb dX12_proves_52 (by decide) (hp_n (n := 53) rfl ?_)
            refine lv_goto (tgt := 57) hx hb dX12_proves_53 (by decide) ?_
            exact J57 α Hh19 Lh19 Bh19 σ hM a1 a2 (5 : Int32) ls (lv_sub hl [0, 1, 2] rfl) hf
        ·
          replace hf := ms_iF c17 hf
          exact J33 α s.heap [] B σ hM a1 a2 ls (lv_sub hl [0, 1, 2] rfl) hf
    ·
      replace hf := ms_iF c12 hf
      exact J9 α s.heap [] B σ hM a1 a2 ls (lv_sub hl [0, 1, 2] rfl) hf
def f_X12_longest_J100 (n : Nat) (rec45 : ms_T → Int32 → Int32 → Int32 → Int32 → Int32 → Int32 → Option (Int32 × ms_T)) (σh12 : ms_T) (v1_h12 : Int32) (v2_h12 : Int32) (v4_h12 : Int32) (v5_h12 : Int32) (v6_h12 : Int32) (w0_h12 : Int32) : Option (Int32 × ms_T) :=
  ms_l (v6_h12 + 1) fun x13 =>
  rec45 σh12 v1_h12 v2_h12 w0_h12 v4_h12 v5_h12 x13
def f_X12_longest_J82 (n : Nat) (rec45 : ms_T → Int32 → Int32 → Int32 → Int32 → Int32 → Int32 → Option (Int32 × ms_T)) (σh11 : ms_T) (v1_h11 : Int32) (v2_h11 : Int32) (v3_h11 : Int32) (v5_h11 : Int32) (v6_h11 : Int32) (w0_h11 : Int32) : Option (Int32 × ms_T) :=
  if (ms_I σh11 657) ≤ v3_h11 then
    f_X12_longest_J100 n rec45 σh11 v1_h11 v2_h11 w0_h11 v5_h11 v6_h11 v3_h11
  else
    f_X12_longest_J100 n rec45 σh11 v1_h11 v2_h11 w0_h11 v5_h11 v6_h11 (ms_I σh11 657)
def f_X12_longest_L45 (n : Nat) : Nat → ms_T → Int32 → Int32 → Int32 → Int32 → Int32 → Int32 → Option (Int32 × ms_T)
  | 0, _, _, _, _, _, _, _ => none
  | k45 + 1, σh5, v1_h5, v2_h5, v3_h5, v4_h5, v5_h5, v6_h5 =>
    if v1_h5 ≤ v6_h5 then
      if v2_h5 = 0 then
        some (v3_h5, σh5)
      else
        if v2_h5 = (1 : Int32) then
          some (v4_h5, σh5)
        else
          some (v5_h5, σh5)
    else
      ms_b (f_X12_inclusion n σh5 v6_h5 v1_h5) fun σh9 =>
      ms_l ((v5_h5 + (ms_I σh9 657))) fun x10 =>
      if (ms_I σh9 657) ≤ v3_h5 then
        f_X12_longest_J82 n (f_X12_longest_L45 n k45) σh9 v1_h5 v2_h5 v3_h5 x10 v6_h5 v4_h5
      else
        f_X12_longest_J82 n (f_X12_longest_L45 n k45) σh9 v1_h5 v2_h5 v3_h5 x10 v6_h5 v6_h5
def f_X12_longest_J26 (n : Nat) (σh2 : ms_T) (v1_h2 : Int32) (v2_h2 : Int32) (w0_h2 : Int32) : Option (Int32 × ms_T) :=
  ms_c (f_X12_is n σh2 w0_h2) fun rh3 σh3 =>
  if rh3 = 0 then
    some ((-1 : Int32), σh3)
  else
    f_X12_longest_L45 n n σh3 v1_h2 v2_h2 (-1 : Int32) (0 : Int32) (0 : Int32) (0 : Int32)
def f_X12_longest_J25 (n : Nat) (σh16 : ms_T) (v1_h16 : Int32) (v2_h16 : Int32) : Option (Int32 × ms_T) :=
  f_X12_longest_J26 n σh16 v1_h16 v2_h16 (1 : Int32)
def f_X12_longest (n : Nat) (σ : ms_T) (a1 : Int32) (a2 : Int32) : Option (Int32 × ms_T) :=
  ms_b (f_X12_isIn n a1 (1 : Int32) (512 : Int32)) fun rh1 =>
  if rh1 = 0 then
    f_X12_longest_J25 n σ a1 a2
  else
    ms_b (f_X12_isIn n a2 (0 : Int32) (2 : Int32)) fun rh18 =>
    if rh18 = 0 then
      f_X12_longest_J25 n σ a1 a2
    else
      f_X12_longest_J26 n σ a1 a2 (0 : Int32)
set_option maxRecDepth 100000 in
set_option maxHeartbeats 4000000 in
theorem m_X12_longest (n : Nat) (Γ : hp_G) (l : Launch) (α : hp_T) (a0 : Nat) (ρ : Nat → Nat) (σ : ms_T) (hM : hm_M α a0 ρ σ) (a1 : Int32) (a2 : Int32) (res : (Int32 × ms_T)) (hf : f_X12_longest n σ a1 a2 = some res) : Met l yX12_longest (hp_ws yX12_longest cX12_longest 7 (some .int)) (hp_rm 42 0 0) (hp_Pc Γ α [.ref a0, .int a1, .int a2]) (hp_Qi Γ (fun r β => r = res.1 ∧ mo α β ∧ hm_M β a0 ρ res.2)) 0 0 (hp_A Γ) := by
  unfold f_X12_longest at hf
  refine hp_start (by decide) ?_
  intro p e s m below meth c C hr hlk B0 hnm
  have C : hp_C Γ p m c cX12_longest 7 s ([.ref a0, .int a1, .int a2] : List Value).toArray RX12 := C
  have hx := C.1.1
  have hb := C.1.2.1
  have hown := C.1.2.2.2.1
  have hts := C.1.2.2.2.2
  have B : hp_B Γ mo s α α s.heap [] := ⟨B0.1, B0.2.1, mo_rf⟩
  have hl := lv_entry ([.ref a0, .int a1, .int a2]) (n := 7) (Nat.le_of_ble_eq_true rfl)
  show W p l e (hp_rm 42 0 0) s m ([.ref a0, .int a1, .int a2] : List Value).toArray below meth c s.heap [] 0 0 (MQ below (hp_Qi Γ (fun r β => r = res.1 ∧ mo α β ∧ hm_M β a0 ρ res.2)) ([.ref a0, .int a1, .int a2] : List Value).toArray s 0 0 (hp_A Γ)) (entryFrame m ([.ref a0, .int a1, .int a2] : List Value).toArray 7)
  rw [lg_entry_eq]
  generalize (lg_sl ([.ref a0, .int a1, .int a2]) ++ List.replicate (7 - (lg_sl ([.ref a0, .int a1, .int a2])).length) Slot.unset).toArray = ls at hl ⊢
  have hl : lv_has ls 7 [(0, .ref a0), (1, .int a1), (2, .int a2)] := hl
  refine lv_aload_n hx hb dX12_longest_0 rfl (lv_at hl 0 rfl) (hp_n (n := 1) rfl ?_)
  refine lv_iload_n hx hb dX12_longest_1 rfl (lv_at hl 1 rfl) (hp_n (n := 2) rfl ?_)
  refine lv_iconst (v := 1) hx hb dX12_longest_2 (by decide) (hp_n (n := 3) rfl ?_)
  refine lv_sipush (v := 512) hx hb dX12_longest_3 (by decide) (hp_n (n := 6) rfl ?_)
  obtain ⟨rh1, qh1, hf⟩ := ms_bE hf
  refine m_cp (pc' := 9) B (hp_runS (As := [.int a1, .int (1 : Int32), .int (512 : Int32)]) (rest := [.ref a0]) C B (m_X12_isIn n Γ l α a1 (1 : Int32) (512 : Int32) rh1 qh1) lb_X12_isIn ls_X12_isIn lk_X12_113 rfl (by decide) rfl hl.1 rfl (Nat.le_of_ble_eq_true rfl) dX12_longest_6 ⟨Nat.le_refl _, Nat.le_refl _⟩) rfl (fun Hh1 Lh1 Bh1 => ?_)
  have J26 : ∀ (αh2 : hp_T) (Hh2 : Heap) (Lh2 : List Loc) (Bh2 : hp_B Γ mo s α αh2 Hh2 Lh2) (σh2 : ms_T) (Mh2 : hm_M αh2 a0 ρ σh2) (v1_h2 : Int32) (v2_h2 : Int32) (w0_h2 : Int32) (ls : Array Slot) (hl : lv_has ls 7 [(0, .ref a0), (1, .int v1_h2), (2, .int v2_h2)]) (hf : f_X12_longest_J26 n σh2 v1_h2 v2_h2 w0_h2 = some res), W p l e (hp_rm 42 0 0) s m ([.ref a0, .int a1, .int a2] : List Value).toArray below meth c Hh2 Lh2 0 0 (MQ below (hp_Qi Γ (fun r β => r = res.1 ∧ mo α β ∧ hm_M β a0 ρ res.2)) ([.ref a0, .int a1, .int a2] : List Value).toArray s 0 0 (hp_A Γ)) (F0 m 26 ls [.int w0_h2, .ref a0]) := by
    intro αh2 Hh2 Lh2 Bh2 σh2 Mh2 v1_h2 v2_h2 w0_h2 ls hl hf
    unfold f_X12_longest_J26 at hf
    obtain ⟨rh3, σh3, qh3, hf⟩ := ms_cE hf
    refine m_ci (pc' := 29) (a := a0) (ρ := ρ) Bh2 (hp_runV (As := [.int w0_h2]) (rest := []) C Bh2 (m_X12_is n Γ l αh2 a0 ρ σh2 Mh2 w0_h2 (rh3, σh3) qh3) lb_X12_is lv_X12_is lk_X12_309 Mh2.1 rfl (by decide) rfl hl.1 rfl (Nat.le_of_ble_eq_true rfl) dX12_longest_26 ⟨Nat.le_refl _, Nat.le_refl _⟩) rfl (fun αh3 Hh3 Lh3 Bh3 Mh3 => ?_)
    refine lv_if_ne (tgt := 34) hx hb dX12_longest_29 (by decide) (fun c4 => ?_) (fun c4 => hp_n (n := 32) rfl ?_)
    ·
      replace hf := ms_iF c4 hf
      refine lv_iconst (v := (-1)) hx hb dX12_longest_34 (by decide) (hp_n (n := 35) rfl ?_)
      refine lv_istore_n (lv' := [(3, .int (-1 : Int32)), (0, .ref a0), (1, .int v1_h2), (2, .int v2_h2)]) hx hb dX12_longest_35 rfl hl (by decide) rfl (fun ls hl => hp_n (n := 36) rfl ?_)
      refine lv_iconst (v := 0) hx hb dX12_longest_36 (by decide) (hp_n (n := 37) rfl ?_)
      refine lv_istore (lv' := [(4, .int (0 : Int32)), (3, .int (-1 : Int32)), (0, .ref a0), (1, .int v1_h2), (2, .int v2_h2)]) hx hb dX12_longest_37 hl (by decide) rfl (fun ls hl => hp_n (n := 39) rfl ?_)
      refine lv_iconst (v := 0) hx hb dX12_longest_39 (by decide) (hp_n (n := 40) rfl ?_)
      refine lv_istore (lv' := [(5, .int (0 : Int32)), (4, .int (0 : Int32)), (3, .int (-1 : Int32)), (0, .ref a0), (1, .int v1_h2), (2, .int v2_h2)]) hx hb dX12_longest_40 hl (by decide) rfl (fun ls hl => hp_n (n := 42) rfl ?_)
      refine lv_iconst (v := 0) hx hb dX12_longest_42 (by decide) (hp_n (n := 43) rfl ?_)
      have J45 : ∀ (k45 : Nat) (αh5 : hp_T) (Hh5 : Heap) (Lh5 : List Loc) (Bh5 : hp_B Γ mo s α αh5 Hh5 Lh5) (σh5 : ms_T) (Mh5 : hm_M αh5 a0 ρ σh5) (v1_h5 : Int32) (v2_h5 : Int32) (v3_h5 : Int32) (v4_h5 : Int32) (v5_h5 : Int32) (v6_h5 : Int32) (ls : Array Slot) (hl : lv_has ls 7 [(0, .ref a0), (1, .int v1_h5), (2, .int v2_h5), (3, .int v3_h5), (4, .int v4_h5), (5, .int v5_h5), (6, .int v6_h5)]) (hf : f_X12_longest_L45 n k45 σh5 v1_h5 v2_h5 v3_h5 v4_h5 v5_h5 v6_h5 = some res), W p l e (hp_rm 42 0 0) s m ([.ref a0, .int a1, .int a2] : List Value).toArray below meth c Hh5 Lh5 0 0 (MQ below (hp_Qi Γ (fun r β => r = res.1 ∧ mo α β ∧ hm_M β a0 ρ res.2)) ([.ref a0, .int a1, .int a2] : List Value).toArray s 0 0 (hp_A Γ)) (F0 m 45 ls []) := by
        intro k45
        induction k45 with
        | zero => intro αh5 Hh5 Lh5 Bh5 σh5 Mh5 v1_h5 v2_h5 v3_h5 v4_h5 v5_h5 v6_h5 ls hl hf; rw [f_X12_longest_L45.eq_1] at hf; cases hf
        | succ k45 ih45 =>
          intro αh5 Hh5 Lh5 Bh5 σh5 Mh5 v1_h5 v2_h5 v3_h5 v4_h5 v5_h5 v6_h5 ls hl hf
          rw [f_X12_longest_L45.eq_2] at hf
          refine lv_iload hx hb dX12_longest_45 (lv_at hl 6 rfl) (hp_n (n := 47) rfl ?_)
          refine lv_iload_n hx hb dX12_longest_47 rfl (lv_at hl 1 rfl) (hp_n (n := 48) rfl ?_)
          refine lv_icmp_ge (tgt := 107) hx hb dX12_longest_48 (by decide) (fun c6 => ?_) (fun c6 => hp_n (n := 51) rfl ?_)
          ·
            replace hf := ms_iT c6 hf
            refine lv_iload_n hx hb dX12_longest_107 rfl (lv_at hl 2 rfl) (hp_n (n := 108) rfl ?_)
            refine lv_if_ne (tgt := 115) hx hb dX12_longest_108 (by decide) (fun c7 => ?_) (fun c7 => hp_n (n := 111) rfl ?_)
            ·
              replace hf := ms_iF c7 hf
              refine lv_iload_n hx hb dX12_longest_115 rfl (lv_at hl 2 rfl) (hp_n (n := 116) rfl ?_)
              refine lv_iconst (v := 1) hx hb dX12_longest_116 (by decide) (hp_n (n := 117) rfl ?_)
              refine lv_icmp_ne (tgt := 125) hx hb dX12_longest_117 (by decide) (fun c8 => ?_) (fun c8 => hp_n (n := 120) rfl ?_)
              ·
                replace hf := ms_iF c8 hf
                refine lv_iload hx hb dX12_longest_125 (lv_at hl 5 rfl) (hp_n (n := 127) rfl ?_)
                cases hf
                exact q_iret C Bh5 hr hlk ⟨rfl, Bh5.2.2, Mh5⟩ dX12_longest_127
              ·
                replace hf := ms_iT c8 hf
                refine lv_iload hx hb dX12_longest_120 (lv_at hl 4 rfl) (hp_n (n := 122) rfl ?_)
                refine lv_goto (tgt := 127) hx hb dX12_longest_122 (by decide) ?_
                cases hf
                exact q_iret C Bh5 hr hlk ⟨rfl, Bh5.2.2, Mh5⟩ dX12_longest_127
            ·
              replace hf := ms_iT c7 hf
              refine lv_iload_n hx hb dX12_longest_111 rfl (lv_at hl 3 rfl) (hp_n (n := 112) rfl ?_)
              refine lv_goto (tgt := 127) hx hb dX12_longest_112 (by decide) ?_
              cases hf
              exact q_iret C Bh5 hr hlk ⟨rfl, Bh5.2.2, Mh5⟩ dX12_longest_127
          ·
            replace hf := ms_iF c6 hf
            refine lv_aload_n hx hb dX12_longest_51 rfl (lv_at hl 0 rfl) (hp_n (n := 52) rfl ?_)
            refine lv_iload hx hb dX12_longest_52 (lv_at hl 6 rfl) (hp_n (n := 54) rfl ?_)
            refine lv_iload_n hx hb dX12_longest_54 rfl (lv_at hl 1 rfl) (hp_n (n := 55) rfl ?_)
            obtain ⟨σh9, qh9, hf⟩ := ms_bE hf
            refine m_cv (pc' := 58) (a := a0) (ρ := ρ) Bh5 (hp_runV (As := [.int v6_h5, .int v1_h5]) (rest := []) C Bh5 (m_X12_inclusion n Γ l αh5 a0 ρ σh5 Mh5 v6_h5 v1_h5 σh9 qh9) lb_X12_inclusion lv_X12_inclusion lk_X12_171 Mh5.1 rfl (by decide) rfl hl.1 rfl (Nat.le_of_ble_eq_true rfl) dX12_longest_55 ⟨Nat.le_refl _, Nat.le_refl _⟩) rfl (fun αh9 Hh9 Lh9 Bh9 Mh9 => ?_)
            refine lv_iload hx hb dX12_longest_58 (lv_at hl 5 rfl) (hp_n (n := 60) rfl ?_)
            refine lv_aload_n hx hb dX12_longest_60 rfl (lv_at hl 0 rfl) (hp_n (n := 61) rfl ?_)
            refine m_geti (k := 7) (φ := 657) (pc' := 64) C Bh9 Mh9 fl_X12_139 rfl rfl dX12_longest_61 rfl ?_
            refine lv_iadd hx hb dX12_longest_64 (hp_n (n := 65) rfl ?_)
            refine lv_topi (fun x10 ex10 => ?_)
            replace hf := ms_lE ex10 hf
            refine lv_istore (lv' := [(5, .int x10), (0, .ref a0), (1, .int v1_h5), (2, .int v2_h5), (3, .int v3_h5), (4, .int v4_h5), (6, .int v6_h5)]) hx hb dX12_longest_65 hl (by decide) rfl (fun ls hl => hp_n (n := 67) rfl ?_)
            refine lv_aload_n hx hb dX12_longest_67 rfl (lv_at hl 1 rfl) (hp_n (n := 68) rfl ?_)
            refine m_geti (k := 7) (φ := 657) (pc' := 71) C Bh9 Mh9 fl_X12_139 rfl rfl dX12_longest_68 rfl ?_
            refine lv_iload_n hx hb dX12_longest_71 rfl (lv_at hl 4 rfl) (hp_n (n := 72) rfl ?_)
            have J82 : ∀ (αh11 : hp_T) (Hh11 : Heap) (Lh11 : List Loc) (Bh11 : hp_B Γ mo s α αh11 Hh11 Lh11) (σh11 : ms_T) (Mh11 : hm_M αh11 a0 ρ σh11) (v1_h11 : Int32) (v2_h11 : Int32) (v3_h11 : Int32) (v5_h11 : Int32) (v6_h11 : Int32) (w0_h11 : Int32) (ls : Array Slot) (hl : lv_has ls 7 [(0, .ref a0), (1, .int v1_h11), (2, .int v2_h11), (3, .int v3_h11), (5, .int v5_h11), (6, .int v6_h11)]) (hf : f_X12_longest_J82 n (f_X12_longest_L45 n k45) σh11 v1_h11 v2_h11 v3_h11 v5_h11 v6_h11 w0_h11 = some res), W p l e (hp_rm 42 0 0) s m ([.ref a0, .int a1, .int a2] : List Value).toArray below meth c Hh11 Lh11 0 0 (MQ below (hp_Qi Γ (fun r β => r = res.1 ∧ mo α β ∧ hm_M β a0 ρ res.2)) ([.ref a0, .int a1, .int a2] : List Value).toArray s 0 0 (hp_A Γ)) (F0 m 82 ls [.int w0_h11]) := by
              intro αh11 Hh11 Lh11 Bh11 σh11 Mh11 v1_h11 v2_h11 v3_h11 v5_h11 v6_h11 w0_h11 ls hl hf
              unfold f_X12_longest_J82 at hf
              refine lv_istore (lv' := [(4, .int w0_h11), (0, .ref a0), (1, .int v1_h11), (2, .int v2_h11), (3, .int v3_h11), (5, .int v5_h11), (6, .int v6_h11)]) hx hb dX12_longest_82 hl (by decide) rfl (fun ls hl => hp_n (n := 84) rfl ?_)
              refine lv_aload_n hx hb dX12_longest_84 rfl (lv_at hl 1 rfl) (hp_n (n := 85) rfl ?_)
              refine m_geti (k := 7) (φ := 657) (pc' := 88) C Bh11 Mh11 fl_X12_139 rfl rfl dX12_longest_85 rfl ?_
              refine lv_iload_n hx hb dX12_longest_88 rfl (lv_at hl 4 rfl) (hp_n (n := 89) rfl ?_)
              have J100 : ∀ (αh12 : hp_T) (Hh12 : Heap) (Lh12 : List Loc) (Bh12 : hp_B Γ mo s α αh12 Hh12 Lh12) (σh12 : ms_T) (Mh12 : hm_M αh12 a0 ρ σh12) (v1_h12 : Int32) (v2_h12 : Int32) (v4_h12 : Int32) (v5_h12 : Int32) (v6_h12 : Int32) (w0_h12 : Int32) (ls : Array Slot) (hl : lv_has ls 7 [(0, .ref a0), (1, .int v1_h12), (2, .int v2_h12), (4, .int v4_h12), (5, .int v5_h12), (6, .int v6_h12)]) (hf : f_X12_longest_J100 n (f_X12_longest_L45 n k45) σh12 v1_h12 v2_h12 v4_h12 v5_h12 v6_h12 w0_h12 = some res), W p l e (hp_rm 42 0 0) s m ([.ref a0, .int a1, .int a2] : List Value).toArray below meth c Hh12 Lh12 0 0 (MQ below (hp_Qi Γ (fun r β => r = res.1 ∧ mo α β ∧ hm_M β a0 ρ res.2)) ([.ref a0, .int a1, .int a2] : List Value).toArray s 0 0 (hp_A Γ)) (F0 m 100 ls [.int w0_h12]) := by
                intro αh12 Hh12 Lh12 Bh12 σh12 Mh12 v1_h12 v2_h12 v4_h12 v5_h12 v6_h12 w0_h12 ls hl hf
                unfold f_X12_longest_J100 at hf
                refine lv_istore_n (lv' := [(3, .int w0_h12), (0, .ref a0), (1, .int v1_h12), (2, .int v2_h12), (4, .int v4_h12), (5, .int v5_h12), (6, .int v6_h12)]) hx hb dX12_longest_100 rfl hl (by decide) rfl (fun ls hl => hp_n (n := 101) rfl ?_)
                obtain ⟨x13, ex13⟩ : ∃ y : Int32, y = v6_h12 + 1 := ⟨_, rfl⟩
                replace hf := ms_lE ex13 hf
                refine lv_iinc (v := x13) (lv' := [(6, .int x13), (3, .int w0_h12), (0, .ref a0), (1, .int v1_h12), (2, .int v2_h12), (4, .int v4_h12), (5, .int v5_h12)]) hx hb dX12_longest_101 hl (k := 6) rfl (by rw [ex13]; rfl) (by decide) rfl (fun ls hl => hp_n (n := 104) rfl ?_)
                refine lv_goto (tgt := 45) hx hb dX12_longest_104 (by decide) ?_
                exact ih45 αh12 Hh12 Lh12 Bh12 σh12 Mh12 v1_h12 v2_h12 w0_h12 v4_h12 v5_h12 x13 ls (lv_sub hl [2, 3, 4, 1, 5, 6, 0] rfl) hf
              refine lv_icmp_le (tgt := 99) hx hb dX12_longest_89 (by decide) (fun c14 => ?_) (fun c14 => hp_n (n := 92) rfl ?_)
              ·
                replace hf := ms_iT c14 hf
                refine lv_iload_n hx hb dX12_longest_99 rfl (lv_at hl 4 rfl) (hp_n (n := 100) rfl ?_)
                exact J100 αh11 Hh11 Lh11 Bh11 σh11 Mh11 v1_h11 v2_h11 w0_h11 v5_h11 v6_h11 v3_h11 ls (lv_sub hl [1, 2, 3, 0, 5, 6] rfl) hf
              ·
                replace hf := ms_iF c14 hf
                refine lv_aload_n hx hb dX12_longest_92 rfl (lv_at hl 1 rfl) (hp_n (n := 93) rfl ?_)
                refine m_geti (k := 7) (φ := 657) (pc' := 96) C Bh11 Mh11 fl_X12_139 rfl rfl dX12_longest_93 rfl ?_
                refine lv_goto (tgt := 100) hx hb dX12_longest_96 (by decide) ?_
                exact J100 αh11 Hh11 Lh11 Bh11 σh11 Mh11 v1_h11 v2_h11 w0_h11 v5_h11 v6_h11 (ms_I σh11 657) ls (lv_sub hl [1, 2, 3, 0, 5, 6] rfl) hf
            refine lv_icmp_le (tgt := 80) hx hb dX12_longest_72 (by decide) (fun c15 => ?_) (fun c15 => hp_n (n := 75) rfl ?_)
            ·
              replace hf := ms_iT c15 hf
              refine lv_iload hx hb dX12_longest_80 (lv_at hl 5 rfl) (hp_n (n := 82) rfl ?_)
              exact J82 αh9 Hh9 Lh9 Bh9 σh9 Mh9 v1_h5 v2_h5 v3_h5 x10 v6_h5 v4_h5 ls (lv_sub hl [1, 2, 3, 4, 0, 6] rfl) hf
            ·
              replace hf := ms_iF c15 hf
              refine lv_iload hx hb dX12_longest_75 (lv_at hl 6 rfl) (hp_n (n := 77) rfl ?_)
              refine lv_goto (tgt := 82) hx hb dX12_longest_77 (by decide) ?_
              exact J82 αh9 Hh9 Lh9 Bh9 σh9 Mh9 v1_h5 v2_h5 v3_h5 x10 v6_h5 v6_h5 ls (lv_sub hl [1, 2, 3, 4, 0, 6] rfl) hf
      refine lv_istore (lv' := [(6, .int (0 : Int32)), (5, .int (0 : Int32)), (4, .int (0 : Int32)), (3, .int (-1 : Int32)), (0, .ref a0), (1, .int v1_h2), (2, .int v2_h2)]) hx hb dX12_longest_43 hl (by decide) rfl (fun ls hl => hp_n (n := 45) rfl ?_)
      exact J45 n αh3 Hh3 Lh3 Bh3 σh3 Mh3 v1_h2 v2_h2 (-1 : Int32) (0 : Int32) (0 : Int32) (0 : Int32) ls (lv_sub hl [4, 5, 6, 3, 2, 1, 0] rfl) hf
    ·
      replace hf := ms_iT c4 hf
      refine lv_iconst (v := (-1)) hx hb dX12_longest_32 (by decide) (hp_n (n := 33) rfl ?_)
      cases hf
      exact q_iret C Bh3 hr hlk ⟨rfl, Bh3.2.2, Mh3⟩ dX12_longest_33
  have J25 : ∀ (αh16 : hp_T) (Hh16 : Heap) (Lh16 : List Loc) (Bh16 : hp_B Γ mo s α αh16 Hh16 Lh16) (σh16 : ms_T) (Mh16 : hm_M αh16 a0 ρ σh16) (v1_h16 : Int32) (v2_h16 : Int32) (ls : Array Slot) (hl : lv_has ls 7 [(0, .ref a0), (1, .int v1_h16), (2, .int v2_h16)]) (hf : f_X12_longest_J25 n σh16 v1_h16 v2_h16 = some res), W p l e (hp_rm 42 0 0) s m ([.ref a0, .int a1, .int a2] : List Value).toArray below meth c Hh16 Lh16 0 0 (MQ below (hp_Qi Γ (fun r β => r = res.1 ∧ mo α β ∧ hm_M β a0 ρ res.2)) ([.ref a0, .int a1, .int a2] : List Value).toArray s 0 0 (hp_A Γ)) (F0 m 25 ls [.ref a0]) := by
    intro αh16 Hh16 Lh16 Bh16 σh16 Mh16 v1_h16 v2_h16 ls hl hf
    unfold f_X12_longest_J25 at hf
    refine lv_iconst (v := 1) hx hb dX12_longest_25 (by decide) (hp_n (n := 26) rfl ?_)
    exact J26 αh16 Hh16 Lh16 Bh16 σh16 Mh16 v1_h16 v2_h16 (1 : Int32) ls (lv_sub hl [0, 1, 2] rfl) hf
  refine lv_if_eq (tgt := 25) hx hb dX12_longest_9 (by decide) (fun c17 => ?_) (fun c17 => hp_n (n := 12) rfl ?_)
  ·
    replace hf := ms_iT c17 hf
    exact J25 α Hh1 Lh1 Bh1 σ hM a1 a2 ls (lv_sub hl [0, 1, 2] rfl) hf
  ·
    replace hf := ms_iF c17 hf
    refine lv_iload_n hx hb dX12_longest_12 rfl (lv_at hl 2 rfl) (hp_n (n := 13) rfl ?_)
    refine lv_iconst (v := 0) hx hb dX12_longest_13 (by decide) (hp_n (n := 14) rfl ?_)
    refine lv_iconst (v := 2) hx hb dX12_longest_14 (by decide) (hp_n (n := 15) rfl ?_)
    obtain ⟨rh18, qh18, hf⟩ := ms_bE hf
    refine m_cp (pc' := 18) Bh1 (hp_runS (As := [.int a2, .int (0 : Int32), .int (2 : Int32)]) (rest := [.ref a0]) C Bh1 (m_X12_isIn n Γ l α a2 (0 : Int32) (2 : Int32) rh18 qh18) lb_X12_isIn ls_X12_isIn lk_X12_113 rfl (by decide) rfl hl.1 rfl (Nat.le_of_ble_eq_true rfl) dX12_longest_15 ⟨Nat.le_refl _, Nat.le_refl _⟩) rfl (fun Hh18 Lh18 Bh18 => ?_)
    refine lv_if_eq (tgt := 25) hx hb dX12_longest_18 (by decide) (fun c19 => ?_) (fun c19 => hp_n (n := 21) rfl ?_)
    ·
      replace hf := ms_iT c19 hf
      exact J25 α Hh18 Lh18 Bh18 σ hM a1 a2 ls (lv_sub hl [0, 1, 2] rfl) hf
    ·
      replace hf := ms_iF c19 hf
      refine lv_iconst (v := 0) hx hb dX12_longest_21 (by decide) (hp_n (n := 22) rfl ?_)
      refine lv_goto (tgt := 26) hx hb dX12_longest_22 (by decide) ?_
      exact J26 α Hh18 Lh18 Bh18 σ hM a1 a2 (0 : Int32) ls (lv_sub hl [0, 1, 2] rfl) hf
def f_X12_part_J198 (n : Nat) (rec123 : ms_T → Int32 → Int32 → Int32 → Int32 → Int32 → Int32 → Option (Int32 × ms_T)) (σh21 : ms_T) (v1_h21 : Int32) (v2_h21 : Int32) (v3_h21 : Int32) (v5_h21 : Int32) (v6_h21 : Int32) (w0_h21 : Int32) : Option (Int32 × ms_T) :=
  rec123 σh21 v1_h21 v2_h21 v3_h21 w0_h21 v5_h21 v6_h21
def f_X12_part_J180 (n : Nat) (rec123 : ms_T → Int32 → Int32 → Int32 → Int32 → Int32 → Int32 → Option (Int32 × ms_T)) (σh19 : ms_T) (v1_h19 : Int32) (v2_h19 : Int32) (v3_h19 : Int32) (v4_h19 : Int32) (v6_h19 : Int32) (v7_h19 : Int32) (v8_h19 : Int32) (w0_h19 : Int32) (w1_h19 : Int32) : Option (Int32 × ms_T) :=
  ms_l ((w1_h19 + w0_h19)) fun x20 =>
  if v8_h19 = 0 then
    f_X12_part_J198 n rec123 σh19 v1_h19 v2_h19 v3_h19 x20 v6_h19 v7_h19
  else
    f_X12_part_J198 n rec123 σh19 v1_h19 v2_h19 v3_h19 x20 v6_h19 (v4_h19 - v7_h19)
def f_X12_part_J165 (n : Nat) (rec123 : ms_T → Int32 → Int32 → Int32 → Int32 → Int32 → Int32 → Option (Int32 × ms_T)) (σh18 : ms_T) (v1_h18 : Int32) (v2_h18 : Int32) (v3_h18 : Int32) (v4_h18 : Int32) (v5_h18 : Int32) (v6_h18 : Int32) (v7_h18 : Int32) (w0_h18 : Int32) : Option (Int32 × ms_T) :=
  if w0_h18 = 0 then
    f_X12_part_J180 n rec123 σh18 v1_h18 v2_h18 v3_h18 v4_h18 v6_h18 v7_h18 w0_h18 (0 : Int32) v5_h18
  else
    f_X12_part_J180 n rec123 σh18 v1_h18 v2_h18 v3_h18 v4_h18 v6_h18 v7_h18 w0_h18 v7_h18 v5_h18
def f_X12_part_L123 (n : Nat) : Nat → ms_T → Int32 → Int32 → Int32 → Int32 → Int32 → Int32 → Option (Int32 × ms_T)
  | 0, _, _, _, _, _, _, _ => none
  | k123 + 1, σh11, v1_h11, v2_h11, v3_h11, v4_h11, v5_h11, v6_h11 =>
    if v4_h11 ≤ (1 : Int32) then
      if v3_h11 = 0 then
        some (v5_h11, σh11)
      else
        some (v6_h11, σh11)
    else
      ms_b (f_X12_part0 n v4_h11) fun rh14 =>
      ms_l (v6_h11 + 1) fun x15 =>
      ms_b (f_X12_treeMark n 40 σh11 v1_h11 v5_h11 rh14) fun rh16 =>
      ms_b (f_X12_treeMark n 40 σh11 v2_h11 v5_h11 rh14) fun rh17 =>
      if rh16 = rh17 then
        f_X12_part_J165 n (f_X12_part_L123 n k123) σh11 v1_h11 v2_h11 v3_h11 v4_h11 v5_h11 x15 rh14 (1 : Int32)
      else
        f_X12_part_J165 n (f_X12_part_L123 n k123) σh11 v1_h11 v2_h11 v3_h11 v4_h11 v5_h11 x15 rh14 (0 : Int32)
def f_X12_part_J69 (n : Nat) (σh7 : ms_T) (v1_h7 : Int32) (v2_h7 : Int32) (v3_h7 : Int32) (w0_h7 : Int32) : Option (Int32 × ms_T) :=
  ms_b (f_X12_headOf n σh7 v1_h7 w0_h7) fun rh8 =>
  ms_b (f_X12_headOf n σh7 v2_h7 w0_h7) fun rh9 =>
  if rh8 = rh9 then
    if v3_h7 = (1 : Int32) then
      some ((0 : Int32), σh7)
    else
      ms_b (f_X12_sizeOf n σh7 v1_h7) fun rh26 =>
      ms_b (f_X12_sizeOf n σh7 v2_h7) fun rh27 =>
      if rh26 = rh27 then
        some ((-1 : Int32), σh7)
      else
        some (w0_h7, σh7)
  else
    f_X12_part_L123 n n σh7 v1_h7 v2_h7 v3_h7 w0_h7 (0 : Int32) (0 : Int32)
def f_X12_part_J35 (n : Nat) (σh2 : ms_T) (v1_h2 : Int32) (v2_h2 : Int32) (v3_h2 : Int32) (w0_h2 : Int32) : Option (Int32 × ms_T) :=
  ms_c (f_X12_is n σh2 w0_h2) fun rh3 σh3 =>
  if rh3 = 0 then
    some ((-1 : Int32), σh3)
  else
    ms_b (f_X12_sizeOf n σh3 v1_h2) fun rh5 =>
    ms_b (f_X12_sizeOf n σh3 v2_h2) fun rh6 =>
    if rh6 ≤ rh5 then
      ms_b (f_X12_sizeOf n σh3 v2_h2) fun rh30 =>
      f_X12_part_J69 n σh3 v1_h2 v2_h2 v3_h2 rh30
    else
      ms_b (f_X12_sizeOf n σh3 v1_h2) fun rh31 =>
      f_X12_part_J69 n σh3 v1_h2 v2_h2 v3_h2 rh31
def f_X12_part_J30 (n : Nat) (σh34 : ms_T) (v1_h34 : Int32) (v2_h34 : Int32) (v3_h34 : Int32) : Option (Int32 × ms_T) :=
  f_X12_part_J35 n σh34 v1_h34 v2_h34 v3_h34 (2 : Int32)
def f_X12_part (n : Nat) (σ : ms_T) (a1 : Int32) (a2 : Int32) (a3 : Int32) : Option (Int32 × ms_T) :=
  ms_b (f_X12_isIn n a3 (0 : Int32) (1 : Int32)) fun rh1 =>
  if rh1 = 0 then
    f_X12_part_J35 n σ a1 a2 a3 (1 : Int32)
  else
    ms_b (f_X12_isRecord n σ a1) fun rh33 =>
    if rh33 = 0 then
      f_X12_part_J30 n σ a1 a2 a3
    else
      ms_b (f_X12_isRecord n σ a2) fun rh36 =>
      if rh36 = 0 then
        f_X12_part_J30 n σ a1 a2 a3
      else
        f_X12_part_J35 n σ a1 a2 a3 (0 : Int32)
set_option maxRecDepth 100000 in
set_option maxHeartbeats 4000000 in
theorem m_X12_part (n : Nat) (Γ : hp_G) (l : Launch) (α : hp_T) (a0 : Nat) (ρ : Nat → Nat) (σ : ms_T) (hM : hm_M α a0 ρ σ) (a1 : Int32) (a2 : Int32) (a3 : Int32) (res : (Int32 × ms_T)) (hf : f_X12_part n σ a1 a2 a3 = some res) : Met l yX12_part (hp_ws yX12_part cX12_part 9 (some .int)) (hp_rm 43 0 0) (hp_Pc Γ α [.ref a0, .int a1, .int a2, .int a3]) (hp_Qi Γ (fun r β => r = res.1 ∧ mo α β ∧ hm_M β a0 ρ res.2)) 0 0 (hp_A Γ) := by
  unfold f_X12_part at hf
  refine hp_start (by decide) ?_
  intro p e s m below meth c C hr hlk B0 hnm
  have C : hp_C Γ p m c cX12_part 9 s ([.ref a0, .int a1, .int a2, .int a3] : List Value).toArray RX12 := C
  have hx := C.1.1
  have hb := C.1.2.1
  have hown := C.1.2.2.2.1
  have hts := C.1.2.2.2.2
  have B : hp_B Γ mo s α α s.heap [] := ⟨B0.1, B0.2.1, mo_rf⟩
  have hl := lv_entry ([.ref a0, .int a1, .int a2, .int a3]) (n := 9) (Nat.le_of_ble_eq_true rfl)
  show W p l e (hp_rm 43 0 0) s m ([.ref a0, .int a1, .int a2, .int a3] : List Value).toArray below meth c s.heap [] 0 0 (MQ below (hp_Qi Γ (fun r β => r = res.1 ∧ mo α β ∧ hm_M β a0 ρ res.2)) ([.ref a0, .int a1, .int a2, .int a3] : List Value).toArray s 0 0 (hp_A Γ)) (entryFrame m ([.ref a0, .int a1, .int a2, .int a3] : List Value).toArray 9)
  rw [lg_entry_eq]
  generalize (lg_sl ([.ref a0, .int a1, .int a2, .int a3]) ++ List.replicate (9 - (lg_sl ([.ref a0, .int a1, .int a2, .int a3])).length) Slot.unset).toArray = ls at hl ⊢
  have hl : lv_has ls 9 [(0, .ref a0), (1, .int a1), (2, .int a2), (3, .int a3)] := hl
  refine lv_aload_n hx hb dX12_part_0 rfl (lv_at hl 0 rfl) (hp_n (n := 1) rfl ?_)
  refine lv_iload_n hx hb dX12_part_1 rfl (lv_at hl 3 rfl) (hp_n (n := 2) rfl ?_)
  refine lv_iconst (v := 0) hx hb dX12_part_2 (by decide) (hp_n (n := 3) rfl ?_)
  refine lv_iconst (v := 1) hx hb dX12_part_3 (by decide) (hp_n (n := 4) rfl ?_)
  obtain ⟨rh1, qh1, hf⟩ := ms_bE hf
  refine m_cp (pc' := 7) B (hp_runS (As := [.int a3, .int (0 : Int32), .int (1 : Int32)]) (rest := [.ref a0]) C B (m_X12_isIn n Γ l α a3 (0 : Int32) (1 : Int32) rh1 qh1) lb_X12_isIn ls_X12_isIn lk_X12_113 rfl (by decide) rfl hl.1 rfl (Nat.le_of_ble_eq_true rfl) dX12_part_4 ⟨Nat.le_refl _, Nat.le_refl _⟩) rfl (fun Hh1 Lh1 Bh1 => ?_)
  have J35 : ∀ (αh2 : hp_T) (Hh2 : Heap) (Lh2 : List Loc) (Bh2 : hp_B Γ mo s α αh2 Hh2 Lh2) (σh2 : ms_T) (Mh2 : hm_M αh2 a0 ρ σh2) (v1_h2 : Int32) (v2_h2 : Int32) (v3_h2 : Int32) (w0_h2 : Int32) (ls : Array Slot) (hl : lv_has ls 9 [(0, .ref a0), (1, .int v1_h2), (2, .int v2_h2), (3, .int v3_h2)]) (hf : f_X12_part_J35 n σh2 v1_h2 v2_h2 v3_h2 w0_h2 = some res), W p l e (hp_rm 43 0 0) s m ([.ref a0, .int a1, .int a2, .int a3] : List Value).toArray below meth c Hh2 Lh2 0 0 (MQ below (hp_Qi Γ (fun r β => r = res.1 ∧ mo α β ∧ hm_M β a0 ρ res.2)) ([.ref a0, .int a1, .int a2, .int a3] : List Value).toArray s 0 0 (hp_A Γ)) (F0 m 35 ls [.int w0_h2, .ref a0]) := by
    intro αh2 Hh2 Lh2 Bh2 σh2 Mh2 v1_h2 v2_h2 v3_h2 w0_h2 ls hl hf
    unfold f_X12_part_J35 at hf
    obtain ⟨rh3, σh3, qh3, hf⟩ := ms_cE hf
    refine m_ci (pc' := 38) (a := a0) (ρ := ρ) Bh2 (hp_runV (As := [.int w0_h2]) (rest := []) C Bh2 (m_X12_is n Γ l αh2 a0 ρ σh2 Mh2 w0_h2 (rh3, σh3) qh3) lb_X12_is lv_X12_is lk_X12_309 Mh2.1 rfl (by decide) rfl hl.1 rfl (Nat.le_of_ble_eq_true rfl) dX12_part_35 ⟨Nat.le_refl _, Nat.le_refl _⟩) rfl (fun αh3 Hh3 Lh3 Bh3 Mh3 => ?_)
    refine lv_if_ne (tgt := 43) hx hb dX12_part_38 (by decide) (fun c4 => ?_) (fun c4 => hp_n (n := 41) rfl ?_)
    ·
      replace hf := ms_iF c4 hf
      refine lv_aload_n hx hb dX12_part_43 rfl (lv_at hl 0 rfl) (hp_n (n := 44) rfl ?_)
      refine lv_iload_n hx hb dX12_part_44 rfl (lv_at hl 1 rfl) (hp_n (n := 45) rfl ?_)
      obtain ⟨rh5, qh5, hf⟩ := ms_bE hf
      refine m_cp (pc' := 48) Bh3 (hp_runV (As := [.int v1_h2]) (rest := []) C Bh3 (m_X12_sizeOf n Γ l αh3 a0 ρ σh3 Mh3 v1_h2 rh5 qh5) lb_X12_sizeOf lv_X12_sizeOf lk_X12_209 Mh3.1 rfl (by decide) rfl hl.1 rfl (Nat.le_of_ble_eq_true rfl) dX12_part_45 ⟨Nat.le_refl _, Nat.le_refl _⟩) rfl (fun Hh5 Lh5 Bh5 => ?_)
      refine lv_aload_n hx hb dX12_part_48 rfl (lv_at hl 0 rfl) (hp_n (n := 49) rfl ?_)
      refine lv_iload_n hx hb dX12_part_49 rfl (lv_at hl 2 rfl) (hp_n (n := 50) rfl ?_)
      obtain ⟨rh6, qh6, hf⟩ := ms_bE hf
      refine m_cp (pc' := 53) Bh5 (hp_runV (As := [.int v2_h2]) (rest := [.int rh5]) C Bh5 (m_X12_sizeOf n Γ l αh3 a0 ρ σh3 Mh3 v2_h2 rh6 qh6) lb_X12_sizeOf lv_X12_sizeOf lk_X12_209 Mh3.1 rfl (by decide) rfl hl.1 rfl (Nat.le_of_ble_eq_true rfl) dX12_part_50 ⟨Nat.le_refl _, Nat.le_refl _⟩) rfl (fun Hh6 Lh6 Bh6 => ?_)
      have J69 : ∀ (αh7 : hp_T) (Hh7 : Heap) (Lh7 : List Loc) (Bh7 : hp_B Γ mo s α αh7 Hh7 Lh7) (σh7 : ms_T) (Mh7 : hm_M αh7 a0 ρ σh7) (v1_h7 : Int32) (v2_h7 : Int32) (v3_h7 : Int32) (w0_h7 : Int32) (ls : Array Slot) (hl : lv_has ls 9 [(0, .ref a0), (1, .int v1_h7), (2, .int v2_h7), (3, .int v3_h7)]) (hf : f_X12_part_J69 n σh7 v1_h7 v2_h7 v3_h7 w0_h7 = some res), W p l e (hp_rm 43 0 0) s m ([.ref a0, .int a1, .int a2, .int a3] : List Value).toArray below meth c Hh7 Lh7 0 0 (MQ below (hp_Qi Γ (fun r β => r = res.1 ∧ mo α β ∧ hm_M β a0 ρ res.2)) ([.ref a0, .int a1, .int a2, .int a3] : List Value).toArray s 0 0 (hp_A Γ)) (F0 m 69 ls [.int w0_h7]) := by
        intro αh7 Hh7 Lh7 Bh7 σh7 Mh7 v1_h7 v2_h7 v3_h7 w0_h7 ls hl hf
        unfold f_X12_part_J69 at hf
        refine lv_istore (lv' := [(4, .int w0_h7), (0, .ref a0), (1, .int v1_h7), (2, .int v2_h7), (3, .int v3_h7)]) hx hb dX12_part_69 hl (by decide) rfl (fun ls hl => hp_n (n := 71) rfl ?_)
        refine lv_aload_n hx hb dX12_part_71 rfl (lv_at hl 1 rfl) (hp_n (n := 72) rfl ?_)
        refine lv_iload_n hx hb dX12_part_72 rfl (lv_at hl 2 rfl) (hp_n (n := 73) rfl ?_)
        refine lv_iload hx hb dX12_part_73 (lv_at hl 0 rfl) (hp_n (n := 75) rfl ?_)
        obtain ⟨rh8, qh8, hf⟩ := ms_bE hf
        refine m_cp (pc' := 78) Bh7 (hp_runV (As := [.int v1_h7, .int w0_h7]) (rest := []) C Bh7 (m_X12_headOf n Γ l αh7 a0 ρ σh7 Mh7 v1_h7 w0_h7 rh8 qh8) lb_X12_headOf lv_X12_headOf lk_X12_215 Mh7.1 rfl (by decide) rfl hl.1 rfl (Nat.le_of_ble_eq_true rfl) dX12_part_75 ⟨Nat.le_refl _, Nat.le_refl _⟩) rfl (fun Hh8 Lh8 Bh8 => ?_)
        refine lv_aload_n hx hb dX12_part_78 rfl (lv_at hl 1 rfl) (hp_n (n := 79) rfl ?_)
        refine lv_iload_n hx hb dX12_part_79 rfl (lv_at hl 3 rfl) (hp_n (n := 80) rfl ?_)
        refine lv_iload hx hb dX12_part_80 (lv_at hl 0 rfl) (hp_n (n := 82) rfl ?_)
        obtain ⟨rh9, qh9, hf⟩ := ms_bE hf
        refine m_cp (pc' := 85) Bh8 (hp_runV (As := [.int v2_h7, .int w0_h7]) (rest := [.int rh8]) C Bh8 (m_X12_headOf n Γ l αh7 a0 ρ σh7 Mh7 v2_h7 w0_h7 rh9 qh9) lb_X12_headOf lv_X12_headOf lk_X12_215 Mh7.1 rfl (by decide) rfl hl.1 rfl (Nat.le_of_ble_eq_true rfl) dX12_part_82 ⟨Nat.le_refl _, Nat.le_refl _⟩) rfl (fun Hh9 Lh9 Bh9 => ?_)
        refine lv_icmp_ne (tgt := 117) hx hb dX12_part_85 (by decide) (fun c10 => ?_) (fun c10 => hp_n (n := 88) rfl ?_)
        ·
          replace hf := ms_iF c10 hf
          refine lv_iconst (v := 0) hx hb dX12_part_117 (by decide) (hp_n (n := 118) rfl ?_)
          refine lv_istore (lv' := [(5, .int (0 : Int32)), (4, .int w0_h7), (0, .ref a0), (1, .int v1_h7), (2, .int v2_h7), (3, .int v3_h7)]) hx hb dX12_part_118 hl (by decide) rfl (fun ls hl => hp_n (n := 120) rfl ?_)
          refine lv_iconst (v := 0) hx hb dX12_part_120 (by decide) (hp_n (n := 121) rfl ?_)
          have J123 : ∀ (k123 : Nat) (αh11 : hp_T) (Hh11 : Heap) (Lh11 : List Loc) (Bh11 : hp_B Γ mo s α αh11 Hh11 Lh11) (σh11 : ms_T) (Mh11 : hm_M αh11 a0 ρ σh11) (v1_h11 : Int32) (v2_h11 : Int32) (v3_h11 : Int32) (v4_h11 : Int32) (v5_h11 : Int32) (v6_h11 : Int32) (ls : Array Slot) (hl : lv_has ls 9 [(0, .ref a0), (1, .int v1_h11), (2, .int v2_h11), (3, .int v3_h11), (4, .int v4_h11), (5, .int v5_h11), (6, .int v6_h11)]) (hf : f_X12_part_L123 n k123 σh11 v1_h11 v2_h11 v3_h11 v4_h11 v5_h11 v6_h11 = some res), W p l e (hp_rm 43 0 0) s m ([.ref a0, .int a1, .int a2, .int a3] : List Value).toArray below meth c Hh11 Lh11 0 0 (MQ below (hp_Qi Γ (fun r β => r = res.1 ∧ mo α β ∧ hm_M β a0 ρ res.2)) ([.ref a0, .int a1, .int a2, .int a3] : List Value).toArray s 0 0 (hp_A Γ)) (F0 m 123 ls []) := by
            intro k123
            induction k123 with
            | zero => intro αh11 Hh11 Lh11 Bh11 σh11 Mh11 v1_h11 v2_h11 v3_h11 v4_h11 v5_h11 v6_h11 ls hl hf; rw [f_X12_part_L123.eq_1] at hf; cases hf
            | succ k123 ih123 =>
              intro αh11 Hh11 Lh11 Bh11 σh11 Mh11 v1_h11 v2_h11 v3_h11 v4_h11 v5_h11 v6_h11 ls hl hf
              rw [f_X12_part_L123.eq_2] at hf
              refine lv_iload hx hb dX12_part_123 (lv_at hl 4 rfl) (hp_n (n := 125) rfl ?_)
              refine lv_iconst (v := 1) hx hb dX12_part_125 (by decide) (hp_n (n := 126) rfl ?_)
              refine lv_icmp_le (tgt := 203) hx hb dX12_part_126 (by decide) (fun c12 => ?_) (fun c12 => hp_n (n := 129) rfl ?_)
              ·
                replace hf := ms_iT c12 hf
                refine lv_iload_n hx hb dX12_part_203 rfl (lv_at hl 3 rfl) (hp_n (n := 204) rfl ?_)
                refine lv_if_ne (tgt := 212) hx hb dX12_part_204 (by decide) (fun c13 => ?_) (fun c13 => hp_n (n := 207) rfl ?_)
                ·
                  replace hf := ms_iF c13 hf
                  refine lv_iload hx hb dX12_part_212 (lv_at hl 6 rfl) (hp_n (n := 214) rfl ?_)
                  cases hf
                  exact q_iret C Bh11 hr hlk ⟨rfl, Bh11.2.2, Mh11⟩ dX12_part_214
                ·
                  replace hf := ms_iT c13 hf
                  refine lv_iload hx hb dX12_part_207 (lv_at hl 5 rfl) (hp_n (n := 209) rfl ?_)
                  refine lv_goto (tgt := 214) hx hb dX12_part_209 (by decide) ?_
                  cases hf
                  exact q_iret C Bh11 hr hlk ⟨rfl, Bh11.2.2, Mh11⟩ dX12_part_214
              ·
                replace hf := ms_iF c12 hf
                refine lv_iload hx hb dX12_part_129 (lv_at hl 4 rfl) (hp_n (n := 131) rfl ?_)
                obtain ⟨rh14, qh14, hf⟩ := ms_bE hf
                refine m_cp (pc' := 134) Bh11 (hp_runS (As := [.int v4_h11]) (rest := []) C Bh11 (m_X12_part0 n Γ l αh11 v4_h11 rh14 qh14) lb_X12_part0 ls_X12_part0 lk_X12_128 rfl (by decide) rfl hl.1 rfl (Nat.le_of_ble_eq_true rfl) dX12_part_131 ⟨Nat.le_refl _, Nat.le_refl _⟩) rfl (fun Hh14 Lh14 Bh14 => ?_)
                refine lv_istore (lv' := [(7, .int rh14), (0, .ref a0), (1, .int v1_h11), (2, .int v2_h11), (3, .int v3_h11), (4, .int v4_h11), (5, .int v5_h11), (6, .int v6_h11)]) hx hb dX12_part_134 hl (by decide) rfl (fun ls hl => hp_n (n := 136) rfl ?_)
                obtain ⟨x15, ex15⟩ : ∃ y : Int32, y = v6_h11 + 1 := ⟨_, rfl⟩
                replace hf := ms_lE ex15 hf
                refine lv_iinc (v := x15) (lv' := [(6, .int x15), (7, .int rh14), (0, .ref a0), (1, .int v1_h11), (2, .int v2_h11), (3, .int v3_h11), (4, .int v4_h11), (5, .int v5_h11)]) hx hb dX12_part_136 hl (k := 7) rfl (by rw [ex15]; rfl) (by decide) rfl (fun ls hl => hp_n (n := 139) rfl ?_)
                refine lv_aload_n hx hb dX12_part_139 rfl (lv_at hl 2 rfl) (hp_n (n := 140) rfl ?_)
                refine lv_iload_n hx hb dX12_part_140 rfl (lv_at hl 3 rfl) (hp_n (n := 141) rfl ?_)
                refine lv_iload hx hb dX12_part_141 (lv_at hl 7 rfl) (hp_n (n := 143) rfl ?_)
                refine lv_iload hx hb dX12_part_143 (lv_at hl 1 rfl) (hp_n (n := 145) rfl ?_)
                obtain ⟨rh16, qh16, hf⟩ := ms_bE hf
                refine m_cp (pc' := 148) Bh14 (hp_runV (As := [.int v1_h11, .int v5_h11, .int rh14]) (rest := []) C Bh14 (m_X12_treeMark n 40 Γ l αh11 a0 ρ σh11 Mh11 v1_h11 v5_h11 rh14 rh16 qh16) lb_X12_treeMark lv_X12_treeMark lk_X12_132 Mh11.1 rfl (by decide) rfl hl.1 rfl (Nat.le_of_ble_eq_true rfl) dX12_part_145 ⟨Nat.le_refl _, Nat.le_refl _⟩) rfl (fun Hh16 Lh16 Bh16 => ?_)
                refine lv_aload_n hx hb dX12_part_148 rfl (lv_at hl 2 rfl) (hp_n (n := 149) rfl ?_)
                refine lv_iload_n hx hb dX12_part_149 rfl (lv_at hl 4 rfl) (hp_n (n := 150) rfl ?_)
                refine lv_iload hx hb dX12_part_150 (lv_at hl 7 rfl) (hp_n (n := 152) rfl ?_)
                refine lv_iload hx hb dX12_part_152 (lv_at hl 1 rfl) (hp_n (n := 154) rfl ?_)
                obtain ⟨rh17, qh17, hf⟩ := ms_bE hf
                refine m_cp (pc' := 157) Bh16 (hp_runV (As := [.int v2_h11, .int v5_h11, .int rh14]) (rest := [.int rh16]) C Bh16 (m_X12_treeMark n 40 Γ l αh11 a0 ρ σh11 Mh11 v2_h11 v5_h11 rh14 rh17 qh17) lb_X12_treeMark lv_X12_treeMark lk_X12_132 Mh11.1 rfl (by decide) rfl hl.1 rfl (Nat.le_of_ble_eq_true rfl) dX12_part_154 ⟨Nat.le_refl _, Nat.le_refl _⟩) rfl (fun Hh17 Lh17 Bh17 => ?_)
                have J165 : ∀ (αh18 : hp_T) (Hh18 : Heap) (Lh18 : List Loc) (Bh18 : hp_B Γ mo s α αh18 Hh18 Lh18) (σh18 : ms_T) (Mh18 : hm_M αh18 a0 ρ σh18) (v1_h18 : Int32) (v2_h18 : Int32) (v3_h18 : Int32) (v4_h18 : Int32) (v5_h18 : Int32) (v6_h18 : Int32) (v7_h18 : Int32) (w0_h18 : Int32) (ls : Array Slot) (hl : lv_has ls 9 [(0, .ref a0), (1, .int v1_h18), (2, .int v2_h18), (3, .int v3_h18), (4, .int v4_h18), (5, .int v5_h18), (6, .int v6_h18), (7, .int v7_h18)]) (hf : f_X12_part_J165 n (f_X12_part_L123 n k123) σh18 v1_h18 v2_h18 v3_h18 v4_h18 v5_h18 v6_h18 v7_h18 w0_h18 = some res), W p l e (hp_rm 43 0 0) s m ([.ref a0, .int a1, .int a2, .int a3] : List Value).toArray below meth c Hh18 Lh18 0 0 (MQ below (hp_Qi Γ (fun r β => r = res.1 ∧ mo α β ∧ hm_M β a0 ρ res.2)) ([.ref a0, .int a1, .int a2, .int a3] : List Value).toArray s 0 0 (hp_A Γ)) (F0 m 165 ls [.int w0_h18]) := by
                  intro αh18 Hh18 Lh18 Bh18 σh18 Mh18 v1_h18 v2_h18 v3_h18 v4_h18 v5_h18 v6_h18 v7_h18 w0_h18 ls hl hf
                  unfold f_X12_part_J165 at hf
                  refine lv_istore (lv' := [(8, .int w0_h18), (0, .ref a0), (1, .int v1_h18), (2, .int v2_h18), (3, .int v3_h18), (4, .int v4_h18), (5, .int v5_h18), (6, .int v6_h18), (7, .int v7_h18)]) hx hb dX12_part_165 hl (by decide) rfl (fun ls hl => hp_n (n := 167) rfl ?_)
                  refine lv_iload hx hb dX12_part_167 (lv_at hl 6 rfl) (hp_n (n := 169) rfl ?_)
                  refine lv_iload hx hb dX12_part_169 (lv_at hl 0 rfl) (hp_n (n := 171) rfl ?_)
                  have J180 : ∀ (αh19 : hp_T) (Hh19 : Heap) (Lh19 : List Loc) (Bh19 : hp_B Γ mo s α αh19 Hh19 Lh19) (σh19 : ms_T) (Mh19 : hm_M αh19 a0 ρ σh19) (v1_h19 : Int32) (v2_h19 : Int32) (v3_h19 : Int32) (v4_h19 : Int32) (v6_h19 : Int32) (v7_h19 : Int32) (v8_h19 : Int32) (w0_h19 : Int32) (w1_h19 : Int32) (ls : Array Slot) (hl : lv_has ls 9 [(0, .ref a0), (1, .int v1_h19), (2, .int v2_h19), (3, .int v3_h19), (4, .int v4_h19), (6, .int v6_h19), (7, .int v7_h19), (8, .int v8_h19)]) (hf : f_X12_part_J180 n (f_X12_part_L123 n k123) σh19 v1_h19 v2_h19 v3_h19 v4_h19 v6_h19 v7_h19 v8_h19 w0_h19 w1_h19 = some res), W p l e (hp_rm 43 0 0) s m ([.ref a0, .int a1, .int a2, .int a3] : List Value).toArray below meth c Hh19 Lh19 0 0 (MQ below (hp_Qi Γ (fun r β => r = res.1 ∧ mo α β ∧ hm_M β a0 ρ res.2)) ([.ref a0, .int a1, .int a2, .int a3] : List Value).toArray s 0 0 (hp_A Γ)) (F0 m 180 ls [.int w0_h19, .int w1_h19]) := by
                    intro αh19 Hh19 Lh19 Bh19 σh19 Mh19 v1_h19 v2_h19 v3_h19 v4_h19 v6_h19 v7_h19 v8_h19 w0_h19 w1_h19 ls hl hf
                    unfold f_X12_part_J180 at hf
                    refine lv_iadd hx hb dX12_part_180 (hp_n (n := 181) rfl ?_)
                    refine lv_topi (fun x20 ex20 => ?_)
                    replace hf := ms_lE ex20 hf
                    refine lv_istore (lv' := [(5, .int x20), (0, .ref a0), (1, .int v1_h19), (2, .int v2_h19), (3, .int v3_h19), (4, .int v4_h19), (6, .int v6_h19), (7, .int v7_h19), (8, .int v8_h19)]) hx hb dX12_part_181 hl (by decide) rfl (fun ls hl => hp_n (n := 183) rfl ?_)
                    refine lv_iload hx hb dX12_part_183 (lv_at hl 8 rfl) (hp_n (n := 185) rfl ?_)
                    have J198 : ∀ (αh21 : hp_T) (Hh21 : Heap) (Lh21 : List Loc) (Bh21 : hp_B Γ mo s α αh21 Hh21 Lh21) (σh21 : ms_T) (Mh21 : hm_M αh21 a0 ρ σh21) (v1_h21 : Int32) (v2_h21 : Int32) (v3_h21 : Int32) (v5_h21 : Int32) (v6_h21 : Int32) (w0_h21 : Int32) (ls : Array Slot) (hl : lv_has ls 9 [(0, .ref a0), (1, .int v1_h21), (2, .int v2_h21), (3, .int v3_h21), (5, .int v5_h21), (6, .int v6_h21)]) (hf : f_X12_part_J198 n (f_X12_part_L123 n k123) σh21 v1_h21 v2_h21 v3_h21 v5_h21 v6_h21 w0_h21 = some res), W p l e (hp_rm 43 0 0) s m ([.ref a0, .int a1, .int a2, .int a3] : List Value).toArray below meth c Hh21 Lh21 0 0 (MQ below (hp_Qi Γ (fun r β => r = res.1 ∧ mo α β ∧ hm_M β a0 ρ res.2)) ([.ref a0, .int a1, .int a2, .int a3] : List Value).toArray s 0 0 (hp_A Γ)) (F0 m 198 ls [.int w0_h21]) := by
                      intro αh21 Hh21 Lh21 Bh21 σh21 Mh21 v1_h21 v2_h21 v3_h21 v5_h21 v6_h21 w0_h21 ls hl hf
                      unfold f_X12_part_J198 at hf
                      refine lv_istore (lv' := [(4, .int w0_h21), (0, .ref a0), (1, .int v1_h21), (2, .int v2_h21), (3, .int v3_h21), (5, .int v5_h21), (6, .int v6_h21)]) hx hb dX12_part_198 hl (by decide) rfl (fun ls hl => hp_n (n := 200) rfl ?_)
                      refine lv_goto (tgt := 123) hx hb dX12_part_200 (by decide) ?_
                      exact ih123 αh21 Hh21 Lh21 Bh21 σh21 Mh21 v1_h21 v2_h21 v3_h21 w0_h21 v5_h21 v6_h21 ls (lv_sub hl [1, 2, 3, 4, 0, 5, 6] rfl) hf
                    refine lv_if_eq (tgt := 196) hx hb dX12_part_185 (by decide) (fun c22 => ?_) (fun c22 => hp_n (n := 188) rfl ?_)
                    ·
                      replace hf := ms_iT c22 hf
                      refine lv_iload hx hb dX12_part_196 (lv_at hl 7 rfl) (hp_n (n := 198) rfl ?_)
                      exact J198 αh19 Hh19 Lh19 Bh19 σh19 Mh19 v1_h19 v2_h19 v3_h19 x20 v6_h19 v7_h19 ls (lv_sub hl [1, 2, 3, 4, 0, 6] rfl) hf
                    ·
                      replace hf := ms_iF c22 hf
                      refine lv_iload hx hb dX12_part_188 (lv_at hl 5 rfl) (hp_n (n := 190) rfl ?_)
                      refine lv_iload hx hb dX12_part_190 (lv_at hl 7 rfl) (hp_n (n := 192) rfl ?_)
                      refine lv_isub hx hb dX12_part_192 (hp_n (n := 193) rfl ?_)
                      refine lv_goto (tgt := 198) hx hb dX12_part_193 (by decide) ?_
                      exact J198 αh19 Hh19 Lh19 Bh19 σh19 Mh19 v1_h19 v2_h19 v3_h19 x20 v6_h19 (v4_h19 - v7_h19) ls (lv_sub hl [1, 2, 3, 4, 0, 6] rfl) hf
                  refine lv_if_eq (tgt := 179) hx hb dX12_part_171 (by decide) (fun c23 => ?_) (fun c23 => hp_n (n := 174) rfl ?_)
                  ·
                    replace hf := ms_iT c23 hf
                    refine lv_iconst (v := 0) hx hb dX12_part_179 (by decide) (hp_n (n := 180) rfl ?_)
                    exact J180 αh18 Hh18 Lh18 Bh18 σh18 Mh18 v1_h18 v2_h18 v3_h18 v4_h18 v6_h18 v7_h18 w0_h18 (0 : Int32) v5_h18 ls (lv_sub hl [1, 2, 3, 4, 5, 7, 8, 0] rfl) hf
                  ·
                    replace hf := ms_iF c23 hf
                    refine lv_iload hx hb dX12_part_174 (lv_at hl 8 rfl) (hp_n (n := 176) rfl ?_)
                    refine lv_goto (tgt := 180) hx hb dX12_part_176 (by decide) ?_
                    exact J180 αh18 Hh18 Lh18 Bh18 σh18 Mh18 v1_h18 v2_h18 v3_h18 v4_h18 v6_h18 v7_h18 w0_h18 v7_h18 v5_h18 ls (lv_sub hl [1, 2, 3, 4, 5, 7, 8, 0] rfl) hf
                refine lv_icmp_ne (tgt := 164) hx hb dX12_part_157 (by decide) (fun c24 => ?_) (fun c24 => hp_n (n := 160) rfl ?_)
                ·
                  replace hf := ms_iF c24 hf
                  refine lv_iconst (v := 0) hx hb dX12_part_164 (by decide) (hp_n (n := 165) rfl ?_)
                  exact J165 αh11 Hh17 Lh17 Bh17 σh11 Mh11 v1_h11 v2_h11 v3_h11 v4_h11 v5_h11 x15 rh14 (0 : Int32) ls (lv_sub hl [2, 3, 4, 5, 6, 7, 0, 1] rfl) hf
                ·
                  replace hf := ms_iT c24 hf
                  refine lv_iconst (v := 1) hx hb dX12_part_160 (by decide) (hp_n (n := 161) rfl ?_)
                  refine lv_goto (tgt := 165) hx hb dX12_part_161 (by decide) ?_
                  exact J165 αh11 Hh17 Lh17 Bh17 σh11 Mh11 v1_h11 v2_h11 v3_h11 v4_h11 v5_h11 x15 rh14 (1 : Int32) ls (lv_sub hl [2, 3, 4, 5, 6, 7, 0, 1] rfl) hf
          refine lv_istore (lv' := [(6, .int (0 : Int32)), (5, .int (0 : Int32)), (4, .int w0_h7), (0, .ref a0), (1, .int v1_h7), (2, .int v2_h7), (3, .int v3_h7)]) hx hb dX12_part_121 hl (by decide) rfl (fun ls hl => hp_n (n := 123) rfl ?_)
          exact J123 n αh7 Hh9 Lh9 Bh9 σh7 Mh7 v1_h7 v2_h7 v3_h7 w0_h7 (0 : Int32) (0 : Int32) ls (lv_sub hl [3, 4, 5, 6, 2, 1, 0] rfl) hf
        ·
          replace hf := ms_iT c10 hf
          refine lv_iload_n hx hb dX12_part_88 rfl (lv_at hl 4 rfl) (hp_n (n := 89) rfl ?_)
          refine lv_iconst (v := 1) hx hb dX12_part_89 (by decide) (hp_n (n := 90) rfl ?_)
          refine lv_icmp_ne (tgt := 97) hx hb dX12_part_90 (by decide) (fun c25 => ?_) (fun c25 => hp_n (n := 93) rfl ?_)
          ·
            replace hf := ms_iF c25 hf
            refine lv_aload_n hx hb dX12_part_97 rfl (lv_at hl 1 rfl) (hp_n (n := 98) rfl ?_)
            refine lv_iload_n hx hb dX12_part_98 rfl (lv_at hl 2 rfl) (hp_n (n := 99) rfl ?_)
            obtain ⟨rh26, qh26, hf⟩ := ms_bE hf
            refine m_cp (pc' := 102) Bh9 (hp_runV (As := [.int v1_h7]) (rest := []) C Bh9 (m_X12_sizeOf n Γ l αh7 a0 ρ σh7 Mh7 v1_h7 rh26 qh26) lb_X12_sizeOf lv_X12_sizeOf lk_X12_209 Mh7.1 rfl (by decide) rfl hl.1 rfl (Nat.le_of_ble_eq_true rfl) dX12_part_99 ⟨Nat.le_refl _, Nat.le_refl _⟩) rfl (fun Hh26 Lh26 Bh26 => ?_)
            refine lv_aload_n hx hb dX12_part_102 rfl (lv_at hl 1 rfl) (hp_n (n := 103) rfl ?_)
            refine lv_iload_n hx hb dX12_part_103 rfl (lv_at hl 3 rfl) (hp_n (n := 104) rfl ?_)
            obtain ⟨rh27, qh27, hf⟩ := ms_bE hf
            refine m_cp (pc' := 107) Bh26 (hp_runV (As := [.int v2_h7]) (rest := [.int rh26]) C Bh26 (m_X12_sizeOf n Γ l αh7 a0 ρ σh7 Mh7 v2_h7 rh27 qh27) lb_X12_sizeOf lv_X12_sizeOf lk_X12_209 Mh7.1 rfl (by decide) rfl hl.1 rfl (Nat.le_of_ble_eq_true rfl) dX12_part_104 ⟨Nat.le_refl _, Nat.le_refl _⟩) rfl (fun Hh27 Lh27 Bh27 => ?_)
            refine lv_icmp_ne (tgt := 114) hx hb dX12_part_107 (by decide) (fun c28 => ?_) (fun c28 => hp_n (n := 110) rfl ?_)
            ·
              replace hf := ms_iF c28 hf
              refine lv_iload hx hb dX12_part_114 (lv_at hl 0 rfl) (hp_n (n := 116) rfl ?_)
              cases hf
              exact q_iret C Bh27 hr hlk ⟨rfl, Bh27.2.2, Mh7⟩ dX12_part_116
            ·
              replace hf := ms_iT c28 hf
              refine lv_iconst (v := (-1)) hx hb dX12_part_110 (by decide) (hp_n (n := 111) rfl ?_)
              refine lv_goto (tgt := 116) hx hb dX12_part_111 (by decide) ?_
              cases hf
              exact q_iret C Bh27 hr hlk ⟨rfl, Bh27.2.2, Mh7⟩ dX12_part_116
          ·
            replace hf := ms_iT c25 hf
            refine lv_iconst (v := 0) hx hb dX12_part_93 (by decide) (hp_n (n := 94) rfl ?_)
            refine lv_goto (tgt := 116) hx hb dX12_part_94 (by decide) ?_
            cases hf
            exact q_iret C Bh9 hr hlk ⟨rfl, Bh9.2.2, Mh7⟩ dX12_part_116
      refine lv_icmp_ge (tgt := 64) hx hb dX12_part_53 (by decide) (fun c29 => ?_) (fun c29 => hp_n (n := 56) rfl ?_)
      ·
        replace hf := ms_iT c29 hf
        refine lv_aload_n hx hb dX12_part_64 rfl (lv_at hl 0 rfl) (hp_n (n := 65) rfl ?_)
        refine lv_iload_n hx hb dX12_part_65 rfl (lv_at hl 2 rfl) (hp_n (n := 66) rfl ?_)
        obtain ⟨rh30, qh30, hf⟩ := ms_bE hf
        refine m_cp (pc' := 69) Bh6 (hp_runV (As := [.int v2_h2]) (rest := []) C Bh6 (m_X12_sizeOf n Γ l αh3 a0 ρ σh3 Mh3 v2_h2 rh30 qh30) lb_X12_sizeOf lv_X12_sizeOf lk_X12_209 Mh3.1 rfl (by decide) rfl hl.1 rfl (Nat.le_of_ble_eq_true rfl) dX12_part_66 ⟨Nat.le_refl _, Nat.le_refl _⟩) rfl (fun Hh30 Lh30 Bh30 => ?_)
        exact J69 αh3 Hh30 Lh30 Bh30 σh3 Mh3 v1_h2 v2_h2 v3_h2 rh30 ls (lv_sub hl [0, 1, 2, 3] rfl) hf
      ·
        replace hf := ms_iF c29 hf
        refine lv_aload_n hx hb dX12_part_56 rfl (lv_at hl 0 rfl) (hp_n (n := 57) rfl ?_)
        refine lv_iload_n hx hb dX12_part_57 rfl (lv_at hl 1 rfl) (hp_n (n := 58) rfl ?_)
        obtain ⟨rh31, qh31, hf⟩ := ms_bE hf
        refine m_cp (pc' := 61) Bh6 (hp_runV (As := [.int v1_h2]) (rest := []) C Bh6 (m_X12_sizeOf n Γ l αh3 a0 ρ σh3 Mh3 v1_h2 rh31 qh31) lb_X12_sizeOf lv_X12_sizeOf lk_X12_209 Mh3.1 rfl (by decide) rfl hl.1 rfl (Nat.le_of_ble_eq_true rfl) dX12_part_58 ⟨Nat.le_refl _, Nat.le_refl _⟩) rfl (fun Hh31 Lh31 Bh31 => ?_)
        refine lv_goto (tgt := 69) hx hb dX12_part_61 (by decide) ?_
        exact J69 αh3 Hh31 Lh31 Bh31 σh3 Mh3 v1_h2 v2_h2 v3_h2 rh31 ls (lv_sub hl [0, 1, 2, 3] rfl) hf
    ·
      replace hf := ms_iT c4 hf
      refine lv_iconst (v := (-1)) hx hb dX12_part_41 (by decide) (hp_n (n := 42) rfl ?_)
      cases hf
      exact q_iret C Bh3 hr hlk ⟨rfl, Bh3.2.2, Mh3⟩ dX12_part_42
  refine lv_if_ne (tgt := 14) hx hb dX12_part_7 (by decide) (fun c32 => ?_) (fun c32 => hp_n (n := 10) rfl ?_)
  ·
    replace hf := ms_iF c32 hf
    refine lv_aload_n hx hb dX12_part_14 rfl (lv_at hl 0 rfl) (hp_n (n := 15) rfl ?_)
    refine lv_iload_n hx hb dX12_part_15 rfl (lv_at hl 1 rfl) (hp_n (n := 16) rfl ?_)
    obtain ⟨rh33, qh33, hf⟩ := ms_bE hf
    refine m_cp (pc' := 19) Bh1 (hp_runV (As := [.int a1]) (rest := [.ref a0]) C Bh1 (m_X12_isRecord n Γ l α a0 ρ σ hM a1 rh33 qh33) lb_X12_isRecord lv_X12_isRecord lk_X12_344 hM.1 rfl (by decide) rfl hl.1 rfl (Nat.le_of_ble_eq_true rfl) dX12_part_16 ⟨Nat.le_refl _, Nat.le_refl _⟩) rfl (fun Hh33 Lh33 Bh33 => ?_)
    have J30 : ∀ (αh34 : hp_T) (Hh34 : Heap) (Lh34 : List Loc) (Bh34 : hp_B Γ mo s α αh34 Hh34 Lh34) (σh34 : ms_T) (Mh34 : hm_M αh34 a0 ρ σh34) (v1_h34 : Int32) (v2_h34 : Int32) (v3_h34 : Int32) (ls : Array Slot) (hl : lv_has ls 9 [(0, .ref a0), (1, .int v1_h34), (2, .int v2_h34), (3, .int v3_h34)]) (hf : f_X12_part_J30 n σh34 v1_h34 v2_h34 v3_h34 = some res), W p l e (hp_rm 43 0 0) s m ([.ref a0, .int a1, .int a2, .int a3] : List Value).toArray below meth c Hh34 Lh34 0 0 (MQ below (hp_Qi Γ (fun r β => r = res.1 ∧ mo α β ∧ hm_M β a0 ρ res.2)) ([.ref a0, .int a1, .int a2, .int a3] : List Value).toArray s 0 0 (hp_A Γ)) (F0 m 30 ls [.ref a0]) := by
      intro αh34 Hh34 Lh34 Bh34 σh34 Mh34 v1_h34 v2_h34 v3_h34 ls hl hf
      unfold f_X12_part_J30 at hf
      refine lv_iconst (v := 2) hx hb dX12_part_30 (by decide) (hp_n (n := 31) rfl ?_)
      refine lv_goto (tgt := 35) hx hb dX12_part_31 (by decide) ?_
      exact J35 αh34 Hh34 Lh34 Bh34 σh34 Mh34 v1_h34 v2_h34 v3_h34 (2 : Int32) ls (lv_sub hl [0, 1, 2, 3] rfl) hf
    refine lv_if_eq (tgt := 30) hx hb dX12_part_19 (by decide) (fun c35 => ?_) (fun c35 => hp_n (n := 22) rfl ?_)
    ·
      replace hf := ms_iT c35 hf
      exact J30 α Hh33 Lh33 Bh33 σ hM a1 a2 a3 ls (lv_sub hl [0, 1, 2, 3] rfl) hf
    ·
      replace hf := ms_iF c35 hf
      refine lv_aload_n hx hb dX12_part_22 rfl (lv_at hl 0 rfl) (hp_n (n := 23) rfl ?_)
      refine lv_iload_n hx hb dX12_part_23 rfl (lv_at hl 2 rfl) (hp_n (n := 24) rfl ?_)
      obtain ⟨rh36, qh36, hf⟩ := ms_bE hf
      refine m_cp (pc' := 27) Bh33 (hp_runV (As := [.int a2]) (rest := [.ref a0]) C Bh33 (m_X12_isRecord n Γ l α a0 ρ σ hM a2 rh36 qh36) lb_X12_isRecord lv_X12_isRecord lk_X12_344 hM.1 rfl (by decide) rfl hl.1 rfl (Nat.le_of_ble_eq_true rfl) dX12_part_24 ⟨Nat.le_refl _, Nat.le_refl _⟩) rfl (fun Hh36 Lh36 Bh36 => ?_)
      refine lv_if_ne (tgt := 34) hx hb dX12_part_27 (by decide) (fun c37 => ?_) (fun c37 => hp_n (n := 30) rfl ?_)
      ·
        replace hf := ms_iF c37 hf
        refine lv_iconst (v := 0) hx hb dX12_part_34 (by decide) (hp_n (n := 35) rfl ?_)
        exact J35 α Hh36 Lh36 Bh36 σ hM a1 a2 a3 (0 : Int32) ls (lv_sub hl [0, 1, 2, 3] rfl) hf
      ·
        replace hf := ms_iT c37 hf
        exact J30 α Hh36 Lh36 Bh36 σ hM a1 a2 a3 ls (lv_sub hl [0, 1, 2, 3] rfl) hf
  ·
    replace hf := ms_iT c32 hf
    refine lv_iconst (v := 1) hx hb dX12_part_10 (by decide) (hp_n (n := 11) rfl ?_)
    refine lv_goto (tgt := 35) hx hb dX12_part_11 (by decide) ?_
    exact J35 α Hh1 Lh1 Bh1 σ hM a1 a2 a3 (1 : Int32) ls (lv_sub hl [0, 1, 2, 3] rfl) hf
def f_X12_blame_J190 (n : Nat) (rec127 : ms_T → Int32 → Int32 → Int32 → Int32 → Int32 → Int32 → Option (Int32 × ms_T)) (σh15 : ms_T) (v1_h15 : Int32) (v2_h15 : Int32) (v3_h15 : Int32) (v4_h15 : Int32) (v5_h15 : Int32) (v6_h15 : Int32) : Option (Int32 × ms_T) :=
  ms_l (v6_h15 + 1) fun x16 =>
  rec127 σh15 v1_h15 v2_h15 v3_h15 v4_h15 v5_h15 x16
def f_X12_blame_L127 (n : Nat) : Nat → ms_T → Int32 → Int32 → Int32 → Int32 → Int32 → Int32 → Option (Int32 × ms_T)
  | 0, _, _, _, _, _, _, _ => none
  | k127 + 1, σh9, v1_h9, v2_h9, v3_h9, v4_h9, v5_h9, v6_h9 =>
    ms_g (3 : Int32) 1980 <|
    if (ms_E σh9 40 ((3 : Int32)).toNatClampNeg) ≤ v6_h9 then
      if v2_h9 = 0 then
        some (v3_h9, σh9)
      else
        if v2_h9 = (1 : Int32) then
          some (v5_h9, σh9)
        else
          some (v4_h9, σh9)
    else
      ms_b (f_X12_froze n σh9 v6_h9 (0 : Int32)) fun rh14 =>
      if rh14 = v1_h9 then
        ms_b (f_X12_isSound n σh9 v6_h9) fun rh18 =>
        if rh18 = 0 then
          f_X12_blame_J190 n (f_X12_blame_L127 n k127) σh9 v1_h9 v2_h9 v3_h9 v4_h9 v5_h9 v6_h9
        else
          ms_b (f_X12_froze n σh9 v6_h9 (1 : Int32)) fun rh20 =>
          if v3_h9 ≤ rh20 then
            f_X12_blame_J190 n (f_X12_blame_L127 n k127) σh9 v1_h9 v2_h9 v3_h9 v4_h9 v5_h9 v6_h9
          else
            ms_b (f_X12_froze n σh9 v6_h9 (1 : Int32)) fun rh22 =>
            if rh22 ≤ v5_h9 then
              f_X12_blame_J190 n (f_X12_blame_L127 n k127) σh9 v1_h9 v2_h9 v3_h9 v4_h9 v5_h9 v6_h9
            else
              ms_b (f_X12_froze n σh9 v6_h9 (1 : Int32)) fun rh24 =>
              f_X12_blame_J190 n (f_X12_blame_L127 n k127) σh9 v1_h9 v2_h9 v3_h9 v4_h9 rh24 v6_h9
      else
        f_X12_blame_J190 n (f_X12_blame_L127 n k127) σh9 v1_h9 v2_h9 v3_h9 v4_h9 v5_h9 v6_h9
def f_X12_blame_J122 (n : Nat) (σh8 : ms_T) (v1_h8 : Int32) (v2_h8 : Int32) (v3_h8 : Int32) (v4_h8 : Int32) (w0_h8 : Int32) : Option (Int32 × ms_T) :=
  f_X12_blame_L127 n n σh8 v1_h8 v2_h8 v3_h8 v4_h8 w0_h8 (0 : Int32)
def f_X12_blame_J107 (n : Nat) (rec43 : ms_T → Int32 → Int32 → Int32 → Int32 → Int32 → Option (Int32 × ms_T)) (σh27 : ms_T) (v1_h27 : Int32) (v2_h27 : Int32) (v3_h27 : Int32) (v4_h27 : Int32) (v5_h27 : Int32) : Option (Int32 × ms_T) :=
  ms_l (v5_h27 + 1) fun x28 =>
  rec43 σh27 v1_h27 v2_h27 v3_h27 v4_h27 x28
def f_X12_blame_J106 (n : Nat) (rec43 : ms_T → Int32 → Int32 → Int32 → Int32 → Int32 → Option (Int32 × ms_T)) (σh33 : ms_T) (v1_h33 : Int32) (v2_h33 : Int32) (v4_h33 : Int32) (v5_h33 : Int32) (w0_h33 : Int32) : Option (Int32 × ms_T) :=
  f_X12_blame_J107 n rec43 σh33 v1_h33 v2_h33 w0_h33 v4_h33 v5_h33
def f_X12_blame_J95 (n : Nat) (rec43 : ms_T → Int32 → Int32 → Int32 → Int32 → Int32 → Option (Int32 × ms_T)) (σh34 : ms_T) (v1_h34 : Int32) (v2_h34 : Int32) (v4_h34 : Int32) (v5_h34 : Int32) : Option (Int32 × ms_T) :=
  ms_b (f_X12_froze n σh34 v5_h34 (1 : Int32)) fun rh35 =>
  f_X12_blame_J106 n rec43 σh34 v1_h34 v2_h34 v4_h34 v5_h34 rh35
def f_X12_blame_L43 (n : Nat) : Nat → ms_T → Int32 → Int32 → Int32 → Int32 → Int32 → Option (Int32 × ms_T)
  | 0, _, _, _, _, _, _ => none
  | k43 + 1, σh5, v1_h5, v2_h5, v3_h5, v4_h5, v5_h5 =>
    ms_g (3 : Int32) 1980 <|
    if (ms_E σh5 40 ((3 : Int32)).toNatClampNeg) ≤ v5_h5 then
      if 0 ≤ v3_h5 then
        f_X12_blame_J122 n σh5 v1_h5 v2_h5 v3_h5 v4_h5 (0 : Int32)
      else
        f_X12_blame_J122 n σh5 v1_h5 v2_h5 v3_h5 v4_h5 (-1 : Int32)
    else
      ms_b (f_X12_froze n σh5 v5_h5 (0 : Int32)) fun rh26 =>
      if rh26 = v1_h5 then
        ms_b (f_X12_isSound n σh5 v5_h5) fun rh30 =>
        if rh30 = 0 then
          ms_l (v4_h5 + 1) fun x32 =>
          if v3_h5 < 0 then
            f_X12_blame_J95 n (f_X12_blame_L43 n k43) σh5 v1_h5 v2_h5 x32 v5_h5
          else
            ms_b (f_X12_froze n σh5 v5_h5 (1 : Int32)) fun rh37 =>
            if v3_h5 ≤ rh37 then
              f_X12_blame_J106 n (f_X12_blame_L43 n k43) σh5 v1_h5 v2_h5 x32 v5_h5 v3_h5
            else
              f_X12_blame_J95 n (f_X12_blame_L43 n k43) σh5 v1_h5 v2_h5 x32 v5_h5
        else
          f_X12_blame_J107 n (f_X12_blame_L43 n k43) σh5 v1_h5 v2_h5 v3_h5 v4_h5 v5_h5
      else
        f_X12_blame_J107 n (f_X12_blame_L43 n k43) σh5 v1_h5 v2_h5 v3_h5 v4_h5 v5_h5
def f_X12_blame_J27 (n : Nat) (σh2 : ms_T) (v1_h2 : Int32) (v2_h2 : Int32) (w0_h2 : Int32) : Option (Int32 × ms_T) :=
  ms_c (f_X12_is n σh2 w0_h2) fun rh3 σh3 =>
  if rh3 = 0 then
    some ((-1 : Int32), σh3)
  else
    f_X12_blame_L43 n n σh3 v1_h2 v2_h2 (-1 : Int32) (0 : Int32) (0 : Int32)
def f_X12_blame (n : Nat) (σ : ms_T) (a1 : Int32) (a2 : Int32) : Option (Int32 × ms_T) :=
  ms_b (f_X12_isIn n a2 (0 : Int32) (2 : Int32)) fun rh1 =>
  if rh1 = 0 then
    f_X12_blame_J27 n σ a1 a2 (1 : Int32)
  else
    ms_b (f_X12_isRecord n σ a1) fun rh40 =>
    if rh40 = 0 then
      f_X12_blame_J27 n σ a1 a2 (2 : Int32)
    else
      f_X12_blame_J27 n σ a1 a2 (0 : Int32)
set_option maxRecDepth 100000 in
set_option maxHeartbeats 4000000 in
theorem m_X12_blame (n : Nat) (Γ : hp_G) (l : Launch) (α : hp_T) (a0 : Nat) (ρ : Nat → Nat) (σ : ms_T) (hM : hm_M α a0 ρ σ) (a1 : Int32) (a2 : Int32) (res : (Int32 × ms_T)) (hf : f_X12_blame n σ a1 a2 = some res) : Met l yX12_blame (hp_ws yX12_blame cX12_blame 7 (some .int)) (hp_rm 44 0 0) (hp_Pc Γ α [.ref a0, .int a1, .int a2]) (hp_Qi Γ (fun r β => r = res.1 ∧ mo α β ∧ hm_M β a0 ρ res.2)) 0 0 (hp_A Γ) := by
  unfold f_X12_blame at hf
  refine hp_start (by decide) ?_
  intro p e s m below meth c C hr hlk B0 hnm
  have C : hp_C Γ p m c cX12_blame 7 s ([.ref a0, .int a1, .int a2] : List Value).toArray RX12 := C
  have hx := C.1.1
  have hb := C.1.2.1
  have hown := C.1.2.2.2.1
  have hts := C.1.2.2.2.2
  have B : hp_B Γ mo s α α s.heap [] := ⟨B0.1, B0.2.1, mo_rf⟩
  have hl := lv_entry ([.ref a0, .int a1, .int a2]) (n := 7) (Nat.le_of_ble_eq_true rfl)
  show W p l e (hp_rm 44 0 0) s m ([.ref a0, .int a1, .int a2] : List Value).toArray below meth c s.heap [] 0 0 (MQ below (hp_Qi Γ (fun r β => r = res.1 ∧ mo α β ∧ hm_M β a0 ρ res.2)) ([.ref a0, .int a1, .int a2] : List Value).toArray s 0 0 (hp_A Γ)) (entryFrame m ([.ref a0, .int a1, .int a2] : List Value).toArray 7)
  rw [lg_entry_eq]
  generalize (lg_sl ([.ref a0, .int a1, .int a2]) ++ List.replicate (7 - (lg_sl ([.ref a0, .int a1, .int a2])).length) Slot.unset).toArray = ls at hl ⊢
  have hl : lv_has ls 7 [(0, .ref a0), (1, .int a1), (2, .int a2)] := hl
  refine lv_aload_n hx hb dX12_blame_0 rfl (lv_at hl 0 rfl) (hp_n (n := 1) rfl ?_)
  refine lv_iload_n hx hb dX12_blame_1 rfl (lv_at hl 2 rfl) (hp_n (n := 2) rfl ?_)
  refine lv_iconst (v := 0) hx hb dX12_blame_2 (by decide) (hp_n (n := 3) rfl ?_)
  refine lv_iconst (v := 2) hx hb dX12_blame_3 (by decide) (hp_n (n := 4) rfl ?_)
  obtain ⟨rh1, qh1, hf⟩ := ms_bE hf
  refine m_cp (pc' := 7) B (hp_runS (As := [.int a2, .int (0 : Int32), .int (2 : Int32)]) (rest := [.ref a0]) C B (m_X12_isIn n Γ l α a2 (0 : Int32) (2 : Int32) rh1 qh1) lb_X12_isIn ls_X12_isIn lk_X12_113 rfl (by decide) rfl hl.1 rfl (Nat.le_of_ble_eq_true rfl) dX12_blame_4 ⟨Nat.le_refl _, Nat.le_refl _⟩) rfl (fun Hh1 Lh1 Bh1 => ?_)
  have J27 : ∀ (αh2 : hp_T) (Hh2 : Heap) (Lh2 : List Loc) (Bh2 : hp_B Γ mo s α αh2 Hh2 Lh2) (σh2 : ms_T) (Mh2 : hm_M αh2 a0 ρ σh2) (v1_h2 : Int32) (v2_h2 : Int32) (w0_h2 : Int32) (ls : Array Slot) (hl : lv_has ls 7 [(0, .ref a0), (1, .int v1_h2), (2, .int v2_h2)]) (hf : f_X12_blame_J27 n σh2 v1_h2 v2_h2 w0_h2 = some res), W p l e (hp_rm 44 0 0) s m ([.ref a0, .int a1, .int a2] : List Value).toArray below meth c Hh2 Lh2 0 0 (MQ below (hp_Qi Γ (fun r β => r = res.1 ∧ mo α β ∧ hm_M β a0 ρ res.2)) ([.ref a0, .int a1, .int a2] : List Value).toArray s 0 0 (hp_A Γ)) (F0 m 27 ls [.int w0_h2, .ref a0]) := by
    intro αh2 Hh2 Lh2 Bh2 σh2 Mh2 v1_h2 v2_h2 w0_h2 ls hl hf
    unfold f_X12_blame_J27 at hf
    obtain ⟨rh3, σh3, qh3, hf⟩ := ms_cE hf
    refine m_ci (pc' := 30) (a := a0) (ρ := ρ) Bh2 (hp_runV (As := [.int w0_h2]) (rest := []) C Bh2 (m_X12_is n Γ l αh2 a0 ρ σh2 Mh2 w0_h2 (rh3, σh3) qh3) lb_X12_is lv_X12_is lk_X12_309 Mh2.1 rfl (by decide) rfl hl.1 rfl (Nat.le_of_ble_eq_true rfl) dX12_blame_27 ⟨Nat.le_refl _, Nat.le_refl _⟩) rfl (fun αh3 Hh3 Lh3 Bh3 Mh3 => ?_)
    refine lv_if_ne (tgt := 35) hx hb dX12_blame_30 (by decide) (fun c4 => ?_) (fun c4 => hp_n (n := 33) rfl ?_)
    ·
      replace hf := ms_iF c4 hf
      refine lv_iconst (v := (-1)) hx hb dX12_blame_35 (by decide) (hp_n (n := 36) rfl ?_)
      refine lv_istore_n (lv' := [(3, .int (-1 : Int32)), (0, .ref a0), (1, .int v1_h2), (2, .int v2_h2)]) hx hb dX12_blame_36 rfl hl (by decide) rfl (fun ls hl => hp_n (n := 37) rfl ?_)
      refine lv_iconst (v := 0) hx hb dX12_blame_37 (by decide) (hp_n (n := 38) rfl ?_)
      refine lv_istore (lv' := [(4, .int (0 : Int32)), (3, .int (-1 : Int32)), (0, .ref a0), (1, .int v1_h2), (2, .int v2_h2)]) hx hb dX12_blame_38 hl (by decide) rfl (fun ls hl => hp_n (n := 40) rfl ?_)
      refine lv_iconst (v := 0) hx hb dX12_blame_40 (by decide) (hp_n (n := 41) rfl ?_)
      have J43 : ∀ (k43 : Nat) (αh5 : hp_T) (Hh5 : Heap) (Lh5 : List Loc) (Bh5 : hp_B Γ mo s α αh5 Hh5 Lh5) (σh5 : ms_T) (Mh5 : hm_M αh5 a0 ρ σh5) (v1_h5 : Int32) (v2_h5 : Int32) (v3_h5 : Int32) (v4_h5 : Int32) (v5_h5 : Int32) (ls : Array Slot) (hl : lv_has ls 7 [(0, .ref a0), (1, .int v1_h5), (2, .int v2_h5), (3, .int v3_h5), (4, .int v4_h5), (5, .int v5_h5)]) (hf : f_X12_blame_L43 n k43 σh5 v1_h5 v2_h5 v3_h5 v4_h5 v5_h5 = some res), W p l e (hp_rm 44 0 0) s m ([.ref a0, .int a1, .int a2] : List Value).toArray below meth c Hh5 Lh5 0 0 (MQ below (hp_Qi Γ (fun r β => r = res.1 ∧ mo α β ∧ hm_M β a0 ρ res.2)) ([.ref a0, .int a1, .int a2] : List Value).toArray s 0 0 (hp_A Γ)) (F0 m 43 ls []) := by
        intro k43
        induction k43 with
        | zero => intro αh5 Hh5 Lh5 Bh5 σh5 Mh5 v1_h5 v2_h5 v3_h5 v4_h5 v5_h5 ls hl hf; rw [f_X12_blame_L43.eq_1] at hf; cases hf
        | succ k43 ih43 =>
          intro αh5 Hh5 Lh5 Bh5 σh5 Mh5 v1_h5 v2_h5 v3_h5 v4_h5 v5_h5 ls hl hf
          rw [f_X12_blame_L43.eq_2] at hf
          refine lv_iload hx hb dX12_blame_43 (lv_at hl 5 rfl) (hp_n (n := 45) rfl ?_)
          refine lv_aload_n hx hb dX12_blame_45 rfl (lv_at hl 0 rfl) (hp_n (n := 46) rfl ?_)
          refine m_getr (κ := 40) (k := 0) (pc' := 49) C Bh5 Mh5 fl_X12_7 rfl (by decide) dX12_blame_46 rfl ?_
          refine lv_iconst (v := 3) hx hb dX12_blame_49 (by decide) (hp_n (n := 50) rfl ?_)
          obtain ⟨g6, hf⟩ := ms_gE hf
          refine m_ial (κ := 40) (φ := 650) (n := 1980) (pc' := 51) C Bh5 Mh5 (by decide) (by decide) rfl g6 dX12_blame_50 rfl ?_
          refine lv_icmp_ge (tgt := 113) hx hb dX12_blame_51 (by decide) (fun c7 => ?_) (fun c7 => hp_n (n := 54) rfl ?_)
          ·
            replace hf := ms_iT c7 hf
            refine lv_iload_n hx hb dX12_blame_113 rfl (lv_at hl 3 rfl) (hp_n (n := 114) rfl ?_)
            have J122 : ∀ (αh8 : hp_T) (Hh8 : Heap) (Lh8 : List Loc) (Bh8 : hp_B Γ mo s α αh8 Hh8 Lh8) (σh8 : ms_T) (Mh8 : hm_M αh8 a0 ρ σh8) (v1_h8 : Int32) (v2_h8 : Int32) (v3_h8 : Int32) (v4_h8 : Int32) (w0_h8 : Int32) (ls : Array Slot) (hl : lv_has ls 7 [(0, .ref a0), (1, .int v1_h8), (2, .int v2_h8), (3, .int v3_h8), (4, .int v4_h8)]) (hf : f_X12_blame_J122 n σh8 v1_h8 v2_h8 v3_h8 v4_h8 w0_h8 = some res), W p l e (hp_rm 44 0 0) s m ([.ref a0, .int a1, .int a2] : List Value).toArray below meth c Hh8 Lh8 0 0 (MQ below (hp_Qi Γ (fun r β => r = res.1 ∧ mo α β ∧ hm_M β a0 ρ res.2)) ([.ref a0, .int a1, .int a2] : List Value).toArray s 0 0 (hp_A Γ)) (F0 m 122 ls [.int w0_h8]) := by
              intro αh8 Hh8 Lh8 Bh8 σh8 Mh8 v1_h8 v2_h8 v3_h8 v4_h8 w0_h8 ls hl hf
              unfold f_X12_blame_J122 at hf
              refine lv_istore (lv' := [(5, .int w0_h8), (0, .ref a0), (1, .int v1_h8), (2, .int v2_h8), (3, .int v3_h8), (4, .int v4_h8)]) hx hb dX12_blame_122 hl (by decide) rfl (fun ls hl => hp_n (n := 124) rfl ?_)
              refine lv_iconst (v := 0) hx hb dX12_blame_124 (by decide) (hp_n (n := 125) rfl ?_)
              have J127 : ∀ (k127 : Nat) (αh9 : hp_T) (Hh9 : Heap) (Lh9 : List Loc) (Bh9 : hp_B Γ mo s α αh9 Hh9 Lh9) (σh9 : ms_T) (Mh9 : hm_M αh9 a0 ρ σh9) (v1_h9 : Int32) (v2_h9 : Int32) (v3_h9 : Int32) (v4_h9 : Int32) (v5_h9 : Int32) (v6_h9 : Int32) (ls : Array Slot) (hl : lv_has ls 7 [(0, .ref a0), (1, .int v1_h9), (2, .int v2_h9), (3, .int v3_h9), (4, .int v4_h9), (5, .int v5_h9), (6, .int v6_h9)]) (hf : f_X12_blame_L127 n k127 σh9 v1_h9 v2_h9 v3_h9 v4_h9 v5_h9 v6_h9 = some res), W p l e (hp_rm 44 0 0) s m ([.ref a0, .int a1, .int a2] : List Value).toArray below meth c Hh9 Lh9 0 0 (MQ below (hp_Qi Γ (fun r β => r = res.1 ∧ mo α β ∧ hm_M β a0 ρ res.2)) ([.ref a0, .int a1, .int a2] : List Value).toArray s 0 0 (hp_A Γ)) (F0 m 127 ls []) := by
                intro k127
                induction k127 with
                | zero => intro αh9 Hh9 Lh9 Bh9 σh9 Mh9 v1_h9 v2_h9 v3_h9 v4_h9 v5_h9 v6_h9 ls hl hf; rw [f_X12_blame_L127.eq_1] at hf; cases hf
                | succ k127 ih127 =>
                  intro αh9 Hh9 Lh9 Bh9 σh9 Mh9 v1_h9 v2_h9 v3_h9 v4_h9 v5_h9 v6_h9 ls hl hf
                  rw [f_X12_blame_L127.eq_2] at hf
                  refine lv_iload hx hb dX12_blame_127 (lv_at hl 6 rfl) (hp_n (n := 129) rfl ?_)
                  refine lv_aload_n hx hb dX12_blame_129 rfl (lv_at hl 0 rfl) (hp_n (n := 130) rfl ?_)
                  refine m_getr (κ := 40) (k := 0) (pc' := 133) C Bh9 Mh9 fl_X12_7 rfl (by decide) dX12_blame_130 rfl ?_
                  refine lv_iconst (v := 3) hx hb dX12_blame_133 (by decide) (hp_n (n := 134) rfl ?_)
                  obtain ⟨g10, hf⟩ := ms_gE hf
                  refine m_ial (κ := 40) (φ := 650) (n := 1980) (pc' := 135) C Bh9 Mh9 (by decide) (by decide) rfl g10 dX12_blame_134 rfl ?_
                  refine lv_icmp_ge (tgt := 196) hx hb dX12_blame_135 (by decide) (fun c11 => ?_) (fun c11 => hp_n (n := 138) rfl ?_)
                  ·
                    replace hf := ms_iT c11 hf
                    refine lv_iload_n hx hb dX12_blame_196 rfl (lv_at hl 2 rfl) (hp_n (n := 197) rfl ?_)
                    refine lv_if_ne (tgt := 204) hx hb dX12_blame_197 (by decide) (fun c12 => ?_) (fun c12 => hp_n (n := 200) rfl ?_)
                    ·
                      replace hf := ms_iF c12 hf
                      refine lv_iload_n hx hb dX12_blame_204 rfl (lv_at hl 2 rfl) (hp_n (n := 205) rfl ?_)
                      refine lv_iconst (v := 1) hx hb dX12_blame_205 (by decide) (hp_n (n := 206) rfl ?_)
                      refine lv_icmp_ne (tgt := 214) hx hb dX12_blame_206 (by decide) (fun c13 => ?_) (fun c13 => hp_n (n := 209) rfl ?_)
                      ·
                        replace hf := ms_iF c13 hf
                        refine lv_iload hx hb dX12_blame_214 (lv_at hl 4 rfl) (hp_n (n := 216) rfl ?_)
                        cases hf
                        exact q_iret C Bh9 hr hlk ⟨rfl, Bh9.2.2, Mh9⟩ dX12_blame_216
                      ·
                        replace hf := ms_iT c13 hf
                        refine lv_iload hx hb dX12_blame_209 (lv_at hl 5 rfl) (hp_n (n := 211) rfl ?_)
                        refine lv_goto (tgt := 216) hx hb dX12_blame_211 (by decide) ?_
                        cases hf
                        exact q_iret C Bh9 hr hlk ⟨rfl, Bh9.2.2, Mh9⟩ dX12_blame_216
                    ·
                      replace hf := ms_iT c12 hf
                      refine lv_iload_n hx hb dX12_blame_200 rfl (lv_at hl 3 rfl) (hp_n (n := 201) rfl ?_)
                      refine lv_goto (tgt := 216) hx hb dX12_blame_201 (by decide) ?_
                      cases hf
                      exact q_iret C Bh9 hr hlk ⟨rfl, Bh9.2.2, Mh9⟩ dX12_blame_216
                  ·
                    replace hf := ms_iF c11 hf
                    refine lv_aload_n hx hb dX12_blame_138 rfl (lv_at hl 0 rfl) (hp_n (n := 139) rfl ?_)
                    refine lv_iload hx hb dX12_blame_139 (lv_at hl 6 rfl) (hp_n (n := 141) rfl ?_)
                    refine lv_iconst (v := 0) hx hb dX12_blame_141 (by decide) (hp_n (n := 142) rfl ?_)
                    obtain ⟨rh14, qh14, hf⟩ := ms_bE hf
                    refine m_cp (pc' := 145) Bh9 (hp_runV (As := [.int v6_h9, .int (0 : Int32)]) (rest := []) C Bh9 (m_X12_froze n Γ l αh9 a0 ρ σh9 Mh9 v6_h9 (0 : Int32) rh14 qh14) lb_X12_froze lv_X12_froze lk_X12_350 Mh9.1 rfl (by decide) rfl hl.1 rfl (Nat.le_of_ble_eq_true rfl) dX12_blame_142 ⟨Nat.le_refl _, Nat.le_refl _⟩) rfl (fun Hh14 Lh14 Bh14 => ?_)
                    refine lv_iload_n hx hb dX12_blame_145 rfl (lv_at hl 1 rfl) (hp_n (n := 146) rfl ?_)
                    have J190 : ∀ (αh15 : hp_T) (Hh15 : Heap) (Lh15 : List Loc) (Bh15 : hp_B Γ mo s α αh15 Hh15 Lh15) (σh15 : ms_T) (Mh15 : hm_M αh15 a0 ρ σh15) (v1_h15 : Int32) (v2_h15 : Int32) (v3_h15 : Int32) (v4_h15 : Int32) (v5_h15 : Int32) (v6_h15 : Int32) (ls : Array Slot) (hl : lv_has ls 7 [(0, .ref a0), (1, .int v1_h15), (2, .int v2_h15), (3, .int v3_h15), (4, .int v4_h15), (5, .int v5_h15), (6, .int v6_h15)]) (hf : f_X12_blame_J190 n (f_X12_blame_L127 n k127) σh15 v1_h15 v2_h15 v3_h15 v4_h15 v5_h15 v6_h15 = some res), W p l e (hp_rm 44 0 0) s m ([.ref a0, .int a1, .int a2] : List Value).toArray below meth c Hh15 Lh15 0 0 (MQ below (hp_Qi Γ (fun r β => r = res.1 ∧ mo α β ∧ hm_M β a0 ρ res.2)) ([.ref a0, .int a1, .int a2] : List Value).toArray s 0 0 (hp_A Γ)) (F0 m 190 ls []) := by
                      intro αh15 Hh15 Lh15 Bh15 σh15 Mh15 v1_h15 v2_h15 v3_h15 v4_h15 v5_h15 v6_h15 ls hl hf
                      unfold f_X12_blame_J190 at hf
                      obtain ⟨x16, ex16⟩ : ∃ y : Int32, y = v6_h15 + 1 := ⟨_, rfl⟩
                      replace hf := ms_lE ex16 hf
                      refine lv_iinc (v := x16) (lv' := [(6, .int x16), (0, .ref a0), (1, .int v1_h15), (2, .int v2_h15), (3, .int v3_h15), (4, .int v4_h15), (5, .int v5_h15)]) hx hb dX12_blame_190 hl (k := 6) rfl (by rw [ex16]; rfl) (by decide) rfl (fun ls hl => hp_n (n := 193) rfl ?_)
                      refine lv_goto (tgt := 127) hx hb dX12_blame_193 (by decide) ?_
                      exact ih127 αh15 Hh15 Lh15 Bh15 σh15 Mh15 v1_h15 v2_h15 v3_h15 v4_h15 v5_h15 x16 ls (lv_sub hl [1, 2, 3, 4, 5, 6, 0] rfl) hf
                    refine lv_icmp_ne (tgt := 190) hx hb dX12_blame_146 (by decide) (fun c17 => ?_) (fun c17 => hp_n (n := 149) rfl ?_)
                    ·
                      replace hf := ms_iF c17 hf
                      exact J190 αh9 Hh14 Lh14 Bh14 σh9 Mh9 v1_h9 v2_h9 v3_h9 v4_h9 v5_h9 v6_h9 ls (lv_sub hl [0, 1, 2, 3, 4, 5, 6] rfl) hf
                    ·
                      replace hf := ms_iT c17 hf
                      refine lv_aload_n hx hb dX12_blame_149 rfl (lv_at hl 0 rfl) (hp_n (n := 150) rfl ?_)
                      refine lv_iload hx hb dX12_blame_150 (lv_at hl 6 rfl) (hp_n (n := 152) rfl ?_)
                      obtain ⟨rh18, qh18, hf⟩ := ms_bE hf
                      refine m_cp (pc' := 155) Bh14 (hp_runV (As := [.int v6_h9]) (rest := []) C Bh14 (m_X12_isSound n Γ l αh9 a0 ρ σh9 Mh9 v6_h9 rh18 qh18) lb_X12_isSound lv_X12_isSound lk_X12_353 Mh9.1 rfl (by decide) rfl hl.1 rfl (Nat.le_of_ble_eq_true rfl) dX12_blame_152 ⟨Nat.le_refl _, Nat.le_refl _⟩) rfl (fun Hh18 Lh18 Bh18 => ?_)
                      refine lv_if_eq (tgt := 190) hx hb dX12_blame_155 (by decide) (fun c19 => ?_) (fun c19 => hp_n (n := 158) rfl ?_)
                      ·
                        replace hf := ms_iT c19 hf
                        exact J190 αh9 Hh18 Lh18 Bh18 σh9 Mh9 v1_h9 v2_h9 v3_h9 v4_h9 v5_h9 v6_h9 ls (lv_sub hl [0, 1, 2, 3, 4, 5, 6] rfl) hf
                      ·
                        replace hf := ms_iF c19 hf
                        refine lv_aload_n hx hb dX12_blame_158 rfl (lv_at hl 0 rfl) (hp_n (n := 159) rfl ?_)
                        refine lv_iload hx hb dX12_blame_159 (lv_at hl 6 rfl) (hp_n (n := 161) rfl ?_)
                        refine lv_iconst (v := 1) hx hb dX12_blame_161 (by decide) (hp_n (n := 162) rfl ?_)
                        obtain ⟨rh20, qh20, hf⟩ := ms_bE hf
                        refine m_cp (pc' := 165) Bh18 (hp_runV (As := [.int v6_h9, .int (1 : Int32)]) (rest := []) C Bh18 (m_X12_froze n Γ l αh9 a0 ρ σh9 Mh9 v6_h9 (1 : Int32) rh20 qh20) lb_X12_froze lv_X12_froze lk_X12_350 Mh9.1 rfl (by decide) rfl hl.1 rfl (Nat.le_of_ble_eq_true rfl) dX12_blame_162 ⟨Nat.le_refl _, Nat.le_refl _⟩) rfl (fun Hh20 Lh20 Bh20 => ?_)
                        refine lv_iload_n hx hb dX12_blame_165 rfl (lv_at hl 3 rfl) (hp_n (n := 166) rfl ?_)
                        refine lv_icmp_ge (tgt := 190) hx hb dX12_blame_166 (by decide) (fun c21 => ?_) (fun c21 => hp_n (n := 169) rfl ?_)
                        ·
                          replace hf := ms_iT c21 hf
                          exact J190 αh9 Hh20 Lh20 Bh20 σh9 Mh9 v1_h9 v2_h9 v3_h9 v4_h9 v5_h9 v6_h9 ls (lv_sub hl [0, 1, 2, 3, 4, 5, 6] rfl) hf
                        ·
                          replace hf := ms_iF c21 hf
                          refine lv_aload_n hx hb dX12_blame_169 rfl (lv_at hl 0 rfl) (hp_n (n := 170) rfl ?_)
                          refine lv_iload hx hb dX12_blame_170 (lv_at hl 6 rfl) (hp_n (n := 172) rfl ?_)
                          refine lv_iconst (v := 1) hx hb dX12_blame_172 (by decide) (hp_n (n := 173) rfl ?_)
                          obtain ⟨rh22, qh22, hf⟩ := ms_bE hf
                          refine m_cp (pc' := 176) Bh20 (hp_runV (As := [.int v6_h9, .int (1 : Int32)]) (rest := []) C Bh20 (m_X12_froze n Γ l αh9 a0 ρ σh9 Mh9 v6_h9 (1 : Int32) rh22 qh22) lb_X12_froze lv_X12_froze lk_X12_350 Mh9.1 rfl (by decide) rfl hl.1 rfl (Nat.le_of_ble_eq_true rfl) dX12_blame_173 ⟨Nat.le_refl _, Nat.le_refl _⟩) rfl (fun Hh22 Lh22 Bh22 => ?_)
                          refine lv_iload hx hb dX12_blame_176 (lv_at hl 5 rfl) (hp_n (n := 178) rfl ?_)
                          refine lv_icmp_le (tgt := 190) hx hb dX12_blame_178 (by decide) (fun c23 => ?_) (fun c23 => hp_n (n := 181) rfl ?_)
                          ·
                            replace hf := ms_iT c23 hf
                            exact J190 αh9 Hh22 Lh22 Bh22 σh9 Mh9 v1_h9 v2_h9 v3_h9 v4_h9 v5_h9 v6_h9 ls (lv_sub hl [0, 1, 2, 3, 4, 5, 6] rfl) hf
                          ·
                            replace hf := ms_iF c23 hf
                            refine lv_aload_n hx hb dX12_blame_181 rfl (lv_at hl 0 rfl) (hp_n (n := 182) rfl ?_)
                            refine lv_iload hx hb dX12_blame_182 (lv_at hl 6 rfl) (hp_n (n := 184) rfl ?_)
                            refine lv_iconst (v := 1) hx hb dX12_blame_184 (by decide) (hp_n (n := 185) rfl ?_)
                            obtain ⟨rh24, qh24, hf⟩ := ms_bE hf
                            refine m_cp (pc' := 188) Bh22 (hp_runV (As := [.int v6_h9, .int (1 : Int32)]) (rest := []) C Bh22 (m_X12_froze n Γ l αh9 a0 ρ σh9 Mh9 v6_h9 (1 : Int32) rh24 qh24) lb_X12_froze lv_X12_froze lk_X12_350 Mh9.1 rfl (by decide) rfl hl.1 rfl (Nat.le_of_ble_eq_true rfl) dX12_blame_185 ⟨Nat.le_refl _, Nat.le_refl _⟩) rfl (fun Hh24 Lh24 Bh24 => ?_)
                            refine lv_istore (lv' := [(5, .int rh24), (0, .ref a0), (1, .int v1_h9), (2, .int v2_h9), (3, .int v3_h9), (4, .int v4_h9), (6, .int v6_h9)]) hx hb dX12_blame_188 hl (by decide) rfl (fun ls hl => hp_n (n := 190) rfl ?_)
                            exact J190 αh9 Hh24 Lh24 Bh24 σh9 Mh9 v1_h9 v2_h9 v3_h9 v4_h9 rh24 v6_h9 ls (lv_sub hl [1, 2, 3, 4, 5, 0, 6] rfl) hf
              refine lv_istore (lv' := [(6, .int (0 : Int32)), (5, .int w0_h8), (0, .ref a0), (1, .int v1_h8), (2, .int v2_h8), (3, .int v3_h8), (4, .int v4_h8)]) hx hb dX12_blame_125 hl (by decide) rfl (fun ls hl => hp_n (n := 127) rfl ?_)
              exact J127 n αh8 Hh8 Lh8 Bh8 σh8 Mh8 v1_h8 v2_h8 v3_h8 v4_h8 w0_h8 (0 : Int32) ls (lv_sub hl [2, 3, 4, 5, 6, 1, 0] rfl) hf
            refine lv_if_ge (tgt := 121) hx hb dX12_blame_114 (by decide) (fun c25 => ?_) (fun c25 => hp_n (n := 117) rfl ?_)
            ·
              replace hf := ms_iT c25 hf
              refine lv_iconst (v := 0) hx hb dX12_blame_121 (by decide) (hp_n (n := 122) rfl ?_)
              exact J122 αh5 Hh5 Lh5 Bh5 σh5 Mh5 v1_h5 v2_h5 v3_h5 v4_h5 (0 : Int32) ls (lv_sub hl [0, 1, 2, 3, 4] rfl) hf
            ·
              replace hf := ms_iF c25 hf
              refine lv_iconst (v := (-1)) hx hb dX12_blame_117 (by decide) (hp_n (n := 118) rfl ?_)
              refine lv_goto (tgt := 122) hx hb dX12_blame_118 (by decide) ?_
              exact J122 αh5 Hh5 Lh5 Bh5 σh5 Mh5 v1_h5 v2_h5 v3_h5 v4_h5 (-1 : Int32) ls (lv_sub hl [0, 1, 2, 3, 4] rfl) hf
          ·
            replace hf := ms_iF c7 hf
            refine lv_aload_n hx hb dX12_blame_54 rfl (lv_at hl 0 rfl) (hp_n (n := 55) rfl ?_)
            refine lv_iload hx hb dX12_blame_55 (lv_at hl 5 rfl) (hp_n (n := 57) rfl ?_)
            refine lv_iconst (v := 0) hx hb dX12_blame_57 (by decide) (hp_n (n := 58) rfl ?_)
            obtain ⟨rh26, qh26, hf⟩ := ms_bE hf
            refine m_cp (pc' := 61) Bh5 (hp_runV (As := [.int v5_h5, .int (0 : Int32)]) (rest := []) C Bh5 (m_X12_froze n Γ l αh5 a0 ρ σh5 Mh5 v5_h5 (0 : Int32) rh26 qh26) lb_X12_froze lv_X12_froze lk_X12_350 Mh5.1 rfl (by decide) rfl hl.1 rfl (Nat.le_of_ble_eq_true rfl) dX12_blame_58 ⟨Nat.le_refl _, Nat.le_refl _⟩) rfl (fun Hh26 Lh26 Bh26 => ?_)
            refine lv_iload_n hx hb dX12_blame_61 rfl (lv_at hl 1 rfl) (hp_n (n := 62) rfl ?_)
            have J107 : ∀ (αh27 : hp_T) (Hh27 : Heap) (Lh27 : List Loc) (Bh27 : hp_B Γ mo s α αh27 Hh27 Lh27) (σh27 : ms_T) (Mh27 : hm_M αh27 a0 ρ σh27) (v1_h27 : Int32) (v2_h27 : Int32) (v3_h27 : Int32) (v4_h27 : Int32) (v5_h27 : Int32) (ls : Array Slot) (hl : lv_has ls 7 [(0, .ref a0), (1, .int v1_h27), (2, .int v2_h27), (3, .int v3_h27), (4, .int v4_h27), (5, .int v5_h27)]) (hf : f_X12_blame_J107 n (f_X12_blame_L43 n k43) σh27 v1_h27 v2_h27 v3_h27 v4_h27 v5_h27 = some res), W p l e (hp_rm 44 0 0) s m ([.ref a0, .int a1, .int a2] : List Value).toArray below meth c Hh27 Lh27 0 0 (MQ below (hp_Qi Γ (fun r β => r = res.1 ∧ mo α β ∧ hm_M β a0 ρ res.2)) ([.ref a0, .int a1, .int a2] : List Value).toArray s 0 0 (hp_A Γ)) (F0 m 107 ls []) := by
              intro αh27 Hh27 Lh27 Bh27 σh27 Mh27 v1_h27 v2_h27 v3_h27 v4_h27 v5_h27 ls hl hf
              unfold f_X12_blame_J107 at hf
              obtain ⟨x28, ex28⟩ : ∃ y : Int32, y = v5_h27 + 1 := ⟨_, rfl⟩
              replace hf := ms_lE ex28 hf
              refine lv_iinc (v := x28) (lv' := [(5, .int x28), (0, .ref a0), (1, .int v1_h27), (2, .int v2_h27), (3, .int v3_h27), (4, .int v4_h27)]) hx hb dX12_blame_107 hl (k := 5) rfl (by rw [ex28]; rfl) (by decide) rfl (fun ls hl => hp_n (n := 110) rfl ?_)
              refine lv_goto (tgt := 43) hx hb dX12_blame_110 (by decide) ?_
              exact ih43 αh27 Hh27 Lh27 Bh27 σh27 Mh27 v1_h27 v2_h27 v3_h27 v4_h27 x28 ls (lv_sub hl [1, 2, 3, 4, 5, 0] rfl) hf
            refine lv_icmp_ne (tgt := 107) hx hb dX12_blame_62 (by decide) (fun c29 => ?_) (fun c29 => hp_n (n := 65) rfl ?_)
            ·
              replace hf := ms_iF c29 hf
              exact J107 αh5 Hh26 Lh26 Bh26 σh5 Mh5 v1_h5 v2_h5 v3_h5 v4_h5 v5_h5 ls (lv_sub hl [0, 1, 2, 3, 4, 5] rfl) hf
            ·
              replace hf := ms_iT c29 hf
              refine lv_aload_n hx hb dX12_blame_65 rfl (lv_at hl 0 rfl) (hp_n (n := 66) rfl ?_)
              refine lv_iload hx hb dX12_blame_66 (lv_at hl 5 rfl) (hp_n (n := 68) rfl ?_)
              obtain ⟨rh30, qh30, hf⟩ := ms_bE hf
              refine m_cp (pc' := 71) Bh26 (hp_runV (As := [.int v5_h5]) (rest := []) C Bh26 (m_X12_isSound n Γ l αh5 a0 ρ σh5 Mh5 v5_h5 rh30 qh30) lb_X12_isSound lv_X12_isSound lk_X12_353 Mh5.1 rfl (by decide) rfl hl.1 rfl (Nat.le_of_ble_eq_true rfl) dX12_blame_68 ⟨Nat.le_refl _, Nat.le_refl _⟩) rfl (fun Hh30 Lh30 Bh30 => ?_)
              refine lv_if_eq (tgt := 77) hx hb dX12_blame_71 (by decide) (fun c31 => ?_) (fun c31 => hp_n (n := 74) rfl ?_)
              ·
                replace hf := ms_iT c31 hf
                obtain ⟨x32, ex32⟩ : ∃ y : Int32, y = v4_h5 + 1 := ⟨_, rfl⟩
                replace hf := ms_lE ex32 hf
                refine lv_iinc (v := x32) (lv' := [(4, .int x32), (0, .ref a0), (1, .int v1_h5), (2, .int v2_h5), (3, .int v3_h5), (5, .int v5_h5)]) hx hb dX12_blame_77 hl (k := 4) rfl (by rw [ex32]; rfl) (by decide) rfl (fun ls hl => hp_n (n := 80) rfl ?_)
                refine lv_iload_n hx hb dX12_blame_80 rfl (lv_at hl 4 rfl) (hp_n (n := 81) rfl ?_)
                have J106 : ∀ (αh33 : hp_T) (Hh33 : Heap) (Lh33 : List Loc) (Bh33 : hp_B Γ mo s α αh33 Hh33 Lh33) (σh33 : ms_T) (Mh33 : hm_M αh33 a0 ρ σh33) (v1_h33 : Int32) (v2_h33 : Int32) (v4_h33 : Int32) (v5_h33 : Int32) (w0_h33 : Int32) (ls : Array Slot) (hl : lv_has ls 7 [(0, .ref a0), (1, .int v1_h33), (2, .int v2_h33), (4, .int v4_h33), (5, .int v5_h33)]) (hf : f_X12_blame_J106 n (f_X12_blame_L43 n k43) σh33 v1_h33 v2_h33 v4_h33 v5_h33 w0_h33 = some res), W p l e (hp_rm 44 0 0) s m ([.ref a0, .int a1, .int a2] : List Value).toArray below meth c Hh33 Lh33 0 0 (MQ below (hp_Qi Γ (fun r β => r = res.1 ∧ mo α β ∧ hm_M β a0 ρ res.2)) ([.ref a0, .int a1, .int a2] : List Value).toArray s 0 0 (hp_A Γ)) (F0 m 106 ls [.int w0_h33]) := by
                  intro αh33 Hh33 Lh33 Bh33 σh33 Mh33 v1_h33 v2_h33 v4_h33 v5_h33 w0_h33 ls hl hf
                  unfold f_X12_blame_J106 at hf
                  refine lv_istore_n (lv' := [(3, .int w0_h33), (0, .ref a0), (1, .int v1_h33), (2, .int v2_h33), (4, .int v4_h33), (5, .int v5_h33)]) hx hb dX12_blame_106 rfl hl (by decide) rfl (fun ls hl => hp_n (n := 107) rfl ?_)
                  exact J107 αh33 Hh33 Lh33 Bh33 σh33 Mh33 v1_h33 v2_h33 w0_h33 v4_h33 v5_h33 ls (lv_sub hl [1, 2, 3, 0, 4, 5] rfl) hf
                have J95 : ∀ (αh34 : hp_T) (Hh34 : Heap) (Lh34 : List Loc) (Bh34 : hp_B Γ mo s α αh34 Hh34 Lh34) (σh34 : ms_T) (Mh34 : hm_M αh34 a0 ρ σh34) (v1_h34 : Int32) (v2_h34 : Int32) (v4_h34 : Int32) (v5_h34 : Int32) (ls : Array Slot) (hl : lv_has ls 7 [(0, .ref a0), (1, .int v1_h34), (2, .int v2_h34), (4, .int v4_h34), (5, .int v5_h34)]) (hf : f_X12_blame_J95 n (f_X12_blame_L43 n k43) σh34 v1_h34 v2_h34 v4_h34 v5_h34 = some res), W p l e (hp_rm 44 0 0) s m ([.ref a0, .int a1, .int a2] : List Value).toArray below meth c Hh34 Lh34 0 0 (MQ below (hp_Qi Γ (fun r β => r = res.1 ∧ mo α β ∧ hm_M β a0 ρ res.2)) ([.ref a0, .int a1, .int a2] : List Value).toArray s 0 0 (hp_A Γ)) (F0 m 95 ls []) := by
                  intro αh34 Hh34 Lh34 Bh34 σh34 Mh34 v1_h34 v2_h34 v4_h34 v5_h34 ls hl hf
                  unfold f_X12_blame_J95 at hf
                  refine lv_aload_n hx hb dX12_blame_95 rfl (lv_at hl 0 rfl) (hp_n (n := 96) rfl ?_)
                  refine lv_iload hx hb dX12_blame_96 (lv_at hl 4 rfl) (hp_n (n := 98) rfl ?_)
                  refine lv_iconst (v := 1) hx hb dX12_blame_98 (by decide) (hp_n (n := 99) rfl ?_)
                  obtain ⟨rh35, qh35, hf⟩ := ms_bE hf
                  refine m_cp (pc' := 102) Bh34 (hp_runV (As := [.int v5_h34, .int (1 : Int32)]) (rest := []) C Bh34 (m_X12_froze n Γ l αh34 a0 ρ σh34 Mh34 v5_h34 (1 : Int32) rh35 qh35) lb_X12_froze lv_X12_froze lk_X12_350 Mh34.1 rfl (by decide) rfl hl.1 rfl (Nat.le_of_ble_eq_true rfl) dX12_blame_99 ⟨Nat.le_refl _, Nat.le_refl _⟩) rfl (fun Hh35 Lh35 Bh35 => ?_)
                  refine lv_goto (tgt := 106) hx hb dX12_blame_102 (by decide) ?_
                  exact J106 αh34 Hh35 Lh35 Bh35 σh34 Mh34 v1_h34 v2_h34 v4_h34 v5_h34 rh35 ls (lv_sub hl [0, 1, 2, 3, 4] rfl) hf
                refine lv_if_lt (tgt := 95) hx hb dX12_blame_81 (by decide) (fun c36 => ?_) (fun c36 => hp_n (n := 84) rfl ?_)
                ·
                  replace hf := ms_iT c36 hf
                  exact J95 αh5 Hh30 Lh30 Bh30 σh5 Mh5 v1_h5 v2_h5 x32 v5_h5 ls (lv_sub hl [1, 2, 3, 0, 5] rfl) hf
                ·
                  replace hf := ms_iF c36 hf
                  refine lv_aload_n hx hb dX12_blame_84 rfl (lv_at hl 1 rfl) (hp_n (n := 85) rfl ?_)
                  refine lv_iload hx hb dX12_blame_85 (lv_at hl 5 rfl) (hp_n (n := 87) rfl ?_)
                  refine lv_iconst (v := 1) hx hb dX12_blame_87 (by decide) (hp_n (n := 88) rfl ?_)
                  obtain ⟨rh37, qh37, hf⟩ := ms_bE hf
                  refine m_cp (pc' := 91) Bh30 (hp_runV (As := [.int v5_h5, .int (1 : Int32)]) (rest := []) C Bh30 (m_X12_froze n Γ l αh5 a0 ρ σh5 Mh5 v5_h5 (1 : Int32) rh37 qh37) lb_X12_froze lv_X12_froze lk_X12_350 Mh5.1 rfl (by decide) rfl hl.1 rfl (Nat.le_of_ble_eq_true rfl) dX12_blame_88 ⟨Nat.le_refl _, Nat.le_refl _⟩) rfl (fun Hh37 Lh37 Bh37 => ?_)
                  refine lv_iload_n hx hb dX12_blame_91 rfl (lv_at hl 4 rfl) (hp_n (n := 92) rfl ?_)
                  refine lv_icmp_ge (tgt := 105) hx hb dX12_blame_92 (by decide) (fun c38 => ?_) (fun c38 => hp_n (n := 95) rfl ?_)
                  ·
                    replace hf := ms_iT c38 hf
                    refine lv_iload_n hx hb dX12_blame_105 rfl (lv_at hl 4 rfl) (hp_n (n := 106) rfl ?_)
                    exact J106 αh5 Hh37 Lh37 Bh37 σh5 Mh5 v1_h5 v2_h5 x32 v5_h5 v3_h5 ls (lv_sub hl [1, 2, 3, 0, 5] rfl) hf
                  ·
                    replace hf := ms_iF c38 hf
                    exact J95 αh5 Hh37 Lh37 Bh37 σh5 Mh5 v1_h5 v2_h5 x32 v5_h5 ls (lv_sub hl [1, 2, 3, 0, 5] rfl) hf
              ·
                replace hf := ms_iF c31 hf
                refine lv_goto (tgt := 107) hx hb dX12_blame_74 (by decide) ?_
                exact J107 αh5 Hh30 Lh30 Bh30 σh5 Mh5 v1_h5 v2_h5 v3_h5 v4_h5 v5_h5 ls (lv_sub hl [0, 1, 2, 3, 4, 5] rfl) hf
      refine lv_istore (lv' := [(5, .int (0 : Int32)), (4, .int (0 : Int32)), (3, .int (-1 : Int32)), (0, .ref a0), (1, .int v1_h2), (2, .int v2_h2)]) hx hb dX12_blame_41 hl (by decide) rfl (fun ls hl => hp_n (n := 43) rfl ?_)
      exact J43 n αh3 Hh3 Lh3 Bh3 σh3 Mh3 v1_h2 v2_h2 (-1 : Int32) (0 : Int32) (0 : Int32) ls (lv_sub hl [3, 4, 5, 2, 1, 0] rfl) hf
    ·
      replace hf := ms_iT c4 hf
      refine lv_iconst (v := (-1)) hx hb dX12_blame_33 (by decide) (hp_n (n := 34) rfl ?_)
      cases hf
      exact q_iret C Bh3 hr hlk ⟨rfl, Bh3.2.2, Mh3⟩ dX12_blame_34
  refine lv_if_ne (tgt := 14) hx hb dX12_blame_7 (by decide) (fun c39 => ?_) (fun c39 => hp_n (n := 10) rfl ?_)
  ·
    replace hf := ms_iF c39 hf
    refine lv_aload_n hx hb dX12_blame_14 rfl (lv_at hl 0 rfl) (hp_n (n := 15) rfl ?_)
    refine lv_iload_n hx hb dX12_blame_15 rfl (lv_at hl 1 rfl) (hp_n (n := 16) rfl ?_)
    obtain ⟨rh40, qh40, hf⟩ := ms_bE hf
    refine m_cp (pc' := 19) Bh1 (hp_runV (As := [.int a1]) (rest := [.ref a0]) C Bh1 (m_X12_isRecord n Γ l α a0 ρ σ hM a1 rh40 qh40) lb_X12_isRecord lv_X12_isRecord lk_X12_344 hM.1 rfl (by decide) rfl hl.1 rfl (Nat.le_of_ble_eq_true rfl) dX12_blame_16 ⟨Nat.le_refl _, Nat.le_refl _⟩) rfl (fun Hh40 Lh40 Bh40 => ?_)
    refine lv_if_ne (tgt := 26) hx hb dX12_blame_19 (by decide) (fun c41 => ?_) (fun c41 => hp_n (n := 22) rfl ?_)
    ·
      replace hf := ms_iF c41 hf
      refine lv_iconst (v := 0) hx hb dX12_blame_26 (by decide) (hp_n (n := 27) rfl ?_)
      exact J27 α Hh40 Lh40 Bh40 σ hM a1 a2 (0 : Int32) ls (lv_sub hl [0, 1, 2] rfl) hf
    ·
      replace hf := ms_iT c41 hf
      refine lv_iconst (v := 2) hx hb dX12_blame_22 (by decide) (hp_n (n := 23) rfl ?_)
      refine lv_goto (tgt := 27) hx hb dX12_blame_23 (by decide) ?_
      exact J27 α Hh40 Lh40 Bh40 σ hM a1 a2 (2 : Int32) ls (lv_sub hl [0, 1, 2] rfl) hf
  ·
    replace hf := ms_iT c39 hf
    refine lv_iconst (v := 1) hx hb dX12_blame_10 (by decide) (hp_n (n := 11) rfl ?_)
    refine lv_goto (tgt := 27) hx hb dX12_blame_11 (by decide) ?_
    exact J27 α Hh1 Lh1 Bh1 σ hM a1 a2 (1 : Int32) ls (lv_sub hl [0, 1, 2] rfl) hf
def f_X12_weak_J108 (n : Nat) (rec73 : ms_T → Int32 → Int32 → Int32 → Int32 → Int32 → Int32 → Int32 → Int32 → Option (Int32 × ms_T)) (σh15 : ms_T) (v2_h15 : Int32) (v3_h15 : Int32) (v4_h15 : Int32) (v5_h15 : Int32) (v6_h15 : Int32) (v7_h15 : Int32) (v8_h15 : Int32) (v9_h15 : Int32) : Option (Int32 × ms_T) :=
  ms_l (v9_h15 + (-1)) fun x16 =>
  rec73 σh15 v2_h15 v3_h15 v4_h15 v5_h15 v6_h15 v7_h15 v8_h15 x16
def f_X12_weak_L73 (n : Nat) : Nat → ms_T → Int32 → Int32 → Int32 → Int32 → Int32 → Int32 → Int32 → Int32 → Option (Int32 × ms_T)
  | 0, _, _, _, _, _, _, _, _, _ => none
  | k73 + 1, σh10, v2_h10, v3_h10, v4_h10, v5_h10, v6_h10, v7_h10, v8_h10, v9_h10 =>
    if v9_h10 < 0 then
      if v4_h10 = 0 then
        some (v7_h10, σh10)
      else
        if 0 ≤ v8_h10 then
          some (v8_h10, σh10)
        else
          ms_c (f_X12_refuse n σh10 (5 : Int32)) fun rh14 σh14 =>
          some (rh14, σh14)
    else
      if v9_h10 = v5_h10 then
        f_X12_weak_J108 n (f_X12_weak_L73 n k73) σh10 v2_h10 v3_h10 v4_h10 v5_h10 v6_h10 v7_h10 v8_h10 v9_h10
      else
        ms_c (f_X12_folded n σh10 v9_h10 v2_h10 v3_h10) fun rh18 σh18 =>
        if rh18 = v6_h10 then
          ms_l (v7_h10 + 1) fun x20 =>
          f_X12_weak_J108 n (f_X12_weak_L73 n k73) σh18 v2_h10 v3_h10 v4_h10 v5_h10 v6_h10 x20 v9_h10 v9_h10
        else
          f_X12_weak_J108 n (f_X12_weak_L73 n k73) σh18 v2_h10 v3_h10 v4_h10 v5_h10 v6_h10 v7_h10 v8_h10 v9_h10
def f_X12_weak_J22 (n : Nat) (σh2 : ms_T) (v1_h2 : Int32) (v2_h2 : Int32) (v3_h2 : Int32) (v4_h2 : Int32) (w0_h2 : Int32) : Option (Int32 × ms_T) :=
  ms_c (f_X12_is n σh2 w0_h2) fun rh3 σh3 =>
  if rh3 = 0 then
    some ((-1 : Int32), σh3)
  else
    ms_b (f_X12_inclusion n σh3 v2_h2 v3_h2) fun σh5 =>
    ms_b (f_X12_fetches n σh5 v1_h2) fun σh6 =>
    ms_b (f_X12_entryMark n σh6 v1_h2 v2_h2) fun rh7 =>
    ms_b (f_X12_headOf n σh6 v1_h2 v3_h2) fun rh8 =>
    ms_g (1 : Int32) 1980 <|
    ms_l (((ms_E σh6 40 ((1 : Int32)).toNatClampNeg) - (1 : Int32))) fun x21 =>
    f_X12_weak_L73 n n σh6 v2_h2 v3_h2 v4_h2 rh7 rh8 (0 : Int32) (-1 : Int32) x21
def f_X12_weak (n : Nat) (σ : ms_T) (a1 : Int32) (a2 : Int32) (a3 : Int32) (a4 : Int32) : Option (Int32 × ms_T) :=
  ms_b (f_X12_isIn n a4 (0 : Int32) (1 : Int32)) fun rh1 =>
  if rh1 = 0 then
    f_X12_weak_J22 n σ a1 a2 a3 a4 (1 : Int32)
  else
    ms_b (f_X12_noEntry n σ a1 a2 a3) fun rh23 =>
    f_X12_weak_J22 n σ a1 a2 a3 a4 rh23
set_option maxRecDepth 100000 in
set_option maxHeartbeats 4000000 in
theorem m_X12_weak (n : Nat) (Γ : hp_G) (l : Launch) (α : hp_T) (a0 : Nat) (ρ : Nat → Nat) (σ : ms_T) (hM : hm_M α a0 ρ σ) (a1 : Int32) (a2 : Int32) (a3 : Int32) (a4 : Int32) (res : (Int32 × ms_T)) (hf : f_X12_weak n σ a1 a2 a3 a4 = some res) : Met l yX12_weak (hp_ws yX12_weak cX12_weak 10 (some .int)) (hp_rm 43 0 0) (hp_Pc Γ α [.ref a0, .int a1, .int a2, .int a3, .int a4]) (hp_Qi Γ (fun r β => r = res.1 ∧ mo α β ∧ hm_M β a0 ρ res.2)) 0 0 (hp_A Γ) := by
  unfold f_X12_weak at hf
  refine hp_start (by decide) ?_
  intro p e s m below meth c C hr hlk B0 hnm
  have C : hp_C Γ p m c cX12_weak 10 s ([.ref a0, .int a1, .int a2, .int a3, .int a4] : List Value).toArray RX12 := C
  have hx := C.1.1
  have hb := C.1.2.1
  have hown := C.1.2.2.2.1
  have hts := C.1.2.2.2.2
  have B : hp_B Γ mo s α α s.heap [] := ⟨B0.1, B0.2.1, mo_rf⟩
  have hl := lv_entry ([.ref a0, .int a1, .int a2, .int a3, .int a4]) (n := 10) (Nat.le_of_ble_eq_true rfl)
  show W p l e (hp_rm 43 0 0) s m ([.ref a0, .int a1, .int a2, .int a3, .int a4] : List Value).toArray below meth c s.heap [] 0 0 (MQ below (hp_Qi Γ (fun r β => r = res.1 ∧ mo α β ∧ hm_M β a0 ρ res.2)) ([.ref a0, .int a1, .int a2, .int a3, .int a4] : List Value).toArray s 0 0 (hp_A Γ)) (entryFrame m ([.ref a0, .int a1, .int a2, .int a3, .int a4] : List Value).toArray 10)
  rw [lg_entry_eq]
  generalize (lg_sl ([.ref a0, .int a1, .int a2, .int a3, .int a4]) ++ List.replicate (10 - (lg_sl ([.ref a0, .int a1, .int a2, .int a3, .int a4])).length) Slot.unset).toArray = ls at hl ⊢
  have hl : lv_has ls 10 [(0, .ref a0), (1, .int a1), (2, .int a2), (3, .int a3), (4, .int a4)] := hl
  refine lv_aload_n hx hb dX12_weak_0 rfl (lv_at hl 0 rfl) (hp_n (n := 1) rfl ?_)
  refine lv_iload hx hb dX12_weak_1 (lv_at hl 4 rfl) (hp_n (n := 3) rfl ?_)
  refine lv_iconst (v := 0) hx hb dX12_weak_3 (by decide) (hp_n (n := 4) rfl ?_)
  refine lv_iconst (v := 1) hx hb dX12_weak_4 (by decide) (hp_n (n := 5) rfl ?_)
  obtain ⟨rh1, qh1, hf⟩ := ms_bE hf
  refine m_cp (pc' := 8) B (hp_runS (As := [.int a4, .int (0 : Int32), .int (1 : Int32)]) (rest := [.ref a0]) C B (m_X12_isIn n Γ l α a4 (0 : Int32) (1 : Int32) rh1 qh1) lb_X12_isIn ls_X12_isIn lk_X12_113 rfl (by decide) rfl hl.1 rfl (Nat.le_of_ble_eq_true rfl) dX12_weak_5 ⟨Nat.le_refl _, Nat.le_refl _⟩) rfl (fun Hh1 Lh1 Bh1 => ?_)
  have J22 : ∀ (αh2 : hp_T) (Hh2 : Heap) (Lh2 : List Loc) (Bh2 : hp_B Γ mo s α αh2 Hh2 Lh2) (σh2 : ms_T) (Mh2 : hm_M αh2 a0 ρ σh2) (v1_h2 : Int32) (v2_h2 : Int32) (v3_h2 : Int32) (v4_h2 : Int32) (w0_h2 : Int32) (ls : Array Slot) (hl : lv_has ls 10 [(0, .ref a0), (1, .int v1_h2), (2, .int v2_h2), (3, .int v3_h2), (4, .int v4_h2)]) (hf : f_X12_weak_J22 n σh2 v1_h2 v2_h2 v3_h2 v4_h2 w0_h2 = some res), W p l e (hp_rm 43 0 0) s m ([.ref a0, .int a1, .int a2, .int a3, .int a4] : List Value).toArray below meth c Hh2 Lh2 0 0 (MQ below (hp_Qi Γ (fun r β => r = res.1 ∧ mo α β ∧ hm_M β a0 ρ res.2)) ([.ref a0, .int a1, .int a2, .int a3, .int a4] : List Value).toArray s 0 0 (hp_A Γ)) (F0 m 22 ls [.int w0_h2, .ref a0]) := by
    intro αh2 Hh2 Lh2 Bh2 σh2 Mh2 v1_h2 v2_h2 v3_h2 v4_h2 w0_h2 ls hl hf
    unfold f_X12_weak_J22 at hf
    obtain ⟨rh3, σh3, qh3, hf⟩ := ms_cE hf
    refine m_ci (pc' := 25) (a := a0) (ρ := ρ) Bh2 (hp_runV (As := [.int w0_h2]) (rest := []) C Bh2 (m_X12_is n Γ l αh2 a0 ρ σh2 Mh2 w0_h2 (rh3, σh3) qh3) lb_X12_is lv_X12_is lk_X12_309 Mh2.1 rfl (by decide) rfl hl.1 rfl (Nat.le_of_ble_eq_true rfl) dX12_weak_22 ⟨Nat.le_refl _, Nat.le_refl _⟩) rfl (fun αh3 Hh3 Lh3 Bh3 Mh3 => ?_)
    refine lv_if_ne (tgt := 30) hx hb dX12_weak_25 (by decide) (fun c4 => ?_) (fun c4 => hp_n (n := 28) rfl ?_)
    ·
      replace hf := ms_iF c4 hf
      refine lv_aload_n hx hb dX12_weak_30 rfl (lv_at hl 0 rfl) (hp_n (n := 31) rfl ?_)
      refine lv_iload_n hx hb dX12_weak_31 rfl (lv_at hl 2 rfl) (hp_n (n := 32) rfl ?_)
      refine lv_iload_n hx hb dX12_weak_32 rfl (lv_at hl 3 rfl) (hp_n (n := 33) rfl ?_)
      obtain ⟨σh5, qh5, hf⟩ := ms_bE hf
      refine m_cv (pc' := 36) (a := a0) (ρ := ρ) Bh3 (hp_runV (As := [.int v2_h2, .int v3_h2]) (rest := []) C Bh3 (m_X12_inclusion n Γ l αh3 a0 ρ σh3 Mh3 v2_h2 v3_h2 σh5 qh5) lb_X12_inclusion lv_X12_inclusion lk_X12_171 Mh3.1 rfl (by decide) rfl hl.1 rfl (Nat.le_of_ble_eq_true rfl) dX12_weak_33 ⟨Nat.le_refl _, Nat.le_refl _⟩) rfl (fun αh5 Hh5 Lh5 Bh5 Mh5 => ?_)
      refine lv_aload_n hx hb dX12_weak_36 rfl (lv_at hl 0 rfl) (hp_n (n := 37) rfl ?_)
      refine lv_iload_n hx hb dX12_weak_37 rfl (lv_at hl 1 rfl) (hp_n (n := 38) rfl ?_)
      obtain ⟨σh6, qh6, hf⟩ := ms_bE hf
      refine m_cv (pc' := 41) (a := a0) (ρ := ρ) Bh5 (hp_runV (As := [.int v1_h2]) (rest := []) C Bh5 (m_X12_fetches n Γ l αh5 a0 ρ σh5 Mh5 v1_h2 σh6 qh6) lb_X12_fetches lv_X12_fetches lk_X12_161 Mh5.1 rfl (by decide) rfl hl.1 rfl (Nat.le_of_ble_eq_true rfl) dX12_weak_38 ⟨Nat.le_refl _, Nat.le_refl _⟩) rfl (fun αh6 Hh6 Lh6 Bh6 Mh6 => ?_)
      refine lv_aload_n hx hb dX12_weak_41 rfl (lv_at hl 0 rfl) (hp_n (n := 42) rfl ?_)
      refine lv_iload_n hx hb dX12_weak_42 rfl (lv_at hl 1 rfl) (hp_n (n := 43) rfl ?_)
      refine lv_iload_n hx hb dX12_weak_43 rfl (lv_at hl 2 rfl) (hp_n (n := 44) rfl ?_)
      obtain ⟨rh7, qh7, hf⟩ := ms_bE hf
      refine m_cp (pc' := 47) Bh6 (hp_runV (As := [.int v1_h2, .int v2_h2]) (rest := []) C Bh6 (m_X12_entryMark n Γ l αh6 a0 ρ σh6 Mh6 v1_h2 v2_h2 rh7 qh7) lb_X12_entryMark lv_X12_entryMark lk_X12_125 Mh6.1 rfl (by decide) rfl hl.1 rfl (Nat.le_of_ble_eq_true rfl) dX12_weak_44 ⟨Nat.le_refl _, Nat.le_refl _⟩) rfl (fun Hh7 Lh7 Bh7 => ?_)
      refine lv_istore (lv' := [(5, .int rh7), (0, .ref a0), (1, .int v1_h2), (2, .int v2_h2), (3, .int v3_h2), (4, .int v4_h2)]) hx hb dX12_weak_47 hl (by decide) rfl (fun ls hl => hp_n (n := 49) rfl ?_)
      refine lv_aload_n hx hb dX12_weak_49 rfl (lv_at hl 1 rfl) (hp_n (n := 50) rfl ?_)
      refine lv_iload_n hx hb dX12_weak_50 rfl (lv_at hl 2 rfl) (hp_n (n := 51) rfl ?_)
      refine lv_iload_n hx hb dX12_weak_51 rfl (lv_at hl 4 rfl) (hp_n (n := 52) rfl ?_)
      obtain ⟨rh8, qh8, hf⟩ := ms_bE hf
      refine m_cp (pc' := 55) Bh7 (hp_runV (As := [.int v1_h2, .int v3_h2]) (rest := []) C Bh7 (m_X12_headOf n Γ l αh6 a0 ρ σh6 Mh6 v1_h2 v3_h2 rh8 qh8) lb_X12_headOf lv_X12_headOf lk_X12_215 Mh6.1 rfl (by decide) rfl hl.1 rfl (Nat.le_of_ble_eq_true rfl) dX12_weak_52 ⟨Nat.le_refl _, Nat.le_refl _⟩) rfl (fun Hh8 Lh8 Bh8 => ?_)
      refine lv_istore (lv' := [(6, .int rh8), (5, .int rh7), (0, .ref a0), (1, .int v1_h2), (2, .int v2_h2), (3, .int v3_h2), (4, .int v4_h2)]) hx hb dX12_weak_55 hl (by decide) rfl (fun ls hl => hp_n (n := 57) rfl ?_)
      refine lv_iconst (v := 0) hx hb dX12_weak_57 (by decide) (hp_n (n := 58) rfl ?_)
      refine lv_istore (lv' := [(7, .int (0 : Int32)), (6, .int rh8), (5, .int rh7), (0, .ref a0), (1, .int v1_h2), (2, .int v2_h2), (3, .int v3_h2), (4, .int v4_h2)]) hx hb dX12_weak_58 hl (by decide) rfl (fun ls hl => hp_n (n := 60) rfl ?_)
      refine lv_iconst (v := (-1)) hx hb dX12_weak_60 (by decide) (hp_n (n := 61) rfl ?_)
      refine lv_istore (lv' := [(8, .int (-1 : Int32)), (7, .int (0 : Int32)), (6, .int rh8), (5, .int rh7), (0, .ref a0), (1, .int v1_h2), (2, .int v2_h2), (3, .int v3_h2), (4, .int v4_h2)]) hx hb dX12_weak_61 hl (by decide) rfl (fun ls hl => hp_n (n := 63) rfl ?_)
      refine lv_aload_n hx hb dX12_weak_63 rfl (lv_at hl 4 rfl) (hp_n (n := 64) rfl ?_)
      refine m_getr (κ := 40) (k := 0) (pc' := 67) C Bh8 Mh6 fl_X12_7 rfl (by decide) dX12_weak_64 rfl ?_
      refine lv_iconst (v := 1) hx hb dX12_weak_67 (by decide) (hp_n (n := 68) rfl ?_)
      obtain ⟨g9, hf⟩ := ms_gE hf
      refine m_ial (κ := 40) (φ := 650) (n := 1980) (pc' := 69) C Bh8 Mh6 (by decide) (by decide) rfl g9 dX12_weak_68 rfl ?_
      refine lv_iconst (v := 1) hx hb dX12_weak_69 (by decide) (hp_n (n := 70) rfl ?_)
      refine lv_isub hx hb dX12_weak_70 (hp_n (n := 71) rfl ?_)
      have J73 : ∀ (k73 : Nat) (αh10 : hp_T) (Hh10 : Heap) (Lh10 : List Loc) (Bh10 : hp_B Γ mo s α αh10 Hh10 Lh10) (σh10 : ms_T) (Mh10 : hm_M αh10 a0 ρ σh10) (v2_h10 : Int32) (v3_h10 : Int32) (v4_h10 : Int32) (v5_h10 : Int32) (v6_h10 : Int32) (v7_h10 : Int32) (v8_h10 : Int32) (v9_h10 : Int32) (ls : Array Slot) (hl : lv_has ls 10 [(0, .ref a0), (2, .int v2_h10), (3, .int v3_h10), (4, .int v4_h10), (5, .int v5_h10), (6, .int v6_h10), (7, .int v7_h10), (8, .int v8_h10), (9, .int v9_h10)]) (hf : f_X12_weak_L73 n k73 σh10 v2_h10 v3_h10 v4_h10 v5_h10 v6_h10 v7_h10 v8_h10 v9_h10 = some res), W p l e (hp_rm 43 0 0) s m ([.ref a0, .int a1, .int a2, .int a3, .int a4] : List Value).toArray below meth c Hh10 Lh10 0 0 (MQ below (hp_Qi Γ (fun r β => r = res.1 ∧ mo α β ∧ hm_M β a0 ρ res.2)) ([.ref a0, .int a1, .int a2, .int a3, .int a4] : List Value).toArray s 0 0 (hp_A Γ)) (F0 m 73 ls []) := by
        intro k73
        induction k73 with
        | zero => intro αh10 Hh10 Lh10 Bh10 σh10 Mh10 v2_h10 v3_h10 v4_h10 v5_h10 v6_h10 v7_h10 v8_h10 v9_h10 ls hl hf; rw [f_X12_weak_L73.eq_1] at hf; cases hf
        | succ k73 ih73 =>
          intro αh10 Hh10 Lh10 Bh10 σh10 Mh10 v2_h10 v3_h10 v4_h10 v5_h10 v6_h10 v7_h10 v8_h10 v9_h10 ls hl hf
          rw [f_X12_weak_L73.eq_2] at hf
          refine lv_iload hx hb dX12_weak_73 (lv_at hl 8 rfl) (hp_n (n := 75) rfl ?_)
          refine lv_if_lt (tgt := 114) hx hb dX12_weak_75 (by decide) (fun c11 => ?_) (fun c11 => hp_n (n := 78) rfl ?_)
          ·
            replace hf := ms_iT c11 hf
            refine lv_iload hx hb dX12_weak_114 (lv_at hl 3 rfl) (hp_n (n := 116) rfl ?_)
            refine lv_if_ne (tgt := 124) hx hb dX12_weak_116 (by decide) (fun c12 => ?_) (fun c12 => hp_n (n := 119) rfl ?_)
            ·
              replace hf := ms_iF c12 hf
              refine lv_iload hx hb dX12_weak_124 (lv_at hl 7 rfl) (hp_n (n := 126) rfl ?_)
              refine lv_if_ge (tgt := 137) hx hb dX12_weak_126 (by decide) (fun c13 => ?_) (fun c13 => hp_n (n := 129) rfl ?_)
              ·
                replace hf := ms_iT c13 hf
                refine lv_iload hx hb dX12_weak_137 (lv_at hl 7 rfl) (hp_n (n := 139) rfl ?_)
                cases hf
                exact q_iret C Bh10 hr hlk ⟨rfl, Bh10.2.2, Mh10⟩ dX12_weak_139
              ·
                replace hf := ms_iF c13 hf
                refine lv_aload_n hx hb dX12_weak_129 rfl (lv_at hl 0 rfl) (hp_n (n := 130) rfl ?_)
                refine lv_iconst (v := 5) hx hb dX12_weak_130 (by decide) (hp_n (n := 131) rfl ?_)
                obtain ⟨rh14, σh14, qh14, hf⟩ := ms_cE hf
                refine m_ci (pc' := 134) (a := a0) (ρ := ρ) Bh10 (hp_runV (As := [.int (5 : Int32)]) (rest := []) C Bh10 (m_X12_refuse n Γ l αh10 a0 ρ σh10 Mh10 (5 : Int32) (rh14, σh14) qh14) lb_X12_refuse lv_X12_refuse lk_X12_212 Mh10.1 rfl (by decide) rfl hl.1 rfl (Nat.le_of_ble_eq_true rfl) dX12_weak_131 ⟨Nat.le_refl _, Nat.le_refl _⟩) rfl (fun αh14 Hh14 Lh14 Bh14 Mh14 => ?_)
                refine lv_goto (tgt := 139) hx hb dX12_weak_134 (by decide) ?_
                cases hf
                exact q_iret C Bh14 hr hlk ⟨rfl, Bh14.2.2, Mh14⟩ dX12_weak_139
            ·
              replace hf := ms_iT c12 hf
              refine lv_iload hx hb dX12_weak_119 (lv_at hl 6 rfl) (hp_n (n := 121) rfl ?_)
              refine lv_goto (tgt := 139) hx hb dX12_weak_121 (by decide) ?_
              cases hf
              exact q_iret C Bh10 hr hlk ⟨rfl, Bh10.2.2, Mh10⟩ dX12_weak_139
          ·
            replace hf := ms_iF c11 hf
            refine lv_iload hx hb dX12_weak_78 (lv_at hl 8 rfl) (hp_n (n := 80) rfl ?_)
            refine lv_iload hx hb dX12_weak_80 (lv_at hl 4 rfl) (hp_n (n := 82) rfl ?_)
            have J108 : ∀ (αh15 : hp_T) (Hh15 : Heap) (Lh15 : List Loc) (Bh15 : hp_B Γ mo s α αh15 Hh15 Lh15) (σh15 : ms_T) (Mh15 : hm_M αh15 a0 ρ σh15) (v2_h15 : Int32) (v3_h15 : Int32) (v4_h15 : Int32) (v5_h15 : Int32) (v6_h15 : Int32) (v7_h15 : Int32) (v8_h15 : Int32) (v9_h15 : Int32) (ls : Array Slot) (hl : lv_has ls 10 [(0, .ref a0), (2, .int v2_h15), (3, .int v3_h15), (4, .int v4_h15), (5, .int v5_h15), (6, .int v6_h15), (7, .int v7_h15), (8, .int v8_h15), (9, .int v9_h15)]) (hf : f_X12_weak_J108 n (f_X12_weak_L73 n k73) σh15 v2_h15 v3_h15 v4_h15 v5_h15 v6_h15 v7_h15 v8_h15 v9_h15 = some res), W p l e (hp_rm 43 0 0) s m ([.ref a0, .int a1, .int a2, .int a3, .int a4] : List Value).toArray below meth c Hh15 Lh15 0 0 (MQ below (hp_Qi Γ (fun r β => r = res.1 ∧ mo α β ∧ hm_M β a0 ρ res.2)) ([.ref a0, .int a1, .int a2, .int a3, .int a4] : List Value).toArray s 0 0 (hp_A Γ)) (F0 m 108 ls []) := by
              intro αh15 Hh15 Lh15 Bh15 σh15 Mh15 v2_h15 v3_h15 v4_h15 v5_h15 v6_h15 v7_h15 v8_h15 v9_h15 ls hl hf
              unfold f_X12_weak_J108 at hf
              obtain ⟨x16, ex16⟩ : ∃ y : Int32, y = v9_h15 + (-1) := ⟨_, rfl⟩
              replace hf := ms_lE ex16 hf
              refine lv_iinc (v := x16) (lv' := [(9, .int x16), (0, .ref a0), (2, .int v2_h15), (3, .int v3_h15), (4, .int v4_h15), (5, .int v5_h15), (6, .int v6_h15), (7, .int v7_h15), (8, .int v8_h15)]) hx hb dX12_weak_108 hl (k := 8) rfl (by rw [ex16]; rfl) (by decide) rfl (fun ls hl => hp_n (n := 111) rfl ?_)
              refine lv_goto (tgt := 73) hx hb dX12_weak_111 (by decide) ?_
              exact ih73 αh15 Hh15 Lh15 Bh15 σh15 Mh15 v2_h15 v3_h15 v4_h15 v5_h15 v6_h15 v7_h15 v8_h15 x16 ls (lv_sub hl [1, 2, 3, 4, 5, 6, 7, 8, 0] rfl) hf
            refine lv_icmp_eq (tgt := 108) hx hb dX12_weak_82 (by decide) (fun c17 => ?_) (fun c17 => hp_n (n := 85) rfl ?_)
            ·
              replace hf := ms_iT c17 hf
              exact J108 αh10 Hh10 Lh10 Bh10 σh10 Mh10 v2_h10 v3_h10 v4_h10 v5_h10 v6_h10 v7_h10 v8_h10 v9_h10 ls (lv_sub hl [0, 1, 2, 3, 4, 5, 6, 7, 8] rfl) hf
            ·
              replace hf := ms_iF c17 hf
              refine lv_aload_n hx hb dX12_weak_85 rfl (lv_at hl 0 rfl) (hp_n (n := 86) rfl ?_)
              refine lv_iload hx hb dX12_weak_86 (lv_at hl 8 rfl) (hp_n (n := 88) rfl ?_)
              refine lv_iload_n hx hb dX12_weak_88 rfl (lv_at hl 1 rfl) (hp_n (n := 89) rfl ?_)
              refine lv_iload_n hx hb dX12_weak_89 rfl (lv_at hl 2 rfl) (hp_n (n := 90) rfl ?_)
              obtain ⟨rh18, σh18, qh18, hf⟩ := ms_cE hf
              refine m_ci (pc' := 93) (a := a0) (ρ := ρ) Bh10 (hp_runV (As := [.int v9_h10, .int v2_h10, .int v3_h10]) (rest := []) C Bh10 (m_X12_folded n Γ l αh10 a0 ρ σh10 Mh10 v9_h10 v2_h10 v3_h10 (rh18, σh18) qh18) lb_X12_folded lv_X12_folded lk_X12_174 Mh10.1 rfl (by decide) rfl hl.1 rfl (Nat.le_of_ble_eq_true rfl) dX12_weak_90 ⟨Nat.le_refl _, Nat.le_refl _⟩) rfl (fun αh18 Hh18 Lh18 Bh18 Mh18 => ?_)
              refine lv_iload hx hb dX12_weak_93 (lv_at hl 5 rfl) (hp_n (n := 95) rfl ?_)
              refine lv_icmp_eq (tgt := 101) hx hb dX12_weak_95 (by decide) (fun c19 => ?_) (fun c19 => hp_n (n := 98) rfl ?_)
              ·
                replace hf := ms_iT c19 hf
                obtain ⟨x20, ex20⟩ : ∃ y : Int32, y = v7_h10 + 1 := ⟨_, rfl⟩
                replace hf := ms_lE ex20 hf
                refine lv_iinc (v := x20) (lv' := [(7, .int x20), (0, .ref a0), (2, .int v2_h10), (3, .int v3_h10), (4, .int v4_h10), (5, .int v5_h10), (6, .int v6_h10), (8, .int v8_h10), (9, .int v9_h10)]) hx hb dX12_weak_101 hl (k := 6) rfl (by rw [ex20]; rfl) (by decide) rfl (fun ls hl => hp_n (n := 104) rfl ?_)
                refine lv_iload hx hb dX12_weak_104 (lv_at hl 8 rfl) (hp_n (n := 106) rfl ?_)
                refine lv_istore (lv' := [(8, .int v9_h10), (7, .int x20), (0, .ref a0), (2, .int v2_h10), (3, .int v3_h10), (4, .int v4_h10), (5, .int v5_h10), (6, .int v6_h10), (9, .int v9_h10)]) hx hb dX12_weak_106 hl (by decide) rfl (fun ls hl => hp_n (n := 108) rfl ?_)
                exact J108 αh18 Hh18 Lh18 Bh18 σh18 Mh18 v2_h10 v3_h10 v4_h10 v5_h10 v6_h10 x20 v9_h10 v9_h10 ls (lv_sub hl [2, 3, 4, 5, 6, 7, 1, 0, 8] rfl) hf
              ·
                replace hf := ms_iF c19 hf
                refine lv_goto (tgt := 108) hx hb dX12_weak_98 (by decide) ?_
                exact J108 αh18 Hh18 Lh18 Bh18 σh18 Mh18 v2_h10 v3_h10 v4_h10 v5_h10 v6_h10 v7_h10 v8_h10 v9_h10 ls (lv_sub hl [0, 1, 2, 3, 4, 5, 6, 7, 8] rfl) hf
      refine lv_topi (fun x21 ex21 => ?_)
      replace hf := ms_lE ex21 hf
      refine lv_istore (lv' := [(9, .int x21), (8, .int (-1 : Int32)), (7, .int (0 : Int32)), (6, .int rh8), (5, .int rh7), (0, .ref a0), (1, .int v1_h2), (2, .int v2_h2), (3, .int v3_h2), (4, .int v4_h2)]) hx hb dX12_weak_71 hl (by decide) rfl (fun ls hl => hp_n (n := 73) rfl ?_)
      exact J73 n αh6 Hh8 Lh8 Bh8 σh6 Mh6 v2_h2 v3_h2 v4_h2 rh7 rh8 (0 : Int32) (-1 : Int32) x21 ls (lv_sub hl [5, 7, 8, 9, 4, 3, 2, 1, 0] rfl) hf
    ·
      replace hf := ms_iT c4 hf
      refine lv_iconst (v := (-1)) hx hb dX12_weak_28 (by decide) (hp_n (n := 29) rfl ?_)
      cases hf
      exact q_iret C Bh3 hr hlk ⟨rfl, Bh3.2.2, Mh3⟩ dX12_weak_29
  refine lv_if_ne (tgt := 15) hx hb dX12_weak_8 (by decide) (fun c22 => ?_) (fun c22 => hp_n (n := 11) rfl ?_)
  ·
    replace hf := ms_iF c22 hf
    refine lv_aload_n hx hb dX12_weak_15 rfl (lv_at hl 0 rfl) (hp_n (n := 16) rfl ?_)
    refine lv_iload_n hx hb dX12_weak_16 rfl (lv_at hl 1 rfl) (hp_n (n := 17) rfl ?_)
    refine lv_iload_n hx hb dX12_weak_17 rfl (lv_at hl 2 rfl) (hp_n (n := 18) rfl ?_)
    refine lv_iload_n hx hb dX12_weak_18 rfl (lv_at hl 3 rfl) (hp_n (n := 19) rfl ?_)
    obtain ⟨rh23, qh23, hf⟩ := ms_bE hf
    refine m_cp (pc' := 22) Bh1 (hp_runV (As := [.int a1, .int a2, .int a3]) (rest := [.ref a0]) C Bh1 (m_X12_noEntry n Γ l α a0 ρ σ hM a1 a2 a3 rh23 qh23) lb_X12_noEntry lv_X12_noEntry lk_X12_362 hM.1 rfl (by decide) rfl hl.1 rfl (Nat.le_of_ble_eq_true rfl) dX12_weak_19 ⟨Nat.le_refl _, Nat.le_refl _⟩) rfl (fun Hh23 Lh23 Bh23 => ?_)
    exact J22 α Hh23 Lh23 Bh23 σ hM a1 a2 a3 a4 rh23 ls (lv_sub hl [0, 1, 2, 3, 4] rfl) hf
  ·
    replace hf := ms_iT c22 hf
    refine lv_iconst (v := 1) hx hb dX12_weak_11 (by decide) (hp_n (n := 12) rfl ?_)
    refine lv_goto (tgt := 22) hx hb dX12_weak_12 (by decide) ?_
    exact J22 α Hh1 Lh1 Bh1 σ hM a1 a2 a3 a4 (1 : Int32) ls (lv_sub hl [0, 1, 2, 3, 4] rfl) hf
def f_X12_stepsIn_J102 (n : Nat) (recM : ms_T → Int32 → Int32 → Int32 → Option (Int32 × ms_T)) (σh7 : ms_T) (w0_h7 : Int32) (w1_h7 : Int32) : Option (Int32 × ms_T) :=
  ms_g w1_h7 64 <|
  ms_l (ms_sE σh7 52 (w1_h7).toNatClampNeg w0_h7) fun σh9 =>
  ms_g (ms_I σh9 689) 64 <|
  ms_g (ms_I σh9 689) 64 <|
  ms_b (f_X12_both n σh9 (ms_E σh9 51 ((ms_I σh9 689)).toNatClampNeg) (ms_E σh9 52 ((ms_I σh9 689)).toNatClampNeg)) fun rh12 =>
  ms_g (ms_I σh9 689) 64 <|
  ms_l (ms_sE σh9 53 ((ms_I σh9 689)).toNatClampNeg rh12) fun σh14 =>
  ms_l (ms_sI σh14 689 ((ms_I σh14 689) + (1 : Int32))) fun σh15 =>
  ms_g ((ms_I σh15 689) - (1 : Int32)) 64 <|
  some ((ms_E σh15 53 (((ms_I σh15 689) - (1 : Int32))).toNatClampNeg), σh15)
def f_X12_stepsIn_J73 (n : Nat) (recM : ms_T → Int32 → Int32 → Int32 → Option (Int32 × ms_T)) (σh4 : ms_T) (v2_h4 : Int32) (v4_h4 : Int32) (v5_h4 : Int32) (w0_h4 : Int32) (w1_h4 : Int32) : Option (Int32 × ms_T) :=
  ms_g w1_h4 64 <|
  ms_l (ms_sE σh4 51 (w1_h4).toNatClampNeg w0_h4) fun σh6 =>
  if v4_h4 ≤ v2_h4 then
    f_X12_stepsIn_J102 n recM σh6 v5_h4 (ms_I σh6 689)
  else
    ms_g (ms_I σh6 689) 128 <|
    f_X12_stepsIn_J102 n recM σh6 (ms_E σh6 44 ((ms_I σh6 689)).toNatClampNeg) (ms_I σh6 689)
def f_X12_stepsIn_J43 (n : Nat) (recM : ms_T → Int32 → Int32 → Int32 → Option (Int32 × ms_T)) (σh3 : ms_T) (v2_h3 : Int32) (v4_h3 : Int32) (w0_h3 : Int32) : Option (Int32 × ms_T) :=
  if v4_h3 ≤ v2_h3 then
    ms_g (ms_I σh3 689) 128 <|
    f_X12_stepsIn_J73 n recM σh3 v2_h3 v4_h3 w0_h3 (ms_E σh3 44 ((ms_I σh3 689)).toNatClampNeg) (ms_I σh3 689)
  else
    f_X12_stepsIn_J73 n recM σh3 v2_h3 v4_h3 w0_h3 w0_h3 (ms_I σh3 689)
def f_X12_stepsIn (n : Nat) : Nat → ms_T → Int32 → Int32 → Int32 → Option (Int32 × ms_T)
  | 0, _, _, _, _ => none
  | d + 1, σ, a1, a2, a3 =>
    if a3 = (1 : Int32) then
      some (a1, σ)
    else
      ms_b (f_X12_part0 n a3) fun rh2 =>
      if rh2 ≤ a2 then
        ms_c ((f_X12_stepsIn n d) σ a1 (a2 - rh2) (a3 - rh2)) fun rh22 σh22 =>
        f_X12_stepsIn_J43 n (f_X12_stepsIn n d) σh22 a2 rh2 rh22
      else
        ms_c ((f_X12_stepsIn n d) σ a1 a2 rh2) fun rh23 σh23 =>
        f_X12_stepsIn_J43 n (f_X12_stepsIn n d) σh23 a2 rh2 rh23
set_option maxRecDepth 100000 in
set_option maxHeartbeats 4000000 in
theorem m_X12_stepsIn (n : Nat) : ∀ (d : Nat) (Γ : hp_G) (l : Launch) (α : hp_T) (a0 : Nat) (ρ : Nat → Nat) (σ : ms_T) (hM : hm_M α a0 ρ σ) (a1 : Int32) (a2 : Int32) (a3 : Int32) (res : (Int32 × ms_T)) (hf : f_X12_stepsIn n d σ a1 a2 a3 = some res), Met l yX12_stepsIn (hp_ws yX12_stepsIn cX12_stepsIn 6 (some .int)) (hp_rm (d + 1) 0 0) (hp_Pc Γ α [.ref a0, .int a1, .int a2, .int a3]) (hp_Qi Γ (fun r β => r = res.1 ∧ mo α β ∧ hm_M β a0 ρ res.2)) 0 0 (hp_A Γ) := by
  intro d
  induction d with
  | zero => intro Γ l α a0 ρ σ hM a1 a2 a3 res hf; rw [f_X12_stepsIn.eq_1] at hf; cases hf
  | succ d ihM =>
    intro Γ l α a0 ρ σ hM a1 a2 a3 res hf
    rw [f_X12_stepsIn.eq_2] at hf
    refine hp_start (by decide) ?_
    intro p e s m below meth c C hr hlk B0 hnm
    have C : hp_C Γ p m c cX12_stepsIn 6 s ([.ref a0, .int a1, .int a2, .int a3] : List Value).toArray RX12 := C
    have hx := C.1.1
    have hb := C.1.2.1
    have hown := C.1.2.2.2.1
    have hts := C.1.2.2.2.2
    have B : hp_B Γ mo s α α s.heap [] := ⟨B0.1, B0.2.1, mo_rf⟩
    have hl := lv_entry ([.ref a0, .int a1, .int a2, .int a3]) (n := 6) (Nat.le_of_ble_eq_true rfl)
    show W p l e (hp_rm (d + 1 + 1) 0 0) s m ([.ref a0, .int a1, .int a2, .int a3] : List Value).toArray below meth c s.heap [] 0 0 (MQ below (hp_Qi Γ (fun r β => r = res.1 ∧ mo α β ∧ hm_M β a0 ρ res.2)) ([.ref a0, .int a1, .int a2, .int a3] : List Value).toArray s 0 0 (hp_A Γ)) (entryFrame m ([.ref a0, .int a1, .int a2, .int a3] : List Value).toArray 6)
    rw [lg_entry_eq]
    generalize (lg_sl ([.ref a0, .int a1, .int a2, .int a3]) ++ List.replicate (6 - (lg_sl ([.ref a0, .int a1, .int a2, .int a3])).length) Slot.unset).toArray = ls at hl ⊢
    have hl : lv_has ls 6 [(0, .ref a0), (1, .int a1), (2, .int a2), (3, .int a3)] := hl
    refine lv_iload_n hx hb dX12_stepsIn_0 rfl (lv_at hl 3 rfl) (hp_n (n := 1) rfl ?_)
    refine lv_iconst (v := 1) hx hb dX12_stepsIn_1 (by decide) (hp_n (n := 2) rfl ?_)
    refine lv_icmp_ne (tgt := 7) hx hb dX12_stepsIn_2 (by decide) (fun c1 => ?_) (fun c1 => hp_n (n := 5) rfl ?_)
    ·
      replace hf := ms_iF c1 hf
      refine lv_iload_n hx hb dX12_stepsIn_7 rfl (lv_at hl 3 rfl) (hp_n (n := 8) rfl ?_)
      obtain ⟨rh2, qh2, hf⟩ := ms_bE hf
      refine m_cp (pc' := 11) B (hp_runS (As := [.int a3]) (rest := []) C B (m_X12_part0 n Γ l α a3 rh2 qh2) lb_X12_part0 ls_X12_part0 lk_X12_128 rfl (by omega) rfl hl.1 rfl (Nat.le_of_ble_eq_true rfl) dX12_stepsIn_8 ⟨Nat.le_refl _, Nat.le_refl _⟩) rfl (fun Hh2 Lh2 Bh2 => ?_)
      refine lv_istore (lv' := [(4, .int rh2), (0, .ref a0), (1, .int a1), (2, .int a2), (3, .int a3)]) hx hb dX12_stepsIn_11 hl (by decide) rfl (fun ls hl => hp_n (n := 13) rfl ?_)
      refine lv_iload_n hx hb dX12_stepsIn_13 rfl (lv_at hl 3 rfl) (hp_n (n := 14) rfl ?_)
      refine lv_iload hx hb dX12_stepsIn_14 (lv_at hl 0 rfl) (hp_n (n := 16) rfl ?_)
      have J43 : ∀ (αh3 : hp_T) (Hh3 : Heap) (Lh3 : List Loc) (Bh3 : hp_B Γ mo s α αh3 Hh3 Lh3) (σh3 : ms_T) (Mh3 : hm_M αh3 a0 ρ σh3) (v2_h3 : Int32) (v4_h3 : Int32) (w0_h3 : Int32) (ls : Array Slot) (hl : lv_has ls 6 [(0, .ref a0), (2, .int v2_h3), (4, .int v4_h3)]) (hf : f_X12_stepsIn_J43 n (f_X12_stepsIn n d) σh3 v2_h3 v4_h3 w0_h3 = some res), W p l e (hp_rm (d + 1 + 1) 0 0) s m ([.ref a0, .int a1, .int a2, .int a3] : List Value).toArray below meth c Hh3 Lh3 0 0 (MQ below (hp_Qi Γ (fun r β => r = res.1 ∧ mo α β ∧ hm_M β a0 ρ res.2)) ([.ref a0, .int a1, .int a2, .int a3] : List Value).toArray s 0 0 (hp_A Γ)) (F0 m 43 ls [.int w0_h3]) := by
        intro αh3 Hh3 Lh3 Bh3 σh3 Mh3 v2_h3 v4_h3 w0_h3 ls hl hf
        unfold f_X12_stepsIn_J43 at hf
        refine lv_istore (lv' := [(5, .int w0_h3), (0, .ref a0), (2, .int v2_h3), (4, .int v4_h3)]) hx hb dX12_stepsIn_43 hl (by decide) rfl (fun ls hl => hp_n (n := 45) rfl ?_)
        refine lv_aload_n hx hb dX12_stepsIn_45 rfl (lv_at hl 1 rfl) (hp_n (n := 46) rfl ?_)
        refine m_getr (κ := 51) (k := 36) (pc' := 49) C Bh3 Mh3 fl_X12_76 rfl (by decide) dX12_stepsIn_46 rfl ?_
        refine lv_aload_n hx hb dX12_stepsIn_49 rfl (lv_at hl 1 rfl) (hp_n (n := 50) rfl ?_)
        refine m_geti (k := 39) (φ := 689) (pc' := 53) C Bh3 Mh3 fl_X12_411 rfl rfl dX12_stepsIn_50 rfl ?_
        refine lv_iload_n hx hb dX12_stepsIn_53 rfl (lv_at hl 2 rfl) (hp_n (n := 54) rfl ?_)
        refine lv_iload hx hb dX12_stepsIn_54 (lv_at hl 3 rfl) (hp_n (n := 56) rfl ?_)
        have J73 : ∀ (αh4 : hp_T) (Hh4 : Heap) (Lh4 : List Loc) (Bh4 : hp_B Γ mo s α αh4 Hh4 Lh4) (σh4 : ms_T) (Mh4 : hm_M αh4 a0 ρ σh4) (v2_h4 : Int32) (v4_h4 : Int32) (v5_h4 : Int32) (w0_h4 : Int32) (w1_h4 : Int32) (ls : Array Slot) (hl : lv_has ls 6 [(0, .ref a0), (2, .int v2_h4), (4, .int v4_h4), (5, .int v5_h4)]) (hf : f_X12_stepsIn_J73 n (f_X12_stepsIn n d) σh4 v2_h4 v4_h4 v5_h4 w0_h4 w1_h4 = some res), W p l e (hp_rm (d + 1 + 1) 0 0) s m ([.ref a0, .int a1, .int a2, .int a3] : List Value).toArray below meth c Hh4 Lh4 0 0 (MQ below (hp_Qi Γ (fun r β => r = res.1 ∧ mo α β ∧ hm_M β a0 ρ res.2)) ([.ref a0, .int a1, .int a2, .int a3] : List Value).toArray s 0 0 (hp_A Γ)) (F0 m 73 ls [.int w0_h4, .int w1_h4, .ref (ρ 51)]) := by
          intro αh4 Hh4 Lh4 Bh4 σh4 Mh4 v2_h4 v4_h4 v5_h4 w0_h4 w1_h4 ls hl hf
          unfold f_X12_stepsIn_J73 at hf
          obtain ⟨g5, hf⟩ := ms_gE hf
          refine m_ias (κ := 51) (φ := 686) (n := 64) (pc' := 74) C Bh4 Mh4 (by decide) (by decide) rfl g5 dX12_stepsIn_73 rfl (fun αh6 Hh6 Lh6 σh6 eh6 Bh6 Mh6 => ?_)
          replace hf := ms_lE eh6 hf
          refine lv_aload_n hx hb dX12_stepsIn_74 rfl (lv_at hl 0 rfl) (hp_n (n := 75) rfl ?_)
          refine m_getr (κ := 52) (k := 37) (pc' := 78) C Bh6 Mh6 fl_X12_79 rfl (by decide) dX12_stepsIn_75 rfl ?_
          refine lv_aload_n hx hb dX12_stepsIn_78 rfl (lv_at hl 0 rfl) (hp_n (n := 79) rfl ?_)
          refine m_geti (k := 39) (φ := 689) (pc' := 82) C Bh6 Mh6 fl_X12_411 rfl rfl dX12_stepsIn_79 rfl ?_
          refine lv_iload_n hx hb dX12_stepsIn_82 rfl (lv_at hl 1 rfl) (hp_n (n := 83) rfl ?_)
          refine lv_iload hx hb dX12_stepsIn_83 (lv_at hl 2 rfl) (hp_n (n := 85) rfl ?_)
          have J102 : ∀ (αh7 : hp_T) (Hh7 : Heap) (Lh7 : List Loc) (Bh7 : hp_B Γ mo s α αh7 Hh7 Lh7) (σh7 : ms_T) (Mh7 : hm_M αh7 a0 ρ σh7) (w0_h7 : Int32) (w1_h7 : Int32) (ls : Array Slot) (hl : lv_has ls 6 [(0, .ref a0)]) (hf : f_X12_stepsIn_J102 n (f_X12_stepsIn n d) σh7 w0_h7 w1_h7 = some res), W p l e (hp_rm (d + 1 + 1) 0 0) s m ([.ref a0, .int a1, .int a2, .int a3] : List Value).toArray below meth c Hh7 Lh7 0 0 (MQ below (hp_Qi Γ (fun r β => r = res.1 ∧ mo α β ∧ hm_M β a0 ρ res.2)) ([.ref a0, .int a1, .int a2, .int a3] : List Value).toArray s 0 0 (hp_A Γ)) (F0 m 102 ls [.int w0_h7, .int w1_h7, .ref (ρ 52)]) := by
            intro αh7 Hh7 Lh7 Bh7 σh7 Mh7 w0_h7 w1_h7 ls hl hf
            unfold f_X12_stepsIn_J102 at hf
            obtain ⟨g8, hf⟩ := ms_gE hf
            refine m_ias (κ := 52) (φ := 687) (n := 64) (pc' := 103) C Bh7 Mh7 (by decide) (by decide) rfl g8 dX12_stepsIn_102 rfl (fun αh9 Hh9 Lh9 σh9 eh9 Bh9 Mh9 => ?_)
            replace hf := ms_lE eh9 hf
            refine lv_aload_n hx hb dX12_stepsIn_103 rfl (lv_at hl 0 rfl) (hp_n (n := 104) rfl ?_)
            refine m_getr (κ := 53) (k := 38) (pc' := 107) C Bh9 Mh9 fl_X12_82 rfl (by decide) dX12_stepsIn_104 rfl ?_
            refine lv_aload_n hx hb dX12_stepsIn_107 rfl (lv_at hl 0 rfl) (hp_n (n := 108) rfl ?_)
            refine m_geti (k := 39) (φ := 689) (pc' := 111) C Bh9 Mh9 fl_X12_411 rfl rfl dX12_stepsIn_108 rfl ?_
            refine lv_aload_n hx hb dX12_stepsIn_111 rfl (lv_at hl 0 rfl) (hp_n (n := 112) rfl ?_)
            refine lv_aload_n hx hb dX12_stepsIn_112 rfl (lv_at hl 0 rfl) (hp_n (n := 113) rfl ?_)
            refine m_getr (κ := 51) (k := 36) (pc' := 116) C Bh9 Mh9 fl_X12_76 rfl (by decide) dX12_stepsIn_113 rfl ?_
            refine lv_aload_n hx hb dX12_stepsIn_116 rfl (lv_at hl 0 rfl) (hp_n (n := 117) rfl ?_)
            refine m_geti (k := 39) (φ := 689) (pc' := 120) C Bh9 Mh9 fl_X12_411 rfl rfl dX12_stepsIn_117 rfl ?_
            obtain ⟨g10, hf⟩ := ms_gE hf
            refine m_ial (κ := 51) (φ := 686) (n := 64) (pc' := 121) C Bh9 Mh9 (by decide) (by decide) rfl g10 dX12_stepsIn_120 rfl ?_
            refine lv_aload_n hx hb dX12_stepsIn_121 rfl (lv_at hl 0 rfl) (hp_n (n := 122) rfl ?_)
            refine m_getr (κ := 52) (k := 37) (pc' := 125) C Bh9 Mh9 fl_X12_79 rfl (by decide) dX12_stepsIn_122 rfl ?_
            refine lv_aload_n hx hb dX12_stepsIn_125 rfl (lv_at hl 0 rfl) (hp_n (n := 126) rfl ?_)
            refine m_geti (k := 39) (φ := 689) (pc' := 129) C Bh9 Mh9 fl_X12_411 rfl rfl dX12_stepsIn_126 rfl ?_
            obtain ⟨g11, hf⟩ := ms_gE hf
            refine m_ial (κ := 52) (φ := 687) (n := 64) (pc' := 130) C Bh9 Mh9 (by decide) (by decide) rfl g11 dX12_stepsIn_129 rfl ?_
            obtain ⟨rh12, qh12, hf⟩ := ms_bE hf
            refine m_cp (pc' := 133) Bh9 (hp_runV (As := [.int (ms_E σh9 51 ((ms_I σh9 689)).toNatClampNeg), .int (ms_E σh9 52 ((ms_I σh9 689)).toNatClampNeg)]) (rest := [.int (ms_I σh9 689), .ref (ρ 53)]) C Bh9 (m_X12_both n Γ l αh9 a0 ρ σh9 Mh9 (ms_E σh9 51 ((ms_I σh9 689)).toNatClampNeg) (ms_E σh9 52 ((ms_I σh9 689)).toNatClampNeg) rh12 qh12) lb_X12_both lv_X12_both lk_X12_136 Mh9.1 rfl (by omega) rfl hl.1 rfl (Nat.le_of_ble_eq_true rfl) dX12_stepsIn_130 ⟨Nat.le_refl _, Nat.le_refl _⟩) rfl (fun Hh12 Lh12 Bh12 => ?_)
            obtain ⟨g13, hf⟩ := ms_gE hf
            refine m_ias (κ := 53) (φ := 688) (n := 64) (pc' := 134) C Bh12 Mh9 (by decide) (by decide) rfl g13 dX12_stepsIn_133 rfl (fun αh14 Hh14 Lh14 σh14 eh14 Bh14 Mh14 => ?_)
            replace hf := ms_lE eh14 hf
            refine lv_aload_n hx hb dX12_stepsIn_134 rfl (lv_at hl 0 rfl) (hp_n (n := 135) rfl ?_)
            refine lv_dup hx hb dX12_stepsIn_135 rfl (hp_n (n := 136) rfl ?_)
            refine m_geti (k := 39) (φ := 689) (pc' := 139) C Bh14 Mh14 fl_X12_411 rfl rfl dX12_stepsIn_136 rfl ?_
            refine lv_iconst (v := 1) hx hb dX12_stepsIn_139 (by decide) (hp_n (n := 140) rfl ?_)
            refine lv_iadd hx hb dX12_stepsIn_140 (hp_n (n := 141) rfl ?_)
            refine m_puti (k := 39) (φ := 689) (pc' := 144) C Bh14 Mh14 fl_X12_411 rfl rfl rfl rfl rfl dX12_stepsIn_141 rfl (fun αh15 Hh15 Lh15 σh15 eh15 Bh15 Mh15 => ?_)
            replace hf := ms_lE eh15 hf
            refine lv_aload_n hx hb dX12_stepsIn_144 rfl (lv_at hl 0 rfl) (hp_n (n := 145) rfl ?_)
            refine m_getr (κ := 53) (k := 38) (pc' := 148) C Bh15 Mh15 fl_X12_82 rfl (by decide) dX12_stepsIn_145 rfl ?_
            refine lv_aload_n hx hb dX12_stepsIn_148 rfl (lv_at hl 0 rfl) (hp_n (n := 149) rfl ?_)
            refine m_geti (k := 39) (φ := 689) (pc' := 152) C Bh15 Mh15 fl_X12_411 rfl rfl dX12_stepsIn_149 rfl ?_
            refine lv_iconst (v := 1) hx hb dX12_stepsIn_152 (by decide) (hp_n (n := 153) rfl ?_)
            refine lv_isub hx hb dX12_stepsIn_153 (hp_n (n := 154) rfl ?_)
            obtain ⟨g16, hf⟩ := ms_gE hf
            refine m_ial (κ := 53) (φ := 688) (n := 64) (pc' := 155) C Bh15 Mh15 (by decide) (by decide) rfl g16 dX12_stepsIn_154 rfl ?_
            cases hf
            exact q_iret C Bh15 hr hlk ⟨rfl, Bh15.2.2, Mh15⟩ dX12_stepsIn_155
          refine lv_icmp_ge (tgt := 100) hx hb dX12_stepsIn_85 (by decide) (fun c17 => ?_) (fun c17 => hp_n (n := 88) rfl ?_)
          ·
            replace hf := ms_iT c17 hf
            refine lv_iload hx hb dX12_stepsIn_100 (lv_at hl 3 rfl) (hp_n (n := 102) rfl ?_)
            exact J102 αh6 Hh6 Lh6 Bh6 σh6 Mh6 v5_h4 (ms_I σh6 689) ls (lv_sub hl [0] rfl) hf
          ·
            replace hf := ms_iF c17 hf
            refine lv_aload_n hx hb dX12_stepsIn_88 rfl (lv_at hl 0 rfl) (hp_n (n := 89) rfl ?_)
            refine m_getr (κ := 44) (k := 6) (pc' := 92) C Bh6 Mh6 fl_X12_22 rfl (by decide) dX12_stepsIn_89 rfl ?_
            refine lv_aload_n hx hb dX12_stepsIn_92 rfl (lv_at hl 0 rfl) (hp_n (n := 93) rfl ?_)
            refine m_geti (k := 39) (φ := 689) (pc' := 96) C Bh6 Mh6 fl_X12_411 rfl rfl dX12_stepsIn_93 rfl ?_
            obtain ⟨g18, hf⟩ := ms_gE hf
            refine m_ial (κ := 44) (φ := 656) (n := 128) (pc' := 97) C Bh6 Mh6 (by decide) (by decide) rfl g18 dX12_stepsIn_96 rfl ?_
            refine lv_goto (tgt := 102) hx hb dX12_stepsIn_97 (by decide) ?_
            exact J102 αh6 Hh6 Lh6 Bh6 σh6 Mh6 (ms_E σh6 44 ((ms_I σh6 689)).toNatClampNeg) (ms_I σh6 689) ls (lv_sub hl [0] rfl) hf
        refine lv_icmp_ge (tgt := 64) hx hb dX12_stepsIn_56 (by decide) (fun c19 => ?_) (fun c19 => hp_n (n := 59) rfl ?_)
        ·
          replace hf := ms_iT c19 hf
          refine lv_aload_n hx hb dX12_stepsIn_64 rfl (lv_at hl 1 rfl) (hp_n (n := 65) rfl ?_)
          refine m_getr (κ := 44) (k := 6) (pc' := 68) C Bh3 Mh3 fl_X12_22 rfl (by decide) dX12_stepsIn_65 rfl ?_
          refine lv_aload_n hx hb dX12_stepsIn_68 rfl (lv_at hl 1 rfl) (hp_n (n := 69) rfl ?_)
          refine m_geti (k := 39) (φ := 689) (pc' := 72) C Bh3 Mh3 fl_X12_411 rfl rfl dX12_stepsIn_69 rfl ?_
          obtain ⟨g20, hf⟩ := ms_gE hf
          refine m_ial (κ := 44) (φ := 656) (n := 128) (pc' := 73) C Bh3 Mh3 (by decide) (by decide) rfl g20 dX12_stepsIn_72 rfl ?_
          exact J73 αh3 Hh3 Lh3 Bh3 σh3 Mh3 v2_h3 v4_h3 w0_h3 (ms_E σh3 44 ((ms_I σh3 689)).toNatClampNeg) (ms_I σh3 689) ls (lv_sub hl [1, 2, 3, 0] rfl) hf
        ·
          replace hf := ms_iF c19 hf
          refine lv_iload hx hb dX12_stepsIn_59 (lv_at hl 0 rfl) (hp_n (n := 61) rfl ?_)
          refine lv_goto (tgt := 73) hx hb dX12_stepsIn_61 (by decide) ?_
          exact J73 αh3 Hh3 Lh3 Bh3 σh3 Mh3 v2_h3 v4_h3 w0_h3 w0_h3 (ms_I σh3 689) ls (lv_sub hl [1, 2, 3, 0] rfl) hf
      refine lv_icmp_ge (tgt := 30) hx hb dX12_stepsIn_16 (by decide) (fun c21 => ?_) (fun c21 => hp_n (n := 19) rfl ?_)
      ·
        replace hf := ms_iT c21 hf
        refine lv_aload_n hx hb dX12_stepsIn_30 rfl (lv_at hl 1 rfl) (hp_n (n := 31) rfl ?_)
        refine lv_iload_n hx hb dX12_stepsIn_31 rfl (lv_at hl 2 rfl) (hp_n (n := 32) rfl ?_)
        refine lv_iload_n hx hb dX12_stepsIn_32 rfl (lv_at hl 3 rfl) (hp_n (n := 33) rfl ?_)
        refine lv_iload hx hb dX12_stepsIn_33 (lv_at hl 0 rfl) (hp_n (n := 35) rfl ?_)
        refine lv_isub hx hb dX12_stepsIn_35 (hp_n (n := 36) rfl ?_)
        refine lv_iload_n hx hb dX12_stepsIn_36 rfl (lv_at hl 4 rfl) (hp_n (n := 37) rfl ?_)
        refine lv_iload hx hb dX12_stepsIn_37 (lv_at hl 0 rfl) (hp_n (n := 39) rfl ?_)
        refine lv_isub hx hb dX12_stepsIn_39 (hp_n (n := 40) rfl ?_)
        obtain ⟨rh22, σh22, qh22, hf⟩ := ms_cE hf
        refine m_ci (pc' := 43) (a := a0) (ρ := ρ) Bh2 (hp_runV (As := [.int a1, .int (a2 - rh2), .int (a3 - rh2)]) (rest := []) C Bh2 (ihM Γ l α a0 ρ σ hM a1 (a2 - rh2) (a3 - rh2) (rh22, σh22) qh22) lb_X12_stepsIn lv_X12_stepsIn lk_X12_408 hM.1 rfl (by omega) rfl hl.1 rfl (Nat.le_of_ble_eq_true rfl) dX12_stepsIn_40 ⟨Nat.le_refl _, Nat.le_refl _⟩) rfl (fun αh22 Hh22 Lh22 Bh22 Mh22 => ?_)
        exact J43 αh22 Hh22 Lh22 Bh22 σh22 Mh22 a2 rh2 rh22 ls (lv_sub hl [1, 3, 0] rfl) hf
      ·
        replace hf := ms_iF c21 hf
        refine lv_aload_n hx hb dX12_stepsIn_19 rfl (lv_at hl 1 rfl) (hp_n (n := 20) rfl ?_)
        refine lv_iload_n hx hb dX12_stepsIn_20 rfl (lv_at hl 2 rfl) (hp_n (n := 21) rfl ?_)
        refine lv_iload_n hx hb dX12_stepsIn_21 rfl (lv_at hl 3 rfl) (hp_n (n := 22) rfl ?_)
        refine lv_iload hx hb dX12_stepsIn_22 (lv_at hl 0 rfl) (hp_n (n := 24) rfl ?_)
        obtain ⟨rh23, σh23, qh23, hf⟩ := ms_cE hf
        refine m_ci (pc' := 27) (a := a0) (ρ := ρ) Bh2 (hp_runV (As := [.int a1, .int a2, .int rh2]) (rest := []) C Bh2 (ihM Γ l α a0 ρ σ hM a1 a2 rh2 (rh23, σh23) qh23) lb_X12_stepsIn lv_X12_stepsIn lk_X12_408 hM.1 rfl (by omega) rfl hl.1 rfl (Nat.le_of_ble_eq_true rfl) dX12_stepsIn_24 ⟨Nat.le_refl _, Nat.le_refl _⟩) rfl (fun αh23 Hh23 Lh23 Bh23 Mh23 => ?_)
        refine lv_goto (tgt := 43) hx hb dX12_stepsIn_27 (by decide) ?_
        exact J43 αh23 Hh23 Lh23 Bh23 σh23 Mh23 a2 rh2 rh23 ls (lv_sub hl [1, 3, 0] rfl) hf
    ·
      replace hf := ms_iT c1 hf
      refine lv_iload_n hx hb dX12_stepsIn_5 rfl (lv_at hl 1 rfl) (hp_n (n := 6) rfl ?_)
      cases hf
      exact q_iret C B hr hlk ⟨rfl, B.2.2, hM⟩ dX12_stepsIn_6
