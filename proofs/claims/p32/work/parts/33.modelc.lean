def f_X12_reads_J301 (n : Nat) (rec245 : ms_T → Option ms_T) (σh17 : ms_T) (w0_h17 : Int32) : Option ms_T :=
  ms_l (ms_sI σh17 675 w0_h17) fun σh18 =>
  ms_l (ms_sI σh18 673 ((ms_I σh18 673) + (1 : Int32))) fun σh19 =>
  rec245 σh19
def f_X12_reads_L245 (n : Nat) : Nat → ms_T → Option ms_T
  | 0, _ => none
  | k245 + 1, σh11 =>
    ms_b (f_X12_isOf n σh11 (ms_I σh11 673) (48 : Int32) (57 : Int32)) fun rh12 =>
    if rh12 = 0 then
      if ((ms_I σh11 673) - (ms_I σh11 672)) ≤ (5 : Int32) then
        ms_l (ms_sI σh11 674 (2 : Int32)) fun σh15 =>
        some σh15
      else
        ms_l (ms_sI σh11 674 (4 : Int32)) fun σh16 =>
        some σh16
    else
      if (5 : Int32) ≤ ((ms_I σh11 673) - (ms_I σh11 672)) then
        f_X12_reads_J301 n (f_X12_reads_L245 n k245) σh11 (ms_I σh11 675)
      else
        ms_g (ms_I σh11 673) 900 <|
        f_X12_reads_J301 n (f_X12_reads_L245 n k245) σh11 ((((10 : Int32) * (ms_I σh11 675)) + (ms_E σh11 47 ((ms_I σh11 673)).toNatClampNeg)) - (48 : Int32))
def f_X12_reads_J201 (n : Nat) (rec141 : ms_T → Option ms_T) (σh28 : ms_T) (w0_h28 : Int64) : Option ms_T :=
  ms_l (ms_sJ σh28 w0_h28) fun σh29 =>
  ms_l (ms_sI σh29 673 ((ms_I σh29 673) + (1 : Int32))) fun σh30 =>
  rec141 σh30
def f_X12_reads_L141 (n : Nat) : Nat → ms_T → Option ms_T
  | 0, _ => none
  | k141 + 1, σh25 =>
    ms_b (f_X12_isOf n σh25 (ms_I σh25 673) (97 : Int32) (122 : Int32)) fun rh26 =>
    if rh26 = 0 then
      some σh25
    else
      if (8 : Int32) ≤ ((ms_I σh25 673) - (ms_I σh25 672)) then
        f_X12_reads_J201 n (f_X12_reads_L141 n k141) σh25 (ms_J σh25)
      else
        ms_g (ms_I σh25 673) 900 <|
        f_X12_reads_J201 n (f_X12_reads_L141 n k141) σh25 ((((27 : Int64) * (ms_J σh25)) + ((ms_E σh25 47 ((ms_I σh25 673)).toNatClampNeg)).toInt64) - (96 : Int64))
def f_X12_reads_J105 (n : Nat) (σh4 : ms_T) (w0_h4 : Int32) : Option ms_T :=
  ms_l (ms_sI σh4 674 w0_h4) fun σh5 =>
  ms_b (f_X12_isOf n σh5 (ms_I σh5 672) (97 : Int32) (122 : Int32)) fun rh6 =>
  if rh6 = 0 then
    ms_b (f_X12_isOf n σh5 (ms_I σh5 672) (48 : Int32) (57 : Int32)) fun rh8 =>
    if rh8 = 0 then
      some σh5
    else
      ms_l (ms_sI σh5 675 (0 : Int32)) fun σh10 =>
      ms_l (ms_sI σh10 673 (ms_I σh10 672)) fun σh22 =>
      f_X12_reads_L245 n n σh22
  else
    ms_l (ms_sI σh5 674 (1 : Int32)) fun σh23 =>
    ms_l (ms_sJ σh23 (0 : Int64)) fun σh24 =>
    ms_l (ms_sI σh24 673 (ms_I σh24 672)) fun σh33 =>
    f_X12_reads_L141 n n σh33
def f_X12_reads_J60 (n : Nat) (σh2 : ms_T) : Option ms_T :=
  ms_l (ms_sI σh2 673 ((ms_I σh2 672) + (1 : Int32))) fun σh3 =>
  if (ms_I σh3 672) < (ms_I σh3 676) then
    ms_g (ms_I σh3 672) 900 <|
    if (ms_E σh3 47 ((ms_I σh3 672)).toNatClampNeg) = (59 : Int32) then
      f_X12_reads_J105 n σh3 (3 : Int32)
    else
      f_X12_reads_J105 n σh3 (4 : Int32)
  else
    f_X12_reads_J105 n σh3 (0 : Int32)
def f_X12_reads_J47 (n : Nat) (rec8 : ms_T → Option ms_T) (σh39 : ms_T) : Option ms_T :=
  ms_l (ms_sI σh39 672 ((ms_I σh39 672) + (1 : Int32))) fun σh40 =>
  rec8 σh40
def f_X12_reads_L8 (n : Nat) : Nat → ms_T → Option ms_T
  | 0, _ => none
  | k8 + 1, σh1 =>
    if (ms_I σh1 676) ≤ (ms_I σh1 672) then
      f_X12_reads_J60 n σh1
    else
      ms_g (ms_I σh1 672) 900 <|
      if (ms_E σh1 47 ((ms_I σh1 672)).toNatClampNeg) = (10 : Int32) then
        f_X12_reads_J47 n (f_X12_reads_L8 n k8) σh1
      else
        ms_g (ms_I σh1 672) 900 <|
        if (ms_E σh1 47 ((ms_I σh1 672)).toNatClampNeg) = (32 : Int32) then
          f_X12_reads_J47 n (f_X12_reads_L8 n k8) σh1
        else
          f_X12_reads_J60 n σh1
def f_X12_reads (n : Nat) (σ : ms_T) : Option ms_T :=
  ms_l (ms_sI σ 672 (ms_I σ 673)) fun σh44 =>
  f_X12_reads_L8 n n σh44
set_option maxRecDepth 100000 in
set_option maxHeartbeats 4000000 in
theorem m_X12_reads (n : Nat) (Γ : hp_G) (l : Launch) (α : hp_T) (a0 : Nat) (ρ : Nat → Nat) (σ : ms_T) (hM : hm_M α a0 ρ σ)  (res : ms_T) (hf : f_X12_reads n σ = some res) : Met l yX12_reads (hp_ws yX12_reads cX12_reads 1 none) (hp_rm 2 0 0) (hp_Pc Γ α [.ref a0]) (hp_Qv Γ (fun β => mo α β ∧ hm_M β a0 ρ res)) 0 0 (hp_A Γ) := by
  unfold f_X12_reads at hf
  refine hp_start (by decide) ?_
  intro p e s m below meth c C hr hlk B0 hnm
  have C : hp_C Γ p m c cX12_reads 1 s ([.ref a0] : List Value).toArray RX12 := C
  have hx := C.1.1
  have hb := C.1.2.1
  have hown := C.1.2.2.2.1
  have hts := C.1.2.2.2.2
  have B : hp_B Γ mo s α α s.heap [] := ⟨B0.1, B0.2.1, mo_rf⟩
  have hl := lv_entry ([.ref a0]) (n := 1) (Nat.le_of_ble_eq_true rfl)
  show W p l e (hp_rm 2 0 0) s m ([.ref a0] : List Value).toArray below meth c s.heap [] 0 0 (MQ below (hp_Qv Γ (fun β => mo α β ∧ hm_M β a0 ρ res)) ([.ref a0] : List Value).toArray s 0 0 (hp_A Γ)) (entryFrame m ([.ref a0] : List Value).toArray 1)
  rw [lg_entry_eq]
  generalize (lg_sl ([.ref a0]) ++ List.replicate (1 - (lg_sl ([.ref a0])).length) Slot.unset).toArray = ls at hl ⊢
  have hl : lv_has ls 1 [(0, .ref a0)] := hl
  refine lv_aload_n hx hb dX12_reads_0 rfl (lv_at hl 0 rfl) (hp_n (n := 1) rfl ?_)
  refine lv_aload_n hx hb dX12_reads_1 rfl (lv_at hl 0 rfl) (hp_n (n := 2) rfl ?_)
  refine m_geti (k := 23) (φ := 673) (pc' := 5) C B hM fl_X12_239 rfl rfl dX12_reads_2 rfl ?_
  have J8 : ∀ (k8 : Nat) (αh1 : hp_T) (Hh1 : Heap) (Lh1 : List Loc) (Bh1 : hp_B Γ mo s α αh1 Hh1 Lh1) (σh1 : ms_T) (Mh1 : hm_M αh1 a0 ρ σh1) (ls : Array Slot) (hl : lv_has ls 1 [(0, .ref a0)]) (hf : f_X12_reads_L8 n k8 σh1 = some res), W p l e (hp_rm 2 0 0) s m ([.ref a0] : List Value).toArray below meth c Hh1 Lh1 0 0 (MQ below (hp_Qv Γ (fun β => mo α β ∧ hm_M β a0 ρ res)) ([.ref a0] : List Value).toArray s 0 0 (hp_A Γ)) (F0 m 8 ls []) := by
    intro k8
    induction k8 with
    | zero => intro αh1 Hh1 Lh1 Bh1 σh1 Mh1 ls hl hf; rw [f_X12_reads_L8.eq_1] at hf; cases hf
    | succ k8 ih8 =>
      intro αh1 Hh1 Lh1 Bh1 σh1 Mh1 ls hl hf
      rw [f_X12_reads_L8.eq_2] at hf
      refine lv_aload_n hx hb dX12_reads_8 rfl (lv_at hl 0 rfl) (hp_n (n := 9) rfl ?_)
      refine m_geti (k := 22) (φ := 672) (pc' := 12) C Bh1 Mh1 fl_X12_242 rfl rfl dX12_reads_9 rfl ?_
      refine lv_aload_n hx hb dX12_reads_12 rfl (lv_at hl 0 rfl) (hp_n (n := 13) rfl ?_)
      refine m_geti (k := 26) (φ := 676) (pc' := 16) C Bh1 Mh1 fl_X12_236 rfl rfl dX12_reads_13 rfl ?_
      have J60 : ∀ (αh2 : hp_T) (Hh2 : Heap) (Lh2 : List Loc) (Bh2 : hp_B Γ mo s α αh2 Hh2 Lh2) (σh2 : ms_T) (Mh2 : hm_M αh2 a0 ρ σh2) (ls : Array Slot) (hl : lv_has ls 1 [(0, .ref a0)]) (hf : f_X12_reads_J60 n σh2 = some res), W p l e (hp_rm 2 0 0) s m ([.ref a0] : List Value).toArray below meth c Hh2 Lh2 0 0 (MQ below (hp_Qv Γ (fun β => mo α β ∧ hm_M β a0 ρ res)) ([.ref a0] : List Value).toArray s 0 0 (hp_A Γ)) (F0 m 60 ls []) := by
        intro αh2 Hh2 Lh2 Bh2 σh2 Mh2 ls hl hf
        unfold f_X12_reads_J60 at hf
        refine lv_aload_n hx hb dX12_reads_60 rfl (lv_at hl 0 rfl) (hp_n (n := 61) rfl ?_)
        refine lv_aload_n hx hb dX12_reads_61 rfl (lv_at hl 0 rfl) (hp_n (n := 62) rfl ?_)
        refine m_geti (k := 22) (φ := 672) (pc' := 65) C Bh2 Mh2 fl_X12_242 rfl rfl dX12_reads_62 rfl ?_
        refine lv_iconst (v := 1) hx hb dX12_reads_65 (by decide) (hp_n (n := 66) rfl ?_)
        refine lv_iadd hx hb dX12_reads_66 (hp_n (n := 67) rfl ?_)
        refine m_puti (k := 23) (φ := 673) (pc' := 70) C Bh2 Mh2 fl_X12_239 rfl rfl rfl rfl rfl dX12_reads_67 rfl (fun αh3 Hh3 Lh3 σh3 eh3 Bh3 Mh3 => ?_)
        replace hf := ms_lE eh3 hf
        refine lv_aload_n hx hb dX12_reads_70 rfl (lv_at hl 0 rfl) (hp_n (n := 71) rfl ?_)
        refine lv_aload_n hx hb dX12_reads_71 rfl (lv_at hl 0 rfl) (hp_n (n := 72) rfl ?_)
        refine m_geti (k := 22) (φ := 672) (pc' := 75) C Bh3 Mh3 fl_X12_242 rfl rfl dX12_reads_72 rfl ?_
        refine lv_aload_n hx hb dX12_reads_75 rfl (lv_at hl 0 rfl) (hp_n (n := 76) rfl ?_)
        refine m_geti (k := 26) (φ := 676) (pc' := 79) C Bh3 Mh3 fl_X12_236 rfl rfl dX12_reads_76 rfl ?_
        have J105 : ∀ (αh4 : hp_T) (Hh4 : Heap) (Lh4 : List Loc) (Bh4 : hp_B Γ mo s α αh4 Hh4 Lh4) (σh4 : ms_T) (Mh4 : hm_M αh4 a0 ρ σh4) (w0_h4 : Int32) (ls : Array Slot) (hl : lv_has ls 1 [(0, .ref a0)]) (hf : f_X12_reads_J105 n σh4 w0_h4 = some res), W p l e (hp_rm 2 0 0) s m ([.ref a0] : List Value).toArray below meth c Hh4 Lh4 0 0 (MQ below (hp_Qv Γ (fun β => mo α β ∧ hm_M β a0 ρ res)) ([.ref a0] : List Value).toArray s 0 0 (hp_A Γ)) (F0 m 105 ls [.int w0_h4, .ref a0]) := by
          intro αh4 Hh4 Lh4 Bh4 σh4 Mh4 w0_h4 ls hl hf
          unfold f_X12_reads_J105 at hf
          refine m_puti (k := 24) (φ := 674) (pc' := 108) C Bh4 Mh4 fl_X12_245 rfl rfl rfl rfl rfl dX12_reads_105 rfl (fun αh5 Hh5 Lh5 σh5 eh5 Bh5 Mh5 => ?_)
          replace hf := ms_lE eh5 hf
          refine lv_aload_n hx hb dX12_reads_108 rfl (lv_at hl 0 rfl) (hp_n (n := 109) rfl ?_)
          refine lv_aload_n hx hb dX12_reads_109 rfl (lv_at hl 0 rfl) (hp_n (n := 110) rfl ?_)
          refine m_geti (k := 22) (φ := 672) (pc' := 113) C Bh5 Mh5 fl_X12_242 rfl rfl dX12_reads_110 rfl ?_
          refine lv_bipush (v := 97) hx hb dX12_reads_113 (by decide) (hp_n (n := 115) rfl ?_)
          refine lv_bipush (v := 122) hx hb dX12_reads_115 (by decide) (hp_n (n := 117) rfl ?_)
          obtain ⟨rh6, qh6, hf⟩ := ms_bE hf
          refine m_cp (pc' := 120) Bh5 (hp_runV (As := [.int (ms_I σh5 672), .int (97 : Int32), .int (122 : Int32)]) (rest := []) C Bh5 (m_X12_isOf n Γ l αh5 a0 ρ σh5 Mh5 (ms_I σh5 672) (97 : Int32) (122 : Int32) rh6 qh6) lb_X12_isOf lv_X12_isOf lk_X12_248 Mh5.1 rfl (by decide) rfl hl.1 rfl (Nat.le_of_ble_eq_true rfl) dX12_reads_117 ⟨Nat.le_refl _, Nat.le_refl _⟩) rfl (fun Hh6 Lh6 Bh6 => ?_)
          refine lv_if_eq (tgt := 217) hx hb dX12_reads_120 (by decide) (fun c7 => ?_) (fun c7 => hp_n (n := 123) rfl ?_)
          ·
            replace hf := ms_iT c7 hf
            refine lv_aload_n hx hb dX12_reads_217 rfl (lv_at hl 0 rfl) (hp_n (n := 218) rfl ?_)
            refine lv_aload_n hx hb dX12_reads_218 rfl (lv_at hl 0 rfl) (hp_n (n := 219) rfl ?_)
            refine m_geti (k := 22) (φ := 672) (pc' := 222) C Bh6 Mh5 fl_X12_242 rfl rfl dX12_reads_219 rfl ?_
            refine lv_bipush (v := 48) hx hb dX12_reads_222 (by decide) (hp_n (n := 224) rfl ?_)
            refine lv_bipush (v := 57) hx hb dX12_reads_224 (by decide) (hp_n (n := 226) rfl ?_)
            obtain ⟨rh8, qh8, hf⟩ := ms_bE hf
            refine m_cp (pc' := 229) Bh6 (hp_runV (As := [.int (ms_I σh5 672), .int (48 : Int32), .int (57 : Int32)]) (rest := []) C Bh6 (m_X12_isOf n Γ l αh5 a0 ρ σh5 Mh5 (ms_I σh5 672) (48 : Int32) (57 : Int32) rh8 qh8) lb_X12_isOf lv_X12_isOf lk_X12_248 Mh5.1 rfl (by decide) rfl hl.1 rfl (Nat.le_of_ble_eq_true rfl) dX12_reads_226 ⟨Nat.le_refl _, Nat.le_refl _⟩) rfl (fun Hh8 Lh8 Bh8 => ?_)
            refine lv_if_eq (tgt := 339) hx hb dX12_reads_229 (by decide) (fun c9 => ?_) (fun c9 => hp_n (n := 232) rfl ?_)
            ·
              replace hf := ms_iT c9 hf
              cases hf
              exact q_vret C Bh8 hr hlk ⟨Bh8.2.2, Mh5⟩ dX12_reads_339
            ·
              replace hf := ms_iF c9 hf
              refine lv_aload_n hx hb dX12_reads_232 rfl (lv_at hl 0 rfl) (hp_n (n := 233) rfl ?_)
              refine lv_iconst (v := 0) hx hb dX12_reads_233 (by decide) (hp_n (n := 234) rfl ?_)
              refine m_puti (k := 25) (φ := 675) (pc' := 237) C Bh8 Mh5 fl_X12_259 rfl rfl rfl rfl rfl dX12_reads_234 rfl (fun αh10 Hh10 Lh10 σh10 eh10 Bh10 Mh10 => ?_)
              replace hf := ms_lE eh10 hf
              refine lv_aload_n hx hb dX12_reads_237 rfl (lv_at hl 0 rfl) (hp_n (n := 238) rfl ?_)
              refine lv_aload_n hx hb dX12_reads_238 rfl (lv_at hl 0 rfl) (hp_n (n := 239) rfl ?_)
              refine m_geti (k := 22) (φ := 672) (pc' := 242) C Bh10 Mh10 fl_X12_242 rfl rfl dX12_reads_239 rfl ?_
              have J245 : ∀ (k245 : Nat) (αh11 : hp_T) (Hh11 : Heap) (Lh11 : List Loc) (Bh11 : hp_B Γ mo s α αh11 Hh11 Lh11) (σh11 : ms_T) (Mh11 : hm_M αh11 a0 ρ σh11) (ls : Array Slot) (hl : lv_has ls 1 [(0, .ref a0)]) (hf : f_X12_reads_L245 n k245 σh11 = some res), W p l e (hp_rm 2 0 0) s m ([.ref a0] : List Value).toArray below meth c Hh11 Lh11 0 0 (MQ below (hp_Qv Γ (fun β => mo α β ∧ hm_M β a0 ρ res)) ([.ref a0] : List Value).toArray s 0 0 (hp_A Γ)) (F0 m 245 ls []) := by
                intro k245
                induction k245 with
                | zero => intro αh11 Hh11 Lh11 Bh11 σh11 Mh11 ls hl hf; rw [f_X12_reads_L245.eq_1] at hf; cases hf
                | succ k245 ih245 =>
                  intro αh11 Hh11 Lh11 Bh11 σh11 Mh11 ls hl hf
                  rw [f_X12_reads_L245.eq_2] at hf
                  refine lv_aload_n hx hb dX12_reads_245 rfl (lv_at hl 0 rfl) (hp_n (n := 246) rfl ?_)
                  refine lv_aload_n hx hb dX12_reads_246 rfl (lv_at hl 0 rfl) (hp_n (n := 247) rfl ?_)
                  refine m_geti (k := 23) (φ := 673) (pc' := 250) C Bh11 Mh11 fl_X12_239 rfl rfl dX12_reads_247 rfl ?_
                  refine lv_bipush (v := 48) hx hb dX12_reads_250 (by decide) (hp_n (n := 252) rfl ?_)
                  refine lv_bipush (v := 57) hx hb dX12_reads_252 (by decide) (hp_n (n := 254) rfl ?_)
                  obtain ⟨rh12, qh12, hf⟩ := ms_bE hf
                  refine m_cp (pc' := 257) Bh11 (hp_runV (As := [.int (ms_I σh11 673), .int (48 : Int32), .int (57 : Int32)]) (rest := []) C Bh11 (m_X12_isOf n Γ l αh11 a0 ρ σh11 Mh11 (ms_I σh11 673) (48 : Int32) (57 : Int32) rh12 qh12) lb_X12_isOf lv_X12_isOf lk_X12_248 Mh11.1 rfl (by decide) rfl hl.1 rfl (Nat.le_of_ble_eq_true rfl) dX12_reads_254 ⟨Nat.le_refl _, Nat.le_refl _⟩) rfl (fun Hh12 Lh12 Bh12 => ?_)
                  refine lv_if_eq (tgt := 317) hx hb dX12_reads_257 (by decide) (fun c13 => ?_) (fun c13 => hp_n (n := 260) rfl ?_)
                  ·
                    replace hf := ms_iT c13 hf
                    refine lv_aload_n hx hb dX12_reads_317 rfl (lv_at hl 0 rfl) (hp_n (n := 318) rfl ?_)
                    refine lv_aload_n hx hb dX12_reads_318 rfl (lv_at hl 0 rfl) (hp_n (n := 319) rfl ?_)
                    refine m_geti (k := 23) (φ := 673) (pc' := 322) C Bh12 Mh11 fl_X12_239 rfl rfl dX12_reads_319 rfl ?_
                    refine lv_aload_n hx hb dX12_reads_322 rfl (lv_at hl 0 rfl) (hp_n (n := 323) rfl ?_)
                    refine m_geti (k := 22) (φ := 672) (pc' := 326) C Bh12 Mh11 fl_X12_242 rfl rfl dX12_reads_323 rfl ?_
                    refine lv_isub hx hb dX12_reads_326 (hp_n (n := 327) rfl ?_)
                    refine lv_iconst (v := 5) hx hb dX12_reads_327 (by decide) (hp_n (n := 328) rfl ?_)
                    refine lv_icmp_le (tgt := 335) hx hb dX12_reads_328 (by decide) (fun c14 => ?_) (fun c14 => hp_n (n := 331) rfl ?_)
                    ·
                      replace hf := ms_iT c14 hf
                      refine lv_iconst (v := 2) hx hb dX12_reads_335 (by decide) (hp_n (n := 336) rfl ?_)
                      refine m_puti (k := 24) (φ := 674) (pc' := 339) C Bh12 Mh11 fl_X12_245 rfl rfl rfl rfl rfl dX12_reads_336 rfl (fun αh15 Hh15 Lh15 σh15 eh15 Bh15 Mh15 => ?_)
                      replace hf := ms_lE eh15 hf
                      cases hf
                      exact q_vret C Bh15 hr hlk ⟨Bh15.2.2, Mh15⟩ dX12_reads_339
                    ·
                      replace hf := ms_iF c14 hf
                      refine lv_iconst (v := 4) hx hb dX12_reads_331 (by decide) (hp_n (n := 332) rfl ?_)
                      refine lv_goto (tgt := 336) hx hb dX12_reads_332 (by decide) ?_
                      refine m_puti (k := 24) (φ := 674) (pc' := 339) C Bh12 Mh11 fl_X12_245 rfl rfl rfl rfl rfl dX12_reads_336 rfl (fun αh16 Hh16 Lh16 σh16 eh16 Bh16 Mh16 => ?_)
                      replace hf := ms_lE eh16 hf
                      cases hf
                      exact q_vret C Bh16 hr hlk ⟨Bh16.2.2, Mh16⟩ dX12_reads_339
                  ·
                    replace hf := ms_iF c13 hf
                    refine lv_aload_n hx hb dX12_reads_260 rfl (lv_at hl 0 rfl) (hp_n (n := 261) rfl ?_)
                    refine lv_aload_n hx hb dX12_reads_261 rfl (lv_at hl 0 rfl) (hp_n (n := 262) rfl ?_)
                    refine m_geti (k := 23) (φ := 673) (pc' := 265) C Bh12 Mh11 fl_X12_239 rfl rfl dX12_reads_262 rfl ?_
                    refine lv_aload_n hx hb dX12_reads_265 rfl (lv_at hl 0 rfl) (hp_n (n := 266) rfl ?_)
                    refine m_geti (k := 22) (φ := 672) (pc' := 269) C Bh12 Mh11 fl_X12_242 rfl rfl dX12_reads_266 rfl ?_
                    refine lv_isub hx hb dX12_reads_269 (hp_n (n := 270) rfl ?_)
                    refine lv_iconst (v := 5) hx hb dX12_reads_270 (by decide) (hp_n (n := 271) rfl ?_)
                    have J301 : ∀ (αh17 : hp_T) (Hh17 : Heap) (Lh17 : List Loc) (Bh17 : hp_B Γ mo s α αh17 Hh17 Lh17) (σh17 : ms_T) (Mh17 : hm_M αh17 a0 ρ σh17) (w0_h17 : Int32) (ls : Array Slot) (hl : lv_has ls 1 [(0, .ref a0)]) (hf : f_X12_reads_J301 n (f_X12_reads_L245 n k245) σh17 w0_h17 = some res), W p l e (hp_rm 2 0 0) s m ([.ref a0] : List Value).toArray below meth c Hh17 Lh17 0 0 (MQ below (hp_Qv Γ (fun β => mo α β ∧ hm_M β a0 ρ res)) ([.ref a0] : List Value).toArray s 0 0 (hp_A Γ)) (F0 m 301 ls [.int w0_h17, .ref a0]) := by
                      intro αh17 Hh17 Lh17 Bh17 σh17 Mh17 w0_h17 ls hl hf
                      unfold f_X12_reads_J301 at hf
                      refine m_puti (k := 25) (φ := 675) (pc' := 304) C Bh17 Mh17 fl_X12_259 rfl rfl rfl rfl rfl dX12_reads_301 rfl (fun αh18 Hh18 Lh18 σh18 eh18 Bh18 Mh18 => ?_)
                      replace hf := ms_lE eh18 hf
                      refine lv_aload_n hx hb dX12_reads_304 rfl (lv_at hl 0 rfl) (hp_n (n := 305) rfl ?_)
                      refine lv_dup hx hb dX12_reads_305 rfl (hp_n (n := 306) rfl ?_)
                      refine m_geti (k := 23) (φ := 673) (pc' := 309) C Bh18 Mh18 fl_X12_239 rfl rfl dX12_reads_306 rfl ?_
                      refine lv_iconst (v := 1) hx hb dX12_reads_309 (by decide) (hp_n (n := 310) rfl ?_)
                      refine lv_iadd hx hb dX12_reads_310 (hp_n (n := 311) rfl ?_)
                      refine m_puti (k := 23) (φ := 673) (pc' := 314) C Bh18 Mh18 fl_X12_239 rfl rfl rfl rfl rfl dX12_reads_311 rfl (fun αh19 Hh19 Lh19 σh19 eh19 Bh19 Mh19 => ?_)
                      replace hf := ms_lE eh19 hf
                      refine lv_goto (tgt := 245) hx hb dX12_reads_314 (by decide) ?_
                      exact ih245 αh19 Hh19 Lh19 Bh19 σh19 Mh19 ls (lv_sub hl [0] rfl) hf
                    refine lv_icmp_ge (tgt := 297) hx hb dX12_reads_271 (by decide) (fun c20 => ?_) (fun c20 => hp_n (n := 274) rfl ?_)
                    ·
                      replace hf := ms_iT c20 hf
                      refine lv_aload_n hx hb dX12_reads_297 rfl (lv_at hl 0 rfl) (hp_n (n := 298) rfl ?_)
                      refine m_geti (k := 25) (φ := 675) (pc' := 301) C Bh12 Mh11 fl_X12_259 rfl rfl dX12_reads_298 rfl ?_
                      exact J301 αh11 Hh12 Lh12 Bh12 σh11 Mh11 (ms_I σh11 675) ls (lv_sub hl [0] rfl) hf
                    ·
                      replace hf := ms_iF c20 hf
                      refine lv_bipush (v := 10) hx hb dX12_reads_274 (by decide) (hp_n (n := 276) rfl ?_)
                      refine lv_aload_n hx hb dX12_reads_276 rfl (lv_at hl 0 rfl) (hp_n (n := 277) rfl ?_)
                      refine m_geti (k := 25) (φ := 675) (pc' := 280) C Bh12 Mh11 fl_X12_259 rfl rfl dX12_reads_277 rfl ?_
                      refine lv_imul hx hb dX12_reads_280 (hp_n (n := 281) rfl ?_)
                      refine lv_aload_n hx hb dX12_reads_281 rfl (lv_at hl 0 rfl) (hp_n (n := 282) rfl ?_)
                      refine m_getr (κ := 47) (k := 16) (pc' := 285) C Bh12 Mh11 fl_X12_31 rfl (by decide) dX12_reads_282 rfl ?_
                      refine lv_aload_n hx hb dX12_reads_285 rfl (lv_at hl 0 rfl) (hp_n (n := 286) rfl ?_)
                      refine m_geti (k := 23) (φ := 673) (pc' := 289) C Bh12 Mh11 fl_X12_239 rfl rfl dX12_reads_286 rfl ?_
                      obtain ⟨g21, hf⟩ := ms_gE hf
                      refine m_bal (κ := 47) (φ := 666) (n := 900) (pc' := 290) C Bh12 Mh11 (by decide) (by decide) rfl g21 dX12_reads_289 rfl ?_
                      refine lv_iadd hx hb dX12_reads_290 (hp_n (n := 291) rfl ?_)
                      refine lv_bipush (v := 48) hx hb dX12_reads_291 (by decide) (hp_n (n := 293) rfl ?_)
                      refine lv_isub hx hb dX12_reads_293 (hp_n (n := 294) rfl ?_)
                      refine lv_goto (tgt := 301) hx hb dX12_reads_294 (by decide) ?_
                      exact J301 αh11 Hh12 Lh12 Bh12 σh11 Mh11 ((((10 : Int32) * (ms_I σh11 675)) + (ms_E σh11 47 ((ms_I σh11 673)).toNatClampNeg)) - (48 : Int32)) ls (lv_sub hl [0] rfl) hf
              refine m_puti (k := 23) (φ := 673) (pc' := 245) C Bh10 Mh10 fl_X12_239 rfl rfl rfl rfl rfl dX12_reads_242 rfl (fun αh22 Hh22 Lh22 σh22 eh22 Bh22 Mh22 => ?_)
              replace hf := ms_lE eh22 hf
              exact J245 n αh22 Hh22 Lh22 Bh22 σh22 Mh22 ls (lv_sub hl [0] rfl) hf
          ·
            replace hf := ms_iF c7 hf
            refine lv_aload_n hx hb dX12_reads_123 rfl (lv_at hl 0 rfl) (hp_n (n := 124) rfl ?_)
            refine lv_iconst (v := 1) hx hb dX12_reads_124 (by decide) (hp_n (n := 125) rfl ?_)
            refine m_puti (k := 24) (φ := 674) (pc' := 128) C Bh6 Mh5 fl_X12_245 rfl rfl rfl rfl rfl dX12_reads_125 rfl (fun αh23 Hh23 Lh23 σh23 eh23 Bh23 Mh23 => ?_)
            replace hf := ms_lE eh23 hf
            refine lv_aload_n hx hb dX12_reads_128 rfl (lv_at hl 0 rfl) (hp_n (n := 129) rfl ?_)
            refine lv_lconst (v := 0) hx hb dX12_reads_129 rfl (hp_n (n := 130) rfl ?_)
            refine m_putl (pc' := 133) C Bh23 Mh23 fl_X12_251 dX12_reads_130 rfl (fun αh24 Hh24 Lh24 σh24 eh24 Bh24 Mh24 => ?_)
            replace hf := ms_lE eh24 hf
            refine lv_aload_n hx hb dX12_reads_133 rfl (lv_at hl 0 rfl) (hp_n (n := 134) rfl ?_)
            refine lv_aload_n hx hb dX12_reads_134 rfl (lv_at hl 0 rfl) (hp_n (n := 135) rfl ?_)
            refine m_geti (k := 22) (φ := 672) (pc' := 138) C Bh24 Mh24 fl_X12_242 rfl rfl dX12_reads_135 rfl ?_
            have J141 : ∀ (k141 : Nat) (αh25 : hp_T) (Hh25 : Heap) (Lh25 : List Loc) (Bh25 : hp_B Γ mo s α αh25 Hh25 Lh25) (σh25 : ms_T) (Mh25 : hm_M αh25 a0 ρ σh25) (ls : Array Slot) (hl : lv_has ls 1 [(0, .ref a0)]) (hf : f_X12_reads_L141 n k141 σh25 = some res), W p l e (hp_rm 2 0 0) s m ([.ref a0] : List Value).toArray below meth c Hh25 Lh25 0 0 (MQ below (hp_Qv Γ (fun β => mo α β ∧ hm_M β a0 ρ res)) ([.ref a0] : List Value).toArray s 0 0 (hp_A Γ)) (F0 m 141 ls []) := by
              intro k141
              induction k141 with
              | zero => intro αh25 Hh25 Lh25 Bh25 σh25 Mh25 ls hl hf; rw [f_X12_reads_L141.eq_1] at hf; cases hf
              | succ k141 ih141 =>
                intro αh25 Hh25 Lh25 Bh25 σh25 Mh25 ls hl hf
                rw [f_X12_reads_L141.eq_2] at hf
                refine lv_aload_n hx hb dX12_reads_141 rfl (lv_at hl 0 rfl) (hp_n (n := 142) rfl ?_)
                refine lv_aload_n hx hb dX12_reads_142 rfl (lv_at hl 0 rfl) (hp_n (n := 143) rfl ?_)
                refine m_geti (k := 23) (φ := 673) (pc' := 146) C Bh25 Mh25 fl_X12_239 rfl rfl dX12_reads_143 rfl ?_
                refine lv_bipush (v := 97) hx hb dX12_reads_146 (by decide) (hp_n (n := 148) rfl ?_)
                refine lv_bipush (v := 122) hx hb dX12_reads_148 (by decide) (hp_n (n := 150) rfl ?_)
                obtain ⟨rh26, qh26, hf⟩ := ms_bE hf
                refine m_cp (pc' := 153) Bh25 (hp_runV (As := [.int (ms_I σh25 673), .int (97 : Int32), .int (122 : Int32)]) (rest := []) C Bh25 (m_X12_isOf n Γ l αh25 a0 ρ σh25 Mh25 (ms_I σh25 673) (97 : Int32) (122 : Int32) rh26 qh26) lb_X12_isOf lv_X12_isOf lk_X12_248 Mh25.1 rfl (by decide) rfl hl.1 rfl (Nat.le_of_ble_eq_true rfl) dX12_reads_150 ⟨Nat.le_refl _, Nat.le_refl _⟩) rfl (fun Hh26 Lh26 Bh26 => ?_)
                refine lv_if_eq (tgt := 339) hx hb dX12_reads_153 (by decide) (fun c27 => ?_) (fun c27 => hp_n (n := 156) rfl ?_)
                ·
                  replace hf := ms_iT c27 hf
                  cases hf
                  exact q_vret C Bh26 hr hlk ⟨Bh26.2.2, Mh25⟩ dX12_reads_339
                ·
                  replace hf := ms_iF c27 hf
                  refine lv_aload_n hx hb dX12_reads_156 rfl (lv_at hl 0 rfl) (hp_n (n := 157) rfl ?_)
                  refine lv_aload_n hx hb dX12_reads_157 rfl (lv_at hl 0 rfl) (hp_n (n := 158) rfl ?_)
                  refine m_geti (k := 23) (φ := 673) (pc' := 161) C Bh26 Mh25 fl_X12_239 rfl rfl dX12_reads_158 rfl ?_
                  refine lv_aload_n hx hb dX12_reads_161 rfl (lv_at hl 0 rfl) (hp_n (n := 162) rfl ?_)
                  refine m_geti (k := 22) (φ := 672) (pc' := 165) C Bh26 Mh25 fl_X12_242 rfl rfl dX12_reads_162 rfl ?_
                  refine lv_isub hx hb dX12_reads_165 (hp_n (n := 166) rfl ?_)
                  refine lv_bipush (v := 8) hx hb dX12_reads_166 (by decide) (hp_n (n := 168) rfl ?_)
                  have J201 : ∀ (αh28 : hp_T) (Hh28 : Heap) (Lh28 : List Loc) (Bh28 : hp_B Γ mo s α αh28 Hh28 Lh28) (σh28 : ms_T) (Mh28 : hm_M αh28 a0 ρ σh28) (w0_h28 : Int64) (ls : Array Slot) (hl : lv_has ls 1 [(0, .ref a0)]) (hf : f_X12_reads_J201 n (f_X12_reads_L141 n k141) σh28 w0_h28 = some res), W p l e (hp_rm 2 0 0) s m ([.ref a0] : List Value).toArray below meth c Hh28 Lh28 0 0 (MQ below (hp_Qv Γ (fun β => mo α β ∧ hm_M β a0 ρ res)) ([.ref a0] : List Value).toArray s 0 0 (hp_A Γ)) (F0 m 201 ls [.long w0_h28, .ref a0]) := by
                    intro αh28 Hh28 Lh28 Bh28 σh28 Mh28 w0_h28 ls hl hf
                    unfold f_X12_reads_J201 at hf
                    refine m_putl (pc' := 204) C Bh28 Mh28 fl_X12_251 dX12_reads_201 rfl (fun αh29 Hh29 Lh29 σh29 eh29 Bh29 Mh29 => ?_)
                    replace hf := ms_lE eh29 hf
                    refine lv_aload_n hx hb dX12_reads_204 rfl (lv_at hl 0 rfl) (hp_n (n := 205) rfl ?_)
                    refine lv_dup hx hb dX12_reads_205 rfl (hp_n (n := 206) rfl ?_)
                    refine m_geti (k := 23) (φ := 673) (pc' := 209) C Bh29 Mh29 fl_X12_239 rfl rfl dX12_reads_206 rfl ?_
                    refine lv_iconst (v := 1) hx hb dX12_reads_209 (by decide) (hp_n (n := 210) rfl ?_)
                    refine lv_iadd hx hb dX12_reads_210 (hp_n (n := 211) rfl ?_)
                    refine m_puti (k := 23) (φ := 673) (pc' := 214) C Bh29 Mh29 fl_X12_239 rfl rfl rfl rfl rfl dX12_reads_211 rfl (fun αh30 Hh30 Lh30 σh30 eh30 Bh30 Mh30 => ?_)
                    replace hf := ms_lE eh30 hf
                    refine lv_goto (tgt := 141) hx hb dX12_reads_214 (by decide) ?_
                    exact ih141 αh30 Hh30 Lh30 Bh30 σh30 Mh30 ls (lv_sub hl [0] rfl) hf
                  refine lv_icmp_ge (tgt := 197) hx hb dX12_reads_168 (by decide) (fun c31 => ?_) (fun c31 => hp_n (n := 171) rfl ?_)
                  ·
                    replace hf := ms_iT c31 hf
                    refine lv_aload_n hx hb dX12_reads_197 rfl (lv_at hl 0 rfl) (hp_n (n := 198) rfl ?_)
                    refine m_getl (pc' := 201) C Bh26 Mh25 fl_X12_251 dX12_reads_198 rfl ?_
                    exact J201 αh25 Hh26 Lh26 Bh26 σh25 Mh25 (ms_J σh25) ls (lv_sub hl [0] rfl) hf
                  ·
                    replace hf := ms_iF c31 hf
                    refine lv_ldc2 hx hb hown (hts _ kc_X12_255) dX12_reads_171 (hp_n (n := 174) rfl ?_)
                    refine lv_aload_n hx hb dX12_reads_174 rfl (lv_at hl 0 rfl) (hp_n (n := 175) rfl ?_)
                    refine m_getl (pc' := 178) C Bh26 Mh25 fl_X12_251 dX12_reads_175 rfl ?_
                    refine lv_lmul hx hb dX12_reads_178 (hp_n (n := 179) rfl ?_)
                    refine lv_aload_n hx hb dX12_reads_179 rfl (lv_at hl 0 rfl) (hp_n (n := 180) rfl ?_)
                    refine m_getr (κ := 47) (k := 16) (pc' := 183) C Bh26 Mh25 fl_X12_31 rfl (by decide) dX12_reads_180 rfl ?_
                    refine lv_aload_n hx hb dX12_reads_183 rfl (lv_at hl 0 rfl) (hp_n (n := 184) rfl ?_)
                    refine m_geti (k := 23) (φ := 673) (pc' := 187) C Bh26 Mh25 fl_X12_239 rfl rfl dX12_reads_184 rfl ?_
                    obtain ⟨g32, hf⟩ := ms_gE hf
                    refine m_bal (κ := 47) (φ := 666) (n := 900) (pc' := 188) C Bh26 Mh25 (by decide) (by decide) rfl g32 dX12_reads_187 rfl ?_
                    refine lv_i2l hx hb dX12_reads_188 rfl (hp_n (n := 189) rfl ?_)
                    refine lv_ladd hx hb dX12_reads_189 (hp_n (n := 190) rfl ?_)
                    refine lv_ldc2 hx hb hown (hts _ kc_X12_257) dX12_reads_190 (hp_n (n := 193) rfl ?_)
                    refine lv_lsub hx hb dX12_reads_193 (hp_n (n := 194) rfl ?_)
                    refine lv_goto (tgt := 201) hx hb dX12_reads_194 (by decide) ?_
                    exact J201 αh25 Hh26 Lh26 Bh26 σh25 Mh25 ((((27 : Int64) * (ms_J σh25)) + ((ms_E σh25 47 ((ms_I σh25 673)).toNatClampNeg)).toInt64) - (96 : Int64)) ls (lv_sub hl [0] rfl) hf
            refine m_puti (k := 23) (φ := 673) (pc' := 141) C Bh24 Mh24 fl_X12_239 rfl rfl rfl rfl rfl dX12_reads_138 rfl (fun αh33 Hh33 Lh33 σh33 eh33 Bh33 Mh33 => ?_)
            replace hf := ms_lE eh33 hf
            exact J141 n αh33 Hh33 Lh33 Bh33 σh33 Mh33 ls (lv_sub hl [0] rfl) hf
        refine lv_icmp_lt (tgt := 86) hx hb dX12_reads_79 (by decide) (fun c34 => ?_) (fun c34 => hp_n (n := 82) rfl ?_)
        ·
          replace hf := ms_iT c34 hf
          refine lv_aload_n hx hb dX12_reads_86 rfl (lv_at hl 0 rfl) (hp_n (n := 87) rfl ?_)
          refine m_getr (κ := 47) (k := 16) (pc' := 90) C Bh3 Mh3 fl_X12_31 rfl (by decide) dX12_reads_87 rfl ?_
          refine lv_aload_n hx hb dX12_reads_90 rfl (lv_at hl 0 rfl) (hp_n (n := 91) rfl ?_)
          refine m_geti (k := 22) (φ := 672) (pc' := 94) C Bh3 Mh3 fl_X12_242 rfl rfl dX12_reads_91 rfl ?_
          obtain ⟨g35, hf⟩ := ms_gE hf
          refine m_bal (κ := 47) (φ := 666) (n := 900) (pc' := 95) C Bh3 Mh3 (by decide) (by decide) rfl g35 dX12_reads_94 rfl ?_
          refine lv_bipush (v := 59) hx hb dX12_reads_95 (by decide) (hp_n (n := 97) rfl ?_)
          refine lv_icmp_ne (tgt := 104) hx hb dX12_reads_97 (by decide) (fun c36 => ?_) (fun c36 => hp_n (n := 100) rfl ?_)
          ·
            replace hf := ms_iF c36 hf
            refine lv_iconst (v := 4) hx hb dX12_reads_104 (by decide) (hp_n (n := 105) rfl ?_)
            exact J105 αh3 Hh3 Lh3 Bh3 σh3 Mh3 (4 : Int32) ls (lv_sub hl [0] rfl) hf
          ·
            replace hf := ms_iT c36 hf
            refine lv_iconst (v := 3) hx hb dX12_reads_100 (by decide) (hp_n (n := 101) rfl ?_)
            refine lv_goto (tgt := 105) hx hb dX12_reads_101 (by decide) ?_
            exact J105 αh3 Hh3 Lh3 Bh3 σh3 Mh3 (3 : Int32) ls (lv_sub hl [0] rfl) hf
        ·
          replace hf := ms_iF c34 hf
          refine lv_iconst (v := 0) hx hb dX12_reads_82 (by decide) (hp_n (n := 83) rfl ?_)
          refine lv_goto (tgt := 105) hx hb dX12_reads_83 (by decide) ?_
          exact J105 αh3 Hh3 Lh3 Bh3 σh3 Mh3 (0 : Int32) ls (lv_sub hl [0] rfl) hf
      refine lv_icmp_ge (tgt := 60) hx hb dX12_reads_16 (by decide) (fun c37 => ?_) (fun c37 => hp_n (n := 19) rfl ?_)
      ·
        replace hf := ms_iT c37 hf
        exact J60 αh1 Hh1 Lh1 Bh1 σh1 Mh1 ls (lv_sub hl [0] rfl) hf
      ·
        replace hf := ms_iF c37 hf
        refine lv_aload_n hx hb dX12_reads_19 rfl (lv_at hl 0 rfl) (hp_n (n := 20) rfl ?_)
        refine m_getr (κ := 47) (k := 16) (pc' := 23) C Bh1 Mh1 fl_X12_31 rfl (by decide) dX12_reads_20 rfl ?_
        refine lv_aload_n hx hb dX12_reads_23 rfl (lv_at hl 0 rfl) (hp_n (n := 24) rfl ?_)
        refine m_geti (k := 22) (φ := 672) (pc' := 27) C Bh1 Mh1 fl_X12_242 rfl rfl dX12_reads_24 rfl ?_
        obtain ⟨g38, hf⟩ := ms_gE hf
        refine m_bal (κ := 47) (φ := 666) (n := 900) (pc' := 28) C Bh1 Mh1 (by decide) (by decide) rfl g38 dX12_reads_27 rfl ?_
        refine lv_bipush (v := 10) hx hb dX12_reads_28 (by decide) (hp_n (n := 30) rfl ?_)
        have J47 : ∀ (αh39 : hp_T) (Hh39 : Heap) (Lh39 : List Loc) (Bh39 : hp_B Γ mo s α αh39 Hh39 Lh39) (σh39 : ms_T) (Mh39 : hm_M αh39 a0 ρ σh39) (ls : Array Slot) (hl : lv_has ls 1 [(0, .ref a0)]) (hf : f_X12_reads_J47 n (f_X12_reads_L8 n k8) σh39 = some res), W p l e (hp_rm 2 0 0) s m ([.ref a0] : List Value).toArray below meth c Hh39 Lh39 0 0 (MQ below (hp_Qv Γ (fun β => mo α β ∧ hm_M β a0 ρ res)) ([.ref a0] : List Value).toArray s 0 0 (hp_A Γ)) (F0 m 47 ls []) := by
          intro αh39 Hh39 Lh39 Bh39 σh39 Mh39 ls hl hf
          unfold f_X12_reads_J47 at hf
          refine lv_aload_n hx hb dX12_reads_47 rfl (lv_at hl 0 rfl) (hp_n (n := 48) rfl ?_)
          refine lv_dup hx hb dX12_reads_48 rfl (hp_n (n := 49) rfl ?_)
          refine m_geti (k := 22) (φ := 672) (pc' := 52) C Bh39 Mh39 fl_X12_242 rfl rfl dX12_reads_49 rfl ?_
          refine lv_iconst (v := 1) hx hb dX12_reads_52 (by decide) (hp_n (n := 53) rfl ?_)
          refine lv_iadd hx hb dX12_reads_53 (hp_n (n := 54) rfl ?_)
          refine m_puti (k := 22) (φ := 672) (pc' := 57) C Bh39 Mh39 fl_X12_242 rfl rfl rfl rfl rfl dX12_reads_54 rfl (fun αh40 Hh40 Lh40 σh40 eh40 Bh40 Mh40 => ?_)
          replace hf := ms_lE eh40 hf
          refine lv_goto (tgt := 8) hx hb dX12_reads_57 (by decide) ?_
          exact ih8 αh40 Hh40 Lh40 Bh40 σh40 Mh40 ls (lv_sub hl [0] rfl) hf
        refine lv_icmp_eq (tgt := 47) hx hb dX12_reads_30 (by decide) (fun c41 => ?_) (fun c41 => hp_n (n := 33) rfl ?_)
        ·
          replace hf := ms_iT c41 hf
          exact J47 αh1 Hh1 Lh1 Bh1 σh1 Mh1 ls (lv_sub hl [0] rfl) hf
        ·
          replace hf := ms_iF c41 hf
          refine lv_aload_n hx hb dX12_reads_33 rfl (lv_at hl 0 rfl) (hp_n (n := 34) rfl ?_)
          refine m_getr (κ := 47) (k := 16) (pc' := 37) C Bh1 Mh1 fl_X12_31 rfl (by decide) dX12_reads_34 rfl ?_
          refine lv_aload_n hx hb dX12_reads_37 rfl (lv_at hl 0 rfl) (hp_n (n := 38) rfl ?_)
          refine m_geti (k := 22) (φ := 672) (pc' := 41) C Bh1 Mh1 fl_X12_242 rfl rfl dX12_reads_38 rfl ?_
          obtain ⟨g42, hf⟩ := ms_gE hf
          refine m_bal (κ := 47) (φ := 666) (n := 900) (pc' := 42) C Bh1 Mh1 (by decide) (by decide) rfl g42 dX12_reads_41 rfl ?_
          refine lv_bipush (v := 32) hx hb dX12_reads_42 (by decide) (hp_n (n := 44) rfl ?_)
          refine lv_icmp_ne (tgt := 60) hx hb dX12_reads_44 (by decide) (fun c43 => ?_) (fun c43 => hp_n (n := 47) rfl ?_)
          ·
            replace hf := ms_iF c43 hf
            exact J60 αh1 Hh1 Lh1 Bh1 σh1 Mh1 ls (lv_sub hl [0] rfl) hf
          ·
            replace hf := ms_iT c43 hf
            exact J47 αh1 Hh1 Lh1 Bh1 σh1 Mh1 ls (lv_sub hl [0] rfl) hf
  refine m_puti (k := 22) (φ := 672) (pc' := 8) C B hM fl_X12_242 rfl rfl rfl rfl rfl dX12_reads_5 rfl (fun αh44 Hh44 Lh44 σh44 eh44 Bh44 Mh44 => ?_)
  replace hf := ms_lE eh44 hf
  exact J8 n αh44 Hh44 Lh44 Bh44 σh44 Mh44 ls (lv_sub hl [0] rfl) hf
def f_X12_must_J31 (n : Nat) (σh3 : ms_T) (w0_h3 : Int32) : Option ms_T :=
  ms_l (ms_sI σh3 670 w0_h3) fun σh4 =>
  ms_l (ms_sI σh4 671 (ms_I σh4 672)) fun σh5 =>
  some σh5
def f_X12_must_J30 (n : Nat) (σh6 : ms_T) (v2_h6 : Int32) : Option ms_T :=
  f_X12_must_J31 n σh6 v2_h6
def f_X12_must (n : Nat) (σ : ms_T) (a1 : Int32) (a2 : Int32) : Option ms_T :=
  if a1 = 0 then
    if (ms_I σ 670) ≤ 0 then
      if a2 = (2 : Int32) then
        if (ms_I σ 674) = (4 : Int32) then
          f_X12_must_J31 n σ (1 : Int32)
        else
          f_X12_must_J30 n σ a2
      else
        f_X12_must_J30 n σ a2
    else
      some σ
  else
    some σ
set_option maxRecDepth 100000 in
set_option maxHeartbeats 4000000 in
theorem m_X12_must (n : Nat) (Γ : hp_G) (l : Launch) (α : hp_T) (a0 : Nat) (ρ : Nat → Nat) (σ : ms_T) (hM : hm_M α a0 ρ σ) (a1 : Int32) (a2 : Int32) (res : ms_T) (hf : f_X12_must n σ a1 a2 = some res) : Met l yX12_must (hp_ws yX12_must cX12_must 3 none) (hp_rm 0 0 0) (hp_Pc Γ α [.ref a0, .int a1, .int a2]) (hp_Qv Γ (fun β => mo α β ∧ hm_M β a0 ρ res)) 0 0 (hp_A Γ) := by
  unfold f_X12_must at hf
  refine hp_start (by decide) ?_
  intro p e s m below meth c C hr hlk B0 hnm
  have C : hp_C Γ p m c cX12_must 3 s ([.ref a0, .int a1, .int a2] : List Value).toArray RX12 := C
  have hx := C.1.1
  have hb := C.1.2.1
  have hown := C.1.2.2.2.1
  have hts := C.1.2.2.2.2
  have B : hp_B Γ mo s α α s.heap [] := ⟨B0.1, B0.2.1, mo_rf⟩
  have hl := lv_entry ([.ref a0, .int a1, .int a2]) (n := 3) (Nat.le_of_ble_eq_true rfl)
  show W p l e (hp_rm 0 0 0) s m ([.ref a0, .int a1, .int a2] : List Value).toArray below meth c s.heap [] 0 0 (MQ below (hp_Qv Γ (fun β => mo α β ∧ hm_M β a0 ρ res)) ([.ref a0, .int a1, .int a2] : List Value).toArray s 0 0 (hp_A Γ)) (entryFrame m ([.ref a0, .int a1, .int a2] : List Value).toArray 3)
  rw [lg_entry_eq]
  generalize (lg_sl ([.ref a0, .int a1, .int a2]) ++ List.replicate (3 - (lg_sl ([.ref a0, .int a1, .int a2])).length) Slot.unset).toArray = ls at hl ⊢
  have hl : lv_has ls 3 [(0, .ref a0), (1, .int a1), (2, .int a2)] := hl
  refine lv_iload_n hx hb dX12_must_0 rfl (lv_at hl 1 rfl) (hp_n (n := 1) rfl ?_)
  refine lv_if_ne (tgt := 11) hx hb dX12_must_1 (by decide) (fun c1 => ?_) (fun c1 => hp_n (n := 4) rfl ?_)
  ·
    replace hf := ms_iF c1 hf
    cases hf
    exact q_vret C B hr hlk ⟨B.2.2, hM⟩ dX12_must_11
  ·
    replace hf := ms_iT c1 hf
    refine lv_aload_n hx hb dX12_must_4 rfl (lv_at hl 0 rfl) (hp_n (n := 5) rfl ?_)
    refine m_geti (k := 20) (φ := 670) (pc' := 8) C B hM fl_X12_262 rfl rfl dX12_must_5 rfl ?_
    refine lv_if_le (tgt := 12) hx hb dX12_must_8 (by decide) (fun c2 => ?_) (fun c2 => hp_n (n := 11) rfl ?_)
    ·
      replace hf := ms_iT c2 hf
      refine lv_aload_n hx hb dX12_must_12 rfl (lv_at hl 0 rfl) (hp_n (n := 13) rfl ?_)
      refine lv_iload_n hx hb dX12_must_13 rfl (lv_at hl 2 rfl) (hp_n (n := 14) rfl ?_)
      refine lv_iconst (v := 2) hx hb dX12_must_14 (by decide) (hp_n (n := 15) rfl ?_)
      have J31 : ∀ (αh3 : hp_T) (Hh3 : Heap) (Lh3 : List Loc) (Bh3 : hp_B Γ mo s α αh3 Hh3 Lh3) (σh3 : ms_T) (Mh3 : hm_M αh3 a0 ρ σh3) (w0_h3 : Int32) (ls : Array Slot) (hl : lv_has ls 3 [(0, .ref a0)]) (hf : f_X12_must_J31 n σh3 w0_h3 = some res), W p l e (hp_rm 0 0 0) s m ([.ref a0, .int a1, .int a2] : List Value).toArray below meth c Hh3 Lh3 0 0 (MQ below (hp_Qv Γ (fun β => mo α β ∧ hm_M β a0 ρ res)) ([.ref a0, .int a1, .int a2] : List Value).toArray s 0 0 (hp_A Γ)) (F0 m 31 ls [.int w0_h3, .ref a0]) := by
        intro αh3 Hh3 Lh3 Bh3 σh3 Mh3 w0_h3 ls hl hf
        unfold f_X12_must_J31 at hf
        refine m_puti (k := 20) (φ := 670) (pc' := 34) C Bh3 Mh3 fl_X12_262 rfl rfl rfl rfl rfl dX12_must_31 rfl (fun αh4 Hh4 Lh4 σh4 eh4 Bh4 Mh4 => ?_)
        replace hf := ms_lE eh4 hf
        refine lv_aload_n hx hb dX12_must_34 rfl (lv_at hl 0 rfl) (hp_n (n := 35) rfl ?_)
        refine lv_aload_n hx hb dX12_must_35 rfl (lv_at hl 0 rfl) (hp_n (n := 36) rfl ?_)
        refine m_geti (k := 22) (φ := 672) (pc' := 39) C Bh4 Mh4 fl_X12_242 rfl rfl dX12_must_36 rfl ?_
        refine m_puti (k := 21) (φ := 671) (pc' := 42) C Bh4 Mh4 fl_X12_265 rfl rfl rfl rfl rfl dX12_must_39 rfl (fun αh5 Hh5 Lh5 σh5 eh5 Bh5 Mh5 => ?_)
        replace hf := ms_lE eh5 hf
        cases hf
        exact q_vret C Bh5 hr hlk ⟨Bh5.2.2, Mh5⟩ dX12_must_42
      have J30 : ∀ (αh6 : hp_T) (Hh6 : Heap) (Lh6 : List Loc) (Bh6 : hp_B Γ mo s α αh6 Hh6 Lh6) (σh6 : ms_T) (Mh6 : hm_M αh6 a0 ρ σh6) (v2_h6 : Int32) (ls : Array Slot) (hl : lv_has ls 3 [(0, .ref a0), (2, .int v2_h6)]) (hf : f_X12_must_J30 n σh6 v2_h6 = some res), W p l e (hp_rm 0 0 0) s m ([.ref a0, .int a1, .int a2] : List Value).toArray below meth c Hh6 Lh6 0 0 (MQ below (hp_Qv Γ (fun β => mo α β ∧ hm_M β a0 ρ res)) ([.ref a0, .int a1, .int a2] : List Value).toArray s 0 0 (hp_A Γ)) (F0 m 30 ls [.ref a0]) := by
        intro αh6 Hh6 Lh6 Bh6 σh6 Mh6 v2_h6 ls hl hf
        unfold f_X12_must_J30 at hf
        refine lv_iload_n hx hb dX12_must_30 rfl (lv_at hl 1 rfl) (hp_n (n := 31) rfl ?_)
        exact J31 αh6 Hh6 Lh6 Bh6 σh6 Mh6 v2_h6 ls (lv_sub hl [0] rfl) hf
      refine lv_icmp_ne (tgt := 30) hx hb dX12_must_15 (by decide) (fun c7 => ?_) (fun c7 => hp_n (n := 18) rfl ?_)
      ·
        replace hf := ms_iF c7 hf
        exact J30 α s.heap [] B σ hM a2 ls (lv_sub hl [0, 2] rfl) hf
      ·
        replace hf := ms_iT c7 hf
        refine lv_aload_n hx hb dX12_must_18 rfl (lv_at hl 0 rfl) (hp_n (n := 19) rfl ?_)
        refine m_geti (k := 24) (φ := 674) (pc' := 22) C B hM fl_X12_245 rfl rfl dX12_must_19 rfl ?_
        refine lv_iconst (v := 4) hx hb dX12_must_22 (by decide) (hp_n (n := 23) rfl ?_)
        refine lv_icmp_ne (tgt := 30) hx hb dX12_must_23 (by decide) (fun c8 => ?_) (fun c8 => hp_n (n := 26) rfl ?_)
        ·
          replace hf := ms_iF c8 hf
          exact J30 α s.heap [] B σ hM a2 ls (lv_sub hl [0, 2] rfl) hf
        ·
          replace hf := ms_iT c8 hf
          refine lv_iconst (v := 1) hx hb dX12_must_26 (by decide) (hp_n (n := 27) rfl ?_)
          refine lv_goto (tgt := 31) hx hb dX12_must_27 (by decide) ?_
          exact J31 α s.heap [] B σ hM (1 : Int32) ls (lv_sub hl [0] rfl) hf
    ·
      replace hf := ms_iF c2 hf
      cases hf
      exact q_vret C B hr hlk ⟨B.2.2, hM⟩ dX12_must_11
def f_X12_isWord (n : Nat) (σ : ms_T) (a1 : Int32) : Option Int32 :=
  if (ms_I σ 670) = 0 then
    if (ms_I σ 674) = (1 : Int32) then
      ms_g a1 12 <|
      if (lg_cmp (ms_J σ) (ms_w (a1).toNatClampNeg)) = 0 then
        if (8 : Int32) < ((ms_I σ 673) - (ms_I σ 672)) then
          some (0 : Int32)
        else
          some (1 : Int32)
      else
        some (0 : Int32)
    else
      some (0 : Int32)
  else
    some (0 : Int32)
set_option maxRecDepth 100000 in
set_option maxHeartbeats 4000000 in
theorem m_X12_isWord (n : Nat) (Γ : hp_G) (l : Launch) (α : hp_T) (a0 : Nat) (ρ : Nat → Nat) (σ : ms_T) (hM : hm_M α a0 ρ σ) (a1 : Int32) (res : Int32) (hf : f_X12_isWord n σ a1 = some res) : Met l yX12_isWord (hp_ws yX12_isWord cX12_isWord 2 (some .boolean)) (hp_rm 0 0 0) (hp_Pc Γ α [.ref a0, .int a1]) (hp_Qi Γ (fun r β => β = α ∧ r = res)) 0 0 (hp_A Γ) := by
  unfold f_X12_isWord at hf
  refine hp_start (by decide) ?_
  intro p e s m below meth c C hr hlk B0 hnm
  have C : hp_C Γ p m c cX12_isWord 2 s ([.ref a0, .int a1] : List Value).toArray RX12 := C
  have hx := C.1.1
  have hb := C.1.2.1
  have hown := C.1.2.2.2.1
  have hts := C.1.2.2.2.2
  have B : hp_B Γ (fun _ _ => True) s α α s.heap [] := ⟨B0.1, B0.2.1, trivial⟩
  have hl := lv_entry ([.ref a0, .int a1]) (n := 2) (Nat.le_of_ble_eq_true rfl)
  show W p l e (hp_rm 0 0 0) s m ([.ref a0, .int a1] : List Value).toArray below meth c s.heap [] 0 0 (MQ below (hp_Qi Γ (fun r β => β = α ∧ r = res)) ([.ref a0, .int a1] : List Value).toArray s 0 0 (hp_A Γ)) (entryFrame m ([.ref a0, .int a1] : List Value).toArray 2)
  rw [lg_entry_eq]
  generalize (lg_sl ([.ref a0, .int a1]) ++ List.replicate (2 - (lg_sl ([.ref a0, .int a1])).length) Slot.unset).toArray = ls at hl ⊢
  have hl : lv_has ls 2 [(0, .ref a0), (1, .int a1)] := hl
  refine lv_aload_n hx hb dX12_isWord_0 rfl (lv_at hl 0 rfl) (hp_n (n := 1) rfl ?_)
  refine m_geti (k := 20) (φ := 670) (pc' := 4) C B hM fl_X12_262 rfl rfl dX12_isWord_1 rfl ?_
  refine lv_if_ne (tgt := 47) hx hb dX12_isWord_4 (by decide) (fun c1 => ?_) (fun c1 => hp_n (n := 7) rfl ?_)
  ·
    replace hf := ms_iF c1 hf
    refine lv_iconst (v := 0) hx hb dX12_isWord_47 (by decide) (hp_n (n := 48) rfl ?_)
    cases hf
    exact q_zret C B hr hlk (by decide) ⟨rfl, rfl⟩ dX12_isWord_48
  ·
    replace hf := ms_iT c1 hf
    refine lv_aload_n hx hb dX12_isWord_7 rfl (lv_at hl 0 rfl) (hp_n (n := 8) rfl ?_)
    refine m_geti (k := 24) (φ := 674) (pc' := 11) C B hM fl_X12_245 rfl rfl dX12_isWord_8 rfl ?_
    refine lv_iconst (v := 1) hx hb dX12_isWord_11 (by decide) (hp_n (n := 12) rfl ?_)
    refine lv_icmp_ne (tgt := 47) hx hb dX12_isWord_12 (by decide) (fun c2 => ?_) (fun c2 => hp_n (n := 15) rfl ?_)
    ·
      replace hf := ms_iF c2 hf
      refine lv_iconst (v := 0) hx hb dX12_isWord_47 (by decide) (hp_n (n := 48) rfl ?_)
      cases hf
      exact q_zret C B hr hlk (by decide) ⟨rfl, rfl⟩ dX12_isWord_48
    ·
      replace hf := ms_iT c2 hf
      refine lv_aload_n hx hb dX12_isWord_15 rfl (lv_at hl 0 rfl) (hp_n (n := 16) rfl ?_)
      refine m_getl (pc' := 19) C B hM fl_X12_251 dX12_isWord_16 rfl ?_
      refine lv_aload_n hx hb dX12_isWord_19 rfl (lv_at hl 0 rfl) (hp_n (n := 20) rfl ?_)
      refine m_getr (κ := 48) (k := 28) (pc' := 23) C B hM fl_X12_66 rfl (by decide) dX12_isWord_20 rfl ?_
      refine lv_iload_n hx hb dX12_isWord_23 rfl (lv_at hl 1 rfl) (hp_n (n := 24) rfl ?_)
      obtain ⟨g3, hf⟩ := ms_gE hf
      refine m_lal (pc' := 25) C B hM g3 dX12_isWord_24 rfl ?_
      refine W.lcmp hx hb dX12_isWord_25 (hp_n (n := 26) rfl ?_)
      refine lv_if_ne (tgt := 47) hx hb dX12_isWord_26 (by decide) (fun c4 => ?_) (fun c4 => hp_n (n := 29) rfl ?_)
      ·
        replace hf := ms_iF c4 hf
        refine lv_iconst (v := 0) hx hb dX12_isWord_47 (by decide) (hp_n (n := 48) rfl ?_)
        cases hf
        exact q_zret C B hr hlk (by decide) ⟨rfl, rfl⟩ dX12_isWord_48
      ·
        replace hf := ms_iT c4 hf
        refine lv_aload_n hx hb dX12_isWord_29 rfl (lv_at hl 0 rfl) (hp_n (n := 30) rfl ?_)
        refine m_geti (k := 23) (φ := 673) (pc' := 33) C B hM fl_X12_239 rfl rfl dX12_isWord_30 rfl ?_
        refine lv_aload_n hx hb dX12_isWord_33 rfl (lv_at hl 0 rfl) (hp_n (n := 34) rfl ?_)
        refine m_geti (k := 22) (φ := 672) (pc' := 37) C B hM fl_X12_242 rfl rfl dX12_isWord_34 rfl ?_
        refine lv_isub hx hb dX12_isWord_37 (hp_n (n := 38) rfl ?_)
        refine lv_bipush (v := 8) hx hb dX12_isWord_38 (by decide) (hp_n (n := 40) rfl ?_)
        refine lv_icmp_gt (tgt := 47) hx hb dX12_isWord_40 (by decide) (fun c5 => ?_) (fun c5 => hp_n (n := 43) rfl ?_)
        ·
          replace hf := ms_iT c5 hf
          refine lv_iconst (v := 0) hx hb dX12_isWord_47 (by decide) (hp_n (n := 48) rfl ?_)
          cases hf
          exact q_zret C B hr hlk (by decide) ⟨rfl, rfl⟩ dX12_isWord_48
        ·
          replace hf := ms_iF c5 hf
          refine lv_iconst (v := 1) hx hb dX12_isWord_43 (by decide) (hp_n (n := 44) rfl ?_)
          refine lv_goto (tgt := 48) hx hb dX12_isWord_44 (by decide) ?_
          cases hf
          exact q_zret C B hr hlk (by decide) ⟨rfl, rfl⟩ dX12_isWord_48
def f_X12_takes (n : Nat) (σ : ms_T) (a1 : Int32) : Option ms_T :=
  ms_b (f_X12_isWord n σ a1) fun rh1 =>
  ms_b (f_X12_must n σ rh1 (2 : Int32)) fun σh2 =>
  if (ms_I σh2 670) = 0 then
    ms_b (f_X12_reads n σh2) fun σh4 =>
    some σh4
  else
    some σh2
set_option maxRecDepth 100000 in
set_option maxHeartbeats 4000000 in
theorem m_X12_takes (n : Nat) (Γ : hp_G) (l : Launch) (α : hp_T) (a0 : Nat) (ρ : Nat → Nat) (σ : ms_T) (hM : hm_M α a0 ρ σ) (a1 : Int32) (res : ms_T) (hf : f_X12_takes n σ a1 = some res) : Met l yX12_takes (hp_ws yX12_takes cX12_takes 2 none) (hp_rm 3 0 0) (hp_Pc Γ α [.ref a0, .int a1]) (hp_Qv Γ (fun β => mo α β ∧ hm_M β a0 ρ res)) 0 0 (hp_A Γ) := by
  unfold f_X12_takes at hf
  refine hp_start (by decide) ?_
  intro p e s m below meth c C hr hlk B0 hnm
  have C : hp_C Γ p m c cX12_takes 2 s ([.ref a0, .int a1] : List Value).toArray RX12 := C
  have hx := C.1.1
  have hb := C.1.2.1
  have hown := C.1.2.2.2.1
  have hts := C.1.2.2.2.2
  have B : hp_B Γ mo s α α s.heap [] := ⟨B0.1, B0.2.1, mo_rf⟩
  have hl := lv_entry ([.ref a0, .int a1]) (n := 2) (Nat.le_of_ble_eq_true rfl)
  show W p l e (hp_rm 3 0 0) s m ([.ref a0, .int a1] : List Value).toArray below meth c s.heap [] 0 0 (MQ below (hp_Qv Γ (fun β => mo α β ∧ hm_M β a0 ρ res)) ([.ref a0, .int a1] : List Value).toArray s 0 0 (hp_A Γ)) (entryFrame m ([.ref a0, .int a1] : List Value).toArray 2)
  rw [lg_entry_eq]
  generalize (lg_sl ([.ref a0, .int a1]) ++ List.replicate (2 - (lg_sl ([.ref a0, .int a1])).length) Slot.unset).toArray = ls at hl ⊢
  have hl : lv_has ls 2 [(0, .ref a0), (1, .int a1)] := hl
  refine lv_aload_n hx hb dX12_takes_0 rfl (lv_at hl 0 rfl) (hp_n (n := 1) rfl ?_)
  refine lv_aload_n hx hb dX12_takes_1 rfl (lv_at hl 0 rfl) (hp_n (n := 2) rfl ?_)
  refine lv_iload_n hx hb dX12_takes_2 rfl (lv_at hl 1 rfl) (hp_n (n := 3) rfl ?_)
  obtain ⟨rh1, qh1, hf⟩ := ms_bE hf
  refine m_cp (pc' := 6) B (hp_runV (As := [.int a1]) (rest := [.ref a0]) C B (m_X12_isWord n Γ l α a0 ρ σ hM a1 rh1 qh1) lb_X12_isWord lv_X12_isWord lk_X12_268 hM.1 rfl (by decide) rfl hl.1 rfl (Nat.le_of_ble_eq_true rfl) dX12_takes_3 ⟨Nat.le_refl _, Nat.le_refl _⟩) rfl (fun Hh1 Lh1 Bh1 => ?_)
  refine lv_iconst (v := 2) hx hb dX12_takes_6 (by decide) (hp_n (n := 7) rfl ?_)
  obtain ⟨σh2, qh2, hf⟩ := ms_bE hf
  refine m_cv (pc' := 10) (a := a0) (ρ := ρ) Bh1 (hp_runV (As := [.int rh1, .int (2 : Int32)]) (rest := []) C Bh1 (m_X12_must n Γ l α a0 ρ σ hM rh1 (2 : Int32) σh2 qh2) lb_X12_must lv_X12_must lk_X12_272 hM.1 rfl (by decide) rfl hl.1 rfl (Nat.le_of_ble_eq_true rfl) dX12_takes_7 ⟨Nat.le_refl _, Nat.le_refl _⟩) rfl (fun αh2 Hh2 Lh2 Bh2 Mh2 => ?_)
  refine lv_aload_n hx hb dX12_takes_10 rfl (lv_at hl 0 rfl) (hp_n (n := 11) rfl ?_)
  refine m_geti (k := 20) (φ := 670) (pc' := 14) C Bh2 Mh2 fl_X12_262 rfl rfl dX12_takes_11 rfl ?_
  refine lv_if_ne (tgt := 21) hx hb dX12_takes_14 (by decide) (fun c3 => ?_) (fun c3 => hp_n (n := 17) rfl ?_)
  ·
    replace hf := ms_iF c3 hf
    cases hf
    exact q_vret C Bh2 hr hlk ⟨Bh2.2.2, Mh2⟩ dX12_takes_21
  ·
    replace hf := ms_iT c3 hf
    refine lv_aload_n hx hb dX12_takes_17 rfl (lv_at hl 0 rfl) (hp_n (n := 18) rfl ?_)
    obtain ⟨σh4, qh4, hf⟩ := ms_bE hf
    refine m_cv (pc' := 21) (a := a0) (ρ := ρ) Bh2 (hp_runV (As := []) (rest := []) C Bh2 (m_X12_reads n Γ l αh2 a0 ρ σh2 Mh2  σh4 qh4) lb_X12_reads lv_X12_reads lk_X12_276 Mh2.1 rfl (by decide) rfl hl.1 rfl (Nat.le_of_ble_eq_true rfl) dX12_takes_18 ⟨Nat.le_refl _, Nat.le_refl _⟩) rfl (fun αh4 Hh4 Lh4 Bh4 Mh4 => ?_)
    cases hf
    exact q_vret C Bh4 hr hlk ⟨Bh4.2.2, Mh4⟩ dX12_takes_21
def f_X12_takesEnd_J14 (n : Nat) (σh1 : ms_T) (w0_h1 : Int32) : Option ms_T :=
  ms_b (f_X12_must n σh1 w0_h1 (2 : Int32)) fun σh2 =>
  if (ms_I σh2 670) = 0 then
    ms_b (f_X12_reads n σh2) fun σh4 =>
    some σh4
  else
    some σh2
def f_X12_takesEnd (n : Nat) (σ : ms_T) : Option ms_T :=
  if (ms_I σ 674) = (3 : Int32) then
    f_X12_takesEnd_J14 n σ (1 : Int32)
  else
    f_X12_takesEnd_J14 n σ (0 : Int32)
set_option maxRecDepth 100000 in
set_option maxHeartbeats 4000000 in
theorem m_X12_takesEnd (n : Nat) (Γ : hp_G) (l : Launch) (α : hp_T) (a0 : Nat) (ρ : Nat → Nat) (σ : ms_T) (hM : hm_M α a0 ρ σ)  (res : ms_T) (hf : f_X12_takesEnd n σ = some res) : Met l yX12_takesEnd (hp_ws yX12_takesEnd cX12_takesEnd 1 none) (hp_rm 3 0 0) (hp_Pc Γ α [.ref a0]) (hp_Qv Γ (fun β => mo α β ∧ hm_M β a0 ρ res)) 0 0 (hp_A Γ) := by
  unfold f_X12_takesEnd at hf
  refine hp_start (by decide) ?_
  intro p e s m below meth c C hr hlk B0 hnm
  have C : hp_C Γ p m c cX12_takesEnd 1 s ([.ref a0] : List Value).toArray RX12 := C
  have hx := C.1.1
  have hb := C.1.2.1
  have hown := C.1.2.2.2.1
  have hts := C.1.2.2.2.2
  have B : hp_B Γ mo s α α s.heap [] := ⟨B0.1, B0.2.1, mo_rf⟩
  have hl := lv_entry ([.ref a0]) (n := 1) (Nat.le_of_ble_eq_true rfl)
  show W p l e (hp_rm 3 0 0) s m ([.ref a0] : List Value).toArray below meth c s.heap [] 0 0 (MQ below (hp_Qv Γ (fun β => mo α β ∧ hm_M β a0 ρ res)) ([.ref a0] : List Value).toArray s 0 0 (hp_A Γ)) (entryFrame m ([.ref a0] : List Value).toArray 1)
  rw [lg_entry_eq]
  generalize (lg_sl ([.ref a0]) ++ List.replicate (1 - (lg_sl ([.ref a0])).length) Slot.unset).toArray = ls at hl ⊢
  have hl : lv_has ls 1 [(0, .ref a0)] := hl
  refine lv_aload_n hx hb dX12_takesEnd_0 rfl (lv_at hl 0 rfl) (hp_n (n := 1) rfl ?_)
  refine lv_aload_n hx hb dX12_takesEnd_1 rfl (lv_at hl 0 rfl) (hp_n (n := 2) rfl ?_)
  refine m_geti (k := 24) (φ := 674) (pc' := 5) C B hM fl_X12_245 rfl rfl dX12_takesEnd_2 rfl ?_
  refine lv_iconst (v := 3) hx hb dX12_takesEnd_5 (by decide) (hp_n (n := 6) rfl ?_)
  have J14 : ∀ (αh1 : hp_T) (Hh1 : Heap) (Lh1 : List Loc) (Bh1 : hp_B Γ mo s α αh1 Hh1 Lh1) (σh1 : ms_T) (Mh1 : hm_M αh1 a0 ρ σh1) (w0_h1 : Int32) (ls : Array Slot) (hl : lv_has ls 1 [(0, .ref a0)]) (hf : f_X12_takesEnd_J14 n σh1 w0_h1 = some res), W p l e (hp_rm 3 0 0) s m ([.ref a0] : List Value).toArray below meth c Hh1 Lh1 0 0 (MQ below (hp_Qv Γ (fun β => mo α β ∧ hm_M β a0 ρ res)) ([.ref a0] : List Value).toArray s 0 0 (hp_A Γ)) (F0 m 14 ls [.int w0_h1, .ref a0]) := by
    intro αh1 Hh1 Lh1 Bh1 σh1 Mh1 w0_h1 ls hl hf
    unfold f_X12_takesEnd_J14 at hf
    refine lv_iconst (v := 2) hx hb dX12_takesEnd_14 (by decide) (hp_n (n := 15) rfl ?_)
    obtain ⟨σh2, qh2, hf⟩ := ms_bE hf
    refine m_cv (pc' := 18) (a := a0) (ρ := ρ) Bh1 (hp_runV (As := [.int w0_h1, .int (2 : Int32)]) (rest := []) C Bh1 (m_X12_must n Γ l αh1 a0 ρ σh1 Mh1 w0_h1 (2 : Int32) σh2 qh2) lb_X12_must lv_X12_must lk_X12_272 Mh1.1 rfl (by decide) rfl hl.1 rfl (Nat.le_of_ble_eq_true rfl) dX12_takesEnd_15 ⟨Nat.le_refl _, Nat.le_refl _⟩) rfl (fun αh2 Hh2 Lh2 Bh2 Mh2 => ?_)
    refine lv_aload_n hx hb dX12_takesEnd_18 rfl (lv_at hl 0 rfl) (hp_n (n := 19) rfl ?_)
    refine m_geti (k := 20) (φ := 670) (pc' := 22) C Bh2 Mh2 fl_X12_262 rfl rfl dX12_takesEnd_19 rfl ?_
    refine lv_if_ne (tgt := 29) hx hb dX12_takesEnd_22 (by decide) (fun c3 => ?_) (fun c3 => hp_n (n := 25) rfl ?_)
    ·
      replace hf := ms_iF c3 hf
      cases hf
      exact q_vret C Bh2 hr hlk ⟨Bh2.2.2, Mh2⟩ dX12_takesEnd_29
    ·
      replace hf := ms_iT c3 hf
      refine lv_aload_n hx hb dX12_takesEnd_25 rfl (lv_at hl 0 rfl) (hp_n (n := 26) rfl ?_)
      obtain ⟨σh4, qh4, hf⟩ := ms_bE hf
      refine m_cv (pc' := 29) (a := a0) (ρ := ρ) Bh2 (hp_runV (As := []) (rest := []) C Bh2 (m_X12_reads n Γ l αh2 a0 ρ σh2 Mh2  σh4 qh4) lb_X12_reads lv_X12_reads lk_X12_276 Mh2.1 rfl (by decide) rfl hl.1 rfl (Nat.le_of_ble_eq_true rfl) dX12_takesEnd_26 ⟨Nat.le_refl _, Nat.le_refl _⟩) rfl (fun αh4 Hh4 Lh4 Bh4 Mh4 => ?_)
      cases hf
      exact q_vret C Bh4 hr hlk ⟨Bh4.2.2, Mh4⟩ dX12_takesEnd_29
  refine lv_icmp_ne (tgt := 13) hx hb dX12_takesEnd_6 (by decide) (fun c5 => ?_) (fun c5 => hp_n (n := 9) rfl ?_)
  ·
    replace hf := ms_iF c5 hf
    refine lv_iconst (v := 0) hx hb dX12_takesEnd_13 (by decide) (hp_n (n := 14) rfl ?_)
    exact J14 α s.heap [] B σ hM (0 : Int32) ls (lv_sub hl [0] rfl) hf
  ·
    replace hf := ms_iT c5 hf
    refine lv_iconst (v := 1) hx hb dX12_takesEnd_9 (by decide) (hp_n (n := 10) rfl ?_)
    refine lv_goto (tgt := 14) hx hb dX12_takesEnd_10 (by decide) ?_
    exact J14 α s.heap [] B σ hM (1 : Int32) ls (lv_sub hl [0] rfl) hf
def f_X12_takesNumber_J14 (n : Nat) (σh1 : ms_T) (v1_h1 : Int32) (v2_h1 : Int32) (w0_h1 : Int32) : Option (Int32 × ms_T) :=
  ms_b (f_X12_must n σh1 w0_h1 (2 : Int32)) fun σh2 =>
  ms_b (f_X12_isIn n (ms_I σh2 675) v1_h1 v2_h1) fun rh3 =>
  ms_b (f_X12_must n σh2 rh3 (3 : Int32)) fun σh4 =>
  ms_l ((ms_I σh4 675)) fun x5 =>
  if (ms_I σh4 670) = 0 then
    ms_b (f_X12_reads n σh4) fun σh7 =>
    some (x5, σh7)
  else
    some (x5, σh4)
def f_X12_takesNumber (n : Nat) (σ : ms_T) (a1 : Int32) (a2 : Int32) : Option (Int32 × ms_T) :=
  if (ms_I σ 674) = (2 : Int32) then
    f_X12_takesNumber_J14 n σ a1 a2 (1 : Int32)
  else
    f_X12_takesNumber_J14 n σ a1 a2 (0 : Int32)
set_option maxRecDepth 100000 in
set_option maxHeartbeats 4000000 in
theorem m_X12_takesNumber (n : Nat) (Γ : hp_G) (l : Launch) (α : hp_T) (a0 : Nat) (ρ : Nat → Nat) (σ : ms_T) (hM : hm_M α a0 ρ σ) (a1 : Int32) (a2 : Int32) (res : (Int32 × ms_T)) (hf : f_X12_takesNumber n σ a1 a2 = some res) : Met l yX12_takesNumber (hp_ws yX12_takesNumber cX12_takesNumber 4 (some .int)) (hp_rm 3 0 0) (hp_Pc Γ α [.ref a0, .int a1, .int a2]) (hp_Qi Γ (fun r β => r = res.1 ∧ mo α β ∧ hm_M β a0 ρ res.2)) 0 0 (hp_A Γ) := by
  unfold f_X12_takesNumber at hf
  refine hp_start (by decide) ?_
  intro p e s m below meth c C hr hlk B0 hnm
  have C : hp_C Γ p m c cX12_takesNumber 4 s ([.ref a0, .int a1, .int a2] : List Value).toArray RX12 := C
  have hx := C.1.1
  have hb := C.1.2.1
  have hown := C.1.2.2.2.1
  have hts := C.1.2.2.2.2
  have B : hp_B Γ mo s α α s.heap [] := ⟨B0.1, B0.2.1, mo_rf⟩
  have hl := lv_entry ([.ref a0, .int a1, .int a2]) (n := 4) (Nat.le_of_ble_eq_true rfl)
  show W p l e (hp_rm 3 0 0) s m ([.ref a0, .int a1, .int a2] : List Value).toArray below meth c s.heap [] 0 0 (MQ below (hp_Qi Γ (fun r β => r = res.1 ∧ mo α β ∧ hm_M β a0 ρ res.2)) ([.ref a0, .int a1, .int a2] : List Value).toArray s 0 0 (hp_A Γ)) (entryFrame m ([.ref a0, .int a1, .int a2] : List Value).toArray 4)
  rw [lg_entry_eq]
  generalize (lg_sl ([.ref a0, .int a1, .int a2]) ++ List.replicate (4 - (lg_sl ([.ref a0, .int a1, .int a2])).length) Slot.unset).toArray = ls at hl ⊢
  have hl : lv_has ls 4 [(0, .ref a0), (1, .int a1), (2, .int a2)] := hl
  refine lv_aload_n hx hb dX12_takesNumber_0 rfl (lv_at hl 0 rfl) (hp_n (n := 1) rfl ?_)
  refine lv_aload_n hx hb dX12_takesNumber_1 rfl (lv_at hl 0 rfl) (hp_n (n := 2) rfl ?_)
  refine m_geti (k := 24) (φ := 674) (pc' := 5) C B hM fl_X12_245 rfl rfl dX12_takesNumber_2 rfl ?_
  refine lv_iconst (v := 2) hx hb dX12_takesNumber_5 (by decide) (hp_n (n := 6) rfl ?_)
  have J14 : ∀ (αh1 : hp_T) (Hh1 : Heap) (Lh1 : List Loc) (Bh1 : hp_B Γ mo s α αh1 Hh1 Lh1) (σh1 : ms_T) (Mh1 : hm_M αh1 a0 ρ σh1) (v1_h1 : Int32) (v2_h1 : Int32) (w0_h1 : Int32) (ls : Array Slot) (hl : lv_has ls 4 [(0, .ref a0), (1, .int v1_h1), (2, .int v2_h1)]) (hf : f_X12_takesNumber_J14 n σh1 v1_h1 v2_h1 w0_h1 = some res), W p l e (hp_rm 3 0 0) s m ([.ref a0, .int a1, .int a2] : List Value).toArray below meth c Hh1 Lh1 0 0 (MQ below (hp_Qi Γ (fun r β => r = res.1 ∧ mo α β ∧ hm_M β a0 ρ res.2)) ([.ref a0, .int a1, .int a2] : List Value).toArray s 0 0 (hp_A Γ)) (F0 m 14 ls [.int w0_h1, .ref a0]) := by
    intro αh1 Hh1 Lh1 Bh1 σh1 Mh1 v1_h1 v2_h1 w0_h1 ls hl hf
    unfold f_X12_takesNumber_J14 at hf
    refine lv_iconst (v := 2) hx hb dX12_takesNumber_14 (by decide) (hp_n (n := 15) rfl ?_)
    obtain ⟨σh2, qh2, hf⟩ := ms_bE hf
    refine m_cv (pc' := 18) (a := a0) (ρ := ρ) Bh1 (hp_runV (As := [.int w0_h1, .int (2 : Int32)]) (rest := []) C Bh1 (m_X12_must n Γ l αh1 a0 ρ σh1 Mh1 w0_h1 (2 : Int32) σh2 qh2) lb_X12_must lv_X12_must lk_X12_272 Mh1.1 rfl (by decide) rfl hl.1 rfl (Nat.le_of_ble_eq_true rfl) dX12_takesNumber_15 ⟨Nat.le_refl _, Nat.le_refl _⟩) rfl (fun αh2 Hh2 Lh2 Bh2 Mh2 => ?_)
    refine lv_aload_n hx hb dX12_takesNumber_18 rfl (lv_at hl 0 rfl) (hp_n (n := 19) rfl ?_)
    refine lv_aload_n hx hb dX12_takesNumber_19 rfl (lv_at hl 0 rfl) (hp_n (n := 20) rfl ?_)
    refine m_geti (k := 25) (φ := 675) (pc' := 23) C Bh2 Mh2 fl_X12_259 rfl rfl dX12_takesNumber_20 rfl ?_
    refine lv_iload_n hx hb dX12_takesNumber_23 rfl (lv_at hl 1 rfl) (hp_n (n := 24) rfl ?_)
    refine lv_iload_n hx hb dX12_takesNumber_24 rfl (lv_at hl 2 rfl) (hp_n (n := 25) rfl ?_)
    obtain ⟨rh3, qh3, hf⟩ := ms_bE hf
    refine m_cp (pc' := 28) Bh2 (hp_runS (As := [.int (ms_I σh2 675), .int v1_h1, .int v2_h1]) (rest := [.ref a0]) C Bh2 (m_X12_isIn n Γ l αh2 (ms_I σh2 675) v1_h1 v2_h1 rh3 qh3) lb_X12_isIn ls_X12_isIn lk_X12_113 rfl (by decide) rfl hl.1 rfl (Nat.le_of_ble_eq_true rfl) dX12_takesNumber_25 ⟨Nat.le_refl _, Nat.le_refl _⟩) rfl (fun Hh3 Lh3 Bh3 => ?_)
    refine lv_iconst (v := 3) hx hb dX12_takesNumber_28 (by decide) (hp_n (n := 29) rfl ?_)
    obtain ⟨σh4, qh4, hf⟩ := ms_bE hf
    refine m_cv (pc' := 32) (a := a0) (ρ := ρ) Bh3 (hp_runV (As := [.int rh3, .int (3 : Int32)]) (rest := []) C Bh3 (m_X12_must n Γ l αh2 a0 ρ σh2 Mh2 rh3 (3 : Int32) σh4 qh4) lb_X12_must lv_X12_must lk_X12_272 Mh2.1 rfl (by decide) rfl hl.1 rfl (Nat.le_of_ble_eq_true rfl) dX12_takesNumber_29 ⟨Nat.le_refl _, Nat.le_refl _⟩) rfl (fun αh4 Hh4 Lh4 Bh4 Mh4 => ?_)
    refine lv_aload_n hx hb dX12_takesNumber_32 rfl (lv_at hl 0 rfl) (hp_n (n := 33) rfl ?_)
    refine m_geti (k := 25) (φ := 675) (pc' := 36) C Bh4 Mh4 fl_X12_259 rfl rfl dX12_takesNumber_33 rfl ?_
    refine lv_topi (fun x5 ex5 => ?_)
    replace hf := ms_lE ex5 hf
    refine lv_istore_n (lv' := [(3, .int x5), (0, .ref a0), (1, .int v1_h1), (2, .int v2_h1)]) hx hb dX12_takesNumber_36 rfl hl (by decide) rfl (fun ls hl => hp_n (n := 37) rfl ?_)
    refine lv_aload_n hx hb dX12_takesNumber_37 rfl (lv_at hl 1 rfl) (hp_n (n := 38) rfl ?_)
    refine m_geti (k := 20) (φ := 670) (pc' := 41) C Bh4 Mh4 fl_X12_262 rfl rfl dX12_takesNumber_38 rfl ?_
    refine lv_if_ne (tgt := 48) hx hb dX12_takesNumber_41 (by decide) (fun c6 => ?_) (fun c6 => hp_n (n := 44) rfl ?_)
    ·
      replace hf := ms_iF c6 hf
      refine lv_iload_n hx hb dX12_takesNumber_48 rfl (lv_at hl 0 rfl) (hp_n (n := 49) rfl ?_)
      cases hf
      exact q_iret C Bh4 hr hlk ⟨rfl, Bh4.2.2, Mh4⟩ dX12_takesNumber_49
    ·
      replace hf := ms_iT c6 hf
      refine lv_aload_n hx hb dX12_takesNumber_44 rfl (lv_at hl 1 rfl) (hp_n (n := 45) rfl ?_)
      obtain ⟨σh7, qh7, hf⟩ := ms_bE hf
      refine m_cv (pc' := 48) (a := a0) (ρ := ρ) Bh4 (hp_runV (As := []) (rest := []) C Bh4 (m_X12_reads n Γ l αh4 a0 ρ σh4 Mh4  σh7 qh7) lb_X12_reads lv_X12_reads lk_X12_276 Mh4.1 rfl (by decide) rfl hl.1 rfl (Nat.le_of_ble_eq_true rfl) dX12_takesNumber_45 ⟨Nat.le_refl _, Nat.le_refl _⟩) rfl (fun αh7 Hh7 Lh7 Bh7 Mh7 => ?_)
      refine lv_iload_n hx hb dX12_takesNumber_48 rfl (lv_at hl 0 rfl) (hp_n (n := 49) rfl ?_)
      cases hf
      exact q_iret C Bh7 hr hlk ⟨rfl, Bh7.2.2, Mh7⟩ dX12_takesNumber_49
  refine lv_icmp_ne (tgt := 13) hx hb dX12_takesNumber_6 (by decide) (fun c8 => ?_) (fun c8 => hp_n (n := 9) rfl ?_)
  ·
    replace hf := ms_iF c8 hf
    refine lv_iconst (v := 0) hx hb dX12_takesNumber_13 (by decide) (hp_n (n := 14) rfl ?_)
    exact J14 α s.heap [] B σ hM a1 a2 (0 : Int32) ls (lv_sub hl [0, 1, 2] rfl) hf
  ·
    replace hf := ms_iT c8 hf
    refine lv_iconst (v := 1) hx hb dX12_takesNumber_9 (by decide) (hp_n (n := 10) rfl ?_)
    refine lv_goto (tgt := 14) hx hb dX12_takesNumber_10 (by decide) ?_
    exact J14 α s.heap [] B σ hM a1 a2 (1 : Int32) ls (lv_sub hl [0, 1, 2] rfl) hf
def f_X12_takesMark (n : Nat) (σ : ms_T) : Option (Int32 × ms_T) :=
  ms_g (1 : Int32) 1980 <|
  ms_c (f_X12_takesNumber n σ (0 : Int32) ((ms_E σ 40 ((1 : Int32)).toNatClampNeg) - (1 : Int32))) fun rh2 σh2 =>
  some (rh2, σh2)
set_option maxRecDepth 100000 in
set_option maxHeartbeats 4000000 in
theorem m_X12_takesMark (n : Nat) (Γ : hp_G) (l : Launch) (α : hp_T) (a0 : Nat) (ρ : Nat → Nat) (σ : ms_T) (hM : hm_M α a0 ρ σ)  (res : (Int32 × ms_T)) (hf : f_X12_takesMark n σ = some res) : Met l yX12_takesMark (hp_ws yX12_takesMark cX12_takesMark 1 (some .int)) (hp_rm 4 0 0) (hp_Pc Γ α [.ref a0]) (hp_Qi Γ (fun r β => r = res.1 ∧ mo α β ∧ hm_M β a0 ρ res.2)) 0 0 (hp_A Γ) := by
  unfold f_X12_takesMark at hf
  refine hp_start (by decide) ?_
  intro p e s m below meth c C hr hlk B0 hnm
  have C : hp_C Γ p m c cX12_takesMark 1 s ([.ref a0] : List Value).toArray RX12 := C
  have hx := C.1.1
  have hb := C.1.2.1
  have hown := C.1.2.2.2.1
  have hts := C.1.2.2.2.2
  have B : hp_B Γ mo s α α s.heap [] := ⟨B0.1, B0.2.1, mo_rf⟩
  have hl := lv_entry ([.ref a0]) (n := 1) (Nat.le_of_ble_eq_true rfl)
  show W p l e (hp_rm 4 0 0) s m ([.ref a0] : List Value).toArray below meth c s.heap [] 0 0 (MQ below (hp_Qi Γ (fun r β => r = res.1 ∧ mo α β ∧ hm_M β a0 ρ res.2)) ([.ref a0] : List Value).toArray s 0 0 (hp_A Γ)) (entryFrame m ([.ref a0] : List Value).toArray 1)
  rw [lg_entry_eq]
  generalize (lg_sl ([.ref a0]) ++ List.replicate (1 - (lg_sl ([.ref a0])).length) Slot.unset).toArray = ls at hl ⊢
  have hl : lv_has ls 1 [(0, .ref a0)] := hl
  refine lv_aload_n hx hb dX12_takesMark_0 rfl (lv_at hl 0 rfl) (hp_n (n := 1) rfl ?_)
  refine lv_iconst (v := 0) hx hb dX12_takesMark_1 (by decide) (hp_n (n := 2) rfl ?_)
  refine lv_aload_n hx hb dX12_takesMark_2 rfl (lv_at hl 0 rfl) (hp_n (n := 3) rfl ?_)
  refine m_getr (κ := 40) (k := 0) (pc' := 6) C B hM fl_X12_7 rfl (by decide) dX12_takesMark_3 rfl ?_
  refine lv_iconst (v := 1) hx hb dX12_takesMark_6 (by decide) (hp_n (n := 7) rfl ?_)
  obtain ⟨g1, hf⟩ := ms_gE hf
  refine m_ial (κ := 40) (φ := 650) (n := 1980) (pc' := 8) C B hM (by decide) (by decide) rfl g1 dX12_takesMark_7 rfl ?_
  refine lv_iconst (v := 1) hx hb dX12_takesMark_8 (by decide) (hp_n (n := 9) rfl ?_)
  refine lv_isub hx hb dX12_takesMark_9 (hp_n (n := 10) rfl ?_)
  obtain ⟨rh2, σh2, qh2, hf⟩ := ms_cE hf
  refine m_ci (pc' := 13) (a := a0) (ρ := ρ) B (hp_runV (As := [.int (0 : Int32), .int ((ms_E σ 40 ((1 : Int32)).toNatClampNeg) - (1 : Int32))]) (rest := []) C B (m_X12_takesNumber n Γ l α a0 ρ σ hM (0 : Int32) ((ms_E σ 40 ((1 : Int32)).toNatClampNeg) - (1 : Int32)) (rh2, σh2) qh2) lb_X12_takesNumber lv_X12_takesNumber lk_X12_279 hM.1 rfl (by decide) rfl hl.1 rfl (Nat.le_of_ble_eq_true rfl) dX12_takesMark_10 ⟨Nat.le_refl _, Nat.le_refl _⟩) rfl (fun αh2 Hh2 Lh2 Bh2 Mh2 => ?_)
  cases hf
  exact q_iret C Bh2 hr hlk ⟨rfl, Bh2.2.2, Mh2⟩ dX12_takesMark_13
def f_X12_addLine_J134 (n : Nat) (σh7 : ms_T) : Option ms_T :=
  ms_b (f_X12_takesEnd n σh7) fun σh8 =>
  if (ms_I σh8 670) = 0 then
    ms_c (f_X12_adds n σh8 (ms_I σh8 679)) fun rh10 σh10 =>
    some σh10
  else
    some σh8
def f_X12_addLine_L96 (n : Nat) : Nat → ms_T → Int32 → Option ms_T
  | 0, _, _ => none
  | k96 + 1, σh16, v1_h16 =>
    if (ms_I σh16 665) ≤ v1_h16 then
      ms_b (f_X12_reads n σh16) fun σh18 =>
      f_X12_addLine_J134 n σh18
    else
      ms_g ((ms_I σh16 672) + v1_h16) 900 <|
      ms_g v1_h16 8 <|
      ms_l (ms_sE σh16 46 (v1_h16).toNatClampNeg ((ms_E σh16 47 (((ms_I σh16 672) + v1_h16)).toNatClampNeg) - (96 : Int32))) fun σh21 =>
      ms_l (v1_h16 + 1) fun x22 =>
      (f_X12_addLine_L96 n k96) σh21 x22
def f_X12_addLine_J69 (n : Nat) (σh12 : ms_T) (w0_h12 : Int32) : Option ms_T :=
  ms_b (f_X12_must n σh12 w0_h12 (4 : Int32)) fun σh13 =>
  if (ms_I σh13 670) ≤ 0 then
    ms_l (ms_sI σh13 665 ((ms_I σh13 673) - (ms_I σh13 672))) fun σh15 =>
    f_X12_addLine_L96 n n σh15 (0 : Int32)
  else
    some σh13
def f_X12_addLine_J19 (n : Nat) (σh2 : ms_T) (w0_h2 : Int32) : Option ms_T :=
  ms_b (f_X12_must n σh2 w0_h2 (6 : Int32)) fun σh3 =>
  if (ms_I σh3 670) ≤ 0 then
    ms_b (f_X12_reads n σh3) fun σh5 =>
    ms_l (ms_sI σh5 665 (0 : Int32)) fun σh6 =>
    if (ms_I σh6 674) = (1 : Int32) then
      if (8 : Int32) < ((ms_I σh6 673) - (ms_I σh6 672)) then
        f_X12_addLine_J69 n σh6 (0 : Int32)
      else
        f_X12_addLine_J69 n σh6 (1 : Int32)
    else
      f_X12_addLine_J134 n σh6
  else
    some σh3
def f_X12_addLine (n : Nat) (σ : ms_T) : Option ms_T :=
  ms_b (f_X12_sizeOf n σ (ms_I σ 679)) fun rh1 =>
  if (48 : Int32) ≤ rh1 then
    f_X12_addLine_J19 n σ (0 : Int32)
  else
    f_X12_addLine_J19 n σ (1 : Int32)
set_option maxRecDepth 100000 in
set_option maxHeartbeats 4000000 in
theorem m_X12_addLine (n : Nat) (Γ : hp_G) (l : Launch) (α : hp_T) (a0 : Nat) (ρ : Nat → Nat) (σ : ms_T) (hM : hm_M α a0 ρ σ)  (res : ms_T) (hf : f_X12_addLine n σ = some res) : Met l yX12_addLine (hp_ws yX12_addLine cX12_addLine 2 none) (hp_rm 4 0 0) (hp_Pc Γ α [.ref a0]) (hp_Qv Γ (fun β => mo α β ∧ hm_M β a0 ρ res)) 0 0 (hp_A Γ) := by
  unfold f_X12_addLine at hf
  refine hp_start (by decide) ?_
  intro p e s m below meth c C hr hlk B0 hnm
  have C : hp_C Γ p m c cX12_addLine 2 s ([.ref a0] : List Value).toArray RX12 := C
  have hx := C.1.1
  have hb := C.1.2.1
  have hown := C.1.2.2.2.1
  have hts := C.1.2.2.2.2
  have B : hp_B Γ mo s α α s.heap [] := ⟨B0.1, B0.2.1, mo_rf⟩
  have hl := lv_entry ([.ref a0]) (n := 2) (Nat.le_of_ble_eq_true rfl)
  show W p l e (hp_rm 4 0 0) s m ([.ref a0] : List Value).toArray below meth c s.heap [] 0 0 (MQ below (hp_Qv Γ (fun β => mo α β ∧ hm_M β a0 ρ res)) ([.ref a0] : List Value).toArray s 0 0 (hp_A Γ)) (entryFrame m ([.ref a0] : List Value).toArray 2)
  rw [lg_entry_eq]
  generalize (lg_sl ([.ref a0]) ++ List.replicate (2 - (lg_sl ([.ref a0])).length) Slot.unset).toArray = ls at hl ⊢
  have hl : lv_has ls 2 [(0, .ref a0)] := hl
  refine lv_aload_n hx hb dX12_addLine_0 rfl (lv_at hl 0 rfl) (hp_n (n := 1) rfl ?_)
  refine lv_aload_n hx hb dX12_addLine_1 rfl (lv_at hl 0 rfl) (hp_n (n := 2) rfl ?_)
  refine lv_aload_n hx hb dX12_addLine_2 rfl (lv_at hl 0 rfl) (hp_n (n := 3) rfl ?_)
  refine m_geti (k := 29) (φ := 679) (pc' := 6) C B hM fl_X12_282 rfl rfl dX12_addLine_3 rfl ?_
  obtain ⟨rh1, qh1, hf⟩ := ms_bE hf
  refine m_cp (pc' := 9) B (hp_runV (As := [.int (ms_I σ 679)]) (rest := [.ref a0]) C B (m_X12_sizeOf n Γ l α a0 ρ σ hM (ms_I σ 679) rh1 qh1) lb_X12_sizeOf lv_X12_sizeOf lk_X12_209 hM.1 rfl (by decide) rfl hl.1 rfl (Nat.le_of_ble_eq_true rfl) dX12_addLine_6 ⟨Nat.le_refl _, Nat.le_refl _⟩) rfl (fun Hh1 Lh1 Bh1 => ?_)
  refine lv_bipush (v := 48) hx hb dX12_addLine_9 (by decide) (hp_n (n := 11) rfl ?_)
  have J19 : ∀ (αh2 : hp_T) (Hh2 : Heap) (Lh2 : List Loc) (Bh2 : hp_B Γ mo s α αh2 Hh2 Lh2) (σh2 : ms_T) (Mh2 : hm_M αh2 a0 ρ σh2) (w0_h2 : Int32) (ls : Array Slot) (hl : lv_has ls 2 [(0, .ref a0)]) (hf : f_X12_addLine_J19 n σh2 w0_h2 = some res), W p l e (hp_rm 4 0 0) s m ([.ref a0] : List Value).toArray below meth c Hh2 Lh2 0 0 (MQ below (hp_Qv Γ (fun β => mo α β ∧ hm_M β a0 ρ res)) ([.ref a0] : List Value).toArray s 0 0 (hp_A Γ)) (F0 m 19 ls [.int w0_h2, .ref a0]) := by
    intro αh2 Hh2 Lh2 Bh2 σh2 Mh2 w0_h2 ls hl hf
    unfold f_X12_addLine_J19 at hf
    refine lv_bipush (v := 6) hx hb dX12_addLine_19 (by decide) (hp_n (n := 21) rfl ?_)
    obtain ⟨σh3, qh3, hf⟩ := ms_bE hf
    refine m_cv (pc' := 24) (a := a0) (ρ := ρ) Bh2 (hp_runV (As := [.int w0_h2, .int (6 : Int32)]) (rest := []) C Bh2 (m_X12_must n Γ l αh2 a0 ρ σh2 Mh2 w0_h2 (6 : Int32) σh3 qh3) lb_X12_must lv_X12_must lk_X12_272 Mh2.1 rfl (by decide) rfl hl.1 rfl (Nat.le_of_ble_eq_true rfl) dX12_addLine_21 ⟨Nat.le_refl _, Nat.le_refl _⟩) rfl (fun αh3 Hh3 Lh3 Bh3 Mh3 => ?_)
    refine lv_aload_n hx hb dX12_addLine_24 rfl (lv_at hl 0 rfl) (hp_n (n := 25) rfl ?_)
    refine m_geti (k := 20) (φ := 670) (pc' := 28) C Bh3 Mh3 fl_X12_262 rfl rfl dX12_addLine_25 rfl ?_
    refine lv_if_le (tgt := 32) hx hb dX12_addLine_28 (by decide) (fun c4 => ?_) (fun c4 => hp_n (n := 31) rfl ?_)
    ·
      replace hf := ms_iT c4 hf
      refine lv_aload_n hx hb dX12_addLine_32 rfl (lv_at hl 0 rfl) (hp_n (n := 33) rfl ?_)
      obtain ⟨σh5, qh5, hf⟩ := ms_bE hf
      refine m_cv (pc' := 36) (a := a0) (ρ := ρ) Bh3 (hp_runV (As := []) (rest := []) C Bh3 (m_X12_reads n Γ l αh3 a0 ρ σh3 Mh3  σh5 qh5) lb_X12_reads lv_X12_reads lk_X12_276 Mh3.1 rfl (by decide) rfl hl.1 rfl (Nat.le_of_ble_eq_true rfl) dX12_addLine_33 ⟨Nat.le_refl _, Nat.le_refl _⟩) rfl (fun αh5 Hh5 Lh5 Bh5 Mh5 => ?_)
      refine lv_aload_n hx hb dX12_addLine_36 rfl (lv_at hl 0 rfl) (hp_n (n := 37) rfl ?_)
      refine lv_iconst (v := 0) hx hb dX12_addLine_37 (by decide) (hp_n (n := 38) rfl ?_)
      refine m_puti (k := 15) (φ := 665) (pc' := 41) C Bh5 Mh5 fl_X12_206 rfl rfl rfl rfl rfl dX12_addLine_38 rfl (fun αh6 Hh6 Lh6 σh6 eh6 Bh6 Mh6 => ?_)
      replace hf := ms_lE eh6 hf
      refine lv_aload_n hx hb dX12_addLine_41 rfl (lv_at hl 0 rfl) (hp_n (n := 42) rfl ?_)
      refine m_geti (k := 24) (φ := 674) (pc' := 45) C Bh6 Mh6 fl_X12_245 rfl rfl dX12_addLine_42 rfl ?_
      refine lv_iconst (v := 1) hx hb dX12_addLine_45 (by decide) (hp_n (n := 46) rfl ?_)
      have J134 : ∀ (αh7 : hp_T) (Hh7 : Heap) (Lh7 : List Loc) (Bh7 : hp_B Γ mo s α αh7 Hh7 Lh7) (σh7 : ms_T) (Mh7 : hm_M αh7 a0 ρ σh7) (ls : Array Slot) (hl : lv_has ls 2 [(0, .ref a0)]) (hf : f_X12_addLine_J134 n σh7 = some res), W p l e (hp_rm 4 0 0) s m ([.ref a0] : List Value).toArray below meth c Hh7 Lh7 0 0 (MQ below (hp_Qv Γ (fun β => mo α β ∧ hm_M β a0 ρ res)) ([.ref a0] : List Value).toArray s 0 0 (hp_A Γ)) (F0 m 134 ls []) := by
        intro αh7 Hh7 Lh7 Bh7 σh7 Mh7 ls hl hf
        unfold f_X12_addLine_J134 at hf
        refine lv_aload_n hx hb dX12_addLine_134 rfl (lv_at hl 0 rfl) (hp_n (n := 135) rfl ?_)
        obtain ⟨σh8, qh8, hf⟩ := ms_bE hf
        refine m_cv (pc' := 138) (a := a0) (ρ := ρ) Bh7 (hp_runV (As := []) (rest := []) C Bh7 (m_X12_takesEnd n Γ l αh7 a0 ρ σh7 Mh7  σh8 qh8) lb_X12_takesEnd lv_X12_takesEnd lk_X12_285 Mh7.1 rfl (by decide) rfl hl.1 rfl (Nat.le_of_ble_eq_true rfl) dX12_addLine_135 ⟨Nat.le_refl _, Nat.le_refl _⟩) rfl (fun αh8 Hh8 Lh8 Bh8 Mh8 => ?_)
        refine lv_aload_n hx hb dX12_addLine_138 rfl (lv_at hl 0 rfl) (hp_n (n := 139) rfl ?_)
        refine m_geti (k := 20) (φ := 670) (pc' := 142) C Bh8 Mh8 fl_X12_262 rfl rfl dX12_addLine_139 rfl ?_
        refine lv_if_ne (tgt := 154) hx hb dX12_addLine_142 (by decide) (fun c9 => ?_) (fun c9 => hp_n (n := 145) rfl ?_)
        ·
          replace hf := ms_iF c9 hf
          cases hf
          exact q_vret C Bh8 hr hlk ⟨Bh8.2.2, Mh8⟩ dX12_addLine_154
        ·
          replace hf := ms_iT c9 hf
          refine lv_aload_n hx hb dX12_addLine_145 rfl (lv_at hl 0 rfl) (hp_n (n := 146) rfl ?_)
          refine lv_aload_n hx hb dX12_addLine_146 rfl (lv_at hl 0 rfl) (hp_n (n := 147) rfl ?_)
          refine m_geti (k := 29) (φ := 679) (pc' := 150) C Bh8 Mh8 fl_X12_282 rfl rfl dX12_addLine_147 rfl ?_
          obtain ⟨rh10, σh10, qh10, hf⟩ := ms_cE hf
          refine m_ci (pc' := 153) (a := a0) (ρ := ρ) Bh8 (hp_runV (As := [.int (ms_I σh8 679)]) (rest := []) C Bh8 (m_X12_adds n Γ l αh8 a0 ρ σh8 Mh8 (ms_I σh8 679) (rh10, σh10) qh10) lb_X12_adds lv_X12_adds lk_X12_288 Mh8.1 rfl (by decide) rfl hl.1 rfl (Nat.le_of_ble_eq_true rfl) dX12_addLine_150 ⟨Nat.le_refl _, Nat.le_refl _⟩) rfl (fun αh10 Hh10 Lh10 Bh10 Mh10 => ?_)
          refine lv_pop hx hb dX12_addLine_153 rfl (hp_n (n := 154) rfl ?_)
          cases hf
          exact q_vret C Bh10 hr hlk ⟨Bh10.2.2, Mh10⟩ dX12_addLine_154
      refine lv_icmp_ne (tgt := 134) hx hb dX12_addLine_46 (by decide) (fun c11 => ?_) (fun c11 => hp_n (n := 49) rfl ?_)
      ·
        replace hf := ms_iF c11 hf
        exact J134 αh6 Hh6 Lh6 Bh6 σh6 Mh6 ls (lv_sub hl [0] rfl) hf
      ·
        replace hf := ms_iT c11 hf
        refine lv_aload_n hx hb dX12_addLine_49 rfl (lv_at hl 0 rfl) (hp_n (n := 50) rfl ?_)
        refine lv_aload_n hx hb dX12_addLine_50 rfl (lv_at hl 0 rfl) (hp_n (n := 51) rfl ?_)
        refine m_geti (k := 23) (φ := 673) (pc' := 54) C Bh6 Mh6 fl_X12_239 rfl rfl dX12_addLine_51 rfl ?_
        refine lv_aload_n hx hb dX12_addLine_54 rfl (lv_at hl 0 rfl) (hp_n (n := 55) rfl ?_)
        refine m_geti (k := 22) (φ := 672) (pc' := 58) C Bh6 Mh6 fl_X12_242 rfl rfl dX12_addLine_55 rfl ?_
        refine lv_isub hx hb dX12_addLine_58 (hp_n (n := 59) rfl ?_)
        refine lv_bipush (v := 8) hx hb dX12_addLine_59 (by decide) (hp_n (n := 61) rfl ?_)
        have J69 : ∀ (αh12 : hp_T) (Hh12 : Heap) (Lh12 : List Loc) (Bh12 : hp_B Γ mo s α αh12 Hh12 Lh12) (σh12 : ms_T) (Mh12 : hm_M αh12 a0 ρ σh12) (w0_h12 : Int32) (ls : Array Slot) (hl : lv_has ls 2 [(0, .ref a0)]) (hf : f_X12_addLine_J69 n σh12 w0_h12 = some res), W p l e (hp_rm 4 0 0) s m ([.ref a0] : List Value).toArray below meth c Hh12 Lh12 0 0 (MQ below (hp_Qv Γ (fun β => mo α β ∧ hm_M β a0 ρ res)) ([.ref a0] : List Value).toArray s 0 0 (hp_A Γ)) (F0 m 69 ls [.int w0_h12, .ref a0]) := by
          intro αh12 Hh12 Lh12 Bh12 σh12 Mh12 w0_h12 ls hl hf
          unfold f_X12_addLine_J69 at hf
          refine lv_iconst (v := 4) hx hb dX12_addLine_69 (by decide) (hp_n (n := 70) rfl ?_)
          obtain ⟨σh13, qh13, hf⟩ := ms_bE hf
          refine m_cv (pc' := 73) (a := a0) (ρ := ρ) Bh12 (hp_runV (As := [.int w0_h12, .int (4 : Int32)]) (rest := []) C Bh12 (m_X12_must n Γ l αh12 a0 ρ σh12 Mh12 w0_h12 (4 : Int32) σh13 qh13) lb_X12_must lv_X12_must lk_X12_272 Mh12.1 rfl (by decide) rfl hl.1 rfl (Nat.le_of_ble_eq_true rfl) dX12_addLine_70 ⟨Nat.le_refl _, Nat.le_refl _⟩) rfl (fun αh13 Hh13 Lh13 Bh13 Mh13 => ?_)
          refine lv_aload_n hx hb dX12_addLine_73 rfl (lv_at hl 0 rfl) (hp_n (n := 74) rfl ?_)
          refine m_geti (k := 20) (φ := 670) (pc' := 77) C Bh13 Mh13 fl_X12_262 rfl rfl dX12_addLine_74 rfl ?_
          refine lv_if_le (tgt := 81) hx hb dX12_addLine_77 (by decide) (fun c14 => ?_) (fun c14 => hp_n (n := 80) rfl ?_)
          ·
            replace hf := ms_iT c14 hf
            refine lv_aload_n hx hb dX12_addLine_81 rfl (lv_at hl 0 rfl) (hp_n (n := 82) rfl ?_)
            refine lv_aload_n hx hb dX12_addLine_82 rfl (lv_at hl 0 rfl) (hp_n (n := 83) rfl ?_)
            refine m_geti (k := 23) (φ := 673) (pc' := 86) C Bh13 Mh13 fl_X12_239 rfl rfl dX12_addLine_83 rfl ?_
            refine lv_aload_n hx hb dX12_addLine_86 rfl (lv_at hl 0 rfl) (hp_n (n := 87) rfl ?_)
            refine m_geti (k := 22) (φ := 672) (pc' := 90) C Bh13 Mh13 fl_X12_242 rfl rfl dX12_addLine_87 rfl ?_
            refine lv_isub hx hb dX12_addLine_90 (hp_n (n := 91) rfl ?_)
            refine m_puti (k := 15) (φ := 665) (pc' := 94) C Bh13 Mh13 fl_X12_206 rfl rfl rfl rfl rfl dX12_addLine_91 rfl (fun αh15 Hh15 Lh15 σh15 eh15 Bh15 Mh15 => ?_)
            replace hf := ms_lE eh15 hf
            refine lv_iconst (v := 0) hx hb dX12_addLine_94 (by decide) (hp_n (n := 95) rfl ?_)
            have J96 : ∀ (k96 : Nat) (αh16 : hp_T) (Hh16 : Heap) (Lh16 : List Loc) (Bh16 : hp_B Γ mo s α αh16 Hh16 Lh16) (σh16 : ms_T) (Mh16 : hm_M αh16 a0 ρ σh16) (v1_h16 : Int32) (ls : Array Slot) (hl : lv_has ls 2 [(0, .ref a0), (1, .int v1_h16)]) (hf : f_X12_addLine_L96 n k96 σh16 v1_h16 = some res), W p l e (hp_rm 4 0 0) s m ([.ref a0] : List Value).toArray below meth c Hh16 Lh16 0 0 (MQ below (hp_Qv Γ (fun β => mo α β ∧ hm_M β a0 ρ res)) ([.ref a0] : List Value).toArray s 0 0 (hp_A Γ)) (F0 m 96 ls []) := by
              intro k96
              induction k96 with
              | zero => intro αh16 Hh16 Lh16 Bh16 σh16 Mh16 v1_h16 ls hl hf; rw [f_X12_addLine_L96.eq_1] at hf; cases hf
              | succ k96 ih96 =>
                intro αh16 Hh16 Lh16 Bh16 σh16 Mh16 v1_h16 ls hl hf
                rw [f_X12_addLine_L96.eq_2] at hf
                refine lv_iload_n hx hb dX12_addLine_96 rfl (lv_at hl 1 rfl) (hp_n (n := 97) rfl ?_)
                refine lv_aload_n hx hb dX12_addLine_97 rfl (lv_at hl 0 rfl) (hp_n (n := 98) rfl ?_)
                refine m_geti (k := 15) (φ := 665) (pc' := 101) C Bh16 Mh16 fl_X12_206 rfl rfl dX12_addLine_98 rfl ?_
                refine lv_icmp_ge (tgt := 130) hx hb dX12_addLine_101 (by decide) (fun c17 => ?_) (fun c17 => hp_n (n := 104) rfl ?_)
                ·
                  replace hf := ms_iT c17 hf
                  refine lv_aload_n hx hb dX12_addLine_130 rfl (lv_at hl 0 rfl) (hp_n (n := 131) rfl ?_)
                  obtain ⟨σh18, qh18, hf⟩ := ms_bE hf
                  refine m_cv (pc' := 134) (a := a0) (ρ := ρ) Bh16 (hp_runV (As := []) (rest := []) C Bh16 (m_X12_reads n Γ l αh16 a0 ρ σh16 Mh16  σh18 qh18) lb_X12_reads lv_X12_reads lk_X12_276 Mh16.1 rfl (by decide) rfl hl.1 rfl (Nat.le_of_ble_eq_true rfl) dX12_addLine_131 ⟨Nat.le_refl _, Nat.le_refl _⟩) rfl (fun αh18 Hh18 Lh18 Bh18 Mh18 => ?_)
                  exact J134 αh18 Hh18 Lh18 Bh18 σh18 Mh18 ls (lv_sub hl [0] rfl) hf
                ·
                  replace hf := ms_iF c17 hf
                  refine lv_aload_n hx hb dX12_addLine_104 rfl (lv_at hl 0 rfl) (hp_n (n := 105) rfl ?_)
                  refine m_getr (κ := 46) (k := 13) (pc' := 108) C Bh16 Mh16 fl_X12_28 rfl (by decide) dX12_addLine_105 rfl ?_
                  refine lv_iload_n hx hb dX12_addLine_108 rfl (lv_at hl 1 rfl) (hp_n (n := 109) rfl ?_)
                  refine lv_aload_n hx hb dX12_addLine_109 rfl (lv_at hl 0 rfl) (hp_n (n := 110) rfl ?_)
                  refine m_getr (κ := 47) (k := 16) (pc' := 113) C Bh16 Mh16 fl_X12_31 rfl (by decide) dX12_addLine_110 rfl ?_
                  refine lv_aload_n hx hb dX12_addLine_113 rfl (lv_at hl 0 rfl) (hp_n (n := 114) rfl ?_)
                  refine m_geti (k := 22) (φ := 672) (pc' := 117) C Bh16 Mh16 fl_X12_242 rfl rfl dX12_addLine_114 rfl ?_
                  refine lv_iload_n hx hb dX12_addLine_117 rfl (lv_at hl 1 rfl) (hp_n (n := 118) rfl ?_)
                  refine lv_iadd hx hb dX12_addLine_118 (hp_n (n := 119) rfl ?_)
                  obtain ⟨g19, hf⟩ := ms_gE hf
                  refine m_bal (κ := 47) (φ := 666) (n := 900) (pc' := 120) C Bh16 Mh16 (by decide) (by decide) rfl g19 dX12_addLine_119 rfl ?_
                  refine lv_bipush (v := 96) hx hb dX12_addLine_120 (by decide) (hp_n (n := 122) rfl ?_)
                  refine lv_isub hx hb dX12_addLine_122 (hp_n (n := 123) rfl ?_)
                  obtain ⟨g20, hf⟩ := ms_gE hf
                  refine m_ias (κ := 46) (φ := 663) (n := 8) (pc' := 124) C Bh16 Mh16 (by decide) (by decide) rfl g20 dX12_addLine_123 rfl (fun αh21 Hh21 Lh21 σh21 eh21 Bh21 Mh21 => ?_)
                  replace hf := ms_lE eh21 hf
                  obtain ⟨x22, ex22⟩ : ∃ y : Int32, y = v1_h16 + 1 := ⟨_, rfl⟩
                  replace hf := ms_lE ex22 hf
                  refine lv_iinc (v := x22) (lv' := [(1, .int x22), (0, .ref a0)]) hx hb dX12_addLine_124 hl (k := 1) rfl (by rw [ex22]; rfl) (by decide) rfl (fun ls hl => hp_n (n := 127) rfl ?_)
                  refine lv_goto (tgt := 96) hx hb dX12_addLine_127 (by decide) ?_
                  exact ih96 αh21 Hh21 Lh21 Bh21 σh21 Mh21 x22 ls (lv_sub hl [1, 0] rfl) hf
            refine lv_istore_n (lv' := [(1, .int (0 : Int32)), (0, .ref a0)]) hx hb dX12_addLine_95 rfl hl (by decide) rfl (fun ls hl => hp_n (n := 96) rfl ?_)
            exact J96 n αh15 Hh15 Lh15 Bh15 σh15 Mh15 (0 : Int32) ls (lv_sub hl [1, 0] rfl) hf
          ·
            replace hf := ms_iF c14 hf
            cases hf
            exact q_vret C Bh13 hr hlk ⟨Bh13.2.2, Mh13⟩ dX12_addLine_80
        refine lv_icmp_gt (tgt := 68) hx hb dX12_addLine_61 (by decide) (fun c23 => ?_) (fun c23 => hp_n (n := 64) rfl ?_)
        ·
          replace hf := ms_iT c23 hf
          refine lv_iconst (v := 0) hx hb dX12_addLine_68 (by decide) (hp_n (n := 69) rfl ?_)
          exact J69 αh6 Hh6 Lh6 Bh6 σh6 Mh6 (0 : Int32) ls (lv_sub hl [0] rfl) hf
        ·
          replace hf := ms_iF c23 hf
          refine lv_iconst (v := 1) hx hb dX12_addLine_64 (by decide) (hp_n (n := 65) rfl ?_)
          refine lv_goto (tgt := 69) hx hb dX12_addLine_65 (by decide) ?_
          exact J69 αh6 Hh6 Lh6 Bh6 σh6 Mh6 (1 : Int32) ls (lv_sub hl [0] rfl) hf
    ·
      replace hf := ms_iF c4 hf
      cases hf
      exact q_vret C Bh3 hr hlk ⟨Bh3.2.2, Mh3⟩ dX12_addLine_31
  refine lv_icmp_ge (tgt := 18) hx hb dX12_addLine_11 (by decide) (fun c24 => ?_) (fun c24 => hp_n (n := 14) rfl ?_)
  ·
    replace hf := ms_iT c24 hf
    refine lv_iconst (v := 0) hx hb dX12_addLine_18 (by decide) (hp_n (n := 19) rfl ?_)
    exact J19 α Hh1 Lh1 Bh1 σ hM (0 : Int32) ls (lv_sub hl [0] rfl) hf
  ·
    replace hf := ms_iF c24 hf
    refine lv_iconst (v := 1) hx hb dX12_addLine_14 (by decide) (hp_n (n := 15) rfl ?_)
    refine lv_goto (tgt := 19) hx hb dX12_addLine_15 (by decide) ?_
    exact J19 α Hh1 Lh1 Bh1 σ hM (1 : Int32) ls (lv_sub hl [0] rfl) hf
def f_X12_forkLine_J16 (n : Nat) (σh2 : ms_T) (w0_h2 : Int32) : Option ms_T :=
  ms_b (f_X12_must n σh2 w0_h2 (6 : Int32)) fun σh3 =>
  if (ms_I σh3 670) ≤ 0 then
    ms_b (f_X12_reads n σh3) fun σh5 =>
    ms_b (f_X12_sizeOf n σh5 (ms_I σh5 679)) fun rh6 =>
    ms_c (f_X12_takesNumber n σh5 (0 : Int32) rh6) fun rh7 σh7 =>
    ms_b (f_X12_takesEnd n σh7) fun σh8 =>
    if (ms_I σh8 670) = 0 then
      ms_c (f_X12_forks n σh8 (ms_I σh8 679) rh7) fun rh10 σh10 =>
      ms_l (ms_sI σh10 679 rh10) fun σh11 =>
      some σh11
    else
      some σh8
  else
    some σh3
def f_X12_forkLine (n : Nat) (σ : ms_T) : Option ms_T :=
  ms_g (0 : Int32) 1980 <|
  if (4 : Int32) ≤ (ms_E σ 40 ((0 : Int32)).toNatClampNeg) then
    f_X12_forkLine_J16 n σ (0 : Int32)
  else
    f_X12_forkLine_J16 n σ (1 : Int32)
set_option maxRecDepth 100000 in
set_option maxHeartbeats 4000000 in
theorem m_X12_forkLine (n : Nat) (Γ : hp_G) (l : Launch) (α : hp_T) (a0 : Nat) (ρ : Nat → Nat) (σ : ms_T) (hM : hm_M α a0 ρ σ)  (res : ms_T) (hf : f_X12_forkLine n σ = some res) : Met l yX12_forkLine (hp_ws yX12_forkLine cX12_forkLine 2 none) (hp_rm 4 0 0) (hp_Pc Γ α [.ref a0]) (hp_Qv Γ (fun β => mo α β ∧ hm_M β a0 ρ res)) 0 0 (hp_A Γ) := by
  unfold f_X12_forkLine at hf
  refine hp_start (by decide) ?_
  intro p e s m below meth c C hr hlk B0 hnm
  have C : hp_C Γ p m c cX12_forkLine 2 s ([.ref a0] : List Value).toArray RX12 := C
  have hx := C.1.1
  have hb := C.1.2.1
  have hown := C.1.2.2.2.1
  have hts := C.1.2.2.2.2
  have B : hp_B Γ mo s α α s.heap [] := ⟨B0.1, B0.2.1, mo_rf⟩
  have hl := lv_entry ([.ref a0]) (n := 2) (Nat.le_of_ble_eq_true rfl)
  show W p l e (hp_rm 4 0 0) s m ([.ref a0] : List Value).toArray below meth c s.heap [] 0 0 (MQ below (hp_Qv Γ (fun β => mo α β ∧ hm_M β a0 ρ res)) ([.ref a0] : List Value).toArray s 0 0 (hp_A Γ)) (entryFrame m ([.ref a0] : List Value).toArray 2)
  rw [lg_entry_eq]
  generalize (lg_sl ([.ref a0]) ++ List.replicate (2 - (lg_sl ([.ref a0])).length) Slot.unset).toArray = ls at hl ⊢
  have hl : lv_has ls 2 [(0, .ref a0)] := hl
  refine lv_aload_n hx hb dX12_forkLine_0 rfl (lv_at hl 0 rfl) (hp_n (n := 1) rfl ?_)
  refine lv_aload_n hx hb dX12_forkLine_1 rfl (lv_at hl 0 rfl) (hp_n (n := 2) rfl ?_)
  refine m_getr (κ := 40) (k := 0) (pc' := 5) C B hM fl_X12_7 rfl (by decide) dX12_forkLine_2 rfl ?_
  refine lv_iconst (v := 0) hx hb dX12_forkLine_5 (by decide) (hp_n (n := 6) rfl ?_)
  obtain ⟨g1, hf⟩ := ms_gE hf
  refine m_ial (κ := 40) (φ := 650) (n := 1980) (pc' := 7) C B hM (by decide) (by decide) rfl g1 dX12_forkLine_6 rfl ?_
  refine lv_iconst (v := 4) hx hb dX12_forkLine_7 (by decide) (hp_n (n := 8) rfl ?_)
  have J16 : ∀ (αh2 : hp_T) (Hh2 : Heap) (Lh2 : List Loc) (Bh2 : hp_B Γ mo s α αh2 Hh2 Lh2) (σh2 : ms_T) (Mh2 : hm_M αh2 a0 ρ σh2) (w0_h2 : Int32) (ls : Array Slot) (hl : lv_has ls 2 [(0, .ref a0)]) (hf : f_X12_forkLine_J16 n σh2 w0_h2 = some res), W p l e (hp_rm 4 0 0) s m ([.ref a0] : List Value).toArray below meth c Hh2 Lh2 0 0 (MQ below (hp_Qv Γ (fun β => mo α β ∧ hm_M β a0 ρ res)) ([.ref a0] : List Value).toArray s 0 0 (hp_A Γ)) (F0 m 16 ls [.int w0_h2, .ref a0]) := by
    intro αh2 Hh2 Lh2 Bh2 σh2 Mh2 w0_h2 ls hl hf
    unfold f_X12_forkLine_J16 at hf
    refine lv_bipush (v := 6) hx hb dX12_forkLine_16 (by decide) (hp_n (n := 18) rfl ?_)
    obtain ⟨σh3, qh3, hf⟩ := ms_bE hf
    refine m_cv (pc' := 21) (a := a0) (ρ := ρ) Bh2 (hp_runV (As := [.int w0_h2, .int (6 : Int32)]) (rest := []) C Bh2 (m_X12_must n Γ l αh2 a0 ρ σh2 Mh2 w0_h2 (6 : Int32) σh3 qh3) lb_X12_must lv_X12_must lk_X12_272 Mh2.1 rfl (by decide) rfl hl.1 rfl (Nat.le_of_ble_eq_true rfl) dX12_forkLine_18 ⟨Nat.le_refl _, Nat.le_refl _⟩) rfl (fun αh3 Hh3 Lh3 Bh3 Mh3 => ?_)
    refine lv_aload_n hx hb dX12_forkLine_21 rfl (lv_at hl 0 rfl) (hp_n (n := 22) rfl ?_)
    refine m_geti (k := 20) (φ := 670) (pc' := 25) C Bh3 Mh3 fl_X12_262 rfl rfl dX12_forkLine_22 rfl ?_
    refine lv_if_le (tgt := 29) hx hb dX12_forkLine_25 (by decide) (fun c4 => ?_) (fun c4 => hp_n (n := 28) rfl ?_)
    ·
      replace hf := ms_iT c4 hf
      refine lv_aload_n hx hb dX12_forkLine_29 rfl (lv_at hl 0 rfl) (hp_n (n := 30) rfl ?_)
      obtain ⟨σh5, qh5, hf⟩ := ms_bE hf
      refine m_cv (pc' := 33) (a := a0) (ρ := ρ) Bh3 (hp_runV (As := []) (rest := []) C Bh3 (m_X12_reads n Γ l αh3 a0 ρ σh3 Mh3  σh5 qh5) lb_X12_reads lv_X12_reads lk_X12_276 Mh3.1 rfl (by decide) rfl hl.1 rfl (Nat.le_of_ble_eq_true rfl) dX12_forkLine_30 ⟨Nat.le_refl _, Nat.le_refl _⟩) rfl (fun αh5 Hh5 Lh5 Bh5 Mh5 => ?_)
      refine lv_aload_n hx hb dX12_forkLine_33 rfl (lv_at hl 0 rfl) (hp_n (n := 34) rfl ?_)
      refine lv_iconst (v := 0) hx hb dX12_forkLine_34 (by decide) (hp_n (n := 35) rfl ?_)
      refine lv_aload_n hx hb dX12_forkLine_35 rfl (lv_at hl 0 rfl) (hp_n (n := 36) rfl ?_)
      refine lv_aload_n hx hb dX12_forkLine_36 rfl (lv_at hl 0 rfl) (hp_n (n := 37) rfl ?_)
      refine m_geti (k := 29) (φ := 679) (pc' := 40) C Bh5 Mh5 fl_X12_282 rfl rfl dX12_forkLine_37 rfl ?_
      obtain ⟨rh6, qh6, hf⟩ := ms_bE hf
      refine m_cp (pc' := 43) Bh5 (hp_runV (As := [.int (ms_I σh5 679)]) (rest := [.int (0 : Int32), .ref a0]) C Bh5 (m_X12_sizeOf n Γ l αh5 a0 ρ σh5 Mh5 (ms_I σh5 679) rh6 qh6) lb_X12_sizeOf lv_X12_sizeOf lk_X12_209 Mh5.1 rfl (by decide) rfl hl.1 rfl (Nat.le_of_ble_eq_true rfl) dX12_forkLine_40 ⟨Nat.le_refl _, Nat.le_refl _⟩) rfl (fun Hh6 Lh6 Bh6 => ?_)
      obtain ⟨rh7, σh7, qh7, hf⟩ := ms_cE hf
      refine m_ci (pc' := 46) (a := a0) (ρ := ρ) Bh6 (hp_runV (As := [.int (0 : Int32), .int rh6]) (rest := []) C Bh6 (m_X12_takesNumber n Γ l αh5 a0 ρ σh5 Mh5 (0 : Int32) rh6 (rh7, σh7) qh7) lb_X12_takesNumber lv_X12_takesNumber lk_X12_279 Mh5.1 rfl (by decide) rfl hl.1 rfl (Nat.le_of_ble_eq_true rfl) dX12_forkLine_43 ⟨Nat.le_refl _, Nat.le_refl _⟩) rfl (fun αh7 Hh7 Lh7 Bh7 Mh7 => ?_)
      refine lv_istore_n (lv' := [(1, .int rh7), (0, .ref a0)]) hx hb dX12_forkLine_46 rfl hl (by decide) rfl (fun ls hl => hp_n (n := 47) rfl ?_)
      refine lv_aload_n hx hb dX12_forkLine_47 rfl (lv_at hl 1 rfl) (hp_n (n := 48) rfl ?_)
      obtain ⟨σh8, qh8, hf⟩ := ms_bE hf
      refine m_cv (pc' := 51) (a := a0) (ρ := ρ) Bh7 (hp_runV (As := []) (rest := []) C Bh7 (m_X12_takesEnd n Γ l αh7 a0 ρ σh7 Mh7  σh8 qh8) lb_X12_takesEnd lv_X12_takesEnd lk_X12_285 Mh7.1 rfl (by decide) rfl hl.1 rfl (Nat.le_of_ble_eq_true rfl) dX12_forkLine_48 ⟨Nat.le_refl _, Nat.le_refl _⟩) rfl (fun αh8 Hh8 Lh8 Bh8 Mh8 => ?_)
      refine lv_aload_n hx hb dX12_forkLine_51 rfl (lv_at hl 1 rfl) (hp_n (n := 52) rfl ?_)
      refine m_geti (k := 20) (φ := 670) (pc' := 55) C Bh8 Mh8 fl_X12_262 rfl rfl dX12_forkLine_52 rfl ?_
      refine lv_if_ne (tgt := 71) hx hb dX12_forkLine_55 (by decide) (fun c9 => ?_) (fun c9 => hp_n (n := 58) rfl ?_)
      ·
        replace hf := ms_iF c9 hf
        cases hf
        exact q_vret C Bh8 hr hlk ⟨Bh8.2.2, Mh8⟩ dX12_forkLine_71
      ·
        replace hf := ms_iT c9 hf
        refine lv_aload_n hx hb dX12_forkLine_58 rfl (lv_at hl 1 rfl) (hp_n (n := 59) rfl ?_)
        refine lv_aload_n hx hb dX12_forkLine_59 rfl (lv_at hl 1 rfl) (hp_n (n := 60) rfl ?_)
        refine lv_aload_n hx hb dX12_forkLine_60 rfl (lv_at hl 1 rfl) (hp_n (n := 61) rfl ?_)
        refine m_geti (k := 29) (φ := 679) (pc' := 64) C Bh8 Mh8 fl_X12_282 rfl rfl dX12_forkLine_61 rfl ?_
        refine lv_iload_n hx hb dX12_forkLine_64 rfl (lv_at hl 0 rfl) (hp_n (n := 65) rfl ?_)
        obtain ⟨rh10, σh10, qh10, hf⟩ := ms_cE hf
        refine m_ci (pc' := 68) (a := a0) (ρ := ρ) Bh8 (hp_runV (As := [.int (ms_I σh8 679), .int rh7]) (rest := [.ref a0]) C Bh8 (m_X12_forks n Γ l αh8 a0 ρ σh8 Mh8 (ms_I σh8 679) rh7 (rh10, σh10) qh10) lb_X12_forks lv_X12_forks lk_X12_291 Mh8.1 rfl (by decide) rfl hl.1 rfl (Nat.le_of_ble_eq_true rfl) dX12_forkLine_65 ⟨Nat.le_refl _, Nat.le_refl _⟩) rfl (fun αh10 Hh10 Lh10 Bh10 Mh10 => ?_)
        refine m_puti (k := 29) (φ := 679) (pc' := 71) C Bh10 Mh10 fl_X12_282 rfl rfl rfl rfl rfl dX12_forkLine_68 rfl (fun αh11 Hh11 Lh11 σh11 eh11 Bh11 Mh11 => ?_)
        replace hf := ms_lE eh11 hf
        cases hf
        exact q_vret C Bh11 hr hlk ⟨Bh11.2.2, Mh11⟩ dX12_forkLine_71
    ·
      replace hf := ms_iF c4 hf
      cases hf
      exact q_vret C Bh3 hr hlk ⟨Bh3.2.2, Mh3⟩ dX12_forkLine_28
  refine lv_icmp_ge (tgt := 15) hx hb dX12_forkLine_8 (by decide) (fun c12 => ?_) (fun c12 => hp_n (n := 11) rfl ?_)
  ·
    replace hf := ms_iT c12 hf
    refine lv_iconst (v := 0) hx hb dX12_forkLine_15 (by decide) (hp_n (n := 16) rfl ?_)
    exact J16 α s.heap [] B σ hM (0 : Int32) ls (lv_sub hl [0] rfl) hf
  ·
    replace hf := ms_iF c12 hf
    refine lv_iconst (v := 1) hx hb dX12_forkLine_11 (by decide) (hp_n (n := 12) rfl ?_)
    refine lv_goto (tgt := 16) hx hb dX12_forkLine_12 (by decide) ?_
    exact J16 α s.heap [] B σ hM (1 : Int32) ls (lv_sub hl [0] rfl) hf
def f_X12_line_J123 (n : Nat) (σh19 : ms_T) : Option ms_T :=
  ms_b (f_X12_takesEnd n σh19) fun σh20 =>
  if (ms_I σh20 670) = 0 then
    ms_c (f_X12_freezes n σh20 (ms_I σh20 679)) fun rh22 σh22 =>
    some σh22
  else
    some σh20
def f_X12_line_J107 (n : Nat) (σh17 : ms_T) (w0_h17 : Int32) : Option ms_T :=
  ms_b (f_X12_must n σh17 w0_h17 (6 : Int32)) fun σh18 =>
  if (ms_I σh18 670) = 0 then
    ms_b (f_X12_reads n σh18) fun σh24 =>
    f_X12_line_J123 n σh24
  else
    f_X12_line_J123 n σh18
def f_X12_line_J57 (n : Nat) (σh30 : ms_T) (w0_h30 : Int32) : Option ms_T :=
  ms_l (ms_sI σh30 679 w0_h30) fun σh31 =>
  ms_b (f_X12_takesEnd n σh31) fun σh32 =>
  some σh32
def f_X12_line (n : Nat) (σ : ms_T) : Option ms_T :=
  ms_b (f_X12_isWord n σ (1 : Int32)) fun rh1 =>
  if rh1 = 0 then
    ms_b (f_X12_isWord n σ (2 : Int32)) fun rh3 =>
    if rh3 = 0 then
      ms_b (f_X12_isWord n σ (3 : Int32)) fun rh5 =>
      if rh5 = 0 then
        ms_b (f_X12_isWord n σ (4 : Int32)) fun rh7 =>
        if rh7 = 0 then
          ms_b (f_X12_takes n σ (5 : Int32)) fun σh9 =>
          ms_c (f_X12_takesNumber n σh9 (0 : Int32) (3 : Int32)) fun rh10 σh10 =>
          ms_b (f_X12_sizeOf n σh10 (ms_I σh10 679)) fun rh11 =>
          ms_c (f_X12_takesNumber n σh10 (0 : Int32) rh11) fun rh12 σh12 =>
          ms_b (f_X12_takesEnd n σh12) fun σh13 =>
          if (ms_I σh13 670) = 0 then
            ms_c (f_X12_shows n σh13 rh10 (ms_I σh13 679) rh12) fun rh15 σh15 =>
            some σh15
          else
            some σh13
        else
          ms_g (3 : Int32) 1980 <|
          if (16 : Int32) ≤ (ms_E σ 40 ((3 : Int32)).toNatClampNeg) then
            f_X12_line_J107 n σ (0 : Int32)
          else
            f_X12_line_J107 n σ (1 : Int32)
      else
        ms_b (f_X12_forkLine n σ) fun σh26 =>
        some σh26
    else
      ms_b (f_X12_reads n σ) fun σh27 =>
      ms_g (0 : Int32) 1980 <|
      ms_c (f_X12_takesNumber n σh27 (0 : Int32) ((ms_E σh27 40 ((0 : Int32)).toNatClampNeg) - (1 : Int32))) fun rh29 σh29 =>
      if (ms_I σh29 670) = 0 then
        f_X12_line_J57 n σh29 rh29
      else
        f_X12_line_J57 n σh29 (ms_I σh29 679)
  else
    ms_b (f_X12_addLine n σ) fun σh34 =>
    some σh34
set_option maxRecDepth 100000 in
set_option maxHeartbeats 4000000 in
theorem m_X12_line (n : Nat) (Γ : hp_G) (l : Launch) (α : hp_T) (a0 : Nat) (ρ : Nat → Nat) (σ : ms_T) (hM : hm_M α a0 ρ σ)  (res : ms_T) (hf : f_X12_line n σ = some res) : Met l yX12_line (hp_ws yX12_line cX12_line 3 none) (hp_rm 45 0 0) (hp_Pc Γ α [.ref a0]) (hp_Qv Γ (fun β => mo α β ∧ hm_M β a0 ρ res)) 0 0 (hp_A Γ) := by
  unfold f_X12_line at hf
  refine hp_start (by decide) ?_
  intro p e s m below meth c C hr hlk B0 hnm
  have C : hp_C Γ p m c cX12_line 3 s ([.ref a0] : List Value).toArray RX12 := C
  have hx := C.1.1
  have hb := C.1.2.1
  have hown := C.1.2.2.2.1
  have hts := C.1.2.2.2.2
  have B : hp_B Γ mo s α α s.heap [] := ⟨B0.1, B0.2.1, mo_rf⟩
  have hl := lv_entry ([.ref a0]) (n := 3) (Nat.le_of_ble_eq_true rfl)
  show W p l e (hp_rm 45 0 0) s m ([.ref a0] : List Value).toArray below meth c s.heap [] 0 0 (MQ below (hp_Qv Γ (fun β => mo α β ∧ hm_M β a0 ρ res)) ([.ref a0] : List Value).toArray s 0 0 (hp_A Γ)) (entryFrame m ([.ref a0] : List Value).toArray 3)
  rw [lg_entry_eq]
  generalize (lg_sl ([.ref a0]) ++ List.replicate (3 - (lg_sl ([.ref a0])).length) Slot.unset).toArray = ls at hl ⊢
  have hl : lv_has ls 3 [(0, .ref a0)] := hl
  refine lv_aload_n hx hb dX12_line_0 rfl (lv_at hl 0 rfl) (hp_n (n := 1) rfl ?_)
  refine lv_iconst (v := 1) hx hb dX12_line_1 (by decide) (hp_n (n := 2) rfl ?_)
  obtain ⟨rh1, qh1, hf⟩ := ms_bE hf
  refine m_cp (pc' := 5) B (hp_runV (As := [.int (1 : Int32)]) (rest := []) C B (m_X12_isWord n Γ l α a0 ρ σ hM (1 : Int32) rh1 qh1) lb_X12_isWord lv_X12_isWord lk_X12_268 hM.1 rfl (by decide) rfl hl.1 rfl (Nat.le_of_ble_eq_true rfl) dX12_line_2 ⟨Nat.le_refl _, Nat.le_refl _⟩) rfl (fun Hh1 Lh1 Bh1 => ?_)
  refine lv_if_eq (tgt := 15) hx hb dX12_line_5 (by decide) (fun c2 => ?_) (fun c2 => hp_n (n := 8) rfl ?_)
  ·
    replace hf := ms_iT c2 hf
    refine lv_aload_n hx hb dX12_line_15 rfl (lv_at hl 0 rfl) (hp_n (n := 16) rfl ?_)
    refine lv_iconst (v := 2) hx hb dX12_line_16 (by decide) (hp_n (n := 17) rfl ?_)
    obtain ⟨rh3, qh3, hf⟩ := ms_bE hf
    refine m_cp (pc' := 20) Bh1 (hp_runV (As := [.int (2 : Int32)]) (rest := []) C Bh1 (m_X12_isWord n Γ l α a0 ρ σ hM (2 : Int32) rh3 qh3) lb_X12_isWord lv_X12_isWord lk_X12_268 hM.1 rfl (by decide) rfl hl.1 rfl (Nat.le_of_ble_eq_true rfl) dX12_line_17 ⟨Nat.le_refl _, Nat.le_refl _⟩) rfl (fun Hh3 Lh3 Bh3 => ?_)
    refine lv_if_eq (tgt := 67) hx hb dX12_line_20 (by decide) (fun c4 => ?_) (fun c4 => hp_n (n := 23) rfl ?_)
    ·
      replace hf := ms_iT c4 hf
      refine lv_aload_n hx hb dX12_line_67 rfl (lv_at hl 0 rfl) (hp_n (n := 68) rfl ?_)
      refine lv_iconst (v := 3) hx hb dX12_line_68 (by decide) (hp_n (n := 69) rfl ?_)
      obtain ⟨rh5, qh5, hf⟩ := ms_bE hf
      refine m_cp (pc' := 72) Bh3 (hp_runV (As := [.int (3 : Int32)]) (rest := []) C Bh3 (m_X12_isWord n Γ l α a0 ρ σ hM (3 : Int32) rh5 qh5) lb_X12_isWord lv_X12_isWord lk_X12_268 hM.1 rfl (by decide) rfl hl.1 rfl (Nat.le_of_ble_eq_true rfl) dX12_line_69 ⟨Nat.le_refl _, Nat.le_refl _⟩) rfl (fun Hh5 Lh5 Bh5 => ?_)
      refine lv_if_eq (tgt := 82) hx hb dX12_line_72 (by decide) (fun c6 => ?_) (fun c6 => hp_n (n := 75) rfl ?_)
      ·
        replace hf := ms_iT c6 hf
        refine lv_aload_n hx hb dX12_line_82 rfl (lv_at hl 0 rfl) (hp_n (n := 83) rfl ?_)
        refine lv_iconst (v := 4) hx hb dX12_line_83 (by decide) (hp_n (n := 84) rfl ?_)
        obtain ⟨rh7, qh7, hf⟩ := ms_bE hf
        refine m_cp (pc' := 87) Bh5 (hp_runV (As := [.int (4 : Int32)]) (rest := []) C Bh5 (m_X12_isWord n Γ l α a0 ρ σ hM (4 : Int32) rh7 qh7) lb_X12_isWord lv_X12_isWord lk_X12_268 hM.1 rfl (by decide) rfl hl.1 rfl (Nat.le_of_ble_eq_true rfl) dX12_line_84 ⟨Nat.le_refl _, Nat.le_refl _⟩) rfl (fun Hh7 Lh7 Bh7 => ?_)
        refine lv_if_eq (tgt := 146) hx hb dX12_line_87 (by decide) (fun c8 => ?_) (fun c8 => hp_n (n := 90) rfl ?_)
        ·
          replace hf := ms_iT c8 hf
          refine lv_aload_n hx hb dX12_line_146 rfl (lv_at hl 0 rfl) (hp_n (n := 147) rfl ?_)
          refine lv_iconst (v := 5) hx hb dX12_line_147 (by decide) (hp_n (n := 148) rfl ?_)
          obtain ⟨σh9, qh9, hf⟩ := ms_bE hf
          refine m_cv (pc' := 151) (a := a0) (ρ := ρ) Bh7 (hp_runV (As := [.int (5 : Int32)]) (rest := []) C Bh7 (m_X12_takes n Γ l α a0 ρ σ hM (5 : Int32) σh9 qh9) lb_X12_takes lv_X12_takes lk_X12_303 hM.1 rfl (by decide) rfl hl.1 rfl (Nat.le_of_ble_eq_true rfl) dX12_line_148 ⟨Nat.le_refl _, Nat.le_refl _⟩) rfl (fun αh9 Hh9 Lh9 Bh9 Mh9 => ?_)
          refine lv_aload_n hx hb dX12_line_151 rfl (lv_at hl 0 rfl) (hp_n (n := 152) rfl ?_)
          refine lv_iconst (v := 0) hx hb dX12_line_152 (by decide) (hp_n (n := 153) rfl ?_)
          refine lv_iconst (v := 3) hx hb dX12_line_153 (by decide) (hp_n (n := 154) rfl ?_)
          obtain ⟨rh10, σh10, qh10, hf⟩ := ms_cE hf
          refine m_ci (pc' := 157) (a := a0) (ρ := ρ) Bh9 (hp_runV (As := [.int (0 : Int32), .int (3 : Int32)]) (rest := []) C Bh9 (m_X12_takesNumber n Γ l αh9 a0 ρ σh9 Mh9 (0 : Int32) (3 : Int32) (rh10, σh10) qh10) lb_X12_takesNumber lv_X12_takesNumber lk_X12_279 Mh9.1 rfl (by decide) rfl hl.1 rfl (Nat.le_of_ble_eq_true rfl) dX12_line_154 ⟨Nat.le_refl _, Nat.le_refl _⟩) rfl (fun αh10 Hh10 Lh10 Bh10 Mh10 => ?_)
          refine lv_istore_n (lv' := [(1, .int rh10), (0, .ref a0)]) hx hb dX12_line_157 rfl hl (by decide) rfl (fun ls hl => hp_n (n := 158) rfl ?_)
          refine lv_aload_n hx hb dX12_line_158 rfl (lv_at hl 1 rfl) (hp_n (n := 159) rfl ?_)
          refine lv_iconst (v := 0) hx hb dX12_line_159 (by decide) (hp_n (n := 160) rfl ?_)
          refine lv_aload_n hx hb dX12_line_160 rfl (lv_at hl 1 rfl) (hp_n (n := 161) rfl ?_)
          refine lv_aload_n hx hb dX12_line_161 rfl (lv_at hl 1 rfl) (hp_n (n := 162) rfl ?_)
          refine m_geti (k := 29) (φ := 679) (pc' := 165) C Bh10 Mh10 fl_X12_282 rfl rfl dX12_line_162 rfl ?_
          obtain ⟨rh11, qh11, hf⟩ := ms_bE hf
          refine m_cp (pc' := 168) Bh10 (hp_runV (As := [.int (ms_I σh10 679)]) (rest := [.int (0 : Int32), .ref a0]) C Bh10 (m_X12_sizeOf n Γ l αh10 a0 ρ σh10 Mh10 (ms_I σh10 679) rh11 qh11) lb_X12_sizeOf lv_X12_sizeOf lk_X12_209 Mh10.1 rfl (by decide) rfl hl.1 rfl (Nat.le_of_ble_eq_true rfl) dX12_line_165 ⟨Nat.le_refl _, Nat.le_refl _⟩) rfl (fun Hh11 Lh11 Bh11 => ?_)
          obtain ⟨rh12, σh12, qh12, hf⟩ := ms_cE hf
          refine m_ci (pc' := 171) (a := a0) (ρ := ρ) Bh11 (hp_runV (As := [.int (0 : Int32), .int rh11]) (rest := []) C Bh11 (m_X12_takesNumber n Γ l αh10 a0 ρ σh10 Mh10 (0 : Int32) rh11 (rh12, σh12) qh12) lb_X12_takesNumber lv_X12_takesNumber lk_X12_279 Mh10.1 rfl (by decide) rfl hl.1 rfl (Nat.le_of_ble_eq_true rfl) dX12_line_168 ⟨Nat.le_refl _, Nat.le_refl _⟩) rfl (fun αh12 Hh12 Lh12 Bh12 Mh12 => ?_)
          refine lv_istore_n (lv' := [(2, .int rh12), (1, .int rh10), (0, .ref a0)]) hx hb dX12_line_171 rfl hl (by decide) rfl (fun ls hl => hp_n (n := 172) rfl ?_)
          refine lv_aload_n hx hb dX12_line_172 rfl (lv_at hl 2 rfl) (hp_n (n := 173) rfl ?_)
          obtain ⟨σh13, qh13, hf⟩ := ms_bE hf
          refine m_cv (pc' := 176) (a := a0) (ρ := ρ) Bh12 (hp_runV (As := []) (rest := []) C Bh12 (m_X12_takesEnd n Γ l αh12 a0 ρ σh12 Mh12  σh13 qh13) lb_X12_takesEnd lv_X12_takesEnd lk_X12_285 Mh12.1 rfl (by decide) rfl hl.1 rfl (Nat.le_of_ble_eq_true rfl) dX12_line_173 ⟨Nat.le_refl _, Nat.le_refl _⟩) rfl (fun αh13 Hh13 Lh13 Bh13 Mh13 => ?_)
          refine lv_aload_n hx hb dX12_line_176 rfl (lv_at hl 2 rfl) (hp_n (n := 177) rfl ?_)
          refine m_geti (k := 20) (φ := 670) (pc' := 180) C Bh13 Mh13 fl_X12_262 rfl rfl dX12_line_177 rfl ?_
          refine lv_if_ne (tgt := 194) hx hb dX12_line_180 (by decide) (fun c14 => ?_) (fun c14 => hp_n (n := 183) rfl ?_)
          ·
            replace hf := ms_iF c14 hf
            cases hf
            exact q_vret C Bh13 hr hlk ⟨Bh13.2.2, Mh13⟩ dX12_line_194
          ·
            replace hf := ms_iT c14 hf
            refine lv_aload_n hx hb dX12_line_183 rfl (lv_at hl 2 rfl) (hp_n (n := 184) rfl ?_)
            refine lv_iload_n hx hb dX12_line_184 rfl (lv_at hl 1 rfl) (hp_n (n := 185) rfl ?_)
            refine lv_aload_n hx hb dX12_line_185 rfl (lv_at hl 2 rfl) (hp_n (n := 186) rfl ?_)
            refine m_geti (k := 29) (φ := 679) (pc' := 189) C Bh13 Mh13 fl_X12_282 rfl rfl dX12_line_186 rfl ?_
            refine lv_iload_n hx hb dX12_line_189 rfl (lv_at hl 0 rfl) (hp_n (n := 190) rfl ?_)
            obtain ⟨rh15, σh15, qh15, hf⟩ := ms_cE hf
            refine m_ci (pc' := 193) (a := a0) (ρ := ρ) Bh13 (hp_runV (As := [.int rh10, .int (ms_I σh13 679), .int rh12]) (rest := []) C Bh13 (m_X12_shows n Γ l αh13 a0 ρ σh13 Mh13 rh10 (ms_I σh13 679) rh12 (rh15, σh15) qh15) lb_X12_shows lv_X12_shows lk_X12_306 Mh13.1 rfl (by decide) rfl hl.1 rfl (Nat.le_of_ble_eq_true rfl) dX12_line_190 ⟨Nat.le_refl _, Nat.le_refl _⟩) rfl (fun αh15 Hh15 Lh15 Bh15 Mh15 => ?_)
            refine lv_pop hx hb dX12_line_193 rfl (hp_n (n := 194) rfl ?_)
            cases hf
            exact q_vret C Bh15 hr hlk ⟨Bh15.2.2, Mh15⟩ dX12_line_194
        ·
          replace hf := ms_iF c8 hf
          refine lv_aload_n hx hb dX12_line_90 rfl (lv_at hl 0 rfl) (hp_n (n := 91) rfl ?_)
          refine lv_aload_n hx hb dX12_line_91 rfl (lv_at hl 0 rfl) (hp_n (n := 92) rfl ?_)
          refine m_getr (κ := 40) (k := 0) (pc' := 95) C Bh7 hM fl_X12_7 rfl (by decide) dX12_line_92 rfl ?_
          refine lv_iconst (v := 3) hx hb dX12_line_95 (by decide) (hp_n (n := 96) rfl ?_)
          obtain ⟨g16, hf⟩ := ms_gE hf
          refine m_ial (κ := 40) (φ := 650) (n := 1980) (pc' := 97) C Bh7 hM (by decide) (by decide) rfl g16 dX12_line_96 rfl ?_
          refine lv_bipush (v := 16) hx hb dX12_line_97 (by decide) (hp_n (n := 99) rfl ?_)
          have J107 : ∀ (αh17 : hp_T) (Hh17 : Heap) (Lh17 : List Loc) (Bh17 : hp_B Γ mo s α αh17 Hh17 Lh17) (σh17 : ms_T) (Mh17 : hm_M αh17 a0 ρ σh17) (w0_h17 : Int32) (ls : Array Slot) (hl : lv_has ls 3 [(0, .ref a0)]) (hf : f_X12_line_J107 n σh17 w0_h17 = some res), W p l e (hp_rm 45 0 0) s m ([.ref a0] : List Value).toArray below meth c Hh17 Lh17 0 0 (MQ below (hp_Qv Γ (fun β => mo α β ∧ hm_M β a0 ρ res)) ([.ref a0] : List Value).toArray s 0 0 (hp_A Γ)) (F0 m 107 ls [.int w0_h17, .ref a0]) := by
            intro αh17 Hh17 Lh17 Bh17 σh17 Mh17 w0_h17 ls hl hf
            unfold f_X12_line_J107 at hf
            refine lv_bipush (v := 6) hx hb dX12_line_107 (by decide) (hp_n (n := 109) rfl ?_)
            obtain ⟨σh18, qh18, hf⟩ := ms_bE hf
            refine m_cv (pc' := 112) (a := a0) (ρ := ρ) Bh17 (hp_runV (As := [.int w0_h17, .int (6 : Int32)]) (rest := []) C Bh17 (m_X12_must n Γ l αh17 a0 ρ σh17 Mh17 w0_h17 (6 : Int32) σh18 qh18) lb_X12_must lv_X12_must lk_X12_272 Mh17.1 rfl (by decide) rfl hl.1 rfl (Nat.le_of_ble_eq_true rfl) dX12_line_109 ⟨Nat.le_refl _, Nat.le_refl _⟩) rfl (fun αh18 Hh18 Lh18 Bh18 Mh18 => ?_)
            refine lv_aload_n hx hb dX12_line_112 rfl (lv_at hl 0 rfl) (hp_n (n := 113) rfl ?_)
            refine m_geti (k := 20) (φ := 670) (pc' := 116) C Bh18 Mh18 fl_X12_262 rfl rfl dX12_line_113 rfl ?_
            have J123 : ∀ (αh19 : hp_T) (Hh19 : Heap) (Lh19 : List Loc) (Bh19 : hp_B Γ mo s α αh19 Hh19 Lh19) (σh19 : ms_T) (Mh19 : hm_M αh19 a0 ρ σh19) (ls : Array Slot) (hl : lv_has ls 3 [(0, .ref a0)]) (hf : f_X12_line_J123 n σh19 = some res), W p l e (hp_rm 45 0 0) s m ([.ref a0] : List Value).toArray below meth c Hh19 Lh19 0 0 (MQ below (hp_Qv Γ (fun β => mo α β ∧ hm_M β a0 ρ res)) ([.ref a0] : List Value).toArray s 0 0 (hp_A Γ)) (F0 m 123 ls []) := by
              intro αh19 Hh19 Lh19 Bh19 σh19 Mh19 ls hl hf
              unfold f_X12_line_J123 at hf
              refine lv_aload_n hx hb dX12_line_123 rfl (lv_at hl 0 rfl) (hp_n (n := 124) rfl ?_)
              obtain ⟨σh20, qh20, hf⟩ := ms_bE hf
              refine m_cv (pc' := 127) (a := a0) (ρ := ρ) Bh19 (hp_runV (As := []) (rest := []) C Bh19 (m_X12_takesEnd n Γ l αh19 a0 ρ σh19 Mh19  σh20 qh20) lb_X12_takesEnd lv_X12_takesEnd lk_X12_285 Mh19.1 rfl (by decide) rfl hl.1 rfl (Nat.le_of_ble_eq_true rfl) dX12_line_124 ⟨Nat.le_refl _, Nat.le_refl _⟩) rfl (fun αh20 Hh20 Lh20 Bh20 Mh20 => ?_)
              refine lv_aload_n hx hb dX12_line_127 rfl (lv_at hl 0 rfl) (hp_n (n := 128) rfl ?_)
              refine m_geti (k := 20) (φ := 670) (pc' := 131) C Bh20 Mh20 fl_X12_262 rfl rfl dX12_line_128 rfl ?_
              refine lv_if_ne (tgt := 194) hx hb dX12_line_131 (by decide) (fun c21 => ?_) (fun c21 => hp_n (n := 134) rfl ?_)
              ·
                replace hf := ms_iF c21 hf
                cases hf
                exact q_vret C Bh20 hr hlk ⟨Bh20.2.2, Mh20⟩ dX12_line_194
              ·
                replace hf := ms_iT c21 hf
                refine lv_aload_n hx hb dX12_line_134 rfl (lv_at hl 0 rfl) (hp_n (n := 135) rfl ?_)
                refine lv_aload_n hx hb dX12_line_135 rfl (lv_at hl 0 rfl) (hp_n (n := 136) rfl ?_)
                refine m_geti (k := 29) (φ := 679) (pc' := 139) C Bh20 Mh20 fl_X12_282 rfl rfl dX12_line_136 rfl ?_
                obtain ⟨rh22, σh22, qh22, hf⟩ := ms_cE hf
                refine m_ci (pc' := 142) (a := a0) (ρ := ρ) Bh20 (hp_runV (As := [.int (ms_I σh20 679)]) (rest := []) C Bh20 (m_X12_freezes n Γ l αh20 a0 ρ σh20 Mh20 (ms_I σh20 679) (rh22, σh22) qh22) lb_X12_freezes lv_X12_freezes lk_X12_300 Mh20.1 rfl (by decide) rfl hl.1 rfl (Nat.le_of_ble_eq_true rfl) dX12_line_139 ⟨Nat.le_refl _, Nat.le_refl _⟩) rfl (fun αh22 Hh22 Lh22 Bh22 Mh22 => ?_)
                refine lv_pop hx hb dX12_line_142 rfl (hp_n (n := 143) rfl ?_)
                refine lv_goto (tgt := 194) hx hb dX12_line_143 (by decide) ?_
                cases hf
                exact q_vret C Bh22 hr hlk ⟨Bh22.2.2, Mh22⟩ dX12_line_194
            refine lv_if_ne (tgt := 123) hx hb dX12_line_116 (by decide) (fun c23 => ?_) (fun c23 => hp_n (n := 119) rfl ?_)
            ·
              replace hf := ms_iF c23 hf
              exact J123 αh18 Hh18 Lh18 Bh18 σh18 Mh18 ls (lv_sub hl [0] rfl) hf
            ·
              replace hf := ms_iT c23 hf
              refine lv_aload_n hx hb dX12_line_119 rfl (lv_at hl 0 rfl) (hp_n (n := 120) rfl ?_)
              obtain ⟨σh24, qh24, hf⟩ := ms_bE hf
              refine m_cv (pc' := 123) (a := a0) (ρ := ρ) Bh18 (hp_runV (As := []) (rest := []) C Bh18 (m_X12_reads n Γ l αh18 a0 ρ σh18 Mh18  σh24 qh24) lb_X12_reads lv_X12_reads lk_X12_276 Mh18.1 rfl (by decide) rfl hl.1 rfl (Nat.le_of_ble_eq_true rfl) dX12_line_120 ⟨Nat.le_refl _, Nat.le_refl _⟩) rfl (fun αh24 Hh24 Lh24 Bh24 Mh24 => ?_)
              exact J123 αh24 Hh24 Lh24 Bh24 σh24 Mh24 ls (lv_sub hl [0] rfl) hf
          refine lv_icmp_ge (tgt := 106) hx hb dX12_line_99 (by decide) (fun c25 => ?_) (fun c25 => hp_n (n := 102) rfl ?_)
          ·
            replace hf := ms_iT c25 hf
            refine lv_iconst (v := 0) hx hb dX12_line_106 (by decide) (hp_n (n := 107) rfl ?_)
            exact J107 α Hh7 Lh7 Bh7 σ hM (0 : Int32) ls (lv_sub hl [0] rfl) hf
          ·
            replace hf := ms_iF c25 hf
            refine lv_iconst (v := 1) hx hb dX12_line_102 (by decide) (hp_n (n := 103) rfl ?_)
            refine lv_goto (tgt := 107) hx hb dX12_line_103 (by decide) ?_
            exact J107 α Hh7 Lh7 Bh7 σ hM (1 : Int32) ls (lv_sub hl [0] rfl) hf
      ·
        replace hf := ms_iF c6 hf
        refine lv_aload_n hx hb dX12_line_75 rfl (lv_at hl 0 rfl) (hp_n (n := 76) rfl ?_)
        obtain ⟨σh26, qh26, hf⟩ := ms_bE hf
        refine m_cv (pc' := 79) (a := a0) (ρ := ρ) Bh5 (hp_runV (As := []) (rest := []) C Bh5 (m_X12_forkLine n Γ l α a0 ρ σ hM  σh26 qh26) lb_X12_forkLine lv_X12_forkLine lk_X12_297 hM.1 rfl (by decide) rfl hl.1 rfl (Nat.le_of_ble_eq_true rfl) dX12_line_76 ⟨Nat.le_refl _, Nat.le_refl _⟩) rfl (fun αh26 Hh26 Lh26 Bh26 Mh26 => ?_)
        refine lv_goto (tgt := 194) hx hb dX12_line_79 (by decide) ?_
        cases hf
        exact q_vret C Bh26 hr hlk ⟨Bh26.2.2, Mh26⟩ dX12_line_194
    ·
      replace hf := ms_iF c4 hf
      refine lv_aload_n hx hb dX12_line_23 rfl (lv_at hl 0 rfl) (hp_n (n := 24) rfl ?_)
      obtain ⟨σh27, qh27, hf⟩ := ms_bE hf
      refine m_cv (pc' := 27) (a := a0) (ρ := ρ) Bh3 (hp_runV (As := []) (rest := []) C Bh3 (m_X12_reads n Γ l α a0 ρ σ hM  σh27 qh27) lb_X12_reads lv_X12_reads lk_X12_276 hM.1 rfl (by decide) rfl hl.1 rfl (Nat.le_of_ble_eq_true rfl) dX12_line_24 ⟨Nat.le_refl _, Nat.le_refl _⟩) rfl (fun αh27 Hh27 Lh27 Bh27 Mh27 => ?_)
      refine lv_aload_n hx hb dX12_line_27 rfl (lv_at hl 0 rfl) (hp_n (n := 28) rfl ?_)
      refine lv_iconst (v := 0) hx hb dX12_line_28 (by decide) (hp_n (n := 29) rfl ?_)
      refine lv_aload_n hx hb dX12_line_29 rfl (lv_at hl 0 rfl) (hp_n (n := 30) rfl ?_)
      refine m_getr (κ := 40) (k := 0) (pc' := 33) C Bh27 Mh27 fl_X12_7 rfl (by decide) dX12_line_30 rfl ?_
      refine lv_iconst (v := 0) hx hb dX12_line_33 (by decide) (hp_n (n := 34) rfl ?_)
      obtain ⟨g28, hf⟩ := ms_gE hf
      refine m_ial (κ := 40) (φ := 650) (n := 1980) (pc' := 35) C Bh27 Mh27 (by decide) (by decide) rfl g28 dX12_line_34 rfl ?_
      refine lv_iconst (v := 1) hx hb dX12_line_35 (by decide) (hp_n (n := 36) rfl ?_)
      refine lv_isub hx hb dX12_line_36 (hp_n (n := 37) rfl ?_)
      obtain ⟨rh29, σh29, qh29, hf⟩ := ms_cE hf
      refine m_ci (pc' := 40) (a := a0) (ρ := ρ) Bh27 (hp_runV (As := [.int (0 : Int32), .int ((ms_E σh27 40 ((0 : Int32)).toNatClampNeg) - (1 : Int32))]) (rest := []) C Bh27 (m_X12_takesNumber n Γ l αh27 a0 ρ σh27 Mh27 (0 : Int32) ((ms_E σh27 40 ((0 : Int32)).toNatClampNeg) - (1 : Int32)) (rh29, σh29) qh29) lb_X12_takesNumber lv_X12_takesNumber lk_X12_279 Mh27.1 rfl (by decide) rfl hl.1 rfl (Nat.le_of_ble_eq_true rfl) dX12_line_37 ⟨Nat.le_refl _, Nat.le_refl _⟩) rfl (fun αh29 Hh29 Lh29 Bh29 Mh29 => ?_)
      refine lv_istore_n (lv' := [(1, .int rh29), (0, .ref a0)]) hx hb dX12_line_40 rfl hl (by decide) rfl (fun ls hl => hp_n (n := 41) rfl ?_)
      refine lv_aload_n hx hb dX12_line_41 rfl (lv_at hl 1 rfl) (hp_n (n := 42) rfl ?_)
      refine lv_aload_n hx hb dX12_line_42 rfl (lv_at hl 1 rfl) (hp_n (n := 43) rfl ?_)
      refine m_geti (k := 20) (φ := 670) (pc' := 46) C Bh29 Mh29 fl_X12_262 rfl rfl dX12_line_43 rfl ?_
      have J57 : ∀ (αh30 : hp_T) (Hh30 : Heap) (Lh30 : List Loc) (Bh30 : hp_B Γ mo s α αh30 Hh30 Lh30) (σh30 : ms_T) (Mh30 : hm_M αh30 a0 ρ σh30) (w0_h30 : Int32) (ls : Array Slot) (hl : lv_has ls 3 [(0, .ref a0)]) (hf : f_X12_line_J57 n σh30 w0_h30 = some res), W p l e (hp_rm 45 0 0) s m ([.ref a0] : List Value).toArray below meth c Hh30 Lh30 0 0 (MQ below (hp_Qv Γ (fun β => mo α β ∧ hm_M β a0 ρ res)) ([.ref a0] : List Value).toArray s 0 0 (hp_A Γ)) (F0 m 57 ls [.int w0_h30, .ref a0]) := by
        intro αh30 Hh30 Lh30 Bh30 σh30 Mh30 w0_h30 ls hl hf
        unfold f_X12_line_J57 at hf
        refine m_puti (k := 29) (φ := 679) (pc' := 60) C Bh30 Mh30 fl_X12_282 rfl rfl rfl rfl rfl dX12_line_57 rfl (fun αh31 Hh31 Lh31 σh31 eh31 Bh31 Mh31 => ?_)
        replace hf := ms_lE eh31 hf
        refine lv_aload_n hx hb dX12_line_60 rfl (lv_at hl 0 rfl) (hp_n (n := 61) rfl ?_)
        obtain ⟨σh32, qh32, hf⟩ := ms_bE hf
        refine m_cv (pc' := 64) (a := a0) (ρ := ρ) Bh31 (hp_runV (As := []) (rest := []) C Bh31 (m_X12_takesEnd n Γ l αh31 a0 ρ σh31 Mh31  σh32 qh32) lb_X12_takesEnd lv_X12_takesEnd lk_X12_285 Mh31.1 rfl (by decide) rfl hl.1 rfl (Nat.le_of_ble_eq_true rfl) dX12_line_61 ⟨Nat.le_refl _, Nat.le_refl _⟩) rfl (fun αh32 Hh32 Lh32 Bh32 Mh32 => ?_)
        refine lv_goto (tgt := 194) hx hb dX12_line_64 (by decide) ?_
        cases hf
        exact q_vret C Bh32 hr hlk ⟨Bh32.2.2, Mh32⟩ dX12_line_194
      refine lv_if_ne (tgt := 53) hx hb dX12_line_46 (by decide) (fun c33 => ?_) (fun c33 => hp_n (n := 49) rfl ?_)
      ·
        replace hf := ms_iF c33 hf
        refine lv_aload_n hx hb dX12_line_53 rfl (lv_at hl 1 rfl) (hp_n (n := 54) rfl ?_)
        refine m_geti (k := 29) (φ := 679) (pc' := 57) C Bh29 Mh29 fl_X12_282 rfl rfl dX12_line_54 rfl ?_
        exact J57 αh29 Hh29 Lh29 Bh29 σh29 Mh29 (ms_I σh29 679) ls (lv_sub hl [1] rfl) hf
      ·
        replace hf := ms_iT c33 hf
        refine lv_iload_n hx hb dX12_line_49 rfl (lv_at hl 0 rfl) (hp_n (n := 50) rfl ?_)
        refine lv_goto (tgt := 57) hx hb dX12_line_50 (by decide) ?_
        exact J57 αh29 Hh29 Lh29 Bh29 σh29 Mh29 rh29 ls (lv_sub hl [1] rfl) hf
  ·
    replace hf := ms_iF c2 hf
    refine lv_aload_n hx hb dX12_line_8 rfl (lv_at hl 0 rfl) (hp_n (n := 9) rfl ?_)
    obtain ⟨σh34, qh34, hf⟩ := ms_bE hf
    refine m_cv (pc' := 12) (a := a0) (ρ := ρ) Bh1 (hp_runV (As := []) (rest := []) C Bh1 (m_X12_addLine n Γ l α a0 ρ σ hM  σh34 qh34) lb_X12_addLine lv_X12_addLine lk_X12_294 hM.1 rfl (by decide) rfl hl.1 rfl (Nat.le_of_ble_eq_true rfl) dX12_line_9 ⟨Nat.le_refl _, Nat.le_refl _⟩) rfl (fun αh34 Hh34 Lh34 Bh34 Mh34 => ?_)
    refine lv_goto (tgt := 194) hx hb dX12_line_12 (by decide) ?_
    cases hf
    exact q_vret C Bh34 hr hlk ⟨Bh34.2.2, Mh34⟩ dX12_line_194
def f_X12_begins (n : Nat) (σ : ms_T) (a1 : Int32) : Option ms_T :=
  ms_l (ms_sI σ 676 a1) fun σh1 =>
  ms_l (ms_sI σh1 673 (0 : Int32)) fun σh2 =>
  ms_l (ms_sI σh2 670 (0 : Int32)) fun σh3 =>
  ms_b (f_X12_reads n σh3) fun σh4 =>
  some σh4
set_option maxRecDepth 100000 in
set_option maxHeartbeats 4000000 in
theorem m_X12_begins (n : Nat) (Γ : hp_G) (l : Launch) (α : hp_T) (a0 : Nat) (ρ : Nat → Nat) (σ : ms_T) (hM : hm_M α a0 ρ σ) (a1 : Int32) (res : ms_T) (hf : f_X12_begins n σ a1 = some res) : Met l yX12_begins (hp_ws yX12_begins cX12_begins 2 none) (hp_rm 3 0 0) (hp_Pc Γ α [.ref a0, .int a1]) (hp_Qv Γ (fun β => mo α β ∧ hm_M β a0 ρ res)) 0 0 (hp_A Γ) := by
  unfold f_X12_begins at hf
  refine hp_start (by decide) ?_
  intro p e s m below meth c C hr hlk B0 hnm
  have C : hp_C Γ p m c cX12_begins 2 s ([.ref a0, .int a1] : List Value).toArray RX12 := C
  have hx := C.1.1
  have hb := C.1.2.1
  have hown := C.1.2.2.2.1
  have hts := C.1.2.2.2.2
  have B : hp_B Γ mo s α α s.heap [] := ⟨B0.1, B0.2.1, mo_rf⟩
  have hl := lv_entry ([.ref a0, .int a1]) (n := 2) (Nat.le_of_ble_eq_true rfl)
  show W p l e (hp_rm 3 0 0) s m ([.ref a0, .int a1] : List Value).toArray below meth c s.heap [] 0 0 (MQ below (hp_Qv Γ (fun β => mo α β ∧ hm_M β a0 ρ res)) ([.ref a0, .int a1] : List Value).toArray s 0 0 (hp_A Γ)) (entryFrame m ([.ref a0, .int a1] : List Value).toArray 2)
  rw [lg_entry_eq]
  generalize (lg_sl ([.ref a0, .int a1]) ++ List.replicate (2 - (lg_sl ([.ref a0, .int a1])).length) Slot.unset).toArray = ls at hl ⊢
  have hl : lv_has ls 2 [(0, .ref a0), (1, .int a1)] := hl
  refine lv_aload_n hx hb dX12_begins_0 rfl (lv_at hl 0 rfl) (hp_n (n := 1) rfl ?_)
  refine lv_iload_n hx hb dX12_begins_1 rfl (lv_at hl 1 rfl) (hp_n (n := 2) rfl ?_)
  refine m_puti (k := 26) (φ := 676) (pc' := 5) C B hM fl_X12_236 rfl rfl rfl rfl rfl dX12_begins_2 rfl (fun αh1 Hh1 Lh1 σh1 eh1 Bh1 Mh1 => ?_)
  replace hf := ms_lE eh1 hf
  refine lv_aload_n hx hb dX12_begins_5 rfl (lv_at hl 0 rfl) (hp_n (n := 6) rfl ?_)
  refine lv_iconst (v := 0) hx hb dX12_begins_6 (by decide) (hp_n (n := 7) rfl ?_)
  refine m_puti (k := 23) (φ := 673) (pc' := 10) C Bh1 Mh1 fl_X12_239 rfl rfl rfl rfl rfl dX12_begins_7 rfl (fun αh2 Hh2 Lh2 σh2 eh2 Bh2 Mh2 => ?_)
  replace hf := ms_lE eh2 hf
  refine lv_aload_n hx hb dX12_begins_10 rfl (lv_at hl 0 rfl) (hp_n (n := 11) rfl ?_)
  refine lv_iconst (v := 0) hx hb dX12_begins_11 (by decide) (hp_n (n := 12) rfl ?_)
  refine m_puti (k := 20) (φ := 670) (pc' := 15) C Bh2 Mh2 fl_X12_262 rfl rfl rfl rfl rfl dX12_begins_12 rfl (fun αh3 Hh3 Lh3 σh3 eh3 Bh3 Mh3 => ?_)
  replace hf := ms_lE eh3 hf
  refine lv_aload_n hx hb dX12_begins_15 rfl (lv_at hl 0 rfl) (hp_n (n := 16) rfl ?_)
  obtain ⟨σh4, qh4, hf⟩ := ms_bE hf
  refine m_cv (pc' := 19) (a := a0) (ρ := ρ) Bh3 (hp_runV (As := []) (rest := []) C Bh3 (m_X12_reads n Γ l αh3 a0 ρ σh3 Mh3  σh4 qh4) lb_X12_reads lv_X12_reads lk_X12_276 Mh3.1 rfl (by decide) rfl hl.1 rfl (Nat.le_of_ble_eq_true rfl) dX12_begins_16 ⟨Nat.le_refl _, Nat.le_refl _⟩) rfl (fun αh4 Hh4 Lh4 Bh4 Mh4 => ?_)
  cases hf
  exact q_vret C Bh4 hr hlk ⟨Bh4.2.2, Mh4⟩ dX12_begins_19
def f_X12_ends_J29 (n : Nat) (σh3 : ms_T) (w0_h3 : Int32) : Option ms_T :=
  ms_l (ms_sI σh3 669 w0_h3) fun σh4 =>
  if (ms_I σh4 670) ≤ 0 then
    ms_l (ms_sI σh4 652 (0 : Int32)) fun σh6 =>
    some σh6
  else
    ms_l (ms_sI σh4 652 (9 : Int32)) fun σh7 =>
    some σh7
def f_X12_ends (n : Nat) (σ : ms_T) : Option ms_T :=
  ms_l (ms_sI σ 667 (0 : Int32)) fun σh1 =>
  ms_l (ms_sI σh1 668 (ms_I σh1 670)) fun σh2 =>
  if (ms_I σh2 670) ≤ 0 then
    f_X12_ends_J29 n σh2 (-1 : Int32)
  else
    f_X12_ends_J29 n σh2 (ms_I σh2 671)
set_option maxRecDepth 100000 in
set_option maxHeartbeats 4000000 in
theorem m_X12_ends (n : Nat) (Γ : hp_G) (l : Launch) (α : hp_T) (a0 : Nat) (ρ : Nat → Nat) (σ : ms_T) (hM : hm_M α a0 ρ σ)  (res : ms_T) (hf : f_X12_ends n σ = some res) : Met l yX12_ends (hp_ws yX12_ends cX12_ends 1 none) (hp_rm 0 0 0) (hp_Pc Γ α [.ref a0]) (hp_Qv Γ (fun β => mo α β ∧ hm_M β a0 ρ res)) 0 0 (hp_A Γ) := by
  unfold f_X12_ends at hf
  refine hp_start (by decide) ?_
  intro p e s m below meth c C hr hlk B0 hnm
  have C : hp_C Γ p m c cX12_ends 1 s ([.ref a0] : List Value).toArray RX12 := C
  have hx := C.1.1
  have hb := C.1.2.1
  have hown := C.1.2.2.2.1
  have hts := C.1.2.2.2.2
  have B : hp_B Γ mo s α α s.heap [] := ⟨B0.1, B0.2.1, mo_rf⟩
  have hl := lv_entry ([.ref a0]) (n := 1) (Nat.le_of_ble_eq_true rfl)
  show W p l e (hp_rm 0 0 0) s m ([.ref a0] : List Value).toArray below meth c s.heap [] 0 0 (MQ below (hp_Qv Γ (fun β => mo α β ∧ hm_M β a0 ρ res)) ([.ref a0] : List Value).toArray s 0 0 (hp_A Γ)) (entryFrame m ([.ref a0] : List Value).toArray 1)
  rw [lg_entry_eq]
  generalize (lg_sl ([.ref a0]) ++ List.replicate (1 - (lg_sl ([.ref a0])).length) Slot.unset).toArray = ls at hl ⊢
  have hl : lv_has ls 1 [(0, .ref a0)] := hl
  refine lv_aload_n hx hb dX12_ends_0 rfl (lv_at hl 0 rfl) (hp_n (n := 1) rfl ?_)
  refine lv_iconst (v := 0) hx hb dX12_ends_1 (by decide) (hp_n (n := 2) rfl ?_)
  refine m_puti (k := 17) (φ := 667) (pc' := 5) C B hM fl_X12_230 rfl rfl rfl rfl rfl dX12_ends_2 rfl (fun αh1 Hh1 Lh1 σh1 eh1 Bh1 Mh1 => ?_)
  replace hf := ms_lE eh1 hf
  refine lv_aload_n hx hb dX12_ends_5 rfl (lv_at hl 0 rfl) (hp_n (n := 6) rfl ?_)
  refine lv_aload_n hx hb dX12_ends_6 rfl (lv_at hl 0 rfl) (hp_n (n := 7) rfl ?_)
  refine m_geti (k := 20) (φ := 670) (pc' := 10) C Bh1 Mh1 fl_X12_262 rfl rfl dX12_ends_7 rfl ?_
  refine m_puti (k := 18) (φ := 668) (pc' := 13) C Bh1 Mh1 fl_X12_35 rfl rfl rfl rfl rfl dX12_ends_10 rfl (fun αh2 Hh2 Lh2 σh2 eh2 Bh2 Mh2 => ?_)
  replace hf := ms_lE eh2 hf
  refine lv_aload_n hx hb dX12_ends_13 rfl (lv_at hl 0 rfl) (hp_n (n := 14) rfl ?_)
  refine lv_aload_n hx hb dX12_ends_14 rfl (lv_at hl 0 rfl) (hp_n (n := 15) rfl ?_)
  refine m_geti (k := 20) (φ := 670) (pc' := 18) C Bh2 Mh2 fl_X12_262 rfl rfl dX12_ends_15 rfl ?_
  have J29 : ∀ (αh3 : hp_T) (Hh3 : Heap) (Lh3 : List Loc) (Bh3 : hp_B Γ mo s α αh3 Hh3 Lh3) (σh3 : ms_T) (Mh3 : hm_M αh3 a0 ρ σh3) (w0_h3 : Int32) (ls : Array Slot) (hl : lv_has ls 1 [(0, .ref a0)]) (hf : f_X12_ends_J29 n σh3 w0_h3 = some res), W p l e (hp_rm 0 0 0) s m ([.ref a0] : List Value).toArray below meth c Hh3 Lh3 0 0 (MQ below (hp_Qv Γ (fun β => mo α β ∧ hm_M β a0 ρ res)) ([.ref a0] : List Value).toArray s 0 0 (hp_A Γ)) (F0 m 29 ls [.int w0_h3, .ref a0]) := by
    intro αh3 Hh3 Lh3 Bh3 σh3 Mh3 w0_h3 ls hl hf
    unfold f_X12_ends_J29 at hf
    refine m_puti (k := 19) (φ := 669) (pc' := 32) C Bh3 Mh3 fl_X12_39 rfl rfl rfl rfl rfl dX12_ends_29 rfl (fun αh4 Hh4 Lh4 σh4 eh4 Bh4 Mh4 => ?_)
    replace hf := ms_lE eh4 hf
    refine lv_aload_n hx hb dX12_ends_32 rfl (lv_at hl 0 rfl) (hp_n (n := 33) rfl ?_)
    refine lv_aload_n hx hb dX12_ends_33 rfl (lv_at hl 0 rfl) (hp_n (n := 34) rfl ?_)
    refine m_geti (k := 20) (φ := 670) (pc' := 37) C Bh4 Mh4 fl_X12_262 rfl rfl dX12_ends_34 rfl ?_
    refine lv_if_le (tgt := 45) hx hb dX12_ends_37 (by decide) (fun c5 => ?_) (fun c5 => hp_n (n := 40) rfl ?_)
    ·
      replace hf := ms_iT c5 hf
      refine lv_iconst (v := 0) hx hb dX12_ends_45 (by decide) (hp_n (n := 46) rfl ?_)
      refine m_puti (k := 2) (φ := 652) (pc' := 49) C Bh4 Mh4 fl_X12_109 rfl rfl rfl rfl rfl dX12_ends_46 rfl (fun αh6 Hh6 Lh6 σh6 eh6 Bh6 Mh6 => ?_)
      replace hf := ms_lE eh6 hf
      cases hf
      exact q_vret C Bh6 hr hlk ⟨Bh6.2.2, Mh6⟩ dX12_ends_49
    ·
      replace hf := ms_iF c5 hf
      refine lv_bipush (v := 9) hx hb dX12_ends_40 (by decide) (hp_n (n := 42) rfl ?_)
      refine lv_goto (tgt := 46) hx hb dX12_ends_42 (by decide) ?_
      refine m_puti (k := 2) (φ := 652) (pc' := 49) C Bh4 Mh4 fl_X12_109 rfl rfl rfl rfl rfl dX12_ends_46 rfl (fun αh7 Hh7 Lh7 σh7 eh7 Bh7 Mh7 => ?_)
      replace hf := ms_lE eh7 hf
      cases hf
      exact q_vret C Bh7 hr hlk ⟨Bh7.2.2, Mh7⟩ dX12_ends_49
  refine lv_if_le (tgt := 28) hx hb dX12_ends_18 (by decide) (fun c8 => ?_) (fun c8 => hp_n (n := 21) rfl ?_)
  ·
    replace hf := ms_iT c8 hf
    refine lv_iconst (v := (-1)) hx hb dX12_ends_28 (by decide) (hp_n (n := 29) rfl ?_)
    exact J29 αh2 Hh2 Lh2 Bh2 σh2 Mh2 (-1 : Int32) ls (lv_sub hl [0] rfl) hf
  ·
    replace hf := ms_iF c8 hf
    refine lv_aload_n hx hb dX12_ends_21 rfl (lv_at hl 0 rfl) (hp_n (n := 22) rfl ?_)
    refine m_geti (k := 21) (φ := 671) (pc' := 25) C Bh2 Mh2 fl_X12_265 rfl rfl dX12_ends_22 rfl ?_
    refine lv_goto (tgt := 29) hx hb dX12_ends_25 (by decide) ?_
    exact J29 αh2 Hh2 Lh2 Bh2 σh2 Mh2 (ms_I σh2 671) ls (lv_sub hl [0] rfl) hf
def f_X12_load_L138 (n : Nat) : Nat → ms_T → Int32 → Option (Int32 × ms_T)
  | 0, _, _ => none
  | k138 + 1, σh15, v2_h15 =>
    if (1980 : Int32) ≤ v2_h15 then
      some ((-1 : Int32), σh15)
    else
      ms_g v2_h15 1980 <|
      ms_g v2_h15 1980 <|
      ms_l (ms_sE σh15 40 (v2_h15).toNatClampNeg (ms_E σh15 41 (v2_h15).toNatClampNeg)) fun σh19 =>
      ms_l (v2_h15 + 1) fun x20 =>
      (f_X12_load_L138 n k138) σh19 x20
def f_X12_load_J118 (n : Nat) (σh12 : ms_T) : Option (Int32 × ms_T) :=
  ms_b (f_X12_ends n σh12) fun σh13 =>
  if (ms_I σh13 670) = 0 then
    ms_g (0 : Int32) 1980 <|
    some ((ms_E σh13 40 ((0 : Int32)).toNatClampNeg), σh13)
  else
    f_X12_load_L138 n n σh13 (0 : Int32)
def f_X12_load_L97 (n : Nat) : Nat → ms_T → Option (Int32 × ms_T)
  | 0, _ => none
  | k97 + 1, σh11 =>
    if (ms_I σh11 670) = 0 then
      if (ms_I σh11 674) = 0 then
        f_X12_load_J118 n σh11
      else
        ms_b (f_X12_line n σh11) fun σh24 =>
        (f_X12_load_L97 n k97) σh24
    else
      f_X12_load_J118 n σh11
def f_X12_load_L28 (n : Nat) : Nat → ms_T → Int32 → Int32 → Option (Int32 × ms_T)
  | 0, _, _, _ => none
  | k28 + 1, σh5, v1_h5, v2_h5 =>
    if (1980 : Int32) ≤ v2_h5 then
      ms_b (f_X12_clears n σh5) fun σh7 =>
      ms_l (ms_sI σh7 679 (0 : Int32)) fun σh8 =>
      ms_b (f_X12_begins n σh8 v1_h5) fun σh9 =>
      ms_b (f_X12_isWord n σh9 (0 : Int32)) fun rh10 =>
      if rh10 = 0 then
        f_X12_load_L97 n n σh9
      else
        ms_b (f_X12_reads n σh9) fun σh26 =>
        ms_c (f_X12_takesNumber n σh26 (101 : Int32) (65521 : Int32)) fun rh27 σh27 =>
        ms_g (1 : Int32) 1980 <|
        ms_l (ms_sE σh27 40 ((1 : Int32)).toNatClampNeg rh27) fun σh29 =>
        ms_b (f_X12_takesEnd n σh29) fun σh30 =>
        f_X12_load_L97 n n σh30
    else
      ms_g v2_h5 1980 <|
      ms_g v2_h5 1980 <|
      ms_l (ms_sE σh5 41 (v2_h5).toNatClampNeg (ms_E σh5 40 (v2_h5).toNatClampNeg)) fun σh33 =>
      ms_l (v2_h5 + 1) fun x34 =>
      (f_X12_load_L28 n k28) σh33 v1_h5 x34
def f_X12_load_J18 (n : Nat) (σh2 : ms_T) (v1_h2 : Int32) (w0_h2 : Int32) : Option (Int32 × ms_T) :=
  ms_c (f_X12_is n σh2 w0_h2) fun rh3 σh3 =>
  if rh3 = 0 then
    some ((-1 : Int32), σh3)
  else
    f_X12_load_L28 n n σh3 v1_h2 (0 : Int32)
def f_X12_load (n : Nat) (σ : ms_T) (a1 : Int32) : Option (Int32 × ms_T) :=
  ms_b (f_X12_isIn n a1 (0 : Int32) (ms_I σ 667)) fun rh1 =>
  if rh1 = 0 then
    f_X12_load_J18 n σ a1 (1 : Int32)
  else
    f_X12_load_J18 n σ a1 (0 : Int32)
set_option maxRecDepth 100000 in
set_option maxHeartbeats 4000000 in
theorem m_X12_load (n : Nat) (Γ : hp_G) (l : Launch) (α : hp_T) (a0 : Nat) (ρ : Nat → Nat) (σ : ms_T) (hM : hm_M α a0 ρ σ) (a1 : Int32) (res : (Int32 × ms_T)) (hf : f_X12_load n σ a1 = some res) : Met l yX12_load (hp_ws yX12_load cX12_load 3 (some .int)) (hp_rm 46 0 0) (hp_Pc Γ α [.ref a0, .int a1]) (hp_Qi Γ (fun r β => r = res.1 ∧ mo α β ∧ hm_M β a0 ρ res.2)) 0 0 (hp_A Γ) := by
  unfold f_X12_load at hf
  refine hp_start (by decide) ?_
  intro p e s m below meth c C hr hlk B0 hnm
  have C : hp_C Γ p m c cX12_load 3 s ([.ref a0, .int a1] : List Value).toArray RX12 := C
  have hx := C.1.1
  have hb := C.1.2.1
  have hown := C.1.2.2.2.1
  have hts := C.1.2.2.2.2
  have B : hp_B Γ mo s α α s.heap [] := ⟨B0.1, B0.2.1, mo_rf⟩
  have hl := lv_entry ([.ref a0, .int a1]) (n := 3) (Nat.le_of_ble_eq_true rfl)
  show W p l e (hp_rm 46 0 0) s m ([.ref a0, .int a1] : List Value).toArray below meth c s.heap [] 0 0 (MQ below (hp_Qi Γ (fun r β => r = res.1 ∧ mo α β ∧ hm_M β a0 ρ res.2)) ([.ref a0, .int a1] : List Value).toArray s 0 0 (hp_A Γ)) (entryFrame m ([.ref a0, .int a1] : List Value).toArray 3)
  rw [lg_entry_eq]
  generalize (lg_sl ([.ref a0, .int a1]) ++ List.replicate (3 - (lg_sl ([.ref a0, .int a1])).length) Slot.unset).toArray = ls at hl ⊢
  have hl : lv_has ls 3 [(0, .ref a0), (1, .int a1)] := hl
  refine lv_aload_n hx hb dX12_load_0 rfl (lv_at hl 0 rfl) (hp_n (n := 1) rfl ?_)
  refine lv_iload_n hx hb dX12_load_1 rfl (lv_at hl 1 rfl) (hp_n (n := 2) rfl ?_)
  refine lv_iconst (v := 0) hx hb dX12_load_2 (by decide) (hp_n (n := 3) rfl ?_)
  refine lv_aload_n hx hb dX12_load_3 rfl (lv_at hl 0 rfl) (hp_n (n := 4) rfl ?_)
  refine m_geti (k := 17) (φ := 667) (pc' := 7) C B hM fl_X12_230 rfl rfl dX12_load_4 rfl ?_
  obtain ⟨rh1, qh1, hf⟩ := ms_bE hf
  refine m_cp (pc' := 10) B (hp_runS (As := [.int a1, .int (0 : Int32), .int (ms_I σ 667)]) (rest := [.ref a0]) C B (m_X12_isIn n Γ l α a1 (0 : Int32) (ms_I σ 667) rh1 qh1) lb_X12_isIn ls_X12_isIn lk_X12_113 rfl (by decide) rfl hl.1 rfl (Nat.le_of_ble_eq_true rfl) dX12_load_7 ⟨Nat.le_refl _, Nat.le_refl _⟩) rfl (fun Hh1 Lh1 Bh1 => ?_)
  have J18 : ∀ (αh2 : hp_T) (Hh2 : Heap) (Lh2 : List Loc) (Bh2 : hp_B Γ mo s α αh2 Hh2 Lh2) (σh2 : ms_T) (Mh2 : hm_M αh2 a0 ρ σh2) (v1_h2 : Int32) (w0_h2 : Int32) (ls : Array Slot) (hl : lv_has ls 3 [(0, .ref a0), (1, .int v1_h2)]) (hf : f_X12_load_J18 n σh2 v1_h2 w0_h2 = some res), W p l e (hp_rm 46 0 0) s m ([.ref a0, .int a1] : List Value).toArray below meth c Hh2 Lh2 0 0 (MQ below (hp_Qi Γ (fun r β => r = res.1 ∧ mo α β ∧ hm_M β a0 ρ res.2)) ([.ref a0, .int a1] : List Value).toArray s 0 0 (hp_A Γ)) (F0 m 18 ls [.int w0_h2, .ref a0]) := by
    intro αh2 Hh2 Lh2 Bh2 σh2 Mh2 v1_h2 w0_h2 ls hl hf
    unfold f_X12_load_J18 at hf
    obtain ⟨rh3, σh3, qh3, hf⟩ := ms_cE hf
    refine m_ci (pc' := 21) (a := a0) (ρ := ρ) Bh2 (hp_runV (As := [.int w0_h2]) (rest := []) C Bh2 (m_X12_is n Γ l αh2 a0 ρ σh2 Mh2 w0_h2 (rh3, σh3) qh3) lb_X12_is lv_X12_is lk_X12_309 Mh2.1 rfl (by decide) rfl hl.1 rfl (Nat.le_of_ble_eq_true rfl) dX12_load_18 ⟨Nat.le_refl _, Nat.le_refl _⟩) rfl (fun αh3 Hh3 Lh3 Bh3 Mh3 => ?_)
    refine lv_if_ne (tgt := 26) hx hb dX12_load_21 (by decide) (fun c4 => ?_) (fun c4 => hp_n (n := 24) rfl ?_)
    ·
      replace hf := ms_iF c4 hf
      refine lv_iconst (v := 0) hx hb dX12_load_26 (by decide) (hp_n (n := 27) rfl ?_)
      have J28 : ∀ (k28 : Nat) (αh5 : hp_T) (Hh5 : Heap) (Lh5 : List Loc) (Bh5 : hp_B Γ mo s α αh5 Hh5 Lh5) (σh5 : ms_T) (Mh5 : hm_M αh5 a0 ρ σh5) (v1_h5 : Int32) (v2_h5 : Int32) (ls : Array Slot) (hl : lv_has ls 3 [(0, .ref a0), (1, .int v1_h5), (2, .int v2_h5)]) (hf : f_X12_load_L28 n k28 σh5 v1_h5 v2_h5 = some res), W p l e (hp_rm 46 0 0) s m ([.ref a0, .int a1] : List Value).toArray below meth c Hh5 Lh5 0 0 (MQ below (hp_Qi Γ (fun r β => r = res.1 ∧ mo α β ∧ hm_M β a0 ρ res.2)) ([.ref a0, .int a1] : List Value).toArray s 0 0 (hp_A Γ)) (F0 m 28 ls []) := by
        intro k28
        induction k28 with
        | zero => intro αh5 Hh5 Lh5 Bh5 σh5 Mh5 v1_h5 v2_h5 ls hl hf; rw [f_X12_load_L28.eq_1] at hf; cases hf
        | succ k28 ih28 =>
          intro αh5 Hh5 Lh5 Bh5 σh5 Mh5 v1_h5 v2_h5 ls hl hf
          rw [f_X12_load_L28.eq_2] at hf
          refine lv_iload_n hx hb dX12_load_28 rfl (lv_at hl 2 rfl) (hp_n (n := 29) rfl ?_)
          refine lv_sipush (v := 1980) hx hb dX12_load_29 (by decide) (hp_n (n := 32) rfl ?_)
          refine lv_icmp_ge (tgt := 53) hx hb dX12_load_32 (by decide) (fun c6 => ?_) (fun c6 => hp_n (n := 35) rfl ?_)
          ·
            replace hf := ms_iT c6 hf
            refine lv_aload_n hx hb dX12_load_53 rfl (lv_at hl 0 rfl) (hp_n (n := 54) rfl ?_)
            obtain ⟨σh7, qh7, hf⟩ := ms_bE hf
            refine m_cv (pc' := 57) (a := a0) (ρ := ρ) Bh5 (hp_runV (As := []) (rest := []) C Bh5 (m_X12_clears n Γ l αh5 a0 ρ σh5 Mh5  σh7 qh7) lb_X12_clears lv_X12_clears lk_X12_103 Mh5.1 rfl (by decide) rfl hl.1 rfl (Nat.le_of_ble_eq_true rfl) dX12_load_54 ⟨Nat.le_refl _, Nat.le_refl _⟩) rfl (fun αh7 Hh7 Lh7 Bh7 Mh7 => ?_)
            refine lv_aload_n hx hb dX12_load_57 rfl (lv_at hl 0 rfl) (hp_n (n := 58) rfl ?_)
            refine lv_iconst (v := 0) hx hb dX12_load_58 (by decide) (hp_n (n := 59) rfl ?_)
            refine m_puti (k := 29) (φ := 679) (pc' := 62) C Bh7 Mh7 fl_X12_282 rfl rfl rfl rfl rfl dX12_load_59 rfl (fun αh8 Hh8 Lh8 σh8 eh8 Bh8 Mh8 => ?_)
            replace hf := ms_lE eh8 hf
            refine lv_aload_n hx hb dX12_load_62 rfl (lv_at hl 0 rfl) (hp_n (n := 63) rfl ?_)
            refine lv_iload_n hx hb dX12_load_63 rfl (lv_at hl 1 rfl) (hp_n (n := 64) rfl ?_)
            obtain ⟨σh9, qh9, hf⟩ := ms_bE hf
            refine m_cv (pc' := 67) (a := a0) (ρ := ρ) Bh8 (hp_runV (As := [.int v1_h5]) (rest := []) C Bh8 (m_X12_begins n Γ l αh8 a0 ρ σh8 Mh8 v1_h5 σh9 qh9) lb_X12_begins lv_X12_begins lk_X12_312 Mh8.1 rfl (by decide) rfl hl.1 rfl (Nat.le_of_ble_eq_true rfl) dX12_load_64 ⟨Nat.le_refl _, Nat.le_refl _⟩) rfl (fun αh9 Hh9 Lh9 Bh9 Mh9 => ?_)
            refine lv_aload_n hx hb dX12_load_67 rfl (lv_at hl 0 rfl) (hp_n (n := 68) rfl ?_)
            refine lv_iconst (v := 0) hx hb dX12_load_68 (by decide) (hp_n (n := 69) rfl ?_)
            obtain ⟨rh10, qh10, hf⟩ := ms_bE hf
            refine m_cp (pc' := 72) Bh9 (hp_runV (As := [.int (0 : Int32)]) (rest := []) C Bh9 (m_X12_isWord n Γ l αh9 a0 ρ σh9 Mh9 (0 : Int32) rh10 qh10) lb_X12_isWord lv_X12_isWord lk_X12_268 Mh9.1 rfl (by decide) rfl hl.1 rfl (Nat.le_of_ble_eq_true rfl) dX12_load_69 ⟨Nat.le_refl _, Nat.le_refl _⟩) rfl (fun Hh10 Lh10 Bh10 => ?_)
            have J97 : ∀ (k97 : Nat) (αh11 : hp_T) (Hh11 : Heap) (Lh11 : List Loc) (Bh11 : hp_B Γ mo s α αh11 Hh11 Lh11) (σh11 : ms_T) (Mh11 : hm_M αh11 a0 ρ σh11) (ls : Array Slot) (hl : lv_has ls 3 [(0, .ref a0)]) (hf : f_X12_load_L97 n k97 σh11 = some res), W p l e (hp_rm 46 0 0) s m ([.ref a0, .int a1] : List Value).toArray below meth c Hh11 Lh11 0 0 (MQ below (hp_Qi Γ (fun r β => r = res.1 ∧ mo α β ∧ hm_M β a0 ρ res.2)) ([.ref a0, .int a1] : List Value).toArray s 0 0 (hp_A Γ)) (F0 m 97 ls []) := by
              intro k97
              induction k97 with
              | zero => intro αh11 Hh11 Lh11 Bh11 σh11 Mh11 ls hl hf; rw [f_X12_load_L97.eq_1] at hf; cases hf
              | succ k97 ih97 =>
                intro αh11 Hh11 Lh11 Bh11 σh11 Mh11 ls hl hf
                rw [f_X12_load_L97.eq_2] at hf
                refine lv_aload_n hx hb dX12_load_97 rfl (lv_at hl 0 rfl) (hp_n (n := 98) rfl ?_)
                refine m_geti (k := 20) (φ := 670) (pc' := 101) C Bh11 Mh11 fl_X12_262 rfl rfl dX12_load_98 rfl ?_
                have J118 : ∀ (αh12 : hp_T) (Hh12 : Heap) (Lh12 : List Loc) (Bh12 : hp_B Γ mo s α αh12 Hh12 Lh12) (σh12 : ms_T) (Mh12 : hm_M αh12 a0 ρ σh12) (ls : Array Slot) (hl : lv_has ls 3 [(0, .ref a0)]) (hf : f_X12_load_J118 n σh12 = some res), W p l e (hp_rm 46 0 0) s m ([.ref a0, .int a1] : List Value).toArray below meth c Hh12 Lh12 0 0 (MQ below (hp_Qi Γ (fun r β => r = res.1 ∧ mo α β ∧ hm_M β a0 ρ res.2)) ([.ref a0, .int a1] : List Value).toArray s 0 0 (hp_A Γ)) (F0 m 118 ls []) := by
                  intro αh12 Hh12 Lh12 Bh12 σh12 Mh12 ls hl hf
                  unfold f_X12_load_J118 at hf
                  refine lv_aload_n hx hb dX12_load_118 rfl (lv_at hl 0 rfl) (hp_n (n := 119) rfl ?_)
                  obtain ⟨σh13, qh13, hf⟩ := ms_bE hf
                  refine m_cv (pc' := 122) (a := a0) (ρ := ρ) Bh12 (hp_runV (As := []) (rest := []) C Bh12 (m_X12_ends n Γ l αh12 a0 ρ σh12 Mh12  σh13 qh13) lb_X12_ends lv_X12_ends lk_X12_318 Mh12.1 rfl (by decide) rfl hl.1 rfl (Nat.le_of_ble_eq_true rfl) dX12_load_119 ⟨Nat.le_refl _, Nat.le_refl _⟩) rfl (fun αh13 Hh13 Lh13 Bh13 Mh13 => ?_)
                  refine lv_aload_n hx hb dX12_load_122 rfl (lv_at hl 0 rfl) (hp_n (n := 123) rfl ?_)
                  refine m_geti (k := 20) (φ := 670) (pc' := 126) C Bh13 Mh13 fl_X12_262 rfl rfl dX12_load_123 rfl ?_
                  refine lv_if_ne (tgt := 136) hx hb dX12_load_126 (by decide) (fun c14 => ?_) (fun c14 => hp_n (n := 129) rfl ?_)
                  ·
                    replace hf := ms_iF c14 hf
                    refine lv_iconst (v := 0) hx hb dX12_load_136 (by decide) (hp_n (n := 137) rfl ?_)
                    have J138 : ∀ (k138 : Nat) (αh15 : hp_T) (Hh15 : Heap) (Lh15 : List Loc) (Bh15 : hp_B Γ mo s α αh15 Hh15 Lh15) (σh15 : ms_T) (Mh15 : hm_M αh15 a0 ρ σh15) (v2_h15 : Int32) (ls : Array Slot) (hl : lv_has ls 3 [(0, .ref a0), (2, .int v2_h15)]) (hf : f_X12_load_L138 n k138 σh15 v2_h15 = some res), W p l e (hp_rm 46 0 0) s m ([.ref a0, .int a1] : List Value).toArray below meth c Hh15 Lh15 0 0 (MQ below (hp_Qi Γ (fun r β => r = res.1 ∧ mo α β ∧ hm_M β a0 ρ res.2)) ([.ref a0, .int a1] : List Value).toArray s 0 0 (hp_A Γ)) (F0 m 138 ls []) := by
                      intro k138
                      induction k138 with
                      | zero => intro αh15 Hh15 Lh15 Bh15 σh15 Mh15 v2_h15 ls hl hf; rw [f_X12_load_L138.eq_1] at hf; cases hf
                      | succ k138 ih138 =>
                        intro αh15 Hh15 Lh15 Bh15 σh15 Mh15 v2_h15 ls hl hf
                        rw [f_X12_load_L138.eq_2] at hf
                        refine lv_iload_n hx hb dX12_load_138 rfl (lv_at hl 1 rfl) (hp_n (n := 139) rfl ?_)
                        refine lv_sipush (v := 1980) hx hb dX12_load_139 (by decide) (hp_n (n := 142) rfl ?_)
                        refine lv_icmp_ge (tgt := 163) hx hb dX12_load_142 (by decide) (fun c16 => ?_) (fun c16 => hp_n (n := 145) rfl ?_)
                        ·
                          replace hf := ms_iT c16 hf
                          refine lv_iconst (v := (-1)) hx hb dX12_load_163 (by decide) (hp_n (n := 164) rfl ?_)
                          cases hf
                          exact q_iret C Bh15 hr hlk ⟨rfl, Bh15.2.2, Mh15⟩ dX12_load_164
                        ·
                          replace hf := ms_iF c16 hf
                          refine lv_aload_n hx hb dX12_load_145 rfl (lv_at hl 0 rfl) (hp_n (n := 146) rfl ?_)
                          refine m_getr (κ := 40) (k := 0) (pc' := 149) C Bh15 Mh15 fl_X12_7 rfl (by decide) dX12_load_146 rfl ?_
                          refine lv_iload_n hx hb dX12_load_149 rfl (lv_at hl 1 rfl) (hp_n (n := 150) rfl ?_)
                          refine lv_aload_n hx hb dX12_load_150 rfl (lv_at hl 0 rfl) (hp_n (n := 151) rfl ?_)
                          refine m_getr (κ := 41) (k := 1) (pc' := 154) C Bh15 Mh15 fl_X12_13 rfl (by decide) dX12_load_151 rfl ?_
                          refine lv_iload_n hx hb dX12_load_154 rfl (lv_at hl 1 rfl) (hp_n (n := 155) rfl ?_)
                          obtain ⟨g17, hf⟩ := ms_gE hf
                          refine m_ial (κ := 41) (φ := 651) (n := 1980) (pc' := 156) C Bh15 Mh15 (by decide) (by decide) rfl g17 dX12_load_155 rfl ?_
                          obtain ⟨g18, hf⟩ := ms_gE hf
                          refine m_ias (κ := 40) (φ := 650) (n := 1980) (pc' := 157) C Bh15 Mh15 (by decide) (by decide) rfl g18 dX12_load_156 rfl (fun αh19 Hh19 Lh19 σh19 eh19 Bh19 Mh19 => ?_)
                          replace hf := ms_lE eh19 hf
                          obtain ⟨x20, ex20⟩ : ∃ y : Int32, y = v2_h15 + 1 := ⟨_, rfl⟩
                          replace hf := ms_lE ex20 hf
                          refine lv_iinc (v := x20) (lv' := [(2, .int x20), (0, .ref a0)]) hx hb dX12_load_157 hl (k := 1) rfl (by rw [ex20]; rfl) (by decide) rfl (fun ls hl => hp_n (n := 160) rfl ?_)
                          refine lv_goto (tgt := 138) hx hb dX12_load_160 (by decide) ?_
                          exact ih138 αh19 Hh19 Lh19 Bh19 σh19 Mh19 x20 ls (lv_sub hl [1, 0] rfl) hf
                    refine lv_istore_n (lv' := [(2, .int (0 : Int32)), (0, .ref a0)]) hx hb dX12_load_137 rfl hl (by decide) rfl (fun ls hl => hp_n (n := 138) rfl ?_)
                    exact J138 n αh13 Hh13 Lh13 Bh13 σh13 Mh13 (0 : Int32) ls (lv_sub hl [1, 0] rfl) hf
                  ·
                    replace hf := ms_iT c14 hf
                    refine lv_aload_n hx hb dX12_load_129 rfl (lv_at hl 0 rfl) (hp_n (n := 130) rfl ?_)
                    refine m_getr (κ := 40) (k := 0) (pc' := 133) C Bh13 Mh13 fl_X12_7 rfl (by decide) dX12_load_130 rfl ?_
                    refine lv_iconst (v := 0) hx hb dX12_load_133 (by decide) (hp_n (n := 134) rfl ?_)
                    obtain ⟨g21, hf⟩ := ms_gE hf
                    refine m_ial (κ := 40) (φ := 650) (n := 1980) (pc' := 135) C Bh13 Mh13 (by decide) (by decide) rfl g21 dX12_load_134 rfl ?_
                    cases hf
                    exact q_iret C Bh13 hr hlk ⟨rfl, Bh13.2.2, Mh13⟩ dX12_load_135
                refine lv_if_ne (tgt := 118) hx hb dX12_load_101 (by decide) (fun c22 => ?_) (fun c22 => hp_n (n := 104) rfl ?_)
                ·
                  replace hf := ms_iF c22 hf
                  exact J118 αh11 Hh11 Lh11 Bh11 σh11 Mh11 ls (lv_sub hl [0] rfl) hf
                ·
                  replace hf := ms_iT c22 hf
                  refine lv_aload_n hx hb dX12_load_104 rfl (lv_at hl 0 rfl) (hp_n (n := 105) rfl ?_)
                  refine m_geti (k := 24) (φ := 674) (pc' := 108) C Bh11 Mh11 fl_X12_245 rfl rfl dX12_load_105 rfl ?_
                  refine lv_if_eq (tgt := 118) hx hb dX12_load_108 (by decide) (fun c23 => ?_) (fun c23 => hp_n (n := 111) rfl ?_)
                  ·
                    replace hf := ms_iT c23 hf
                    exact J118 αh11 Hh11 Lh11 Bh11 σh11 Mh11 ls (lv_sub hl [0] rfl) hf
                  ·
                    replace hf := ms_iF c23 hf
                    refine lv_aload_n hx hb dX12_load_111 rfl (lv_at hl 0 rfl) (hp_n (n := 112) rfl ?_)
                    obtain ⟨σh24, qh24, hf⟩ := ms_bE hf
                    refine m_cv (pc' := 115) (a := a0) (ρ := ρ) Bh11 (hp_runV (As := []) (rest := []) C Bh11 (m_X12_line n Γ l αh11 a0 ρ σh11 Mh11  σh24 qh24) lb_X12_line lv_X12_line lk_X12_315 Mh11.1 rfl (by decide) rfl hl.1 rfl (Nat.le_of_ble_eq_true rfl) dX12_load_112 ⟨Nat.le_refl _, Nat.le_refl _⟩) rfl (fun αh24 Hh24 Lh24 Bh24 Mh24 => ?_)
                    refine lv_goto (tgt := 97) hx hb dX12_load_115 (by decide) ?_
                    exact ih97 αh24 Hh24 Lh24 Bh24 σh24 Mh24 ls (lv_sub hl [0] rfl) hf
            refine lv_if_eq (tgt := 97) hx hb dX12_load_72 (by decide) (fun c25 => ?_) (fun c25 => hp_n (n := 75) rfl ?_)
            ·
              replace hf := ms_iT c25 hf
              exact J97 n αh9 Hh10 Lh10 Bh10 σh9 Mh9 ls (lv_sub hl [0] rfl) hf
            ·
              replace hf := ms_iF c25 hf
              refine lv_aload_n hx hb dX12_load_75 rfl (lv_at hl 0 rfl) (hp_n (n := 76) rfl ?_)
              obtain ⟨σh26, qh26, hf⟩ := ms_bE hf
              refine m_cv (pc' := 79) (a := a0) (ρ := ρ) Bh10 (hp_runV (As := []) (rest := []) C Bh10 (m_X12_reads n Γ l αh9 a0 ρ σh9 Mh9  σh26 qh26) lb_X12_reads lv_X12_reads lk_X12_276 Mh9.1 rfl (by decide) rfl hl.1 rfl (Nat.le_of_ble_eq_true rfl) dX12_load_76 ⟨Nat.le_refl _, Nat.le_refl _⟩) rfl (fun αh26 Hh26 Lh26 Bh26 Mh26 => ?_)
              refine lv_aload_n hx hb dX12_load_79 rfl (lv_at hl 0 rfl) (hp_n (n := 80) rfl ?_)
              refine m_getr (κ := 40) (k := 0) (pc' := 83) C Bh26 Mh26 fl_X12_7 rfl (by decide) dX12_load_80 rfl ?_
              refine lv_iconst (v := 1) hx hb dX12_load_83 (by decide) (hp_n (n := 84) rfl ?_)
              refine lv_aload_n hx hb dX12_load_84 rfl (lv_at hl 0 rfl) (hp_n (n := 85) rfl ?_)
              refine lv_bipush (v := 101) hx hb dX12_load_85 (by decide) (hp_n (n := 87) rfl ?_)
              refine lv_ldc hx hb hown (hts _ kc_X12_112) dX12_load_87 (hp_n (n := 89) rfl ?_)
              obtain ⟨rh27, σh27, qh27, hf⟩ := ms_cE hf
              refine m_ci (pc' := 92) (a := a0) (ρ := ρ) Bh26 (hp_runV (As := [.int (101 : Int32), .int (65521 : Int32)]) (rest := [.int (1 : Int32), .ref (ρ 40)]) C Bh26 (m_X12_takesNumber n Γ l αh26 a0 ρ σh26 Mh26 (101 : Int32) (65521 : Int32) (rh27, σh27) qh27) lb_X12_takesNumber lv_X12_takesNumber lk_X12_279 Mh26.1 rfl (by decide) rfl hl.1 rfl (Nat.le_of_ble_eq_true rfl) dX12_load_89 ⟨Nat.le_refl _, Nat.le_refl _⟩) rfl (fun αh27 Hh27 Lh27 Bh27 Mh27 => ?_)
              obtain ⟨g28, hf⟩ := ms_gE hf
              refine m_ias (κ := 40) (φ := 650) (n := 1980) (pc' := 93) C Bh27 Mh27 (by decide) (by decide) rfl g28 dX12_load_92 rfl (fun αh29 Hh29 Lh29 σh29 eh29 Bh29 Mh29 => ?_)
              replace hf := ms_lE eh29 hf
              refine lv_aload_n hx hb dX12_load_93 rfl (lv_at hl 0 rfl) (hp_n (n := 94) rfl ?_)
              obtain ⟨σh30, qh30, hf⟩ := ms_bE hf
              refine m_cv (pc' := 97) (a := a0) (ρ := ρ) Bh29 (hp_runV (As := []) (rest := []) C Bh29 (m_X12_takesEnd n Γ l αh29 a0 ρ σh29 Mh29  σh30 qh30) lb_X12_takesEnd lv_X12_takesEnd lk_X12_285 Mh29.1 rfl (by decide) rfl hl.1 rfl (Nat.le_of_ble_eq_true rfl) dX12_load_94 ⟨Nat.le_refl _, Nat.le_refl _⟩) rfl (fun αh30 Hh30 Lh30 Bh30 Mh30 => ?_)
              exact J97 n αh30 Hh30 Lh30 Bh30 σh30 Mh30 ls (lv_sub hl [0] rfl) hf
          ·
            replace hf := ms_iF c6 hf
            refine lv_aload_n hx hb dX12_load_35 rfl (lv_at hl 0 rfl) (hp_n (n := 36) rfl ?_)
            refine m_getr (κ := 41) (k := 1) (pc' := 39) C Bh5 Mh5 fl_X12_13 rfl (by decide) dX12_load_36 rfl ?_
            refine lv_iload_n hx hb dX12_load_39 rfl (lv_at hl 2 rfl) (hp_n (n := 40) rfl ?_)
            refine lv_aload_n hx hb dX12_load_40 rfl (lv_at hl 0 rfl) (hp_n (n := 41) rfl ?_)
            refine m_getr (κ := 40) (k := 0) (pc' := 44) C Bh5 Mh5 fl_X12_7 rfl (by decide) dX12_load_41 rfl ?_
            refine lv_iload_n hx hb dX12_load_44 rfl (lv_at hl 2 rfl) (hp_n (n := 45) rfl ?_)
            obtain ⟨g31, hf⟩ := ms_gE hf
            refine m_ial (κ := 40) (φ := 650) (n := 1980) (pc' := 46) C Bh5 Mh5 (by decide) (by decide) rfl g31 dX12_load_45 rfl ?_
            obtain ⟨g32, hf⟩ := ms_gE hf
            refine m_ias (κ := 41) (φ := 651) (n := 1980) (pc' := 47) C Bh5 Mh5 (by decide) (by decide) rfl g32 dX12_load_46 rfl (fun αh33 Hh33 Lh33 σh33 eh33 Bh33 Mh33 => ?_)
            replace hf := ms_lE eh33 hf
            obtain ⟨x34, ex34⟩ : ∃ y : Int32, y = v2_h5 + 1 := ⟨_, rfl⟩
            replace hf := ms_lE ex34 hf
            refine lv_iinc (v := x34) (lv' := [(2, .int x34), (0, .ref a0), (1, .int v1_h5)]) hx hb dX12_load_47 hl (k := 2) rfl (by rw [ex34]; rfl) (by decide) rfl (fun ls hl => hp_n (n := 50) rfl ?_)
            refine lv_goto (tgt := 28) hx hb dX12_load_50 (by decide) ?_
            exact ih28 αh33 Hh33 Lh33 Bh33 σh33 Mh33 v1_h5 x34 ls (lv_sub hl [1, 2, 0] rfl) hf
      refine lv_istore_n (lv' := [(2, .int (0 : Int32)), (0, .ref a0), (1, .int v1_h2)]) hx hb dX12_load_27 rfl hl (by decide) rfl (fun ls hl => hp_n (n := 28) rfl ?_)
      exact J28 n αh3 Hh3 Lh3 Bh3 σh3 Mh3 v1_h2 (0 : Int32) ls (lv_sub hl [1, 2, 0] rfl) hf
    ·
      replace hf := ms_iT c4 hf
      refine lv_iconst (v := (-1)) hx hb dX12_load_24 (by decide) (hp_n (n := 25) rfl ?_)
      cases hf
      exact q_iret C Bh3 hr hlk ⟨rfl, Bh3.2.2, Mh3⟩ dX12_load_25
  refine lv_if_eq (tgt := 17) hx hb dX12_load_10 (by decide) (fun c35 => ?_) (fun c35 => hp_n (n := 13) rfl ?_)
  ·
    replace hf := ms_iT c35 hf
    refine lv_iconst (v := 1) hx hb dX12_load_17 (by decide) (hp_n (n := 18) rfl ?_)
    exact J18 α Hh1 Lh1 Bh1 σ hM a1 (1 : Int32) ls (lv_sub hl [0, 1] rfl) hf
  ·
    replace hf := ms_iF c35 hf
    refine lv_iconst (v := 0) hx hb dX12_load_13 (by decide) (hp_n (n := 14) rfl ?_)
    refine lv_goto (tgt := 18) hx hb dX12_load_14 (by decide) ?_
    exact J18 α Hh1 Lh1 Bh1 σ hM a1 (0 : Int32) ls (lv_sub hl [0, 1] rfl) hf
def f_X12_takesMarks_J82 (n : Nat) (σh3 : ms_T) (v1_h3 : Int32) : Option (Int32 × ms_T) :=
  ms_b (f_X12_takesEnd n σh3) fun σh4 =>
  some (v1_h3, σh4)
def f_X12_takesMarks_J48 (n : Nat) (rec8 : ms_T → Int32 → Option (Int32 × ms_T)) (σh9 : ms_T) (v1_h9 : Int32) (w0_h9 : Int32) : Option (Int32 × ms_T) :=
  ms_b (f_X12_must n σh9 w0_h9 (6 : Int32)) fun σh10 =>
  if (ms_I σh10 670) ≤ 0 then
    ms_g v1_h9 128 <|
    ms_l (ms_sE σh10 44 (v1_h9).toNatClampNeg (ms_I σh10 675)) fun σh13 =>
    ms_l (v1_h9 + 1) fun x14 =>
    ms_b (f_X12_reads n σh13) fun σh15 =>
    rec8 σh15 x14
  else
    some (v1_h9, σh10)
def f_X12_takesMarks_L8 (n : Nat) : Nat → ms_T → Int32 → Option (Int32 × ms_T)
  | 0, _, _ => none
  | k8 + 1, σh2, v1_h2 =>
    if (ms_I σh2 670) = 0 then
      if (ms_I σh2 674) = (2 : Int32) then
        ms_b (f_X12_isMark n σh2 (ms_I σh2 675)) fun rh7 =>
        ms_b (f_X12_must n σh2 rh7 (3 : Int32)) fun σh8 =>
        if (64 : Int32) ≤ v1_h2 then
          f_X12_takesMarks_J48 n (f_X12_takesMarks_L8 n k8) σh8 v1_h2 (0 : Int32)
        else
          f_X12_takesMarks_J48 n (f_X12_takesMarks_L8 n k8) σh8 v1_h2 (1 : Int32)
      else
        f_X12_takesMarks_J82 n σh2 v1_h2
    else
      f_X12_takesMarks_J82 n σh2 v1_h2
def f_X12_takesMarks (n : Nat) (σ : ms_T) : Option (Int32 × ms_T) :=
  ms_b (f_X12_takes n σ (11 : Int32)) fun σh1 =>
  f_X12_takesMarks_L8 n n σh1 (0 : Int32)
set_option maxRecDepth 100000 in
set_option maxHeartbeats 4000000 in
theorem m_X12_takesMarks (n : Nat) (Γ : hp_G) (l : Launch) (α : hp_T) (a0 : Nat) (ρ : Nat → Nat) (σ : ms_T) (hM : hm_M α a0 ρ σ)  (res : (Int32 × ms_T)) (hf : f_X12_takesMarks n σ = some res) : Met l yX12_takesMarks (hp_ws yX12_takesMarks cX12_takesMarks 2 (some .int)) (hp_rm 4 0 0) (hp_Pc Γ α [.ref a0]) (hp_Qi Γ (fun r β => r = res.1 ∧ mo α β ∧ hm_M β a0 ρ res.2)) 0 0 (hp_A Γ) := by
  unfold f_X12_takesMarks at hf
  refine hp_start (by decide) ?_
  intro p e s m below meth c C hr hlk B0 hnm
  have C : hp_C Γ p m c cX12_takesMarks 2 s ([.ref a0] : List Value).toArray RX12 := C
  have hx := C.1.1
  have hb := C.1.2.1
  have hown := C.1.2.2.2.1
  have hts := C.1.2.2.2.2
  have B : hp_B Γ mo s α α s.heap [] := ⟨B0.1, B0.2.1, mo_rf⟩
  have hl := lv_entry ([.ref a0]) (n := 2) (Nat.le_of_ble_eq_true rfl)
  show W p l e (hp_rm 4 0 0) s m ([.ref a0] : List Value).toArray below meth c s.heap [] 0 0 (MQ below (hp_Qi Γ (fun r β => r = res.1 ∧ mo α β ∧ hm_M β a0 ρ res.2)) ([.ref a0] : List Value).toArray s 0 0 (hp_A Γ)) (entryFrame m ([.ref a0] : List Value).toArray 2)
  rw [lg_entry_eq]
  generalize (lg_sl ([.ref a0]) ++ List.replicate (2 - (lg_sl ([.ref a0])).length) Slot.unset).toArray = ls at hl ⊢
  have hl : lv_has ls 2 [(0, .ref a0)] := hl
  refine lv_aload_n hx hb dX12_takesMarks_0 rfl (lv_at hl 0 rfl) (hp_n (n := 1) rfl ?_)
  refine lv_bipush (v := 11) hx hb dX12_takesMarks_1 (by decide) (hp_n (n := 3) rfl ?_)
  obtain ⟨σh1, qh1, hf⟩ := ms_bE hf
  refine m_cv (pc' := 6) (a := a0) (ρ := ρ) B (hp_runV (As := [.int (11 : Int32)]) (rest := []) C B (m_X12_takes n Γ l α a0 ρ σ hM (11 : Int32) σh1 qh1) lb_X12_takes lv_X12_takes lk_X12_303 hM.1 rfl (by decide) rfl hl.1 rfl (Nat.le_of_ble_eq_true rfl) dX12_takesMarks_3 ⟨Nat.le_refl _, Nat.le_refl _⟩) rfl (fun αh1 Hh1 Lh1 Bh1 Mh1 => ?_)
  refine lv_iconst (v := 0) hx hb dX12_takesMarks_6 (by decide) (hp_n (n := 7) rfl ?_)
  have J8 : ∀ (k8 : Nat) (αh2 : hp_T) (Hh2 : Heap) (Lh2 : List Loc) (Bh2 : hp_B Γ mo s α αh2 Hh2 Lh2) (σh2 : ms_T) (Mh2 : hm_M αh2 a0 ρ σh2) (v1_h2 : Int32) (ls : Array Slot) (hl : lv_has ls 2 [(0, .ref a0), (1, .int v1_h2)]) (hf : f_X12_takesMarks_L8 n k8 σh2 v1_h2 = some res), W p l e (hp_rm 4 0 0) s m ([.ref a0] : List Value).toArray below meth c Hh2 Lh2 0 0 (MQ below (hp_Qi Γ (fun r β => r = res.1 ∧ mo α β ∧ hm_M β a0 ρ res.2)) ([.ref a0] : List Value).toArray s 0 0 (hp_A Γ)) (F0 m 8 ls []) := by
    intro k8
    induction k8 with
    | zero => intro αh2 Hh2 Lh2 Bh2 σh2 Mh2 v1_h2 ls hl hf; rw [f_X12_takesMarks_L8.eq_1] at hf; cases hf
    | succ k8 ih8 =>
      intro αh2 Hh2 Lh2 Bh2 σh2 Mh2 v1_h2 ls hl hf
      rw [f_X12_takesMarks_L8.eq_2] at hf
      refine lv_aload_n hx hb dX12_takesMarks_8 rfl (lv_at hl 0 rfl) (hp_n (n := 9) rfl ?_)
      refine m_geti (k := 20) (φ := 670) (pc' := 12) C Bh2 Mh2 fl_X12_262 rfl rfl dX12_takesMarks_9 rfl ?_
      have J82 : ∀ (αh3 : hp_T) (Hh3 : Heap) (Lh3 : List Loc) (Bh3 : hp_B Γ mo s α αh3 Hh3 Lh3) (σh3 : ms_T) (Mh3 : hm_M αh3 a0 ρ σh3) (v1_h3 : Int32) (ls : Array Slot) (hl : lv_has ls 2 [(0, .ref a0), (1, .int v1_h3)]) (hf : f_X12_takesMarks_J82 n σh3 v1_h3 = some res), W p l e (hp_rm 4 0 0) s m ([.ref a0] : List Value).toArray below meth c Hh3 Lh3 0 0 (MQ below (hp_Qi Γ (fun r β => r = res.1 ∧ mo α β ∧ hm_M β a0 ρ res.2)) ([.ref a0] : List Value).toArray s 0 0 (hp_A Γ)) (F0 m 82 ls []) := by
        intro αh3 Hh3 Lh3 Bh3 σh3 Mh3 v1_h3 ls hl hf
        unfold f_X12_takesMarks_J82 at hf
        refine lv_aload_n hx hb dX12_takesMarks_82 rfl (lv_at hl 0 rfl) (hp_n (n := 83) rfl ?_)
        obtain ⟨σh4, qh4, hf⟩ := ms_bE hf
        refine m_cv (pc' := 86) (a := a0) (ρ := ρ) Bh3 (hp_runV (As := []) (rest := []) C Bh3 (m_X12_takesEnd n Γ l αh3 a0 ρ σh3 Mh3  σh4 qh4) lb_X12_takesEnd lv_X12_takesEnd lk_X12_285 Mh3.1 rfl (by decide) rfl hl.1 rfl (Nat.le_of_ble_eq_true rfl) dX12_takesMarks_83 ⟨Nat.le_refl _, Nat.le_refl _⟩) rfl (fun αh4 Hh4 Lh4 Bh4 Mh4 => ?_)
        refine lv_iload_n hx hb dX12_takesMarks_86 rfl (lv_at hl 1 rfl) (hp_n (n := 87) rfl ?_)
        cases hf
        exact q_iret C Bh4 hr hlk ⟨rfl, Bh4.2.2, Mh4⟩ dX12_takesMarks_87
      refine lv_if_ne (tgt := 82) hx hb dX12_takesMarks_12 (by decide) (fun c5 => ?_) (fun c5 => hp_n (n := 15) rfl ?_)
      ·
        replace hf := ms_iF c5 hf
        exact J82 αh2 Hh2 Lh2 Bh2 σh2 Mh2 v1_h2 ls (lv_sub hl [0, 1] rfl) hf
      ·
        replace hf := ms_iT c5 hf
        refine lv_aload_n hx hb dX12_takesMarks_15 rfl (lv_at hl 0 rfl) (hp_n (n := 16) rfl ?_)
        refine m_geti (k := 24) (φ := 674) (pc' := 19) C Bh2 Mh2 fl_X12_245 rfl rfl dX12_takesMarks_16 rfl ?_
        refine lv_iconst (v := 2) hx hb dX12_takesMarks_19 (by decide) (hp_n (n := 20) rfl ?_)
        refine lv_icmp_ne (tgt := 82) hx hb dX12_takesMarks_20 (by decide) (fun c6 => ?_) (fun c6 => hp_n (n := 23) rfl ?_)
        ·
          replace hf := ms_iF c6 hf
          exact J82 αh2 Hh2 Lh2 Bh2 σh2 Mh2 v1_h2 ls (lv_sub hl [0, 1] rfl) hf
        ·
          replace hf := ms_iT c6 hf
          refine lv_aload_n hx hb dX12_takesMarks_23 rfl (lv_at hl 0 rfl) (hp_n (n := 24) rfl ?_)
          refine lv_aload_n hx hb dX12_takesMarks_24 rfl (lv_at hl 0 rfl) (hp_n (n := 25) rfl ?_)
          refine lv_aload_n hx hb dX12_takesMarks_25 rfl (lv_at hl 0 rfl) (hp_n (n := 26) rfl ?_)
          refine m_geti (k := 25) (φ := 675) (pc' := 29) C Bh2 Mh2 fl_X12_259 rfl rfl dX12_takesMarks_26 rfl ?_
          obtain ⟨rh7, qh7, hf⟩ := ms_bE hf
          refine m_cp (pc' := 32) Bh2 (hp_runV (As := [.int (ms_I σh2 675)]) (rest := [.ref a0]) C Bh2 (m_X12_isMark n Γ l αh2 a0 ρ σh2 Mh2 (ms_I σh2 675) rh7 qh7) lb_X12_isMark lv_X12_isMark lk_X12_321 Mh2.1 rfl (by decide) rfl hl.1 rfl (Nat.le_of_ble_eq_true rfl) dX12_takesMarks_29 ⟨Nat.le_refl _, Nat.le_refl _⟩) rfl (fun Hh7 Lh7 Bh7 => ?_)
          refine lv_iconst (v := 3) hx hb dX12_takesMarks_32 (by decide) (hp_n (n := 33) rfl ?_)
          obtain ⟨σh8, qh8, hf⟩ := ms_bE hf
          refine m_cv (pc' := 36) (a := a0) (ρ := ρ) Bh7 (hp_runV (As := [.int rh7, .int (3 : Int32)]) (rest := []) C Bh7 (m_X12_must n Γ l αh2 a0 ρ σh2 Mh2 rh7 (3 : Int32) σh8 qh8) lb_X12_must lv_X12_must lk_X12_272 Mh2.1 rfl (by decide) rfl hl.1 rfl (Nat.le_of_ble_eq_true rfl) dX12_takesMarks_33 ⟨Nat.le_refl _, Nat.le_refl _⟩) rfl (fun αh8 Hh8 Lh8 Bh8 Mh8 => ?_)
          refine lv_aload_n hx hb dX12_takesMarks_36 rfl (lv_at hl 0 rfl) (hp_n (n := 37) rfl ?_)
          refine lv_iload_n hx hb dX12_takesMarks_37 rfl (lv_at hl 1 rfl) (hp_n (n := 38) rfl ?_)
          refine lv_bipush (v := 64) hx hb dX12_takesMarks_38 (by decide) (hp_n (n := 40) rfl ?_)
          have J48 : ∀ (αh9 : hp_T) (Hh9 : Heap) (Lh9 : List Loc) (Bh9 : hp_B Γ mo s α αh9 Hh9 Lh9) (σh9 : ms_T) (Mh9 : hm_M αh9 a0 ρ σh9) (v1_h9 : Int32) (w0_h9 : Int32) (ls : Array Slot) (hl : lv_has ls 2 [(0, .ref a0), (1, .int v1_h9)]) (hf : f_X12_takesMarks_J48 n (f_X12_takesMarks_L8 n k8) σh9 v1_h9 w0_h9 = some res), W p l e (hp_rm 4 0 0) s m ([.ref a0] : List Value).toArray below meth c Hh9 Lh9 0 0 (MQ below (hp_Qi Γ (fun r β => r = res.1 ∧ mo α β ∧ hm_M β a0 ρ res.2)) ([.ref a0] : List Value).toArray s 0 0 (hp_A Γ)) (F0 m 48 ls [.int w0_h9, .ref a0]) := by
            intro αh9 Hh9 Lh9 Bh9 σh9 Mh9 v1_h9 w0_h9 ls hl hf
            unfold f_X12_takesMarks_J48 at hf
            refine lv_bipush (v := 6) hx hb dX12_takesMarks_48 (by decide) (hp_n (n := 50) rfl ?_)
            obtain ⟨σh10, qh10, hf⟩ := ms_bE hf
            refine m_cv (pc' := 53) (a := a0) (ρ := ρ) Bh9 (hp_runV (As := [.int w0_h9, .int (6 : Int32)]) (rest := []) C Bh9 (m_X12_must n Γ l αh9 a0 ρ σh9 Mh9 w0_h9 (6 : Int32) σh10 qh10) lb_X12_must lv_X12_must lk_X12_272 Mh9.1 rfl (by decide) rfl hl.1 rfl (Nat.le_of_ble_eq_true rfl) dX12_takesMarks_50 ⟨Nat.le_refl _, Nat.le_refl _⟩) rfl (fun αh10 Hh10 Lh10 Bh10 Mh10 => ?_)
            refine lv_aload_n hx hb dX12_takesMarks_53 rfl (lv_at hl 0 rfl) (hp_n (n := 54) rfl ?_)
            refine m_geti (k := 20) (φ := 670) (pc' := 57) C Bh10 Mh10 fl_X12_262 rfl rfl dX12_takesMarks_54 rfl ?_
            refine lv_if_le (tgt := 62) hx hb dX12_takesMarks_57 (by decide) (fun c11 => ?_) (fun c11 => hp_n (n := 60) rfl ?_)
            ·
              replace hf := ms_iT c11 hf
              refine lv_aload_n hx hb dX12_takesMarks_62 rfl (lv_at hl 0 rfl) (hp_n (n := 63) rfl ?_)
              refine m_getr (κ := 44) (k := 6) (pc' := 66) C Bh10 Mh10 fl_X12_22 rfl (by decide) dX12_takesMarks_63 rfl ?_
              refine lv_iload_n hx hb dX12_takesMarks_66 rfl (lv_at hl 1 rfl) (hp_n (n := 67) rfl ?_)
              refine lv_aload_n hx hb dX12_takesMarks_67 rfl (lv_at hl 0 rfl) (hp_n (n := 68) rfl ?_)
              refine m_geti (k := 25) (φ := 675) (pc' := 71) C Bh10 Mh10 fl_X12_259 rfl rfl dX12_takesMarks_68 rfl ?_
              obtain ⟨g12, hf⟩ := ms_gE hf
              refine m_ias (κ := 44) (φ := 656) (n := 128) (pc' := 72) C Bh10 Mh10 (by decide) (by decide) rfl g12 dX12_takesMarks_71 rfl (fun αh13 Hh13 Lh13 σh13 eh13 Bh13 Mh13 => ?_)
              replace hf := ms_lE eh13 hf
              obtain ⟨x14, ex14⟩ : ∃ y : Int32, y = v1_h9 + 1 := ⟨_, rfl⟩
              replace hf := ms_lE ex14 hf
              refine lv_iinc (v := x14) (lv' := [(1, .int x14), (0, .ref a0)]) hx hb dX12_takesMarks_72 hl (k := 1) rfl (by rw [ex14]; rfl) (by decide) rfl (fun ls hl => hp_n (n := 75) rfl ?_)
              refine lv_aload_n hx hb dX12_takesMarks_75 rfl (lv_at hl 1 rfl) (hp_n (n := 76) rfl ?_)
              obtain ⟨σh15, qh15, hf⟩ := ms_bE hf
              refine m_cv (pc' := 79) (a := a0) (ρ := ρ) Bh13 (hp_runV (As := []) (rest := []) C Bh13 (m_X12_reads n Γ l αh13 a0 ρ σh13 Mh13  σh15 qh15) lb_X12_reads lv_X12_reads lk_X12_276 Mh13.1 rfl (by decide) rfl hl.1 rfl (Nat.le_of_ble_eq_true rfl) dX12_takesMarks_76 ⟨Nat.le_refl _, Nat.le_refl _⟩) rfl (fun αh15 Hh15 Lh15 Bh15 Mh15 => ?_)
              refine lv_goto (tgt := 8) hx hb dX12_takesMarks_79 (by decide) ?_
              exact ih8 αh15 Hh15 Lh15 Bh15 σh15 Mh15 x14 ls (lv_sub hl [1, 0] rfl) hf
            ·
              replace hf := ms_iF c11 hf
              refine lv_iload_n hx hb dX12_takesMarks_60 rfl (lv_at hl 1 rfl) (hp_n (n := 61) rfl ?_)
              cases hf
              exact q_iret C Bh10 hr hlk ⟨rfl, Bh10.2.2, Mh10⟩ dX12_takesMarks_61
          refine lv_icmp_ge (tgt := 47) hx hb dX12_takesMarks_40 (by decide) (fun c16 => ?_) (fun c16 => hp_n (n := 43) rfl ?_)
          ·
            replace hf := ms_iT c16 hf
            refine lv_iconst (v := 0) hx hb dX12_takesMarks_47 (by decide) (hp_n (n := 48) rfl ?_)
            exact J48 αh8 Hh8 Lh8 Bh8 σh8 Mh8 v1_h2 (0 : Int32) ls (lv_sub hl [0, 1] rfl) hf
          ·
            replace hf := ms_iF c16 hf
            refine lv_iconst (v := 1) hx hb dX12_takesMarks_43 (by decide) (hp_n (n := 44) rfl ?_)
            refine lv_goto (tgt := 48) hx hb dX12_takesMarks_44 (by decide) ?_
            exact J48 αh8 Hh8 Lh8 Bh8 σh8 Mh8 v1_h2 (1 : Int32) ls (lv_sub hl [0, 1] rfl) hf
  refine lv_istore_n (lv' := [(1, .int (0 : Int32)), (0, .ref a0)]) hx hb dX12_takesMarks_7 rfl hl (by decide) rfl (fun ls hl => hp_n (n := 8) rfl ?_)
  exact J8 n αh1 Hh1 Lh1 Bh1 σh1 Mh1 (0 : Int32) ls (lv_sub hl [1, 0] rfl) hf
def f_X12_statementIn (n : Nat) (σ : ms_T) : Option (Int32 × ms_T) :=
  ms_b (f_X12_reads n σ) fun σh1 =>
  ms_c (f_X12_takesNumber n σh1 (0 : Int32) (99999 : Int32)) fun rh2 σh2 =>
  ms_b (f_X12_takes n σh2 (8 : Int32)) fun σh3 =>
  ms_c (f_X12_takesNumber n σh3 (rh2 + (1 : Int32)) (99999 : Int32)) fun rh4 σh4 =>
  ms_b (f_X12_takes n σh4 (9 : Int32)) fun σh5 =>
  ms_c (f_X12_takesMark n σh5) fun rh6 σh6 =>
  ms_b (f_X12_takes n σh6 (10 : Int32)) fun σh7 =>
  ms_c (f_X12_takesMark n σh7) fun rh8 σh8 =>
  ms_c (f_X12_takesMarks n σh8) fun rh9 σh9 =>
  if (ms_I σh9 670) ≤ 0 then
    ms_c (f_X12_whyIn n σh9 rh9 rh6 rh2 rh4 rh8) fun rh11 σh11 =>
    some (rh11, σh11)
  else
    some ((0 : Int32), σh9)
set_option maxRecDepth 100000 in
set_option maxHeartbeats 4000000 in
theorem m_X12_statementIn (n : Nat) (Γ : hp_G) (l : Launch) (α : hp_T) (a0 : Nat) (ρ : Nat → Nat) (σ : ms_T) (hM : hm_M α a0 ρ σ)  (res : (Int32 × ms_T)) (hf : f_X12_statementIn n σ = some res) : Met l yX12_statementIn (hp_ws yX12_statementIn cX12_statementIn 6 (some .int)) (hp_rm 44 0 0) (hp_Pc Γ α [.ref a0]) (hp_Qi Γ (fun r β => r = res.1 ∧ mo α β ∧ hm_M β a0 ρ res.2)) 0 0 (hp_A Γ) := by
  unfold f_X12_statementIn at hf
  refine hp_start (by decide) ?_
  intro p e s m below meth c C hr hlk B0 hnm
  have C : hp_C Γ p m c cX12_statementIn 6 s ([.ref a0] : List Value).toArray RX12 := C
  have hx := C.1.1
  have hb := C.1.2.1
  have hown := C.1.2.2.2.1
  have hts := C.1.2.2.2.2
  have B : hp_B Γ mo s α α s.heap [] := ⟨B0.1, B0.2.1, mo_rf⟩
  have hl := lv_entry ([.ref a0]) (n := 6) (Nat.le_of_ble_eq_true rfl)
  show W p l e (hp_rm 44 0 0) s m ([.ref a0] : List Value).toArray below meth c s.heap [] 0 0 (MQ below (hp_Qi Γ (fun r β => r = res.1 ∧ mo α β ∧ hm_M β a0 ρ res.2)) ([.ref a0] : List Value).toArray s 0 0 (hp_A Γ)) (entryFrame m ([.ref a0] : List Value).toArray 6)
  rw [lg_entry_eq]
  generalize (lg_sl ([.ref a0]) ++ List.replicate (6 - (lg_sl ([.ref a0])).length) Slot.unset).toArray = ls at hl ⊢
  have hl : lv_has ls 6 [(0, .ref a0)] := hl
  refine lv_aload_n hx hb dX12_statementIn_0 rfl (lv_at hl 0 rfl) (hp_n (n := 1) rfl ?_)
  obtain ⟨σh1, qh1, hf⟩ := ms_bE hf
  refine m_cv (pc' := 4) (a := a0) (ρ := ρ) B (hp_runV (As := []) (rest := []) C B (m_X12_reads n Γ l α a0 ρ σ hM  σh1 qh1) lb_X12_reads lv_X12_reads lk_X12_276 hM.1 rfl (by decide) rfl hl.1 rfl (Nat.le_of_ble_eq_true rfl) dX12_statementIn_1 ⟨Nat.le_refl _, Nat.le_refl _⟩) rfl (fun αh1 Hh1 Lh1 Bh1 Mh1 => ?_)
  refine lv_aload_n hx hb dX12_statementIn_4 rfl (lv_at hl 0 rfl) (hp_n (n := 5) rfl ?_)
  refine lv_iconst (v := 0) hx hb dX12_statementIn_5 (by decide) (hp_n (n := 6) rfl ?_)
  refine lv_ldcw hx hb hown (hts _ kc_X12_324) dX12_statementIn_6 (hp_n (n := 9) rfl ?_)
  obtain ⟨rh2, σh2, qh2, hf⟩ := ms_cE hf
  refine m_ci (pc' := 12) (a := a0) (ρ := ρ) Bh1 (hp_runV (As := [.int (0 : Int32), .int (99999 : Int32)]) (rest := []) C Bh1 (m_X12_takesNumber n Γ l αh1 a0 ρ σh1 Mh1 (0 : Int32) (99999 : Int32) (rh2, σh2) qh2) lb_X12_takesNumber lv_X12_takesNumber lk_X12_279 Mh1.1 rfl (by decide) rfl hl.1 rfl (Nat.le_of_ble_eq_true rfl) dX12_statementIn_9 ⟨Nat.le_refl _, Nat.le_refl _⟩) rfl (fun αh2 Hh2 Lh2 Bh2 Mh2 => ?_)
  refine lv_istore_n (lv' := [(1, .int rh2), (0, .ref a0)]) hx hb dX12_statementIn_12 rfl hl (by decide) rfl (fun ls hl => hp_n (n := 13) rfl ?_)
  refine lv_aload_n hx hb dX12_statementIn_13 rfl (lv_at hl 1 rfl) (hp_n (n := 14) rfl ?_)
  refine lv_bipush (v := 8) hx hb dX12_statementIn_14 (by decide) (hp_n (n := 16) rfl ?_)
  obtain ⟨σh3, qh3, hf⟩ := ms_bE hf
  refine m_cv (pc' := 19) (a := a0) (ρ := ρ) Bh2 (hp_runV (As := [.int (8 : Int32)]) (rest := []) C Bh2 (m_X12_takes n Γ l αh2 a0 ρ σh2 Mh2 (8 : Int32) σh3 qh3) lb_X12_takes lv_X12_takes lk_X12_303 Mh2.1 rfl (by decide) rfl hl.1 rfl (Nat.le_of_ble_eq_true rfl) dX12_statementIn_16 ⟨Nat.le_refl _, Nat.le_refl _⟩) rfl (fun αh3 Hh3 Lh3 Bh3 Mh3 => ?_)
  refine lv_aload_n hx hb dX12_statementIn_19 rfl (lv_at hl 1 rfl) (hp_n (n := 20) rfl ?_)
  refine lv_iload_n hx hb dX12_statementIn_20 rfl (lv_at hl 0 rfl) (hp_n (n := 21) rfl ?_)
  refine lv_iconst (v := 1) hx hb dX12_statementIn_21 (by decide) (hp_n (n := 22) rfl ?_)
  refine lv_iadd hx hb dX12_statementIn_22 (hp_n (n := 23) rfl ?_)
  refine lv_ldcw hx hb hown (hts _ kc_X12_324) dX12_statementIn_23 (hp_n (n := 26) rfl ?_)
  obtain ⟨rh4, σh4, qh4, hf⟩ := ms_cE hf
  refine m_ci (pc' := 29) (a := a0) (ρ := ρ) Bh3 (hp_runV (As := [.int (rh2 + (1 : Int32)), .int (99999 : Int32)]) (rest := []) C Bh3 (m_X12_takesNumber n Γ l αh3 a0 ρ σh3 Mh3 (rh2 + (1 : Int32)) (99999 : Int32) (rh4, σh4) qh4) lb_X12_takesNumber lv_X12_takesNumber lk_X12_279 Mh3.1 rfl (by decide) rfl hl.1 rfl (Nat.le_of_ble_eq_true rfl) dX12_statementIn_26 ⟨Nat.le_refl _, Nat.le_refl _⟩) rfl (fun αh4 Hh4 Lh4 Bh4 Mh4 => ?_)
  refine lv_istore_n (lv' := [(2, .int rh4), (1, .int rh2), (0, .ref a0)]) hx hb dX12_statementIn_29 rfl hl (by decide) rfl (fun ls hl => hp_n (n := 30) rfl ?_)
  refine lv_aload_n hx hb dX12_statementIn_30 rfl (lv_at hl 2 rfl) (hp_n (n := 31) rfl ?_)
  refine lv_bipush (v := 9) hx hb dX12_statementIn_31 (by decide) (hp_n (n := 33) rfl ?_)
  obtain ⟨σh5, qh5, hf⟩ := ms_bE hf
  refine m_cv (pc' := 36) (a := a0) (ρ := ρ) Bh4 (hp_runV (As := [.int (9 : Int32)]) (rest := []) C Bh4 (m_X12_takes n Γ l αh4 a0 ρ σh4 Mh4 (9 : Int32) σh5 qh5) lb_X12_takes lv_X12_takes lk_X12_303 Mh4.1 rfl (by decide) rfl hl.1 rfl (Nat.le_of_ble_eq_true rfl) dX12_statementIn_33 ⟨Nat.le_refl _, Nat.le_refl _⟩) rfl (fun αh5 Hh5 Lh5 Bh5 Mh5 => ?_)
  refine lv_aload_n hx hb dX12_statementIn_36 rfl (lv_at hl 2 rfl) (hp_n (n := 37) rfl ?_)
  obtain ⟨rh6, σh6, qh6, hf⟩ := ms_cE hf
  refine m_ci (pc' := 40) (a := a0) (ρ := ρ) Bh5 (hp_runV (As := []) (rest := []) C Bh5 (m_X12_takesMark n Γ l αh5 a0 ρ σh5 Mh5  (rh6, σh6) qh6) lb_X12_takesMark lv_X12_takesMark lk_X12_325 Mh5.1 rfl (by decide) rfl hl.1 rfl (Nat.le_of_ble_eq_true rfl) dX12_statementIn_37 ⟨Nat.le_refl _, Nat.le_refl _⟩) rfl (fun αh6 Hh6 Lh6 Bh6 Mh6 => ?_)
  refine lv_istore_n (lv' := [(3, .int rh6), (2, .int rh4), (1, .int rh2), (0, .ref a0)]) hx hb dX12_statementIn_40 rfl hl (by decide) rfl (fun ls hl => hp_n (n := 41) rfl ?_)
  refine lv_aload_n hx hb dX12_statementIn_41 rfl (lv_at hl 3 rfl) (hp_n (n := 42) rfl ?_)
  refine lv_bipush (v := 10) hx hb dX12_statementIn_42 (by decide) (hp_n (n := 44) rfl ?_)
  obtain ⟨σh7, qh7, hf⟩ := ms_bE hf
  refine m_cv (pc' := 47) (a := a0) (ρ := ρ) Bh6 (hp_runV (As := [.int (10 : Int32)]) (rest := []) C Bh6 (m_X12_takes n Γ l αh6 a0 ρ σh6 Mh6 (10 : Int32) σh7 qh7) lb_X12_takes lv_X12_takes lk_X12_303 Mh6.1 rfl (by decide) rfl hl.1 rfl (Nat.le_of_ble_eq_true rfl) dX12_statementIn_44 ⟨Nat.le_refl _, Nat.le_refl _⟩) rfl (fun αh7 Hh7 Lh7 Bh7 Mh7 => ?_)
  refine lv_aload_n hx hb dX12_statementIn_47 rfl (lv_at hl 3 rfl) (hp_n (n := 48) rfl ?_)
  obtain ⟨rh8, σh8, qh8, hf⟩ := ms_cE hf
  refine m_ci (pc' := 51) (a := a0) (ρ := ρ) Bh7 (hp_runV (As := []) (rest := []) C Bh7 (m_X12_takesMark n Γ l αh7 a0 ρ σh7 Mh7  (rh8, σh8) qh8) lb_X12_takesMark lv_X12_takesMark lk_X12_325 Mh7.1 rfl (by decide) rfl hl.1 rfl (Nat.le_of_ble_eq_true rfl) dX12_statementIn_48 ⟨Nat.le_refl _, Nat.le_refl _⟩) rfl (fun αh8 Hh8 Lh8 Bh8 Mh8 => ?_)
  refine lv_istore (lv' := [(4, .int rh8), (3, .int rh6), (2, .int rh4), (1, .int rh2), (0, .ref a0)]) hx hb dX12_statementIn_51 hl (by decide) rfl (fun ls hl => hp_n (n := 53) rfl ?_)
  refine lv_aload_n hx hb dX12_statementIn_53 rfl (lv_at hl 4 rfl) (hp_n (n := 54) rfl ?_)
  obtain ⟨rh9, σh9, qh9, hf⟩ := ms_cE hf
  refine m_ci (pc' := 57) (a := a0) (ρ := ρ) Bh8 (hp_runV (As := []) (rest := []) C Bh8 (m_X12_takesMarks n Γ l αh8 a0 ρ σh8 Mh8  (rh9, σh9) qh9) lb_X12_takesMarks lv_X12_takesMarks lk_X12_329 Mh8.1 rfl (by decide) rfl hl.1 rfl (Nat.le_of_ble_eq_true rfl) dX12_statementIn_54 ⟨Nat.le_refl _, Nat.le_refl _⟩) rfl (fun αh9 Hh9 Lh9 Bh9 Mh9 => ?_)
  refine lv_istore (lv' := [(5, .int rh9), (4, .int rh8), (3, .int rh6), (2, .int rh4), (1, .int rh2), (0, .ref a0)]) hx hb dX12_statementIn_57 hl (by decide) rfl (fun ls hl => hp_n (n := 59) rfl ?_)
  refine lv_aload_n hx hb dX12_statementIn_59 rfl (lv_at hl 5 rfl) (hp_n (n := 60) rfl ?_)
  refine m_geti (k := 20) (φ := 670) (pc' := 63) C Bh9 Mh9 fl_X12_262 rfl rfl dX12_statementIn_60 rfl ?_
  refine lv_if_le (tgt := 70) hx hb dX12_statementIn_63 (by decide) (fun c10 => ?_) (fun c10 => hp_n (n := 66) rfl ?_)
  ·
    replace hf := ms_iT c10 hf
    refine lv_aload_n hx hb dX12_statementIn_70 rfl (lv_at hl 5 rfl) (hp_n (n := 71) rfl ?_)
    refine lv_iload hx hb dX12_statementIn_71 (lv_at hl 0 rfl) (hp_n (n := 73) rfl ?_)
    refine lv_iload_n hx hb dX12_statementIn_73 rfl (lv_at hl 2 rfl) (hp_n (n := 74) rfl ?_)
    refine lv_iload_n hx hb dX12_statementIn_74 rfl (lv_at hl 4 rfl) (hp_n (n := 75) rfl ?_)
    refine lv_iload_n hx hb dX12_statementIn_75 rfl (lv_at hl 3 rfl) (hp_n (n := 76) rfl ?_)
    refine lv_iload hx hb dX12_statementIn_76 (lv_at hl 1 rfl) (hp_n (n := 78) rfl ?_)
    obtain ⟨rh11, σh11, qh11, hf⟩ := ms_cE hf
    refine m_ci (pc' := 81) (a := a0) (ρ := ρ) Bh9 (hp_runV (As := [.int rh9, .int rh6, .int rh2, .int rh4, .int rh8]) (rest := []) C Bh9 (m_X12_whyIn n Γ l αh9 a0 ρ σh9 Mh9 rh9 rh6 rh2 rh4 rh8 (rh11, σh11) qh11) lb_X12_whyIn lv_X12_whyIn lk_X12_332 Mh9.1 rfl (by decide) rfl hl.1 rfl (Nat.le_of_ble_eq_true rfl) dX12_statementIn_78 ⟨Nat.le_refl _, Nat.le_refl _⟩) rfl (fun αh11 Hh11 Lh11 Bh11 Mh11 => ?_)
    cases hf
    exact q_iret C Bh11 hr hlk ⟨rfl, Bh11.2.2, Mh11⟩ dX12_statementIn_81
  ·
    replace hf := ms_iF c10 hf
    refine lv_iconst (v := 0) hx hb dX12_statementIn_66 (by decide) (hp_n (n := 67) rfl ?_)
    refine lv_goto (tgt := 81) hx hb dX12_statementIn_67 (by decide) ?_
    cases hf
    exact q_iret C Bh9 hr hlk ⟨rfl, Bh9.2.2, Mh9⟩ dX12_statementIn_81
