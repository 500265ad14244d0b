/-! ===== the reference's constructor, to the letter ===== -/
def saC (α β : hp_T) (b : Nat) : Prop := hp_K β b = hp_K α b ∧ (∀ φ, φ < 650 → hp_I β φ b = hp_I α φ b) ∧ (∀ φ, hp_R β φ b = hp_R α φ b) ∧ (∀ φ, hp_N β φ b = hp_N α φ b) ∧ (∀ κ j, κ < 40 → hp_E β κ b j = hp_E α κ b j) ∧ ∀ κ j, hp_Q β κ b j = hp_Q α κ b j
def ms_i0 (τ : ms_T) : Prop := (∀ φ, ms_I τ φ = if φ = 668 ∨ φ = 669 then -1 else 0) ∧ (∀ κ j, 40 ≤ κ → κ < 60 → κ ≠ 40 → κ ≠ 48 → ms_E τ κ j = 0) ∧ ms_E τ 40 0 = 1 ∧ ms_E τ 40 1 = 65521 ∧ ∀ j, 2 ≤ j → j < 1980 → ms_E τ 40 j = 0
theorem ms_mf_all : ∀ κ, κ < 60 → 40 ≤ κ → (κ, (ms_mf.lookup κ).getD 0) ∈ ms_mf := by decide +kernel
theorem hm_make2 {α : hp_T} {a0 : Nat} {l : List Nat} (hk : hp_K (hp_cv α a0 13) a0 = 13) (hx : ∀ φ ∈ l, ∃ x, hp_R (hp_cv α a0 13) φ a0 = x ∧ hp_N α φ a0 = some x ∧ hp_K (hp_cv α a0 13) x = hp_K α x ∧ gc_t φ (hp_K α x) ∧ (20 ≤ hp_K α x → ∀ j, hp_E α (hp_K α x) x j = 0)) (hl : ∀ q ∈ ms_mf, q.2 ∈ l) (lw : lwx α a0) : ∃ ρ σ, hm_M (hp_cv α a0 13) a0 ρ σ ∧ (∀ φ, ms_I σ φ = hp_I (hp_cv α a0 13) φ a0) ∧ ∀ κ j, 40 ≤ κ → κ < 60 → κ ≠ 48 → ms_E σ κ j = 0 := by
  obtain ⟨ρ, σ, hM, hσ⟩ := hm_make hk hx hl lw
  refine ⟨ρ, σ, hM, hσ, fun κ j h1 h2 _ => ?_⟩
  have hq := ms_mf_all κ h2 h1
  obtain ⟨o1, o2, o3, o4⟩ := ms_mf_ok _ hq
  obtain ⟨x, x1, x2, x3, x4, x5⟩ := hx _ (hl _ hq)
  rw [← hM.2.2.2.1 κ j h1 h2]
  have hr := (hM.2.1 _ hq).1
  dsimp only at hr x1 x4 o2 o3 o4
  rw [← hr, x1]
  have hkx : hp_K α x = κ := by
    rcases x4 with e | e
    · rw [e, o2]
    · exact absurd e.1 o3
  have := x5 (by rw [hkx]; omega) j
  rw [hkx] at this
  exact this
set_option maxRecDepth 100000 in
set_option maxHeartbeats 4000000 in
theorem u_X12_init (Γ : hp_G) (l : Launch) (α : hp_T) (g : GC α) (a0 : Nat) (k0 : hp_K α a0 = 113) (z0 : ∀ φ, hp_I α φ a0 = 0) : Met l yX12_init (hp_ws yX12_init cX12_init 1 none) (hp_rm 1 20 7108) (hp_Pc Γ α [.ref a0]) (hp_Qv Γ (fun β => GC β ∧ (∀ b, b ≠ a0 → hp_K α b ≠ 0 → saC α β b) ∧ ∃ ρ σ, hm_M β a0 ρ σ ∧ RI σ ∧ ms_i0 σ)) 20 7108 (hp_A Γ) := by
  refine hp_start (by decide) ?_
  intro p e s m below meth c C hr hlk B0 hnm
  have C : hp_C Γ p m c cX12_init 1 s ([.ref a0] : List Value).toArray RX12 := C
  have hx := C.1.1
  have hb := C.1.2.1
  have hown := C.1.2.2.2.1
  have hts := C.1.2.2.2.2
  have B : hp_B Γ (gx a0) s α α s.heap [] := ⟨B0.1, B0.2.1, gx_rf g⟩
  have O : co α a0 13 α [] [] := co_0 k0 z0
  have hl := lv_entry ([.ref a0]) (n := 1) (Nat.le_of_ble_eq_true rfl)
  show W p l e (hp_rm 1 20 7108) s m ([.ref a0] : List Value).toArray below meth c s.heap [] 0 0 (MQ below (hp_Qv Γ (fun β => GC β ∧ (∀ b, b ≠ a0 → hp_K α b ≠ 0 → saC α β b) ∧ ∃ ρ σ, hm_M β a0 ρ σ ∧ RI σ ∧ ms_i0 σ)) ([.ref a0] : List Value).toArray s 20 7108 (hp_A Γ)) (entryFrame m ([.ref a0] : List Value).toArray 1)
  rw [lg_entry_eq]
  generalize (lg_sl ([.ref a0]) ++ List.replicate (1 - (lg_sl ([.ref a0])).length) Slot.unset).toArray = ls at hl ⊢
  have hl : lv_has ls 1 [(0, .ref a0)] := hl
  refine lv_aload_n hx hb dX12_init_0 rfl (lv_at hl 0 rfl) (hp_n (n := 1) rfl ?_)
  refine q_obj (pc' := 4) C ol_X12 hl.1 rfl (by decide) dX12_init_1 rfl ?_
  refine lv_aload_n hx hb dX12_init_4 rfl (lv_at hl 0 rfl) (hp_n (n := 5) rfl ?_)
  refine lv_sipush (v := 1980) hx hb dX12_init_5 (by decide) (hp_n (n := 8) rfl ?_)
  refine q_newa (κ := 40) (t := 0) (n := 1980) (atype := .int) (ty := .int) (dv := .int 0) (pc' := 10) C B ac_int rfl (by decide) rfl rfl (fun _ _ q => q) rfl (fun _ cA => nw_cx (by decide) cA) (by decide) (by decide +kernel) (Nat.le_of_ble_eq_true rfl) rfl (by omega) (by omega) dX12_init_8 rfl (fun q hq => gx_nw B.2.2 (by decide) hq) (fun βh1 ah1 Hh1 fh1 eh1 Bh1 => ?_)
  have nh1 := gx_new B.2.2 O fh1
  have Oh1 : co α a0 13 βh1 [] [] := by rw [eh1]; exact co_nw O fh1
  have kh1 : hp_K βh1 ah1 = 40 := by rw [eh1]; exact nw_k
  refine W.widen (k := 1) (n := 1980) (by omega) (by omega) ?_
  refine q_putnF (κ := 113) (k := 0) (φ := 650) (pc' := 13) C Bh1 Oh1.1 fl_X12_7 rfl rfl rfl hnm rfl rfl rfl rfl (gx_sN Bh1.2.2 Oh1) dX12_init_10 rfl (fun βh2 Hh2 Lh2 eh2 Bh2 => ?_)
  have Oh2 : co α a0 13 βh2 [650] [] := by rw [eh2]; exact co_sN Oh1 ⟨Or.inl (by rw [kh1]; rfl), by rw [kh1]; decide, by rw [kh1]; decide, nh1.1, (fun _ j => by rw [eh1]; exact nw_e)⟩
  refine lv_aload_n hx hb dX12_init_13 rfl (lv_at hl 0 rfl) (hp_n (n := 14) rfl ?_)
  refine lv_sipush (v := 1980) hx hb dX12_init_14 (by decide) (hp_n (n := 17) rfl ?_)
  refine q_newa (κ := 41) (t := 0) (n := 1980) (atype := .int) (ty := .int) (dv := .int 0) (pc' := 19) C Bh2 ac_int rfl (by decide) rfl rfl (fun _ _ q => q) rfl (fun _ cA => nw_cx (by decide) cA) (by decide) (by decide +kernel) (Nat.le_of_ble_eq_true rfl) rfl (by omega) (by omega) dX12_init_17 rfl (fun q hq => gx_nw Bh2.2.2 (by decide) hq) (fun βh3 ah3 Hh3 fh3 eh3 Bh3 => ?_)
  have nh3 := gx_new Bh2.2.2 Oh2 fh3
  have Oh3 : co α a0 13 βh3 [650] [] := by rw [eh3]; exact co_nw Oh2 fh3
  have kh3 : hp_K βh3 ah3 = 41 := by rw [eh3]; exact nw_k
  refine W.widen (k := 2) (n := 3960) (by omega) (by omega) ?_
  refine q_putnF (κ := 113) (k := 1) (φ := 651) (pc' := 22) C Bh3 Oh3.1 fl_X12_13 rfl rfl rfl hnm rfl rfl rfl rfl (gx_sN Bh3.2.2 Oh3) dX12_init_19 rfl (fun βh4 Hh4 Lh4 eh4 Bh4 => ?_)
  have Oh4 : co α a0 13 βh4 [651, 650] [] := by rw [eh4]; exact co_sN Oh3 ⟨Or.inl (by rw [kh3]; rfl), by rw [kh3]; decide, by rw [kh3]; decide, nh3.1, (fun _ j => by rw [eh3]; exact nw_e)⟩
  refine lv_aload_n hx hb dX12_init_22 rfl (lv_at hl 0 rfl) (hp_n (n := 23) rfl ?_)
  refine lv_sipush (v := 128) hx hb dX12_init_23 (by decide) (hp_n (n := 26) rfl ?_)
  refine q_newa (κ := 42) (t := 0) (n := 128) (atype := .int) (ty := .int) (dv := .int 0) (pc' := 28) C Bh4 ac_int rfl (by decide) rfl rfl (fun _ _ q => q) rfl (fun _ cA => nw_cx (by decide) cA) (by decide) (by decide +kernel) (Nat.le_of_ble_eq_true rfl) rfl (by omega) (by omega) dX12_init_26 rfl (fun q hq => gx_nw Bh4.2.2 (by decide) hq) (fun βh5 ah5 Hh5 fh5 eh5 Bh5 => ?_)
  have nh5 := gx_new Bh4.2.2 Oh4 fh5
  have Oh5 : co α a0 13 βh5 [651, 650] [] := by rw [eh5]; exact co_nw Oh4 fh5
  have kh5 : hp_K βh5 ah5 = 42 := by rw [eh5]; exact nw_k
  refine W.widen (k := 3) (n := 4088) (by omega) (by omega) ?_
  refine q_putnF (κ := 113) (k := 4) (φ := 654) (pc' := 31) C Bh5 Oh5.1 fl_X12_16 rfl rfl rfl hnm rfl rfl rfl rfl (gx_sN Bh5.2.2 Oh5) dX12_init_28 rfl (fun βh6 Hh6 Lh6 eh6 Bh6 => ?_)
  have Oh6 : co α a0 13 βh6 [654, 651, 650] [] := by rw [eh6]; exact co_sN Oh5 ⟨Or.inl (by rw [kh5]; rfl), by rw [kh5]; decide, by rw [kh5]; decide, nh5.1, (fun _ j => by rw [eh5]; exact nw_e)⟩
  refine lv_aload_n hx hb dX12_init_31 rfl (lv_at hl 0 rfl) (hp_n (n := 32) rfl ?_)
  refine lv_sipush (v := 128) hx hb dX12_init_32 (by decide) (hp_n (n := 35) rfl ?_)
  refine q_newa (κ := 43) (t := 0) (n := 128) (atype := .int) (ty := .int) (dv := .int 0) (pc' := 37) C Bh6 ac_int rfl (by decide) rfl rfl (fun _ _ q => q) rfl (fun _ cA => nw_cx (by decide) cA) (by decide) (by decide +kernel) (Nat.le_of_ble_eq_true rfl) rfl (by omega) (by omega) dX12_init_35 rfl (fun q hq => gx_nw Bh6.2.2 (by decide) hq) (fun βh7 ah7 Hh7 fh7 eh7 Bh7 => ?_)
  have nh7 := gx_new Bh6.2.2 Oh6 fh7
  have Oh7 : co α a0 13 βh7 [654, 651, 650] [] := by rw [eh7]; exact co_nw Oh6 fh7
  have kh7 : hp_K βh7 ah7 = 43 := by rw [eh7]; exact nw_k
  refine W.widen (k := 4) (n := 4216) (by omega) (by omega) ?_
  refine q_putnF (κ := 113) (k := 5) (φ := 655) (pc' := 40) C Bh7 Oh7.1 fl_X12_19 rfl rfl rfl hnm rfl rfl rfl rfl (gx_sN Bh7.2.2 Oh7) dX12_init_37 rfl (fun βh8 Hh8 Lh8 eh8 Bh8 => ?_)
  have Oh8 : co α a0 13 βh8 [655, 654, 651, 650] [] := by rw [eh8]; exact co_sN Oh7 ⟨Or.inl (by rw [kh7]; rfl), by rw [kh7]; decide, by rw [kh7]; decide, nh7.1, (fun _ j => by rw [eh7]; exact nw_e)⟩
  refine lv_aload_n hx hb dX12_init_40 rfl (lv_at hl 0 rfl) (hp_n (n := 41) rfl ?_)
  refine lv_sipush (v := 128) hx hb dX12_init_41 (by decide) (hp_n (n := 44) rfl ?_)
  refine q_newa (κ := 44) (t := 0) (n := 128) (atype := .int) (ty := .int) (dv := .int 0) (pc' := 46) C Bh8 ac_int rfl (by decide) rfl rfl (fun _ _ q => q) rfl (fun _ cA => nw_cx (by decide) cA) (by decide) (by decide +kernel) (Nat.le_of_ble_eq_true rfl) rfl (by omega) (by omega) dX12_init_44 rfl (fun q hq => gx_nw Bh8.2.2 (by decide) hq) (fun βh9 ah9 Hh9 fh9 eh9 Bh9 => ?_)
  have nh9 := gx_new Bh8.2.2 Oh8 fh9
  have Oh9 : co α a0 13 βh9 [655, 654, 651, 650] [] := by rw [eh9]; exact co_nw Oh8 fh9
  have kh9 : hp_K βh9 ah9 = 44 := by rw [eh9]; exact nw_k
  refine W.widen (k := 5) (n := 4344) (by omega) (by omega) ?_
  refine q_putnF (κ := 113) (k := 6) (φ := 656) (pc' := 49) C Bh9 Oh9.1 fl_X12_22 rfl rfl rfl hnm rfl rfl rfl rfl (gx_sN Bh9.2.2 Oh9) dX12_init_46 rfl (fun βh10 Hh10 Lh10 eh10 Bh10 => ?_)
  have Oh10 : co α a0 13 βh10 [656, 655, 654, 651, 650] [] := by rw [eh10]; exact co_sN Oh9 ⟨Or.inl (by rw [kh9]; rfl), by rw [kh9]; decide, by rw [kh9]; decide, nh9.1, (fun _ j => by rw [eh9]; exact nw_e)⟩
  refine lv_aload_n hx hb dX12_init_49 rfl (lv_at hl 0 rfl) (hp_n (n := 50) rfl ?_)
  refine lv_bipush (v := 8) hx hb dX12_init_50 (by decide) (hp_n (n := 52) rfl ?_)
  refine q_newa (κ := 45) (t := 0) (n := 8) (atype := .int) (ty := .int) (dv := .int 0) (pc' := 54) C Bh10 ac_int rfl (by decide) rfl rfl (fun _ _ q => q) rfl (fun _ cA => nw_cx (by decide) cA) (by decide) (by decide +kernel) (Nat.le_of_ble_eq_true rfl) rfl (by omega) (by omega) dX12_init_52 rfl (fun q hq => gx_nw Bh10.2.2 (by decide) hq) (fun βh11 ah11 Hh11 fh11 eh11 Bh11 => ?_)
  have nh11 := gx_new Bh10.2.2 Oh10 fh11
  have Oh11 : co α a0 13 βh11 [656, 655, 654, 651, 650] [] := by rw [eh11]; exact co_nw Oh10 fh11
  have kh11 : hp_K βh11 ah11 = 45 := by rw [eh11]; exact nw_k
  refine W.widen (k := 6) (n := 4352) (by omega) (by omega) ?_
  refine q_putnF (κ := 113) (k := 12) (φ := 662) (pc' := 57) C Bh11 Oh11.1 fl_X12_25 rfl rfl rfl hnm rfl rfl rfl rfl (gx_sN Bh11.2.2 Oh11) dX12_init_54 rfl (fun βh12 Hh12 Lh12 eh12 Bh12 => ?_)
  have Oh12 : co α a0 13 βh12 [662, 656, 655, 654, 651, 650] [] := by rw [eh12]; exact co_sN Oh11 ⟨Or.inl (by rw [kh11]; rfl), by rw [kh11]; decide, by rw [kh11]; decide, nh11.1, (fun _ j => by rw [eh11]; exact nw_e)⟩
  refine lv_aload_n hx hb dX12_init_57 rfl (lv_at hl 0 rfl) (hp_n (n := 58) rfl ?_)
  refine lv_bipush (v := 8) hx hb dX12_init_58 (by decide) (hp_n (n := 60) rfl ?_)
  refine q_newa (κ := 46) (t := 0) (n := 8) (atype := .int) (ty := .int) (dv := .int 0) (pc' := 62) C Bh12 ac_int rfl (by decide) rfl rfl (fun _ _ q => q) rfl (fun _ cA => nw_cx (by decide) cA) (by decide) (by decide +kernel) (Nat.le_of_ble_eq_true rfl) rfl (by omega) (by omega) dX12_init_60 rfl (fun q hq => gx_nw Bh12.2.2 (by decide) hq) (fun βh13 ah13 Hh13 fh13 eh13 Bh13 => ?_)
  have nh13 := gx_new Bh12.2.2 Oh12 fh13
  have Oh13 : co α a0 13 βh13 [662, 656, 655, 654, 651, 650] [] := by rw [eh13]; exact co_nw Oh12 fh13
  have kh13 : hp_K βh13 ah13 = 46 := by rw [eh13]; exact nw_k
  refine W.widen (k := 7) (n := 4360) (by omega) (by omega) ?_
  refine q_putnF (κ := 113) (k := 13) (φ := 663) (pc' := 65) C Bh13 Oh13.1 fl_X12_28 rfl rfl rfl hnm rfl rfl rfl rfl (gx_sN Bh13.2.2 Oh13) dX12_init_62 rfl (fun βh14 Hh14 Lh14 eh14 Bh14 => ?_)
  have Oh14 : co α a0 13 βh14 [663, 662, 656, 655, 654, 651, 650] [] := by rw [eh14]; exact co_sN Oh13 ⟨Or.inl (by rw [kh13]; rfl), by rw [kh13]; decide, by rw [kh13]; decide, nh13.1, (fun _ j => by rw [eh13]; exact nw_e)⟩
  refine lv_aload_n hx hb dX12_init_65 rfl (lv_at hl 0 rfl) (hp_n (n := 66) rfl ?_)
  refine lv_sipush (v := 900) hx hb dX12_init_66 (by decide) (hp_n (n := 69) rfl ?_)
  refine q_newa (κ := 47) (t := 1) (n := 900) (atype := .byte) (ty := .byte) (dv := .int 0) (pc' := 71) C Bh14 ac_byte rfl (by decide) rfl rfl (fun _ _ q => q) rfl (fun _ cA => nw_cx (by decide) cA) (by decide) (by decide +kernel) (Nat.le_of_ble_eq_true rfl) rfl (by omega) (by omega) dX12_init_69 rfl (fun q hq => gx_nw Bh14.2.2 (by decide) hq) (fun βh15 ah15 Hh15 fh15 eh15 Bh15 => ?_)
  have nh15 := gx_new Bh14.2.2 Oh14 fh15
  have Oh15 : co α a0 13 βh15 [663, 662, 656, 655, 654, 651, 650] [] := by rw [eh15]; exact co_nw Oh14 fh15
  have kh15 : hp_K βh15 ah15 = 47 := by rw [eh15]; exact nw_k
  refine W.widen (k := 8) (n := 5260) (by omega) (by omega) ?_
  refine q_putnF (κ := 113) (k := 16) (φ := 666) (pc' := 74) C Bh15 Oh15.1 fl_X12_31 rfl rfl rfl hnm rfl rfl rfl rfl (gx_sN Bh15.2.2 Oh15) dX12_init_71 rfl (fun βh16 Hh16 Lh16 eh16 Bh16 => ?_)
  have Oh16 : co α a0 13 βh16 [666, 663, 662, 656, 655, 654, 651, 650] [] := by rw [eh16]; exact co_sN Oh15 ⟨Or.inl (by rw [kh15]; rfl), by rw [kh15]; decide, by rw [kh15]; decide, nh15.1, (fun _ j => by rw [eh15]; exact nw_e)⟩
  refine lv_aload_n hx hb dX12_init_74 rfl (lv_at hl 0 rfl) (hp_n (n := 75) rfl ?_)
  refine lv_iconst (v := (-1)) hx hb dX12_init_75 (by decide) (hp_n (n := 76) rfl ?_)
  refine q_puti (κ := 113) (k := 18) (φ := 668) (pc' := 79) C Bh16 Oh16.1 fl_X12_35 rfl rfl rfl rfl rfl rfl (gx_sI Bh16.2.2 (fun q => absurd q (by decide))) dX12_init_76 rfl (fun βh17 Hh17 Lh17 eh17 Bh17 => ?_)
  have Oh17 : co α a0 13 βh17 [666, 663, 662, 656, 655, 654, 651, 650] [(668, (-1))] := by rw [eh17]; exact co_sI Oh16 (by decide)
  refine lv_aload_n hx hb dX12_init_79 rfl (lv_at hl 0 rfl) (hp_n (n := 80) rfl ?_)
  refine lv_iconst (v := (-1)) hx hb dX12_init_80 (by decide) (hp_n (n := 81) rfl ?_)
  refine q_puti (κ := 113) (k := 19) (φ := 669) (pc' := 84) C Bh17 Oh17.1 fl_X12_39 rfl rfl rfl rfl rfl rfl (gx_sI Bh17.2.2 (fun q => absurd q (by decide))) dX12_init_81 rfl (fun βh18 Hh18 Lh18 eh18 Bh18 => ?_)
  have Oh18 : co α a0 13 βh18 [666, 663, 662, 656, 655, 654, 651, 650] [(669, (-1)), (668, (-1))] := by rw [eh18]; exact co_sI Oh17 (by decide)
  refine lv_aload_n hx hb dX12_init_84 rfl (lv_at hl 0 rfl) (hp_n (n := 85) rfl ?_)
  refine lv_bipush (v := 12) hx hb dX12_init_85 (by decide) (hp_n (n := 87) rfl ?_)
  refine q_newa (κ := 48) (t := 3) (n := 12) (atype := .long) (ty := .long) (dv := .long 0) (pc' := 89) C Bh18 ac_long rfl (by decide) rfl rfl (fun _ _ q => q) rfl (fun _ cA => nw_cl cA) (by decide) (by decide +kernel) (Nat.le_of_ble_eq_true rfl) rfl (by omega) (by omega) dX12_init_87 rfl (fun q hq => gx_nw Bh18.2.2 (by decide) hq) (fun βh19 ah19 Hh19 fh19 eh19 Bh19 => ?_)
  have nh19 := gx_new Bh18.2.2 Oh18 fh19
  have Oh19 : co α a0 13 βh19 [666, 663, 662, 656, 655, 654, 651, 650] [(669, (-1)), (668, (-1))] := by rw [eh19]; exact co_nw Oh18 fh19
  have kh19 : hp_K βh19 ah19 = 48 := by rw [eh19]; exact nw_k
  refine W.widen (k := 9) (n := 5272) (by omega) (by omega) ?_
  have lwh19 : ∀ j, j < 0 → hp_L βh19 48 ah19 j = ms_w j := fun j hj => absurd hj (Nat.not_lt_zero j)
  have zzh19 : ∀ ψ j, hp_E βh19 ψ ah19 j = 0 := fun ψ j => by rw [eh19]; exact nw_e
  refine lv_dup hx hb dX12_init_89 rfl (hp_n (n := 90) rfl ?_)
  refine lv_iconst (v := 0) hx hb dX12_init_90 (by decide) (hp_n (n := 91) rfl ?_)
  refine lv_ldc2 hx hb hown (hts _ kc_X12_42) dX12_init_91 (hp_n (n := 94) rfl ?_)
  refine q_las (κ := 48) (n := 12) (j := 0) (pc' := 95) C Bh19 kh19 (by decide) rfl (vi_of (by decide) (by decide)) rfl (gx_sL Bh19.2.2 nh19.1) dX12_init_94 rfl (fun βh20 Hh20 Lh20 eh20 Bh20 => ?_)
  have Oh20 : co α a0 13 βh20 [666, 663, 662, 656, 655, 654, 651, 650] [(669, (-1)), (668, (-1))] := by rw [eh20]; exact co_sL Oh19
  have kh20 : hp_K βh20 ah19 = 48 := by rw [eh20]; exact kh19
  have lwh20 : ∀ j, j < 1 → hp_L βh20 48 ah19 j = ms_w j := by rw [eh20]; exact sL_step lwh19 rfl
  have zzh20 : ∀ ψ j, hp_E βh20 ψ ah19 j = 0 := by rw [eh20]; exact zzh19
  refine lv_dup hx hb dX12_init_95 rfl (hp_n (n := 96) rfl ?_)
  refine lv_iconst (v := 1) hx hb dX12_init_96 (by decide) (hp_n (n := 97) rfl ?_)
  refine lv_ldc2 hx hb hown (hts _ kc_X12_44) dX12_init_97 (hp_n (n := 100) rfl ?_)
  refine q_las (κ := 48) (n := 12) (j := 1) (pc' := 101) C Bh20 kh20 (by decide) rfl (vi_of (by decide) (by decide)) rfl (gx_sL Bh20.2.2 nh19.1) dX12_init_100 rfl (fun βh21 Hh21 Lh21 eh21 Bh21 => ?_)
  have Oh21 : co α a0 13 βh21 [666, 663, 662, 656, 655, 654, 651, 650] [(669, (-1)), (668, (-1))] := by rw [eh21]; exact co_sL Oh20
  have kh21 : hp_K βh21 ah19 = 48 := by rw [eh21]; exact kh20
  have lwh21 : ∀ j, j < 2 → hp_L βh21 48 ah19 j = ms_w j := by rw [eh21]; exact sL_step lwh20 rfl
  have zzh21 : ∀ ψ j, hp_E βh21 ψ ah19 j = 0 := by rw [eh21]; exact zzh20
  refine lv_dup hx hb dX12_init_101 rfl (hp_n (n := 102) rfl ?_)
  refine lv_iconst (v := 2) hx hb dX12_init_102 (by decide) (hp_n (n := 103) rfl ?_)
  refine lv_ldc2 hx hb hown (hts _ kc_X12_46) dX12_init_103 (hp_n (n := 106) rfl ?_)
  refine q_las (κ := 48) (n := 12) (j := 2) (pc' := 107) C Bh21 kh21 (by decide) rfl (vi_of (by decide) (by decide)) rfl (gx_sL Bh21.2.2 nh19.1) dX12_init_106 rfl (fun βh22 Hh22 Lh22 eh22 Bh22 => ?_)
  have Oh22 : co α a0 13 βh22 [666, 663, 662, 656, 655, 654, 651, 650] [(669, (-1)), (668, (-1))] := by rw [eh22]; exact co_sL Oh21
  have kh22 : hp_K βh22 ah19 = 48 := by rw [eh22]; exact kh21
  have lwh22 : ∀ j, j < 3 → hp_L βh22 48 ah19 j = ms_w j := by rw [eh22]; exact sL_step lwh21 rfl
  have zzh22 : ∀ ψ j, hp_E βh22 ψ ah19 j = 0 := by rw [eh22]; exact zzh21
  refine lv_dup hx hb dX12_init_107 rfl (hp_n (n := 108) rfl ?_)
  refine lv_iconst (v := 3) hx hb dX12_init_108 (by decide) (hp_n (n := 109) rfl ?_)
  refine lv_ldc2 hx hb hown (hts _ kc_X12_48) dX12_init_109 (hp_n (n := 112) rfl ?_)
  refine q_las (κ := 48) (n := 12) (j := 3) (pc' := 113) C Bh22 kh22 (by decide) rfl (vi_of (by decide) (by decide)) rfl (gx_sL Bh22.2.2 nh19.1) dX12_init_112 rfl (fun βh23 Hh23 Lh23 eh23 Bh23 => ?_)
  have Oh23 : co α a0 13 βh23 [666, 663, 662, 656, 655, 654, 651, 650] [(669, (-1)), (668, (-1))] := by rw [eh23]; exact co_sL Oh22
  have kh23 : hp_K βh23 ah19 = 48 := by rw [eh23]; exact kh22
  have lwh23 : ∀ j, j < 4 → hp_L βh23 48 ah19 j = ms_w j := by rw [eh23]; exact sL_step lwh22 rfl
  have zzh23 : ∀ ψ j, hp_E βh23 ψ ah19 j = 0 := by rw [eh23]; exact zzh22
  refine lv_dup hx hb dX12_init_113 rfl (hp_n (n := 114) rfl ?_)
  refine lv_iconst (v := 4) hx hb dX12_init_114 (by decide) (hp_n (n := 115) rfl ?_)
  refine lv_ldc2 hx hb hown (hts _ kc_X12_50) dX12_init_115 (hp_n (n := 118) rfl ?_)
  refine q_las (κ := 48) (n := 12) (j := 4) (pc' := 119) C Bh23 kh23 (by decide) rfl (vi_of (by decide) (by decide)) rfl (gx_sL Bh23.2.2 nh19.1) dX12_init_118 rfl (fun βh24 Hh24 Lh24 eh24 Bh24 => ?_)
  have Oh24 : co α a0 13 βh24 [666, 663, 662, 656, 655, 654, 651, 650] [(669, (-1)), (668, (-1))] := by rw [eh24]; exact co_sL Oh23
  have kh24 : hp_K βh24 ah19 = 48 := by rw [eh24]; exact kh23
  have lwh24 : ∀ j, j < 5 → hp_L βh24 48 ah19 j = ms_w j := by rw [eh24]; exact sL_step lwh23 rfl
  have zzh24 : ∀ ψ j, hp_E βh24 ψ ah19 j = 0 := by rw [eh24]; exact zzh23
  refine lv_dup hx hb dX12_init_119 rfl (hp_n (n := 120) rfl ?_)
  refine lv_iconst (v := 5) hx hb dX12_init_120 (by decide) (hp_n (n := 121) rfl ?_)
  refine lv_ldc2 hx hb hown (hts _ kc_X12_52) dX12_init_121 (hp_n (n := 124) rfl ?_)
  refine q_las (κ := 48) (n := 12) (j := 5) (pc' := 125) C Bh24 kh24 (by decide) rfl (vi_of (by decide) (by decide)) rfl (gx_sL Bh24.2.2 nh19.1) dX12_init_124 rfl (fun βh25 Hh25 Lh25 eh25 Bh25 => ?_)
  have Oh25 : co α a0 13 βh25 [666, 663, 662, 656, 655, 654, 651, 650] [(669, (-1)), (668, (-1))] := by rw [eh25]; exact co_sL Oh24
  have kh25 : hp_K βh25 ah19 = 48 := by rw [eh25]; exact kh24
  have lwh25 : ∀ j, j < 6 → hp_L βh25 48 ah19 j = ms_w j := by rw [eh25]; exact sL_step lwh24 rfl
  have zzh25 : ∀ ψ j, hp_E βh25 ψ ah19 j = 0 := by rw [eh25]; exact zzh24
  refine lv_dup hx hb dX12_init_125 rfl (hp_n (n := 126) rfl ?_)
  refine lv_bipush (v := 6) hx hb dX12_init_126 (by decide) (hp_n (n := 128) rfl ?_)
  refine lv_ldc2 hx hb hown (hts _ kc_X12_54) dX12_init_128 (hp_n (n := 131) rfl ?_)
  refine q_las (κ := 48) (n := 12) (j := 6) (pc' := 132) C Bh25 kh25 (by decide) rfl (vi_of (by decide) (by decide)) rfl (gx_sL Bh25.2.2 nh19.1) dX12_init_131 rfl (fun βh26 Hh26 Lh26 eh26 Bh26 => ?_)
  have Oh26 : co α a0 13 βh26 [666, 663, 662, 656, 655, 654, 651, 650] [(669, (-1)), (668, (-1))] := by rw [eh26]; exact co_sL Oh25
  have kh26 : hp_K βh26 ah19 = 48 := by rw [eh26]; exact kh25
  have lwh26 : ∀ j, j < 7 → hp_L βh26 48 ah19 j = ms_w j := by rw [eh26]; exact sL_step lwh25 rfl
  have zzh26 : ∀ ψ j, hp_E βh26 ψ ah19 j = 0 := by rw [eh26]; exact zzh25
  refine lv_dup hx hb dX12_init_132 rfl (hp_n (n := 133) rfl ?_)
  refine lv_bipush (v := 7) hx hb dX12_init_133 (by decide) (hp_n (n := 135) rfl ?_)
  refine lv_ldc2 hx hb hown (hts _ kc_X12_56) dX12_init_135 (hp_n (n := 138) rfl ?_)
  refine q_las (κ := 48) (n := 12) (j := 7) (pc' := 139) C Bh26 kh26 (by decide) rfl (vi_of (by decide) (by decide)) rfl (gx_sL Bh26.2.2 nh19.1) dX12_init_138 rfl (fun βh27 Hh27 Lh27 eh27 Bh27 => ?_)
  have Oh27 : co α a0 13 βh27 [666, 663, 662, 656, 655, 654, 651, 650] [(669, (-1)), (668, (-1))] := by rw [eh27]; exact co_sL Oh26
  have kh27 : hp_K βh27 ah19 = 48 := by rw [eh27]; exact kh26
  have lwh27 : ∀ j, j < 8 → hp_L βh27 48 ah19 j = ms_w j := by rw [eh27]; exact sL_step lwh26 rfl
  have zzh27 : ∀ ψ j, hp_E βh27 ψ ah19 j = 0 := by rw [eh27]; exact zzh26
  refine lv_dup hx hb dX12_init_139 rfl (hp_n (n := 140) rfl ?_)
  refine lv_bipush (v := 8) hx hb dX12_init_140 (by decide) (hp_n (n := 142) rfl ?_)
  refine lv_ldc2 hx hb hown (hts _ kc_X12_58) dX12_init_142 (hp_n (n := 145) rfl ?_)
  refine q_las (κ := 48) (n := 12) (j := 8) (pc' := 146) C Bh27 kh27 (by decide) rfl (vi_of (by decide) (by decide)) rfl (gx_sL Bh27.2.2 nh19.1) dX12_init_145 rfl (fun βh28 Hh28 Lh28 eh28 Bh28 => ?_)
  have Oh28 : co α a0 13 βh28 [666, 663, 662, 656, 655, 654, 651, 650] [(669, (-1)), (668, (-1))] := by rw [eh28]; exact co_sL Oh27
  have kh28 : hp_K βh28 ah19 = 48 := by rw [eh28]; exact kh27
  have lwh28 : ∀ j, j < 9 → hp_L βh28 48 ah19 j = ms_w j := by rw [eh28]; exact sL_step lwh27 rfl
  have zzh28 : ∀ ψ j, hp_E βh28 ψ ah19 j = 0 := by rw [eh28]; exact zzh27
  refine lv_dup hx hb dX12_init_146 rfl (hp_n (n := 147) rfl ?_)
  refine lv_bipush (v := 9) hx hb dX12_init_147 (by decide) (hp_n (n := 149) rfl ?_)
  refine lv_ldc2 hx hb hown (hts _ kc_X12_60) dX12_init_149 (hp_n (n := 152) rfl ?_)
  refine q_las (κ := 48) (n := 12) (j := 9) (pc' := 153) C Bh28 kh28 (by decide) rfl (vi_of (by decide) (by decide)) rfl (gx_sL Bh28.2.2 nh19.1) dX12_init_152 rfl (fun βh29 Hh29 Lh29 eh29 Bh29 => ?_)
  have Oh29 : co α a0 13 βh29 [666, 663, 662, 656, 655, 654, 651, 650] [(669, (-1)), (668, (-1))] := by rw [eh29]; exact co_sL Oh28
  have kh29 : hp_K βh29 ah19 = 48 := by rw [eh29]; exact kh28
  have lwh29 : ∀ j, j < 10 → hp_L βh29 48 ah19 j = ms_w j := by rw [eh29]; exact sL_step lwh28 rfl
  have zzh29 : ∀ ψ j, hp_E βh29 ψ ah19 j = 0 := by rw [eh29]; exact zzh28
  refine lv_dup hx hb dX12_init_153 rfl (hp_n (n := 154) rfl ?_)
  refine lv_bipush (v := 10) hx hb dX12_init_154 (by decide) (hp_n (n := 156) rfl ?_)
  refine lv_ldc2 hx hb hown (hts _ kc_X12_62) dX12_init_156 (hp_n (n := 159) rfl ?_)
  refine q_las (κ := 48) (n := 12) (j := 10) (pc' := 160) C Bh29 kh29 (by decide) rfl (vi_of (by decide) (by decide)) rfl (gx_sL Bh29.2.2 nh19.1) dX12_init_159 rfl (fun βh30 Hh30 Lh30 eh30 Bh30 => ?_)
  have Oh30 : co α a0 13 βh30 [666, 663, 662, 656, 655, 654, 651, 650] [(669, (-1)), (668, (-1))] := by rw [eh30]; exact co_sL Oh29
  have kh30 : hp_K βh30 ah19 = 48 := by rw [eh30]; exact kh29
  have lwh30 : ∀ j, j < 11 → hp_L βh30 48 ah19 j = ms_w j := by rw [eh30]; exact sL_step lwh29 rfl
  have zzh30 : ∀ ψ j, hp_E βh30 ψ ah19 j = 0 := by rw [eh30]; exact zzh29
  refine lv_dup hx hb dX12_init_160 rfl (hp_n (n := 161) rfl ?_)
  refine lv_bipush (v := 11) hx hb dX12_init_161 (by decide) (hp_n (n := 163) rfl ?_)
  refine lv_ldc2 hx hb hown (hts _ kc_X12_64) dX12_init_163 (hp_n (n := 166) rfl ?_)
  refine q_las (κ := 48) (n := 12) (j := 11) (pc' := 167) C Bh30 kh30 (by decide) rfl (vi_of (by decide) (by decide)) rfl (gx_sL Bh30.2.2 nh19.1) dX12_init_166 rfl (fun βh31 Hh31 Lh31 eh31 Bh31 => ?_)
  have Oh31 : co α a0 13 βh31 [666, 663, 662, 656, 655, 654, 651, 650] [(669, (-1)), (668, (-1))] := by rw [eh31]; exact co_sL Oh30
  have kh31 : hp_K βh31 ah19 = 48 := by rw [eh31]; exact kh30
  have lwh31 : ∀ j, j < 12 → hp_L βh31 48 ah19 j = ms_w j := by rw [eh31]; exact sL_step lwh30 rfl
  have zzh31 : ∀ ψ j, hp_E βh31 ψ ah19 j = 0 := by rw [eh31]; exact zzh30
  refine q_putnF (κ := 113) (k := 28) (φ := 678) (pc' := 170) C Bh31 Oh31.1 fl_X12_66 rfl rfl rfl hnm rfl rfl rfl rfl (gx_sN Bh31.2.2 Oh31) dX12_init_167 rfl (fun βh32 Hh32 Lh32 eh32 Bh32 => ?_)
  have Oh32 : co α a0 13 βh32 [678, 666, 663, 662, 656, 655, 654, 651, 650] [(669, (-1)), (668, (-1))] := by rw [eh32]; exact co_sN Oh31 ⟨Or.inl (by rw [kh31]; rfl), by rw [kh31]; decide, by rw [kh31]; decide, nh19.1, (fun _ j => zzh31 _ j)⟩
  have Xh32 : lwx βh32 a0 := by rw [eh32]; exact ⟨ah19, sN_at, by show hp_K βh31 ah19 ≠ 0; rw [kh31]; decide, lwh31⟩
  refine lv_aload_n hx hb dX12_init_170 rfl (lv_at hl 0 rfl) (hp_n (n := 171) rfl ?_)
  refine lv_bipush (v := 20) hx hb dX12_init_171 (by decide) (hp_n (n := 173) rfl ?_)
  refine q_newa (κ := 49) (t := 0) (n := 20) (atype := .int) (ty := .int) (dv := .int 0) (pc' := 175) C Bh32 ac_int rfl (by decide) rfl rfl (fun _ _ q => q) rfl (fun _ cA => nw_cx (by decide) cA) (by decide) (by decide +kernel) (Nat.le_of_ble_eq_true rfl) rfl (by omega) (by omega) dX12_init_173 rfl (fun q hq => gx_nw Bh32.2.2 (by decide) hq) (fun βh33 ah33 Hh33 fh33 eh33 Bh33 => ?_)
  have Xh33 : lwx βh33 a0 := by rw [eh33]; exact lwx_nw Xh32 (by rw [Oh32.1]; decide) fh33
  have nh33 := gx_new Bh32.2.2 Oh32 fh33
  have Oh33 : co α a0 13 βh33 [678, 666, 663, 662, 656, 655, 654, 651, 650] [(669, (-1)), (668, (-1))] := by rw [eh33]; exact co_nw Oh32 fh33
  have kh33 : hp_K βh33 ah33 = 49 := by rw [eh33]; exact nw_k
  refine W.widen (k := 10) (n := 5292) (by omega) (by omega) ?_
  refine q_putnF (κ := 113) (k := 30) (φ := 680) (pc' := 178) C Bh33 Oh33.1 fl_X12_70 rfl rfl rfl hnm rfl rfl rfl rfl (gx_sN Bh33.2.2 Oh33) dX12_init_175 rfl (fun βh34 Hh34 Lh34 eh34 Bh34 => ?_)
  have Oh34 : co α a0 13 βh34 [680, 678, 666, 663, 662, 656, 655, 654, 651, 650] [(669, (-1)), (668, (-1))] := by rw [eh34]; exact co_sN Oh33 ⟨Or.inl (by rw [kh33]; rfl), by rw [kh33]; decide, by rw [kh33]; decide, nh33.1, (fun _ j => by rw [eh33]; exact nw_e)⟩
  have Xh34 : lwx βh34 a0 := by rw [eh34]; exact lwx_sN Xh33 (by decide)
  refine lv_aload_n hx hb dX12_init_178 rfl (lv_at hl 0 rfl) (hp_n (n := 179) rfl ?_)
  refine lv_bipush (v := 20) hx hb dX12_init_179 (by decide) (hp_n (n := 181) rfl ?_)
  refine q_newa (κ := 50) (t := 0) (n := 20) (atype := .int) (ty := .int) (dv := .int 0) (pc' := 183) C Bh34 ac_int rfl (by decide) rfl rfl (fun _ _ q => q) rfl (fun _ cA => nw_cx (by decide) cA) (by decide) (by decide +kernel) (Nat.le_of_ble_eq_true rfl) rfl (by omega) (by omega) dX12_init_181 rfl (fun q hq => gx_nw Bh34.2.2 (by decide) hq) (fun βh35 ah35 Hh35 fh35 eh35 Bh35 => ?_)
  have Xh35 : lwx βh35 a0 := by rw [eh35]; exact lwx_nw Xh34 (by rw [Oh34.1]; decide) fh35
  have nh35 := gx_new Bh34.2.2 Oh34 fh35
  have Oh35 : co α a0 13 βh35 [680, 678, 666, 663, 662, 656, 655, 654, 651, 650] [(669, (-1)), (668, (-1))] := by rw [eh35]; exact co_nw Oh34 fh35
  have kh35 : hp_K βh35 ah35 = 50 := by rw [eh35]; exact nw_k
  refine W.widen (k := 11) (n := 5312) (by omega) (by omega) ?_
  refine q_putnF (κ := 113) (k := 31) (φ := 681) (pc' := 186) C Bh35 Oh35.1 fl_X12_73 rfl rfl rfl hnm rfl rfl rfl rfl (gx_sN Bh35.2.2 Oh35) dX12_init_183 rfl (fun βh36 Hh36 Lh36 eh36 Bh36 => ?_)
  have Oh36 : co α a0 13 βh36 [681, 680, 678, 666, 663, 662, 656, 655, 654, 651, 650] [(669, (-1)), (668, (-1))] := by rw [eh36]; exact co_sN Oh35 ⟨Or.inl (by rw [kh35]; rfl), by rw [kh35]; decide, by rw [kh35]; decide, nh35.1, (fun _ j => by rw [eh35]; exact nw_e)⟩
  have Xh36 : lwx βh36 a0 := by rw [eh36]; exact lwx_sN Xh35 (by decide)
  refine lv_aload_n hx hb dX12_init_186 rfl (lv_at hl 0 rfl) (hp_n (n := 187) rfl ?_)
  refine lv_bipush (v := 64) hx hb dX12_init_187 (by decide) (hp_n (n := 189) rfl ?_)
  refine q_newa (κ := 51) (t := 0) (n := 64) (atype := .int) (ty := .int) (dv := .int 0) (pc' := 191) C Bh36 ac_int rfl (by decide) rfl rfl (fun _ _ q => q) rfl (fun _ cA => nw_cx (by decide) cA) (by decide) (by decide +kernel) (Nat.le_of_ble_eq_true rfl) rfl (by omega) (by omega) dX12_init_189 rfl (fun q hq => gx_nw Bh36.2.2 (by decide) hq) (fun βh37 ah37 Hh37 fh37 eh37 Bh37 => ?_)
  have Xh37 : lwx βh37 a0 := by rw [eh37]; exact lwx_nw Xh36 (by rw [Oh36.1]; decide) fh37
  have nh37 := gx_new Bh36.2.2 Oh36 fh37
  have Oh37 : co α a0 13 βh37 [681, 680, 678, 666, 663, 662, 656, 655, 654, 651, 650] [(669, (-1)), (668, (-1))] := by rw [eh37]; exact co_nw Oh36 fh37
  have kh37 : hp_K βh37 ah37 = 51 := by rw [eh37]; exact nw_k
  refine W.widen (k := 12) (n := 5376) (by omega) (by omega) ?_
  refine q_putnF (κ := 113) (k := 36) (φ := 686) (pc' := 194) C Bh37 Oh37.1 fl_X12_76 rfl rfl rfl hnm rfl rfl rfl rfl (gx_sN Bh37.2.2 Oh37) dX12_init_191 rfl (fun βh38 Hh38 Lh38 eh38 Bh38 => ?_)
  have Oh38 : co α a0 13 βh38 [686, 681, 680, 678, 666, 663, 662, 656, 655, 654, 651, 650] [(669, (-1)), (668, (-1))] := by rw [eh38]; exact co_sN Oh37 ⟨Or.inl (by rw [kh37]; rfl), by rw [kh37]; decide, by rw [kh37]; decide, nh37.1, (fun _ j => by rw [eh37]; exact nw_e)⟩
  have Xh38 : lwx βh38 a0 := by rw [eh38]; exact lwx_sN Xh37 (by decide)
  refine lv_aload_n hx hb dX12_init_194 rfl (lv_at hl 0 rfl) (hp_n (n := 195) rfl ?_)
  refine lv_bipush (v := 64) hx hb dX12_init_195 (by decide) (hp_n (n := 197) rfl ?_)
  refine q_newa (κ := 52) (t := 0) (n := 64) (atype := .int) (ty := .int) (dv := .int 0) (pc' := 199) C Bh38 ac_int rfl (by decide) rfl rfl (fun _ _ q => q) rfl (fun _ cA => nw_cx (by decide) cA) (by decide) (by decide +kernel) (Nat.le_of_ble_eq_true rfl) rfl (by omega) (by omega) dX12_init_197 rfl (fun q hq => gx_nw Bh38.2.2 (by decide) hq) (fun βh39 ah39 Hh39 fh39 eh39 Bh39 => ?_)
  have Xh39 : lwx βh39 a0 := by rw [eh39]; exact lwx_nw Xh38 (by rw [Oh38.1]; decide) fh39
  have nh39 := gx_new Bh38.2.2 Oh38 fh39
  have Oh39 : co α a0 13 βh39 [686, 681, 680, 678, 666, 663, 662, 656, 655, 654, 651, 650] [(669, (-1)), (668, (-1))] := by rw [eh39]; exact co_nw Oh38 fh39
  have kh39 : hp_K βh39 ah39 = 52 := by rw [eh39]; exact nw_k
  refine W.widen (k := 13) (n := 5440) (by omega) (by omega) ?_
  refine q_putnF (κ := 113) (k := 37) (φ := 687) (pc' := 202) C Bh39 Oh39.1 fl_X12_79 rfl rfl rfl hnm rfl rfl rfl rfl (gx_sN Bh39.2.2 Oh39) dX12_init_199 rfl (fun βh40 Hh40 Lh40 eh40 Bh40 => ?_)
  have Oh40 : co α a0 13 βh40 [687, 686, 681, 680, 678, 666, 663, 662, 656, 655, 654, 651, 650] [(669, (-1)), (668, (-1))] := by rw [eh40]; exact co_sN Oh39 ⟨Or.inl (by rw [kh39]; rfl), by rw [kh39]; decide, by rw [kh39]; decide, nh39.1, (fun _ j => by rw [eh39]; exact nw_e)⟩
  have Xh40 : lwx βh40 a0 := by rw [eh40]; exact lwx_sN Xh39 (by decide)
  refine lv_aload_n hx hb dX12_init_202 rfl (lv_at hl 0 rfl) (hp_n (n := 203) rfl ?_)
  refine lv_bipush (v := 64) hx hb dX12_init_203 (by decide) (hp_n (n := 205) rfl ?_)
  refine q_newa (κ := 53) (t := 0) (n := 64) (atype := .int) (ty := .int) (dv := .int 0) (pc' := 207) C Bh40 ac_int rfl (by decide) rfl rfl (fun _ _ q => q) rfl (fun _ cA => nw_cx (by decide) cA) (by decide) (by decide +kernel) (Nat.le_of_ble_eq_true rfl) rfl (by omega) (by omega) dX12_init_205 rfl (fun q hq => gx_nw Bh40.2.2 (by decide) hq) (fun βh41 ah41 Hh41 fh41 eh41 Bh41 => ?_)
  have Xh41 : lwx βh41 a0 := by rw [eh41]; exact lwx_nw Xh40 (by rw [Oh40.1]; decide) fh41
  have nh41 := gx_new Bh40.2.2 Oh40 fh41
  have Oh41 : co α a0 13 βh41 [687, 686, 681, 680, 678, 666, 663, 662, 656, 655, 654, 651, 650] [(669, (-1)), (668, (-1))] := by rw [eh41]; exact co_nw Oh40 fh41
  have kh41 : hp_K βh41 ah41 = 53 := by rw [eh41]; exact nw_k
  refine W.widen (k := 14) (n := 5504) (by omega) (by omega) ?_
  refine q_putnF (κ := 113) (k := 38) (φ := 688) (pc' := 210) C Bh41 Oh41.1 fl_X12_82 rfl rfl rfl hnm rfl rfl rfl rfl (gx_sN Bh41.2.2 Oh41) dX12_init_207 rfl (fun βh42 Hh42 Lh42 eh42 Bh42 => ?_)
  have Oh42 : co α a0 13 βh42 [688, 687, 686, 681, 680, 678, 666, 663, 662, 656, 655, 654, 651, 650] [(669, (-1)), (668, (-1))] := by rw [eh42]; exact co_sN Oh41 ⟨Or.inl (by rw [kh41]; rfl), by rw [kh41]; decide, by rw [kh41]; decide, nh41.1, (fun _ j => by rw [eh41]; exact nw_e)⟩
  have Xh42 : lwx βh42 a0 := by rw [eh42]; exact lwx_sN Xh41 (by decide)
  refine lv_aload_n hx hb dX12_init_210 rfl (lv_at hl 0 rfl) (hp_n (n := 211) rfl ?_)
  refine lv_bipush (v := 64) hx hb dX12_init_211 (by decide) (hp_n (n := 213) rfl ?_)
  refine q_newa (κ := 54) (t := 0) (n := 64) (atype := .int) (ty := .int) (dv := .int 0) (pc' := 215) C Bh42 ac_int rfl (by decide) rfl rfl (fun _ _ q => q) rfl (fun _ cA => nw_cx (by decide) cA) (by decide) (by decide +kernel) (Nat.le_of_ble_eq_true rfl) rfl (by omega) (by omega) dX12_init_213 rfl (fun q hq => gx_nw Bh42.2.2 (by decide) hq) (fun βh43 ah43 Hh43 fh43 eh43 Bh43 => ?_)
  have Xh43 : lwx βh43 a0 := by rw [eh43]; exact lwx_nw Xh42 (by rw [Oh42.1]; decide) fh43
  have nh43 := gx_new Bh42.2.2 Oh42 fh43
  have Oh43 : co α a0 13 βh43 [688, 687, 686, 681, 680, 678, 666, 663, 662, 656, 655, 654, 651, 650] [(669, (-1)), (668, (-1))] := by rw [eh43]; exact co_nw Oh42 fh43
  have kh43 : hp_K βh43 ah43 = 54 := by rw [eh43]; exact nw_k
  refine W.widen (k := 15) (n := 5568) (by omega) (by omega) ?_
  refine q_putnF (κ := 113) (k := 40) (φ := 690) (pc' := 218) C Bh43 Oh43.1 fl_X12_85 rfl rfl rfl hnm rfl rfl rfl rfl (gx_sN Bh43.2.2 Oh43) dX12_init_215 rfl (fun βh44 Hh44 Lh44 eh44 Bh44 => ?_)
  have Oh44 : co α a0 13 βh44 [690, 688, 687, 686, 681, 680, 678, 666, 663, 662, 656, 655, 654, 651, 650] [(669, (-1)), (668, (-1))] := by rw [eh44]; exact co_sN Oh43 ⟨Or.inl (by rw [kh43]; rfl), by rw [kh43]; decide, by rw [kh43]; decide, nh43.1, (fun _ j => by rw [eh43]; exact nw_e)⟩
  have Xh44 : lwx βh44 a0 := by rw [eh44]; exact lwx_sN Xh43 (by decide)
  refine lv_aload_n hx hb dX12_init_218 rfl (lv_at hl 0 rfl) (hp_n (n := 219) rfl ?_)
  refine lv_bipush (v := 64) hx hb dX12_init_219 (by decide) (hp_n (n := 221) rfl ?_)
  refine q_newa (κ := 55) (t := 0) (n := 64) (atype := .int) (ty := .int) (dv := .int 0) (pc' := 223) C Bh44 ac_int rfl (by decide) rfl rfl (fun _ _ q => q) rfl (fun _ cA => nw_cx (by decide) cA) (by decide) (by decide +kernel) (Nat.le_of_ble_eq_true rfl) rfl (by omega) (by omega) dX12_init_221 rfl (fun q hq => gx_nw Bh44.2.2 (by decide) hq) (fun βh45 ah45 Hh45 fh45 eh45 Bh45 => ?_)
  have Xh45 : lwx βh45 a0 := by rw [eh45]; exact lwx_nw Xh44 (by rw [Oh44.1]; decide) fh45
  have nh45 := gx_new Bh44.2.2 Oh44 fh45
  have Oh45 : co α a0 13 βh45 [690, 688, 687, 686, 681, 680, 678, 666, 663, 662, 656, 655, 654, 651, 650] [(669, (-1)), (668, (-1))] := by rw [eh45]; exact co_nw Oh44 fh45
  have kh45 : hp_K βh45 ah45 = 55 := by rw [eh45]; exact nw_k
  refine W.widen (k := 16) (n := 5632) (by omega) (by omega) ?_
  refine q_putnF (κ := 113) (k := 41) (φ := 691) (pc' := 226) C Bh45 Oh45.1 fl_X12_88 rfl rfl rfl hnm rfl rfl rfl rfl (gx_sN Bh45.2.2 Oh45) dX12_init_223 rfl (fun βh46 Hh46 Lh46 eh46 Bh46 => ?_)
  have Oh46 : co α a0 13 βh46 [691, 690, 688, 687, 686, 681, 680, 678, 666, 663, 662, 656, 655, 654, 651, 650] [(669, (-1)), (668, (-1))] := by rw [eh46]; exact co_sN Oh45 ⟨Or.inl (by rw [kh45]; rfl), by rw [kh45]; decide, by rw [kh45]; decide, nh45.1, (fun _ j => by rw [eh45]; exact nw_e)⟩
  have Xh46 : lwx βh46 a0 := by rw [eh46]; exact lwx_sN Xh45 (by decide)
  refine lv_aload_n hx hb dX12_init_226 rfl (lv_at hl 0 rfl) (hp_n (n := 227) rfl ?_)
  refine lv_bipush (v := 64) hx hb dX12_init_227 (by decide) (hp_n (n := 229) rfl ?_)
  refine q_newa (κ := 56) (t := 0) (n := 64) (atype := .int) (ty := .int) (dv := .int 0) (pc' := 231) C Bh46 ac_int rfl (by decide) rfl rfl (fun _ _ q => q) rfl (fun _ cA => nw_cx (by decide) cA) (by decide) (by decide +kernel) (Nat.le_of_ble_eq_true rfl) rfl (by omega) (by omega) dX12_init_229 rfl (fun q hq => gx_nw Bh46.2.2 (by decide) hq) (fun βh47 ah47 Hh47 fh47 eh47 Bh47 => ?_)
  have Xh47 : lwx βh47 a0 := by rw [eh47]; exact lwx_nw Xh46 (by rw [Oh46.1]; decide) fh47
  have nh47 := gx_new Bh46.2.2 Oh46 fh47
  have Oh47 : co α a0 13 βh47 [691, 690, 688, 687, 686, 681, 680, 678, 666, 663, 662, 656, 655, 654, 651, 650] [(669, (-1)), (668, (-1))] := by rw [eh47]; exact co_nw Oh46 fh47
  have kh47 : hp_K βh47 ah47 = 56 := by rw [eh47]; exact nw_k
  refine W.widen (k := 17) (n := 5696) (by omega) (by omega) ?_
  refine q_putnF (κ := 113) (k := 42) (φ := 692) (pc' := 234) C Bh47 Oh47.1 fl_X12_91 rfl rfl rfl hnm rfl rfl rfl rfl (gx_sN Bh47.2.2 Oh47) dX12_init_231 rfl (fun βh48 Hh48 Lh48 eh48 Bh48 => ?_)
  have Oh48 : co α a0 13 βh48 [692, 691, 690, 688, 687, 686, 681, 680, 678, 666, 663, 662, 656, 655, 654, 651, 650] [(669, (-1)), (668, (-1))] := by rw [eh48]; exact co_sN Oh47 ⟨Or.inl (by rw [kh47]; rfl), by rw [kh47]; decide, by rw [kh47]; decide, nh47.1, (fun _ j => by rw [eh47]; exact nw_e)⟩
  have Xh48 : lwx βh48 a0 := by rw [eh48]; exact lwx_sN Xh47 (by decide)
  refine lv_aload_n hx hb dX12_init_234 rfl (lv_at hl 0 rfl) (hp_n (n := 235) rfl ?_)
  refine lv_sipush (v := 256) hx hb dX12_init_235 (by decide) (hp_n (n := 238) rfl ?_)
  refine q_newa (κ := 57) (t := 0) (n := 256) (atype := .int) (ty := .int) (dv := .int 0) (pc' := 240) C Bh48 ac_int rfl (by decide) rfl rfl (fun _ _ q => q) rfl (fun _ cA => nw_cx (by decide) cA) (by decide) (by decide +kernel) (Nat.le_of_ble_eq_true rfl) rfl (by omega) (by omega) dX12_init_238 rfl (fun q hq => gx_nw Bh48.2.2 (by decide) hq) (fun βh49 ah49 Hh49 fh49 eh49 Bh49 => ?_)
  have Xh49 : lwx βh49 a0 := by rw [eh49]; exact lwx_nw Xh48 (by rw [Oh48.1]; decide) fh49
  have nh49 := gx_new Bh48.2.2 Oh48 fh49
  have Oh49 : co α a0 13 βh49 [692, 691, 690, 688, 687, 686, 681, 680, 678, 666, 663, 662, 656, 655, 654, 651, 650] [(669, (-1)), (668, (-1))] := by rw [eh49]; exact co_nw Oh48 fh49
  have kh49 : hp_K βh49 ah49 = 57 := by rw [eh49]; exact nw_k
  refine W.widen (k := 18) (n := 5952) (by omega) (by omega) ?_
  refine q_putnF (κ := 113) (k := 43) (φ := 693) (pc' := 243) C Bh49 Oh49.1 fl_X12_94 rfl rfl rfl hnm rfl rfl rfl rfl (gx_sN Bh49.2.2 Oh49) dX12_init_240 rfl (fun βh50 Hh50 Lh50 eh50 Bh50 => ?_)
  have Oh50 : co α a0 13 βh50 [693, 692, 691, 690, 688, 687, 686, 681, 680, 678, 666, 663, 662, 656, 655, 654, 651, 650] [(669, (-1)), (668, (-1))] := by rw [eh50]; exact co_sN Oh49 ⟨Or.inl (by rw [kh49]; rfl), by rw [kh49]; decide, by rw [kh49]; decide, nh49.1, (fun _ j => by rw [eh49]; exact nw_e)⟩
  have Xh50 : lwx βh50 a0 := by rw [eh50]; exact lwx_sN Xh49 (by decide)
  refine lv_aload_n hx hb dX12_init_243 rfl (lv_at hl 0 rfl) (hp_n (n := 244) rfl ?_)
  refine lv_sipush (v := 256) hx hb dX12_init_244 (by decide) (hp_n (n := 247) rfl ?_)
  refine q_newa (κ := 58) (t := 0) (n := 256) (atype := .int) (ty := .int) (dv := .int 0) (pc' := 249) C Bh50 ac_int rfl (by decide) rfl rfl (fun _ _ q => q) rfl (fun _ cA => nw_cx (by decide) cA) (by decide) (by decide +kernel) (Nat.le_of_ble_eq_true rfl) rfl (by omega) (by omega) dX12_init_247 rfl (fun q hq => gx_nw Bh50.2.2 (by decide) hq) (fun βh51 ah51 Hh51 fh51 eh51 Bh51 => ?_)
  have Xh51 : lwx βh51 a0 := by rw [eh51]; exact lwx_nw Xh50 (by rw [Oh50.1]; decide) fh51
  have nh51 := gx_new Bh50.2.2 Oh50 fh51
  have Oh51 : co α a0 13 βh51 [693, 692, 691, 690, 688, 687, 686, 681, 680, 678, 666, 663, 662, 656, 655, 654, 651, 650] [(669, (-1)), (668, (-1))] := by rw [eh51]; exact co_nw Oh50 fh51
  have kh51 : hp_K βh51 ah51 = 58 := by rw [eh51]; exact nw_k
  refine W.widen (k := 19) (n := 6208) (by omega) (by omega) ?_
  refine q_putnF (κ := 113) (k := 44) (φ := 694) (pc' := 252) C Bh51 Oh51.1 fl_X12_97 rfl rfl rfl hnm rfl rfl rfl rfl (gx_sN Bh51.2.2 Oh51) dX12_init_249 rfl (fun βh52 Hh52 Lh52 eh52 Bh52 => ?_)
  have Oh52 : co α a0 13 βh52 [694, 693, 692, 691, 690, 688, 687, 686, 681, 680, 678, 666, 663, 662, 656, 655, 654, 651, 650] [(669, (-1)), (668, (-1))] := by rw [eh52]; exact co_sN Oh51 ⟨Or.inl (by rw [kh51]; rfl), by rw [kh51]; decide, by rw [kh51]; decide, nh51.1, (fun _ j => by rw [eh51]; exact nw_e)⟩
  have Xh52 : lwx βh52 a0 := by rw [eh52]; exact lwx_sN Xh51 (by decide)
  refine lv_aload_n hx hb dX12_init_252 rfl (lv_at hl 0 rfl) (hp_n (n := 253) rfl ?_)
  refine lv_sipush (v := 900) hx hb dX12_init_253 (by decide) (hp_n (n := 256) rfl ?_)
  refine q_newa (κ := 59) (t := 0) (n := 900) (atype := .int) (ty := .int) (dv := .int 0) (pc' := 258) C Bh52 ac_int rfl (by decide) rfl rfl (fun _ _ q => q) rfl (fun _ cA => nw_cx (by decide) cA) (by decide) (by decide +kernel) (Nat.le_of_ble_eq_true rfl) rfl (by omega) (by omega) dX12_init_256 rfl (fun q hq => gx_nw Bh52.2.2 (by decide) hq) (fun βh53 ah53 Hh53 fh53 eh53 Bh53 => ?_)
  have Xh53 : lwx βh53 a0 := by rw [eh53]; exact lwx_nw Xh52 (by rw [Oh52.1]; decide) fh53
  have nh53 := gx_new Bh52.2.2 Oh52 fh53
  have Oh53 : co α a0 13 βh53 [694, 693, 692, 691, 690, 688, 687, 686, 681, 680, 678, 666, 663, 662, 656, 655, 654, 651, 650] [(669, (-1)), (668, (-1))] := by rw [eh53]; exact co_nw Oh52 fh53
  have kh53 : hp_K βh53 ah53 = 59 := by rw [eh53]; exact nw_k
  refine W.widen (k := 20) (n := 7108) (by omega) (by omega) ?_
  refine q_putnF (κ := 113) (k := 46) (φ := 696) (pc' := 261) C Bh53 Oh53.1 fl_X12_100 rfl rfl rfl hnm rfl rfl rfl rfl (gx_sN Bh53.2.2 Oh53) dX12_init_258 rfl (fun βh54 Hh54 Lh54 eh54 Bh54 => ?_)
  have Oh54 : co α a0 13 βh54 [696, 694, 693, 692, 691, 690, 688, 687, 686, 681, 680, 678, 666, 663, 662, 656, 655, 654, 651, 650] [(669, (-1)), (668, (-1))] := by rw [eh54]; exact co_sN Oh53 ⟨Or.inl (by rw [kh53]; rfl), by rw [kh53]; decide, by rw [kh53]; decide, nh53.1, (fun _ j => by rw [eh53]; exact nw_e)⟩
  have Xh54 : lwx βh54 a0 := by rw [eh54]; exact lwx_sN Xh53 (by decide)
  refine lv_aload_n hx hb dX12_init_261 rfl (lv_at hl 0 rfl) (hp_n (n := 262) rfl ?_)
  obtain ⟨Bc, kc, fc, zc, xc⟩ := co_fin Bh54 Oh54 (by decide) (by decide +kernel) (by decide +kernel) (fun q => absurd q (by decide))
  obtain ⟨ρ, σ, hM, hσ, hE0⟩ := hm_make2 kc xc (by decide) Xh54
  obtain ⟨τ, hτ, hp⟩ := s_clears 2000 (by decide) σ
  have Bt : hp_B Γ (fun _ _ => True) s α (hp_cv βh54 a0 13) Hh54 Lh54 := ⟨Bc.1, Bc.2.1, trivial⟩
  refine q_cv (pc' := 265) Bt (hp_runV (As := []) (rest := []) C Bt (m_X12_clears 2000 Γ l (hp_cv βh54 a0 13) a0 ρ σ hM τ hτ) lb_X12_clears lv_X12_clears lk_X12_103 kc rfl (by decide) rfl hl.1 rfl (Nat.le_of_ble_eq_true rfl) dX12_init_262 ⟨by omega, by omega⟩) (fun _ _ => trivial) rfl (fun βe He Le pe Be => ?_)
  refine W.widen (k := 20) (n := 7108) (by omega) (by omega) ?_
  refine q_vret C Be hr hlk ⟨gc_mo pe.1 Bc.2.2.1, fun b h1 h2 => ?_, ρ, τ, pe.2, ⟨⟨?_, ?_, ?_, ?_⟩, cl_rC hp⟩, ?_⟩ dX12_init_265
  · have hs := Bc.2.2.2 b h1 h2
    exact ⟨by rw [pe.1.1]; exact hs.1, fun φ hφ => by rw [pe.1.2.2.2.2.2.1 φ hφ]; exact hs.2.1 φ, fun φ => by rw [pe.1.2.1]; exact hs.2.2.2.1 φ, fun φ => by rw [pe.1.2.2.1]; exact hs.2.2.2.2.1 φ, fun κ j hκ => by rw [pe.1.2.2.2.2.2.2 κ hκ]; exact hs.2.2.2.2.2.1 κ j, fun κ j => by rw [pe.1.2.2.2.1]; exact hs.2.2.2.2.2.2.2 κ j⟩
  · rw [hp.1, hσ, zc 664 (by decide)]; decide
  · rw [hp.1, hσ, zc 667 (by decide)]; decide
  · rw [hp.1, hσ, zc 682 (by decide)]; decide
  · rw [hp.1, hσ, zc 697 (by decide)]; decide
  · refine ⟨fun φ => ?_, fun κ j h1 h2 h3 h4 => ?_, hp.2.2.1, hp.2.2.2.1, hp.2.2.2.2⟩
    · rw [hp.1, hσ]
      split
      · rename_i h
        rcases h with rfl | rfl
        · exact fc (668, -1) (by decide)
        · exact fc (669, -1) (by decide)
      · rename_i h
        refine zc φ (fun q hq e => h ?_)
        rcases List.mem_cons.mp hq with r | hq
        · rw [r] at e; exact Or.inr e.symm
        · rcases List.mem_cons.mp hq with r | hq
          · rw [r] at e; exact Or.inl e.symm
          · cases hq
    · rw [hp.2.1 κ j h3]; exact hE0 κ j h1 h2 h4
