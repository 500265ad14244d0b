abbrev w_X5_putPeak : cw_W := ([301], [], [20], [])
abbrev w_X5_foldedPeaks : cw_W := ([], [], [], [])
set_option maxRecDepth 100000 in
set_option maxHeartbeats 4000000 in
theorem t_X5_foldedPeaks (Γ : hp_G) (l : Launch) (α : hp_T) (g : GC α) (a0 : Nat) (k0 : hp_K α a0 = 6) (a1 : Int32) : Met l yX5_foldedPeaks (hp_ws yX5_foldedPeaks cX5_foldedPeaks 4 (some .int)) (hp_rm 1 0 0) (hp_Pc Γ α [.ref a0, .int a1]) (hp_Qi Γ (fun r β => β = α)) 0 0 (hp_A Γ) := by
  refine hp_start (by decide) ?_
  intro p e s m below meth c C hr hlk B0 hnm
  have C : hp_C Γ p m c cX5_foldedPeaks 4 s ([.ref a0, .int a1] : List Value).toArray RX5 := C
  have hx := C.1.1
  have hb := C.1.2.1
  have hown := C.1.2.2.2.1
  have hts := C.1.2.2.2.2
  have B : hp_B Γ (cw w_X5_foldedPeaks) s α α s.heap [] := ⟨B0.1, B0.2.1, cw_rf g⟩
  have litm1 : ((-1) : Int32).toInt = (-1) := by decide
  have lit0 : (0 : Int32).toInt = 0 := by decide
  have lit1 : (1 : Int32).toInt = 1 := by decide
  have lit2 : (2 : Int32).toInt = 2 := by decide
  have hl := lv_entry ([.ref a0, .int a1]) (n := 4) (Nat.le_of_ble_eq_true rfl)
  show W p l e (hp_rm 1 0 0) s m ([.ref a0, .int a1] : List Value).toArray below meth c s.heap [] 0 0 (MQ below (hp_Qi Γ (fun r β => β = α)) ([.ref a0, .int a1] : List Value).toArray s 0 0 (hp_A Γ)) (entryFrame m ([.ref a0, .int a1] : List Value).toArray 4)
  rw [lg_entry_eq]
  generalize (lg_sl ([.ref a0, .int a1]) ++ List.replicate (4 - (lg_sl ([.ref a0, .int a1])).length) Slot.unset).toArray = ls at hl ⊢
  have hl : lv_has ls 4 [(0, .ref a0), (1, .int a1)] := hl
  refine lv_aload_n hx hb dX5_foldedPeaks_0 rfl (lv_at hl 0 rfl) (hp_n (n := 1) rfl ?_)
  refine lv_aload_n hx hb dX5_foldedPeaks_1 rfl (lv_at hl 0 rfl) (hp_n (n := 2) rfl ?_)
  refine q_geti (κ := 6) (k := 1) (φ := 301) (pc' := 5) C B (cw_k B.2.2 k0) fl_X5_15 rfl rfl rfl dX5_foldedPeaks_2 rfl (fun x_1 ex_1 => ?_)
  refine lv_iconst (v := 1) hx hb dX5_foldedPeaks_5 (by decide) (hp_n (n := 6) rfl ?_)
  refine lv_isub hx hb dX5_foldedPeaks_6 (hp_n (n := 7) rfl (lv_topi (fun x_2 ex_2 => ?_)))
  refine q_ci (pc' := 10) B (hp_runV (As := [.int x_2]) (rest := []) C B (t_X5_at Γ l α B.2.2.1 a0 (cw_k B.2.2 k0) x_2) lb_X5_at lv_X5_at lk_X5_19 (cw_k B.2.2 k0) rfl (by decide) rfl hl.1 rfl (Nat.le_of_ble_eq_true rfl) dX5_foldedPeaks_7 ⟨Nat.le_refl _, Nat.le_refl _⟩) (fun _ _ h => by rw [h]; exact B.2.2) rfl (fun rh_3 αh_3 Hh_3 Lh_3 ph_3 Bh_3 => ?_)
  rw [ph_3] at Bh_3
  refine lv_istore_n (lv' := [(2, .int rh_3), (0, .ref a0), (1, .int a1)]) hx hb dX5_foldedPeaks_10 rfl hl (by decide) rfl (fun ls hl => hp_n (n := 11) rfl ?_)
  refine lv_aload_n hx hb dX5_foldedPeaks_11 rfl (lv_at hl 1 rfl) (hp_n (n := 12) rfl ?_)
  refine q_getj (κ := 6) (k := 1) (φ := 301) (pc' := 15) C Bh_3 (cw_k Bh_3.2.2 k0) fl_X5_15 rfl rfl rfl ex_1 dX5_foldedPeaks_12 rfl ?_
  refine lv_iconst (v := 2) hx hb dX5_foldedPeaks_15 (by decide) (hp_n (n := 16) rfl ?_)
  refine lv_isub hx hb dX5_foldedPeaks_16 (hp_n (n := 17) rfl (lv_topi (fun x_4 ex_4 => ?_)))
  have J18 : ∀ (nq : Nat) (Hh_5 : Heap) (Lh_5 : List Loc) (Bh_5 : hp_B Γ (cw w_X5_foldedPeaks) s α α Hh_5 Lh_5) (v2_h_5 : Int32) (v3_h_5 : Int32) (ls : Array Slot) (hl : lv_has ls 4 [(0, .ref a0), (1, .int a1), (2, .int v2_h_5), (3, .int v3_h_5)]) (hmu18 : (v3_h_5.toInt + 1).toNat = nq), W p l e (hp_rm 1 0 0) s m ([.ref a0, .int a1] : List Value).toArray below meth c Hh_5 Lh_5 0 0 (MQ below (hp_Qi Γ (fun r β => β = α)) ([.ref a0, .int a1] : List Value).toArray s 0 0 (hp_A Γ)) (F0 m 18 ls []) := by
    intro nq
    induction nq using Nat.strongRecOn with
    | ind nq ih18 =>
    intro Hh_5 Lh_5 Bh_5 v2_h_5 v3_h_5 ls hl hmu18
    refine lv_iload_n hx hb dX5_foldedPeaks_18 rfl (lv_at hl 3 rfl) (hp_n (n := 19) rfl ?_)
    refine lv_if_lt (tgt := 39) hx hb dX5_foldedPeaks_19 (by decide) (fun c_6 => ?_) (fun c_6 => hp_n (n := 22) rfl ?_)
    ·
      have jc_6 := il_lt c_6
      refine lv_iload_n hx hb dX5_foldedPeaks_39 rfl (lv_at hl 2 rfl) (hp_n (n := 40) rfl ?_)
      exact q_iret C Bh_5 hr hlk rfl dX5_foldedPeaks_40
    ·
      have jc_6 := il_nlt c_6
      refine lv_iload_n hx hb dX5_foldedPeaks_22 rfl (lv_at hl 1 rfl) (hp_n (n := 23) rfl ?_)
      refine lv_aload_n hx hb dX5_foldedPeaks_23 rfl (lv_at hl 0 rfl) (hp_n (n := 24) rfl ?_)
      refine lv_iload_n hx hb dX5_foldedPeaks_24 rfl (lv_at hl 3 rfl) (hp_n (n := 25) rfl ?_)
      refine q_ci (pc' := 28) Bh_5 (hp_runV (As := [.int v3_h_5]) (rest := [.int a1]) C Bh_5 (t_X5_at Γ l α Bh_5.2.2.1 a0 (cw_k Bh_5.2.2 k0) v3_h_5) lb_X5_at lv_X5_at lk_X5_19 (cw_k Bh_5.2.2 k0) rfl (by decide) rfl hl.1 rfl (Nat.le_of_ble_eq_true rfl) dX5_foldedPeaks_25 ⟨Nat.le_refl _, Nat.le_refl _⟩) (fun _ _ h => by rw [h]; exact Bh_5.2.2) rfl (fun rh_7 αh_7 Hh_7 Lh_7 ph_7 Bh_7 => ?_)
      rw [ph_7] at Bh_7
      refine lv_iload_n hx hb dX5_foldedPeaks_28 rfl (lv_at hl 2 rfl) (hp_n (n := 29) rfl ?_)
      refine q_ci (pc' := 32) Bh_7 (hp_runS (As := [.int a1, .int rh_7, .int v2_h_5]) (rest := []) C Bh_7 (t_X11_markOfTwo Γ l α Bh_7.2.2.1 a1 rh_7 v2_h_5) lb_X11_markOfTwo ls_X11_markOfTwo lk_X5_23 rfl (by decide) rfl hl.1 rfl (Nat.le_of_ble_eq_true rfl) dX5_foldedPeaks_29 ⟨Nat.le_refl _, Nat.le_refl _⟩) (fun _ _ h => by rw [h]; exact Bh_7.2.2) rfl (fun rh_8 αh_8 Hh_8 Lh_8 ph_8 Bh_8 => ?_)
      rw [ph_8] at Bh_8
      refine lv_istore_n (lv' := [(2, .int rh_8), (0, .ref a0), (1, .int a1), (3, .int v3_h_5)]) hx hb dX5_foldedPeaks_32 rfl hl (by decide) rfl (fun ls hl => hp_n (n := 33) rfl ?_)
      obtain ⟨x_9, ex_9⟩ : ∃ y : Int32, y = v3_h_5 + (-1) := ⟨_, rfl⟩
      refine lv_iinc (v := x_9) (lv' := [(3, .int x_9), (2, .int rh_8), (0, .ref a0), (1, .int a1)]) hx hb dX5_foldedPeaks_33 hl (k := 3) rfl (by rw [ex_9]; rfl) (by decide) rfl (fun ls hl => hp_n (n := 36) rfl ?_)
      refine lv_goto (tgt := 18) hx hb dX5_foldedPeaks_36 (by decide) ?_
      exact ih18 _ (mu_dn1 hmu18 ex_9 (by omega)) Hh_8 Lh_8 Bh_8 rh_8 x_9 ls (lv_sub hl [2, 3, 1, 0] rfl) rfl
  refine lv_istore_n (lv' := [(3, .int x_4), (2, .int rh_3), (0, .ref a0), (1, .int a1)]) hx hb dX5_foldedPeaks_17 rfl hl (by decide) rfl (fun ls hl => hp_n (n := 18) rfl ?_)
  exact J18 _ Hh_3 Lh_3 Bh_3 rh_3 x_4 ls (lv_sub hl [2, 3, 1, 0] rfl) rfl
