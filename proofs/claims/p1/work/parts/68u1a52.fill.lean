set_option maxRecDepth 100000
theorem tcX11_out_0 : (cX11_out.data.toList.drop 0).take 12 = [27, 156, 0, 9, 42, 4, 182, 0, 98, 172, 27, 42] := by decide +kernel
theorem dX11_out_0 : decode cX11_out 0 = .ok (.iload_n 1, 1) := dk_1027 (dk_g tcX11_out_0 0 rfl)
theorem dX11_out_1 : decode cX11_out 1 = .ok (.ifCond .ge 9, 3) := dk_2156 (dk_g tcX11_out_0 1 rfl) (dk_g tcX11_out_0 2 rfl) (dk_g tcX11_out_0 3 rfl) rfl rfl
theorem dX11_out_4 : decode cX11_out 4 = .ok (.aload_n 0, 1) := dk_1042 (dk_g tcX11_out_0 4 rfl)
theorem dX11_out_5 : decode cX11_out 5 = .ok (.iconst 1, 1) := dk_1004 (dk_g tcX11_out_0 5 rfl)
theorem dX11_out_6 : decode cX11_out 6 = .ok (.invokevirtual 98, 3) := dk_1182 (dk_g tcX11_out_0 6 rfl) (dk_g tcX11_out_0 7 rfl) (dk_g tcX11_out_0 8 rfl) rfl
theorem dX11_out_9 : decode cX11_out 9 = .ok (.ireturn, 1) := dk_1172 (dk_g tcX11_out_0 9 rfl)
theorem dX11_out_10 : decode cX11_out 10 = .ok (.iload_n 1, 1) := dk_1027 (dk_g tcX11_out_0 10 rfl)
theorem dX11_out_11 : decode cX11_out 11 = .ok (.aload_n 0, 1) := dk_1042 (dk_g tcX11_out_0 11 rfl)
theorem tcX11_out_1 : (cX11_out.data.toList.drop 12).take 12 = [180, 0, 56, 162, 0, 25, 27, 42, 180, 0, 53, 190] := by decide +kernel
theorem dX11_out_12 : decode cX11_out 12 = .ok (.getfield 56, 3) := dk_1180 (dk_g tcX11_out_1 0 rfl) (dk_g tcX11_out_1 1 rfl) (dk_g tcX11_out_1 2 rfl) rfl
theorem dX11_out_15 : decode cX11_out 15 = .ok (.if_icmp .ge 25, 3) := dk_2162 (dk_g tcX11_out_1 3 rfl) (dk_g tcX11_out_1 4 rfl) (dk_g tcX11_out_1 5 rfl) rfl rfl
theorem dX11_out_18 : decode cX11_out 18 = .ok (.iload_n 1, 1) := dk_1027 (dk_g tcX11_out_1 6 rfl)
theorem dX11_out_19 : decode cX11_out 19 = .ok (.aload_n 0, 1) := dk_1042 (dk_g tcX11_out_1 7 rfl)
theorem dX11_out_20 : decode cX11_out 20 = .ok (.getfield 53, 3) := dk_1180 (dk_g tcX11_out_1 8 rfl) (dk_g tcX11_out_1 9 rfl) (dk_g tcX11_out_1 10 rfl) rfl
theorem dX11_out_23 : decode cX11_out 23 = .ok (.arraylength, 1) := dk_1190 (dk_g tcX11_out_1 11 rfl)
theorem tcX11_out_2 : (cX11_out.data.toList.drop 24).take 12 = [162, 0, 16, 42, 42, 180, 0, 53, 27, 51, 182, 0] := by decide +kernel
theorem dX11_out_24 : decode cX11_out 24 = .ok (.if_icmp .ge 16, 3) := dk_2162 (dk_g tcX11_out_2 0 rfl) (dk_g tcX11_out_2 1 rfl) (dk_g tcX11_out_2 2 rfl) rfl rfl
theorem dX11_out_27 : decode cX11_out 27 = .ok (.aload_n 0, 1) := dk_1042 (dk_g tcX11_out_2 3 rfl)
theorem dX11_out_28 : decode cX11_out 28 = .ok (.aload_n 0, 1) := dk_1042 (dk_g tcX11_out_2 4 rfl)
theorem dX11_out_29 : decode cX11_out 29 = .ok (.getfield 53, 3) := dk_1180 (dk_g tcX11_out_2 5 rfl) (dk_g tcX11_out_2 6 rfl) (dk_g tcX11_out_2 7 rfl) rfl
theorem dX11_out_32 : decode cX11_out 32 = .ok (.iload_n 1, 1) := dk_1027 (dk_g tcX11_out_2 8 rfl)
theorem dX11_out_33 : decode cX11_out 33 = .ok (.baload, 1) := dk_1051 (dk_g tcX11_out_2 9 rfl)
theorem tcX11_out_3 : (cX11_out.data.toList.drop 36).take 12 = [115, 167, 0, 8, 42, 8, 182, 0, 98, 172] := by decide +kernel
theorem dX11_out_34 : decode cX11_out 34 = .ok (.invokevirtual 115, 3) := dk_1182 (dk_g tcX11_out_2 10 rfl) (dk_g tcX11_out_2 11 rfl) (dk_g tcX11_out_3 0 rfl) rfl
theorem dX11_out_37 : decode cX11_out 37 = .ok (.goto 8, 3) := dk_2167 (dk_g tcX11_out_3 1 rfl) (dk_g tcX11_out_3 2 rfl) (dk_g tcX11_out_3 3 rfl) rfl rfl
theorem dX11_out_40 : decode cX11_out 40 = .ok (.aload_n 0, 1) := dk_1042 (dk_g tcX11_out_3 4 rfl)
theorem dX11_out_41 : decode cX11_out 41 = .ok (.iconst 5, 1) := dk_1008 (dk_g tcX11_out_3 5 rfl)
theorem dX11_out_42 : decode cX11_out 42 = .ok (.invokevirtual 98, 3) := dk_1182 (dk_g tcX11_out_3 6 rfl) (dk_g tcX11_out_3 7 rfl) (dk_g tcX11_out_3 8 rfl) rfl
theorem dX11_out_45 : decode cX11_out 45 = .ok (.ireturn, 1) := dk_1172 (dk_g tcX11_out_3 9 rfl)
abbrev w_X11_out : cw_W := ([600], [], [], [])
theorem fd_dd {c r d r' d' : Int32} (h : fd_C c r d) (g : fd_C c r' d') : r = r' ∧ d = d' := by
  rcases h with ⟨h1, h2, h3⟩ | ⟨h1, h2, h3⟩
  · rcases g with ⟨g1, g2, g3⟩ | ⟨g1, g2, g3⟩
    · exact ⟨by rw [h2, g2], by rw [h3, g3]⟩
    · omega
  · rcases g with ⟨g1, g2, g3⟩ | ⟨g1, g2, g3⟩
    · omega
    · have e : d = d' := Int32.toInt_inj.mp (by omega)
      exact ⟨by rw [h2, g2, e], e⟩
def rofw (ra rb : List Nat) (α β : hp_T) : Prop := (∀ b, b ∉ ra → hp_I β 301 b = hp_I α 301 b) ∧ ∀ b j, b ∉ rb → hp_E β 20 b j = hp_E α 20 b j
theorem rofw_rf {ra rb : List Nat} {α : hp_T} : rofw ra rb α α := ⟨fun _ _ => rfl, fun _ _ _ => rfl⟩
theorem rofw_sI {ra rb : List Nat} {α β : hp_T} {φ a : Nat} {v : Int32} (h : rofw ra rb α β) (hφ : φ ≠ 301) : rofw ra rb α (hp_sI β φ a v) := ⟨fun b q => by rw [hI_sI, if_neg (fun z => hφ z.1.symm)]; exact h.1 b q, fun b j q => h.2 b j q⟩
def f_X11_out_J40 (n : Nat) (a0 : Nat) (αh3 : hp_T) : Option (Int32 × hp_T) :=
  hq_c (f_X11_refuse n αh3 a0 (5 : Int32)) fun rh4 αh4 =>
  some (rh4, αh4)
def f_X11_out (n : Nat) (α : hp_T) (a0 : Nat) (a1 : Int32) : Option (Int32 × hp_T) :=
  if 0 ≤ a1 then
    ms_l (hp_I α 611 a0) fun x2 =>
    if x2 ≤ a1 then
      f_X11_out_J40 n a0 α
    else
      ms_l (hp_R α 610 a0) fun b6 =>
      if (256 : Int32) ≤ a1 then
        f_X11_out_J40 n a0 α
      else
        ms_l (hp_R α 610 a0) fun b8 =>
        ms_g a1 256 <|
        hq_c (f_X11_answer n α a0 (hp_E α 25 b8 (a1).toNatClampNeg)) fun rh10 αh10 =>
        some (rh10, αh10)
  else
    hq_c (f_X11_refuse n α a0 (1 : Int32)) fun rh11 αh11 =>
    some (rh11, αh11)
set_option maxRecDepth 100000 in
set_option maxHeartbeats 4000000 in
theorem n_X11_out (n : Nat) (Γ : hp_G) (l : Launch) (α : hp_T) (g : GC α) (a0 : Nat) (k0 : hp_K α a0 = 12) (a1 : Int32) (res : (Int32 × hp_T)) (hf : f_X11_out n α a0 a1 = some res) : Met l yX11_out (hp_ws yX11_out cX11_out 2 (some .int)) (hp_rm 1 0 0) (hp_Pc Γ α [.ref a0, .int a1]) (hp_Qi Γ (fun r β => r = res.1 ∧ β = res.2 ∧ cw w_X11_out α β)) 0 0 (hp_A Γ) := by
  unfold f_X11_out at hf
  refine hp_start (by decide) ?_
  intro p e s m below meth c C hr hlk B0 hnm
  have C : hp_C Γ p m c cX11_out 2 s ([.ref a0, .int a1] : List Value).toArray RX11 := C
  have hx := C.1.1
  have hb := C.1.2.1
  have hown := C.1.2.2.2.1
  have hts := C.1.2.2.2.2
  have B : hp_B Γ (cw w_X11_out) s α α s.heap [] := ⟨B0.1, B0.2.1, cw_rf g⟩
  have hl := lv_entry ([.ref a0, .int a1]) (n := 2) (Nat.le_of_ble_eq_true rfl)
  show W p l e (hp_rm 1 0 0) s m ([.ref a0, .int a1] : List Value).toArray below meth c s.heap [] 0 0 (MQ below (hp_Qi Γ (fun r β => r = res.1 ∧ β = res.2 ∧ cw w_X11_out α β)) ([.ref a0, .int a1] : List Value).toArray s 0 0 (hp_A Γ)) (entryFrame m ([.ref a0, .int a1] : List Value).toArray 2)
  rw [lg_entry_eq]
  generalize (lg_sl ([.ref a0, .int a1]) ++ List.replicate (2 - (lg_sl ([.ref a0, .int a1])).length) Slot.unset).toArray = ls at hl ⊢
  have hl : lv_has ls 2 [(0, .ref a0), (1, .int a1)] := hl
  refine lv_iload_n hx hb dX11_out_0 rfl (lv_at hl 1 rfl) (hp_n (n := 1) rfl ?_)
  refine lv_if_ge (tgt := 10) hx hb dX11_out_1 (by decide) (fun c1 => ?_) (fun c1 => hp_n (n := 4) rfl ?_)
  ·
    replace hf := ms_iT c1 hf
    refine lv_iload_n hx hb dX11_out_10 rfl (lv_at hl 1 rfl) (hp_n (n := 11) rfl ?_)
    refine lv_aload_n hx hb dX11_out_11 rfl (lv_at hl 0 rfl) (hp_n (n := 12) rfl ?_)
    refine q_geti (κ := 12) (k := 11) (φ := 611) (pc' := 15) C B (cw_k B.2.2 k0) fl_X11_56 rfl rfl rfl dX11_out_12 rfl (fun x2 ex2 => ?_)
    replace hf := ms_lE ex2 hf
    have J40 : ∀ (αh3 : hp_T) (Hh3 : Heap) (Lh3 : List Loc) (Bh3 : hp_B Γ (cw w_X11_out) s α αh3 Hh3 Lh3) (ls : Array Slot) (hl : lv_has ls 2 [(0, .ref a0)]) (hf : f_X11_out_J40 n a0 αh3 = some res), W p l e (hp_rm 1 0 0) s m ([.ref a0, .int a1] : List Value).toArray below meth c Hh3 Lh3 0 0 (MQ below (hp_Qi Γ (fun r β => r = res.1 ∧ β = res.2 ∧ cw w_X11_out α β)) ([.ref a0, .int a1] : List Value).toArray s 0 0 (hp_A Γ)) (F0 m 40 ls []) := by
      intro αh3 Hh3 Lh3 Bh3 ls hl hf
      unfold f_X11_out_J40 at hf
      refine lv_aload_n hx hb dX11_out_40 rfl (lv_at hl 0 rfl) (hp_n (n := 41) rfl ?_)
      refine lv_iconst (v := 5) hx hb dX11_out_41 (by decide) (hp_n (n := 42) rfl ?_)
      obtain ⟨rh4, αh4, qh4, hf⟩ := hq_cE hf
      refine d_ci (pc' := 45) Bh3 (hp_runV (As := [.int (5 : Int32)]) (rest := []) C Bh3 (n_X11_refuse n Γ l αh3 Bh3.2.2.1 a0 (cw_k Bh3.2.2 k0) (5 : Int32) (rh4, αh4) qh4) lb_X11_refuse lv_X11_refuse lk_X11_98 (cw_k Bh3.2.2 k0) rfl (by decide) rfl hl.1 rfl (Nat.le_of_ble_eq_true rfl) dX11_out_42 ⟨Nat.le_refl _, Nat.le_refl _⟩) (by decide) rfl (fun Hh4 Lh4 Bh4 => ?_)
      cases hf
      exact q_iret C Bh4 hr hlk ⟨rfl, rfl, Bh4.2.2⟩ dX11_out_45
    refine lv_icmp_ge (tgt := 40) hx hb dX11_out_15 (by decide) (fun c5 => ?_) (fun c5 => hp_n (n := 18) rfl ?_)
    ·
      replace hf := ms_iT c5 hf
      exact J40 α s.heap [] B ls (lv_sub hl [0] rfl) hf
    ·
      replace hf := ms_iF c5 hf
      refine lv_iload_n hx hb dX11_out_18 rfl (lv_at hl 1 rfl) (hp_n (n := 19) rfl ?_)
      refine lv_aload_n hx hb dX11_out_19 rfl (lv_at hl 0 rfl) (hp_n (n := 20) rfl ?_)
      refine q_getr (κ := 12) (k := 10) (φ := 610) (pc' := 23) C B (cw_k B.2.2 k0) fl_X11_53 rfl rfl rfl (cw_r B.2.2 k0 rfl rfl (by decide) (by decide)) dX11_out_20 rfl (fun b6 eb6 kb6 => ?_)
      replace hf := ms_lE eb6 hf
      refine q_alen (κ := 25) (t := 1) (n := 256) (x := 256) (ty := .byte) (pc' := 24) C B (cw_k B.2.2 kb6) (by decide) rfl rfl rfl dX11_out_23 rfl ?_
      refine lv_icmp_ge (tgt := 40) hx hb dX11_out_24 (by decide) (fun c7 => ?_) (fun c7 => hp_n (n := 27) rfl ?_)
      ·
        replace hf := ms_iT c7 hf
        exact J40 α s.heap [] B ls (lv_sub hl [0] rfl) hf
      ·
        replace hf := ms_iF c7 hf
        refine lv_aload_n hx hb dX11_out_27 rfl (lv_at hl 0 rfl) (hp_n (n := 28) rfl ?_)
        refine lv_aload_n hx hb dX11_out_28 rfl (lv_at hl 0 rfl) (hp_n (n := 29) rfl ?_)
        refine q_getr (κ := 12) (k := 10) (φ := 610) (pc' := 32) C B (cw_k B.2.2 k0) fl_X11_53 rfl rfl rfl (cw_r B.2.2 k0 rfl rfl (by decide) (by decide)) dX11_out_29 rfl (fun b8 eb8 kb8 => ?_)
        replace hf := ms_lE eb8 hf
        refine lv_iload_n hx hb dX11_out_32 rfl (lv_at hl 1 rfl) (hp_n (n := 33) rfl ?_)
        obtain ⟨g9, hf⟩ := ms_gE hf
        refine q_bal (κ := 25) (n := 256) (pc' := 34) C B (cw_k B.2.2 kb8) (by decide) rfl (vi_of g9.1 g9.2) dX11_out_33 rfl ?_
        obtain ⟨rh10, αh10, qh10, hf⟩ := hq_cE hf
        refine d_ci (pc' := 37) B (hp_runV (As := [.int (hp_E α 25 b8 (a1).toNatClampNeg)]) (rest := []) C B (n_X11_answer n Γ l α B.2.2.1 a0 (cw_k B.2.2 k0) (hp_E α 25 b8 (a1).toNatClampNeg) (rh10, αh10) qh10) lb_X11_answer lv_X11_answer lk_X11_115 (cw_k B.2.2 k0) rfl (by decide) rfl hl.1 rfl (Nat.le_of_ble_eq_true rfl) dX11_out_34 ⟨Nat.le_refl _, Nat.le_refl _⟩) (by decide) rfl (fun Hh10 Lh10 Bh10 => ?_)
        refine lv_goto (tgt := 45) hx hb dX11_out_37 (by decide) ?_
        cases hf
        exact q_iret C Bh10 hr hlk ⟨rfl, rfl, Bh10.2.2⟩ dX11_out_45
  ·
    replace hf := ms_iF c1 hf
    refine lv_aload_n hx hb dX11_out_4 rfl (lv_at hl 0 rfl) (hp_n (n := 5) rfl ?_)
    refine lv_iconst (v := 1) hx hb dX11_out_5 (by decide) (hp_n (n := 6) rfl ?_)
    obtain ⟨rh11, αh11, qh11, hf⟩ := hq_cE hf
    refine d_ci (pc' := 9) B (hp_runV (As := [.int (1 : Int32)]) (rest := []) C B (n_X11_refuse n Γ l α B.2.2.1 a0 (cw_k B.2.2 k0) (1 : Int32) (rh11, αh11) qh11) lb_X11_refuse lv_X11_refuse lk_X11_98 (cw_k B.2.2 k0) rfl (by decide) rfl hl.1 rfl (Nat.le_of_ble_eq_true rfl) dX11_out_6 ⟨Nat.le_refl _, Nat.le_refl _⟩) (by decide) rfl (fun Hh11 Lh11 Bh11 => ?_)
    cases hf
    exact q_iret C Bh11 hr hlk ⟨rfl, rfl, Bh11.2.2⟩ dX11_out_9
