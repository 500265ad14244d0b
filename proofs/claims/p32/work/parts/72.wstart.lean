/-! ===== the law from its entry ===== -/
section LN
variable {p : Program} {l : Launch} {e : Env} {R : Room} {s : State} {m : MethodId} {args : Array Value} {below : List Frame} {meth : Method} {c : Code} {H : Heap} {locs : List Loc} {cells slots : Nat} {Q : State → Prop} {cc bytes : ByteArray} {nL maxL : Nat} {own : String} {Γ : hp_G} {α0 α : hp_T} {Iv : hp_T → hp_T → Prop} {pc pc' : Nat} {ls : Array Slot} {rest st : List Value} {κ index N b n d' mc ms : Nat} {y : MethodName} {As : List Value}
theorem l_newZ (C : hp_C Γ p m c cc nL s args own) (B : hp_B Γ Iv s α0 α H locs) (hcl : Cond.classLink own index (hp_q κ).1 ∈ lw_u) (hit : Cond.instantiable (hp_q κ).1 (hp_q κ).2.2 ∈ lw_u) (hiz : Cond.initialized (hp_q κ).1 ∈ lw_u) (hq : vwCl[κ - 1]? = some (hp_q κ)) (hin : ∀ w ∈ u_ws (hp_q κ).1 (hp_q κ).2.1 (hp_q κ).2.2, w ∈ lw_u) (hty : ∀ j, j < (hp_q κ).2.2 → parseFieldDescriptor ((hp_q κ).2.1 j).2.2.1 = some (hp_ty κ j)) (hdf : ∀ j, j < (hp_q κ).2.2 → defaultValue (hp_ty κ j) = vp_V ((hp_tg (100 + κ)).map hp_dv) j) (hκ : 1 ≤ κ) (hic : hp_isC (100 + κ) = true) (hN : (hp_q κ).2.2 = N) (hcc : cells + 1 ≤ R.cells) (hss : slots + N ≤ R.slots) (hdg : decode cc pc = .ok (.new index, 3)) (hpc : pc + 3 = pc') (hiv : ∀ h, hp_K α h = 0 → Iv α0 (hp_nw α h (100 + κ)))
    (kk : ∀ (β : hp_T) (h : Nat) (H1 : Heap), hp_K α h = 0 → h = H.size → H1.size = H.size + 1 → β = hp_nw α h (100 + κ) → hp_B Γ Iv s α0 β H1 locs → W p l e R s m args below meth c H1 locs (cells + 1) (slots + N) Q (F0 m pc' ls (.ref h :: rest))) : W p l e R s m args below meth c H locs cells slots Q (F0 m pc ls rest) := by
  obtain ⟨⟨hx, hb, hml, hown, hts⟩, hK, -⟩ := C
  subst hpc; subst hN
  have hKn := hK.1 _ _ hq
  refine W.newcK hx hb hown (hts _ hcl) (hts _ hit) (hts _ hiz) rfl hdg hcc hss hKn.2.1 rfl fun H1 kC hkC e1 z1 o1 => ?_
  refine kk _ H.size H1 B.1.fresh rfl z1 rfl ⟨B.1.nw z1 o1 ?_, B.2.1.grow z1 o1, hiv _ B.1.fresh⟩
  rw [hp_ce_c hic, hp_b_100, nw_fv _ _ (tg_no1 hκ)]
  exact ⟨_, hq, (u_born (hp_ty κ) hts hin hKn hkC e1 hty).to hdf⟩
theorem l_runIZ {Qc : Array Value → State → Outcome → State → Prop} (C : hp_C Γ p m c cc nL s args own) (B : hp_B Γ Iv s α0 α H locs) (hM : Met l y (hp_ws y bytes maxL none) (hp_rm d' mc ms) (hp_PcH Γ α H (.ref b :: As)) Qc mc ms (hp_A Γ)) (hB : hp_LB y bytes maxL none n) (hy : y.name = "<init>") (hI : Cond.instanceMethod y ∈ lw_u) (hL : hp_LK own index y) (hRf : d' + 1 ≤ R.frames) (hRl : 8 + (maxL + 11) + 45 * d' ≤ R.locals) (hff : cells + mc ≤ R.cells ∧ slots + ms ≤ R.slots) (hlen : As.length = n) (hsz : ls.size = nL) (hst : st = As.reverse ++ .ref b :: rest) (hcat : (rest.map fun v => v.category).sum ≤ 8) (hdg : decode cc pc = .ok (.invokespecial index, 3)) :
    va_Run p l e R s m args below meth c H locs cells slots mc ms (F0 m pc ls st) rest (Qc (Value.ref b :: As).toArray) (hp_A Γ) := by
  obtain ⟨h1, h2, h3, h4⟩ := hB
  have hts := C.1.2.2.2.2
  have hp : PreS s H (hp_PcH Γ α H (.ref b :: As)) (.ref b :: As) := ⟨hp_blindH Γ α H _, fun U hU hW => ⟨rfl, hU, by rw [hU]; exact B.1, C.2.warm hW⟩⟩
  have hRR : (hp_rm d' mc ms).frames + 1 ≤ R.frames ∧ 8 + (maxL + 11) + (hp_rm d' mc ms).locals ≤ R.locals := ⟨hRf, hRl⟩
  rcases hL with hL | ⟨host, hL⟩
  · exact va_runI (As := As) (rest := rest) (n := n) C.1 hM ⟨callB_of n hts (hp_gs h1) rfl rfl rfl (hts _ h2) (hts _ hL) h4 hRR, hy, hts _ hI⟩ hp rfl hlen hsz hst (lv_room (m := m) (pc := pc) (ls := ls) (rest := st) hcat) hdg hff
  · exact va_runIN (As := As) (rest := rest) (n := n) C.1 hM ⟨va_cnB n hts (hp_gs h1) rfl rfl rfl (C.2.2.1 _ hL) (hts _ h2) h4 hRR, hy, hts _ hI⟩ hp rfl hlen hsz hst (lv_room (m := m) (pc := pc) (ls := ls) (rest := st) hcat) hdg hff
theorem l_runI {Qc : Array Value → State → Outcome → State → Prop} (C : hp_C Γ p m c cc nL s args own) (B : hp_B Γ Iv s α0 α H locs) (hM : Met l y (hp_ws y bytes maxL none) (hp_rm d' mc ms) (hp_Pc Γ α (.ref b :: As)) Qc mc ms (hp_A Γ)) (hB : hp_LB y bytes maxL none n) (hy : y.name = "<init>") (hI : Cond.instanceMethod y ∈ lw_u) (hL : hp_LK own index y) (hRf : d' + 1 ≤ R.frames) (hRl : 8 + (maxL + 11) + 45 * d' ≤ R.locals) (hff : cells + mc ≤ R.cells ∧ slots + ms ≤ R.slots) (hlen : As.length = n) (hsz : ls.size = nL) (hst : st = As.reverse ++ .ref b :: rest) (hcat : (rest.map fun v => v.category).sum ≤ 8) (hdg : decode cc pc = .ok (.invokespecial index, 3)) :
    va_Run p l e R s m args below meth c H locs cells slots mc ms (F0 m pc ls st) rest (Qc (Value.ref b :: As).toArray) (hp_A Γ) := by
  obtain ⟨h1, h2, h3, h4⟩ := hB
  have hts := C.1.2.2.2.2
  have hp : PreS s H (hp_Pc Γ α (.ref b :: As)) (.ref b :: As) := ⟨hp_blind Γ α _, fun U hU hW => ⟨rfl, by rw [hU]; exact B.1, C.2.warm hW⟩⟩
  have hRR : (hp_rm d' mc ms).frames + 1 ≤ R.frames ∧ 8 + (maxL + 11) + (hp_rm d' mc ms).locals ≤ R.locals := ⟨hRf, hRl⟩
  rcases hL with hL | ⟨host, hL⟩
  · exact va_runI (As := As) (rest := rest) (n := n) C.1 hM ⟨callB_of n hts (hp_gs h1) rfl rfl rfl (hts _ h2) (hts _ hL) h4 hRR, hy, hts _ hI⟩ hp rfl hlen hsz hst (lv_room (m := m) (pc := pc) (ls := ls) (rest := st) hcat) hdg hff
  · exact va_runIN (As := As) (rest := rest) (n := n) C.1 hM ⟨va_cnB n hts (hp_gs h1) rfl rfl rfl (C.2.2.1 _ hL) (hts _ h2) h4 hRR, hy, hts _ hI⟩ hp rfl hlen hsz hst (lv_room (m := m) (pc := pc) (ls := ls) (rest := st) hcat) hdg hff
end LN
def a_0 : hp_T := (fun _ => 0, fun _ _ => 0, fun _ _ => 0, fun _ _ => 0, fun _ _ => none, fun _ _ _ => 0, fun _ _ _ => 0, fun _ _ _ => none)
theorem gc_rt_1 : ∀ q ∈ gc_rt, 1 ≤ q.1 / 50 := by decide +kernel
theorem gc_0 : GC a_0 := by
  refine ⟨fun φ a => gc_i0 φ, fun φ a h hr => ?_, fun a b h => ?_, fun κ a j b h hq hb => ?_⟩
  · have h1 := gc_rt_1 _ (gc_rk_mem hr)
    have h2 : (0 : Nat) = φ / 50 := h
    simp only at h1
    omega
  · have h2 : (0 : Nat) = 12 := h
    omega
  · have h2 : (none : Option Nat) = some b := hb
    cases h2
set_option maxRecDepth 100000 in
set_option maxHeartbeats 4000000 in
theorem whole_start {p : Program} {e : Env} {s : State} {m : MethodId} {below : List Frame} {meth : Method} {c : Code} (l : Launch) (hflags : l.flags = flags0) {b L : Nat} {xs : Nat → Int32} (hL : L ≤ 3072) (C0 : lw_At p s m meth c b L xs) : W p l e room_1 s m #[Value.ref b] below meth c s.heap [] 0 0 (lw_Z below #[Value.ref b] s) (entryFrame m ([Value.ref b] : List Value).toArray 4) := by
  obtain ⟨hx, hb, hr, hml, hown, hts, hX, hbl, hlocks, hgv⟩ := id C0
  obtain ⟨Γ, hΓ, hKK⟩ := st_KK hts hgv
  have C : hp_C Γ p m c cL_law 4 s #[Value.ref b] RL := ⟨⟨hx, hb, hml, hown, (st_tab hts).1⟩, hKK⟩
  have hbA : ¬ hp_A Γ b := by show ¬ Γ.1.size ≤ b; rw [hΓ]; omega
  have hAs : ∀ q, hp_A Γ q → s.heap.size ≤ q := fun q h => by have h2 : Γ.1.size ≤ q := h; rw [hΓ] at h2; exact h2
  have hl := lv_entry ([.ref b]) (n := 4) (Nat.le_of_ble_eq_true rfl)
  rw [lg_entry_eq]
  generalize (lg_sl ([.ref b]) ++ List.replicate (4 - (lg_sl ([.ref b])).length) Slot.unset).toArray = ls at hl ⊢
  have hl : lv_has ls 4 [(0, .ref b)] := hl
  have B : hp_B Γ (fun _ _ => True) s a_0 a_0 s.heap [] := ⟨⟨by rw [hΓ]; exact Nat.le_refl _, fun q _ => by rw [hΓ], fun a h => absurd rfl h⟩, va_S.rf, trivial⟩
  refine l_newZ (κ := 12) (N := 19) (pc' := 3) C B cl_L_7 it_X11 iz_X11 rfl in_12 tyX11_ok df_12 (by decide) rfl rfl (Nat.le_of_ble_eq_true rfl) (Nat.le_of_ble_eq_true rfl) dL_law_0 rfl (fun _ _ => trivial) (fun β1 x H1 f1 y1 w1 e1 B1 => ?_)
  have g1 : GC β1 := by rw [e1]; exact gc_nw gc_0 f1 (by decide)
  have k1 : hp_K β1 x = 112 := by rw [e1]; exact nw_k
  have z1 : ∀ φ, hp_I β1 φ x = 0 := fun φ => by rw [e1]; exact nw_i
  refine lv_dup hx hb dL_law_3 rfl (hp_n (n := 4) rfl ?_)
  refine q_cvZ (pc' := 7) B1 (l_runIZ (As := []) (rest := [.ref x]) C B1 (u_X11_init Γ l β1 g1 H1 x k1 z1) lb_X11_init rfl li_X11_init lk_L_9 (Nat.le_of_ble_eq_true rfl) (Nat.le_of_ble_eq_true rfl) ⟨Nat.le_of_ble_eq_true rfl, Nat.le_of_ble_eq_true rfl⟩ rfl hl.1 rfl (Nat.le_of_ble_eq_true rfl) dL_law_4) (fun _ _ => trivial) rfl (fun β2 H2 L2 w2 pp2 B2 => ?_)
  have p2 := pp2.1
  have hF : β2 = F_X11_init β1 (x + 1) x := by rw [pp2.2, w1, ← y1]
  refine lv_astore_n (lv' := [(1, .ref x), (0, .ref b)]) hx hb dL_law_7 rfl hl (by decide) rfl (fun ls hl => hp_n (n := 8) rfl ?_)
  refine l_newZ (κ := 13) (N := 48) (pc' := 11) C B2 cl_L_10 it_X12 iz_X12 rfl in_13 tyX12_ok df_13 (by decide) rfl rfl (Nat.le_of_ble_eq_true rfl) (Nat.le_of_ble_eq_true rfl) dL_law_8 rfl (fun _ _ => trivial) (fun β3 y H3 f3 y3 w3 e3 B3 => ?_)
  have g3 : GC β3 := by rw [e3]; exact gc_nw p2.1.1 f3 (by decide)
  have k3 : hp_K β3 y = 113 := by rw [e3]; exact nw_k
  have z3 : ∀ φ, hp_I β3 φ y = 0 := fun φ => by rw [e3]; exact nw_i
  have hxy : x ≠ y := fun q => by rw [← q, p2.2.1] at f3; cases f3
  have s3 : sa β2 β3 x := by rw [e3]; exact sa_nw hxy
  have kx3 : hp_K β3 x = 12 := s3.1.trans p2.2.1
  refine lv_dup hx hb dL_law_11 rfl (hp_n (n := 12) rfl ?_)
  refine q_cv (pc' := 15) B3 (l_runI (As := []) (rest := [.ref y]) C B3 (u_X12_init Γ l β3 g3 y k3 z3) lb_X12_init rfl li_X12_init lk_L_12 (Nat.le_of_ble_eq_true rfl) (Nat.le_of_ble_eq_true rfl) ⟨Nat.le_of_ble_eq_true rfl, Nat.le_of_ble_eq_true rfl⟩ rfl hl.1 rfl (Nat.le_of_ble_eq_true rfl) dL_law_12) (fun _ _ => trivial) rfl (fun β4 H4 L4 p4 B4 => ?_)
  obtain ⟨g4, h4, ρ, σ, hM, hR, hσ⟩ := p4
  have hsC : ∀ q, hp_K β2 q ≠ 0 → saC β2 β4 q := fun q hq => by
    have hqy : q ≠ y := fun e => hq (by rw [e]; exact f3)
    have a1 : sa β2 β3 q := by rw [e3]; exact sa_nw hqy
    have a2 := h4 q hqy (by rw [a1.1]; exact hq)
    exact ⟨a2.1.trans a1.1, fun φ hφ => (a2.2.1 φ hφ).trans (a1.2.1 φ), fun φ => (a2.2.2.1 φ).trans (a1.2.2.2.1 φ), fun φ => (a2.2.2.2.1 φ).trans (a1.2.2.2.2.1 φ), fun κ j hκ => (a2.2.2.2.2.1 κ j hκ).trans (a1.2.2.2.2.2.1 κ j), fun κ j => (a2.2.2.2.2.2 κ j).trans (a1.2.2.2.2.2.2.2 κ j)⟩
  obtain ⟨kx4, ix4, rx4, nx4, -, -⟩ := h4 x hxy (by rw [kx3]; decide)
  refine lv_astore_n (lv' := [(2, .ref y), (1, .ref x), (0, .ref b)]) hx hb dL_law_15 rfl hl (by decide) rfl (fun ls hl => hp_n (n := 16) rfl ?_)
  refine lv_iconst (v := 0) hx hb dL_law_16 (by decide) (hp_n (n := 17) rfl ?_)
  refine lv_istore_n (lv' := [(3, .int 0), (2, .ref y), (1, .ref x), (0, .ref b)]) hx hb dL_law_17 rfl hl (by decide) rfl (fun ls hl => hp_n (n := 18) rfl ?_)
  refine W.widen (k := 977) (n := 17252) (Nat.le_of_ble_eq_true rfl) (Nat.le_of_ble_eq_true rfl) ?_
  have nx : hp_N β4 618 x = none := (nx4 618).trans ((s3.2.2.2.2.1 618).trans p2.2.2.2)
  exact l_loop C hX hbl hbA hL hAs hr hlocks _ β4 σ H4 L4 977 17252 ⟨⟨B4.1, B4.2.1, trivial⟩, g4, kx4.trans kx3, hM, hR, ⟨LX_C p2.1.1 p2.2.1 (by rw [hF]; exact LX_0 β1 x σ hR hσ) hsC, CX_C p2.1.1 p2.2.1 (by rw [hF]; exact (LX_0 β1 x σ hR hσ).2.1) (by rw [hF]; exact CX_0 β1 x σ hσ (LX_0 β1 x σ hR hσ).2.1) hsC⟩, Or.inl ⟨nx, rfl, rfl⟩⟩ 0 (by decide) (by rw [show (0 : Int32).toInt = 0 from rfl]; omega) rfl ls (lv_sub hl [3, 2, 1, 0] rfl)
