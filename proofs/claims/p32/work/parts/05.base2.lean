/-! ===== rows of arrays, calls, ends over the picture ===== -/
theorem hp_n {p : Program} {l : Launch} {e : Env} {R : Room} {s : State} {m : MethodId} {args : Array Value} {below : List Frame} {meth : Method} {c : Code} {H : Heap} {locs : List Loc} {cells slots : Nat} {Q : State → Prop} {ls : Array Slot} {rest : List Value} {pc n : Nat} (h : pc = n) (k : W p l e R s m args below meth c H locs cells slots Q (F0 m n ls rest)) : W p l e R s m args below meth c H locs cells slots Q (F0 m pc ls rest) := h ▸ k
theorem hp_ce_neE {dA : Nat → ClassId} {α β : hp_T} {b : Nat} (h1 : ∀ t φ, hp_v β b t φ = hp_v α b t φ) (h2 : ∀ κ, hp_E β κ b = hp_E α κ b ∧ hp_L β κ b = hp_L α κ b ∧ hp_Q β κ b = hp_Q α κ b) : ∀ κ, hp_ce dA β κ b = hp_ce dA α κ b := by
  intro κ
  unfold hp_ce hp_ca hp_cx
  rw [(h2 κ).1, (h2 κ).2.1, (h2 κ).2.2, hp_fv_congr (hp_tg κ) (50 * hp_b κ) (fun t φ _ => h1 t φ)]
theorem hp_sE_at {α : hp_T} {κ a j : Nat} {x : Int32} : hp_E (hp_sE α κ a j x) κ a = upd (hp_E α κ a) j x := by
  funext i
  by_cases h : i = j
  · subst h; simp [hp_E, hp_sE, hp_uq, upd]
  · simp [hp_E, hp_sE, hp_uq, upd, h]
theorem hp_sE_ne {α : hp_T} {κ a j b κ' : Nat} {x : Int32} (h : b ≠ a) : hp_E (hp_sE α κ a j x) κ' b = hp_E α κ' b := by
  funext i
  simp [hp_E, hp_sE, hp_uq, h]
section HPA
variable {p : Program} {l : Launch} {e : Env} {R : Room} {s : State} {m : MethodId} {args : Array Value} {below : List Frame} {meth : Method} {c : Code} {H : Heap} {locs : List Loc} {cells slots : Nat} {Q : State → Prop} {cc : ByteArray} {nL : Nat} {own : String} {Γ : hp_G} {α0 α α' : hp_T} {Iv : hp_T → hp_T → Prop} {pc pc' : Nat} {ls : Array Slot} {rest : List Value} {a κ k t index n : Nat} {v : Value} {i x : Int32}
theorem q_ial (C : hp_C Γ p m c cc nL s args own) (B : hp_B Γ Iv s α0 α H locs) (hk : hp_K α a = κ) (hc : 20 ≤ κ ∧ κ < 60) (hn : hp_ar κ = (0, n)) (hin : vp_in i n) (hdg : decode cc pc = .ok (.iaload, 1)) (hpc : pc + 1 = pc')
    (kk : W p l e R s m args below meth c H locs cells slots Q (F0 m pc' ls (.int (hp_E α κ a i.toNatClampNeg) :: rest))) : W p l e R s m args below meth c H locs cells slots Q (F0 m pc ls (.int i :: .ref a :: rest)) := by
  subst hpc
  exact va_iald C.1.1 C.1.2.1 C.2.1 (hp_P1 (B.ar hk hc hn).2) 0 0 rfl rfl hin hdg kk
theorem q_bal (C : hp_C Γ p m c cc nL s args own) (B : hp_B Γ Iv s α0 α H locs) (hk : hp_K α a = κ) (hc : 20 ≤ κ ∧ κ < 60) (hn : hp_ar κ = (1, n)) (hin : vp_in i n) (hdg : decode cc pc = .ok (.baload, 1)) (hpc : pc + 1 = pc')
    (kk : W p l e R s m args below meth c H locs cells slots Q (F0 m pc' ls (.int (hp_E α κ a i.toNatClampNeg) :: rest))) : W p l e R s m args below meth c H locs cells slots Q (F0 m pc ls (.int i :: .ref a :: rest)) := by
  subst hpc
  exact va_bald C.1.1 C.1.2.1 C.2.1 (hp_P1 (B.ar hk hc hn).2) 0 1 rfl rfl hin hdg kk
theorem q_zal (C : hp_C Γ p m c cc nL s args own) (B : hp_B Γ Iv s α0 α H locs) (hk : hp_K α a = κ) (hc : 20 ≤ κ ∧ κ < 60) (hn : hp_ar κ = (2, n)) (hin : vp_in i n) (hdg : decode cc pc = .ok (.baload, 1)) (hpc : pc + 1 = pc')
    (kk : W p l e R s m args below meth c H locs cells slots Q (F0 m pc' ls (.int (hp_E α κ a i.toNatClampNeg) :: rest))) : W p l e R s m args below meth c H locs cells slots Q (F0 m pc ls (.int i :: .ref a :: rest)) := by
  subst hpc
  exact va_zald C.1.1 C.1.2.1 C.2.1 (hp_P1 (B.ar hk hc hn).2) 0 2 rfl rfl hin hdg kk
theorem q_lal (C : hp_C Γ p m c cc nL s args own) (B : hp_B Γ Iv s α0 α H locs) (hk : hp_K α a = κ) (hc : 20 ≤ κ ∧ κ < 60) (hn : hp_ar κ = (3, n)) (hin : vp_in i n) (hdg : decode cc pc = .ok (.laload, 1)) (hpc : pc + 1 = pc')
    (kk : W p l e R s m args below meth c H locs cells slots Q (F0 m pc' ls (.long (hp_L α κ a i.toNatClampNeg) :: rest))) : W p l e R s m args below meth c H locs cells slots Q (F0 m pc ls (.int i :: .ref a :: rest)) := by
  subst hpc
  exact va_lald C.1.1 C.1.2.1 C.2.1 (hp_P1 (B.ar hk hc hn).2) 0 3 rfl rfl hin hdg kk
theorem q_aal {C0 : String} (C : hp_C Γ p m c cc nL s args own) (B : hp_B Γ Iv s α0 α H locs) (hk : hp_K α a = κ) (hc : 20 ≤ κ ∧ κ < 60) (hn : hp_ar κ = (t, n)) (ht : (hp_tys Γ.2.2.2.1)[t]? = some (Γ.2.2.2.1 t, .object C0)) (ht3 : 4 ≤ t) (hin : vp_in i n) (hdg : decode cc pc = .ok (.aaload, 1)) (hpc : pc + 1 = pc')
    (kk : W p l e R s m args below meth c H locs cells slots Q (F0 m pc' ls (va_rf (hp_Q α κ a i.toNatClampNeg) :: rest))) : W p l e R s m args below meth c H locs cells slots Q (F0 m pc ls (.int i :: .ref a :: rest)) := by
  subst hpc
  have h := (B.ar hk hc hn).2
  rw [show hp_cx α κ a t = .inr (.inr (.inr (.inr (hp_Q α κ a)))) by unfold hp_cx; rw [if_neg (by omega), if_neg (by omega)]] at h
  exact va_aldq C.1.1 C.1.2.1 C.2.1 (hp_P1 h) 0 t rfl ht hin hdg kk
theorem q_alen {x : Int32} {ty : FieldType} (C : hp_C Γ p m c cc nL s args own) (B : hp_B Γ Iv s α0 α H locs) (hk : hp_K α a = κ) (hc : 20 ≤ κ ∧ κ < 60) (hn : hp_ar κ = (t, n)) (ht : (hp_tys Γ.2.2.2.1)[t]? = some (Γ.2.2.2.1 t, ty)) (hx : Int32.ofNat n = x) (hdg : decode cc pc = .ok (.arraylength, 1)) (hpc : pc + 1 = pc')
    (kk : W p l e R s m args below meth c H locs cells slots Q (F0 m pc' ls (.int x :: rest))) : W p l e R s m args below meth c H locs cells slots Q (F0 m pc ls (.ref a :: rest)) := by
  subst hpc
  exact va_alen C.1.1 C.1.2.1 C.2.1 (hp_P1 (B.ar hk hc hn).2) 0 t rfl ht hx hdg kk
theorem hp_sE_rep {H1 : Heap} {t : Nat} (B : hp_B Γ Iv s α0 α H locs) (hk : hp_K α a = κ) (hc : 20 ≤ κ ∧ κ < 60) (hn : hp_ar κ = (t, n)) (ht : t < 3) {j : Nat} (e : H1[a]? = some ((vp_cell (Γ.2.2.2.1 t) (n, .inl (hp_E α κ a))).setSlot j (.int x))) (z : H1.size = H.size) (oq : ∀ q : Nat, q ≠ a → H1[q]? = H[q]?) (hiv : Iv α0 (hp_sE α κ a j x)) : hp_B Γ Iv s α0 (hp_sE α κ a j x) H1 (locs ++ [⟨a, j⟩]) := by
  have hbase := (B.ar hk hc hn).1
  refine ⟨B.1.upd z oq (by rw [hk]; omega) ?_ rfl (fun b hb => hp_ce_neE (fun t φ => rfl) (fun κ' => ⟨hp_sE_ne hb, rfl, rfl⟩)), B.2.1.put z oq hbase, hiv⟩
  rw [hk, hp_ce_a hc hn]
  show H1[a]? = some (vp_cell _ _)
  rw [e]
  rw [show hp_cx (hp_sE α κ a j x) κ a t = .inl (hp_E (hp_sE α κ a j x) κ a) by unfold hp_cx; rw [if_pos ht], hp_sE_at, vp_cell_i, vp_cell_i, arrV_store]
  congr 2
  funext q
  by_cases hq : q = j
  · subst hq
    simp [updV, upd]
  · simp [updV, upd, hq]
theorem q_ias {j : Nat} (C : hp_C Γ p m c cc nL s args own) (B : hp_B Γ Iv s α0 α H locs) (hk : hp_K α a = κ) (hc : 20 ≤ κ ∧ κ < 60) (hn : hp_ar κ = (0, n)) (hin : vp_in i n) (hj : i.toNatClampNeg = j) (hiv : Iv α0 (hp_sE α κ a j x)) (hdg : decode cc pc = .ok (.iastore, 1)) (hpc : pc + 1 = pc')
    (kk : ∀ (β : hp_T) (H1 : Heap) (locs1 : List Loc), β = hp_sE α κ a j x → hp_B Γ Iv s α0 β H1 locs1 → W p l e R s m args below meth c H1 locs1 cells slots Q (F0 m pc' ls rest)) : W p l e R s m args below meth c H locs cells slots Q (F0 m pc ls (.int x :: .int i :: .ref a :: rest)) := by
  subst hpc; subst hj
  have hat := (B.ar hk hc hn).2
  refine W.iast C.1.1 C.1.2.1 hat ((C.2.1.2 0 _ rfl).1 n (fun j => .int (hp_E α κ a j))) (fun q => by cases q) (by show ¬ (i < 0 ∨ (arrV _ _ _).slots.size ≤ _); rw [arrV_size]; exact hin) rfl rfl hdg fun H1 e z oq => ?_
  exact kk _ H1 _ rfl (hp_sE_rep B hk hc hn (by omega) e z oq hiv)
theorem q_bas {j : Nat} {y : Int32} (C : hp_C Γ p m c cc nL s args own) (B : hp_B Γ Iv s α0 α H locs) (hk : hp_K α a = κ) (hc : 20 ≤ κ ∧ κ < 60) (hn : hp_ar κ = (1, n)) (hin : vp_in i n) (hj : i.toNatClampNeg = j) (hy : narrow .byte (.int x) = .int y) (hiv : Iv α0 (hp_sE α κ a j y)) (hdg : decode cc pc = .ok (.bastore, 1)) (hpc : pc + 1 = pc')
    (kk : ∀ (β : hp_T) (H1 : Heap) (locs1 : List Loc), β = hp_sE α κ a j y → hp_B Γ Iv s α0 β H1 locs1 → W p l e R s m args below meth c H1 locs1 cells slots Q (F0 m pc' ls rest)) : W p l e R s m args below meth c H locs cells slots Q (F0 m pc ls (.int x :: .int i :: .ref a :: rest)) := by
  subst hpc; subst hj
  have hat := (B.ar hk hc hn).2
  refine W.bast C.1.1 C.1.2.1 hat ((C.2.1.2 1 _ rfl).1 n (fun j => .int (hp_E α κ a j))) (fun q => by cases q) (by show ¬ (i < 0 ∨ (arrV _ _ _).slots.size ≤ _); rw [arrV_size]; exact hin) rfl rfl hdg fun H1 e z oq => ?_
  rw [hy] at e
  exact kk _ H1 _ rfl (hp_sE_rep B hk hc hn (by omega) e z oq hiv)
theorem q_zas {j : Nat} {y : Int32} (C : hp_C Γ p m c cc nL s args own) (B : hp_B Γ Iv s α0 α H locs) (hk : hp_K α a = κ) (hc : 20 ≤ κ ∧ κ < 60) (hn : hp_ar κ = (2, n)) (hin : vp_in i n) (hj : i.toNatClampNeg = j) (hy : narrow .boolean (.int x) = .int y) (hiv : Iv α0 (hp_sE α κ a j y)) (hdg : decode cc pc = .ok (.bastore, 1)) (hpc : pc + 1 = pc')
    (kk : ∀ (β : hp_T) (H1 : Heap) (locs1 : List Loc), β = hp_sE α κ a j y → hp_B Γ Iv s α0 β H1 locs1 → W p l e R s m args below meth c H1 locs1 cells slots Q (F0 m pc' ls rest)) : W p l e R s m args below meth c H locs cells slots Q (F0 m pc ls (.int x :: .int i :: .ref a :: rest)) := by
  subst hpc; subst hj
  have hat := (B.ar hk hc hn).2
  refine W.zast C.1.1 C.1.2.1 hat ((C.2.1.2 2 _ rfl).1 n (fun j => .int (hp_E α κ a j))) (fun q => by cases q) (by show ¬ (i < 0 ∨ (arrV _ _ _).slots.size ≤ _); rw [arrV_size]; exact hin) rfl rfl hdg fun H1 e z oq => ?_
  rw [hy] at e
  exact kk _ H1 _ rfl (hp_sE_rep B hk hc hn (by omega) e z oq hiv)
end HPA
/-! calls -/
def hp_rm (d mc ms : Nat) : Room := { frames := d, cells := mc, slots := ms, locals := 45 * d }
def hp_Pc (Γ : hp_G) (α : hp_T) (av : List Value) : Array Value → State → Prop := va_Pc av (fun U => hp_Rep Γ α U.heap ∧ hp_KK Γ U)
def hp_Qi (Γ : hp_G) (post : Int32 → hp_T → Prop) : Array Value → State → Outcome → State → Prop := va_Qi post (fun β t => hp_Rep Γ β t.heap) (hp_A Γ)
def hp_Qv (Γ : hp_G) (post : hp_T → Prop) : Array Value → State → Outcome → State → Prop := va_Qv post (fun β t => hp_Rep Γ β t.heap) (hp_A Γ)
def hp_Ql (Γ : hp_G) (post : Int64 → hp_T → Prop) : Array Value → State → Outcome → State → Prop := va_Ql post (fun β t => hp_Rep Γ β t.heap) (hp_A Γ)
def hp_Qq (Γ : hp_G) (post : Option Nat → hp_T → Prop) : Array Value → State → Outcome → State → Prop := va_Qq post (fun β t => hp_Rep Γ β t.heap) (hp_A Γ)
theorem hp_TX.warm {Γ : hp_G} {s U : State} (hW : s.WarmedH U.vm) (h : hp_TX Γ s) : hp_TX Γ U := ⟨fun q hq => vk_R.warm hW (h.1 q hq), vk_S.moved hW.alike h.2.1, va_Z.moved hW.alike h.2.2.1, va_Zq.moved hW.alike h.2.2.2⟩
theorem hp_TX.same {Γ : hp_G} {s U : State} (hv : U.vm = s.vm) (h : hp_TX Γ s) : hp_TX Γ U := by
  have ha : s.vm.Alike U.vm := by rw [hv]; exact Vm.Alike.refl _
  exact ⟨fun q hq => vk_R.same hv (h.1 q hq), vk_S.moved ha h.2.1, va_Z.moved ha h.2.2.1, va_Zq.moved ha h.2.2.2⟩
theorem hp_Nw.warm {w : Cond} {s U : State} (hn : hp_isN w = true) (hW : s.WarmedH U.vm) (h : va_Nw w s) : va_Nw w U := by
  cases w with
  | methodLinkNest a b c d => exact va_Nw.warmM hW h
  | arrayOver ty =>
    cases ty with
    | object C => exact va_AO.moved hW.alike h
    | _ => cases hn
  | _ => cases hn
theorem hp_Nw.same {w : Cond} {s U : State} (hn : hp_isN w = true) (hv : U.vm = s.vm) (h : va_Nw w s) : va_Nw w U := by
  cases w with
  | methodLinkNest a b c d => exact va_Nw.same rfl hv.symm h
  | arrayOver ty =>
    cases ty with
    | object C => exact va_AO.moved (by rw [hv]; exact Vm.Alike.refl _) h
    | _ => cases hn
  | _ => cases hn
theorem hp_KK.warm {Γ : hp_G} {s U : State} (hW : s.WarmedH U.vm) (h : hp_KK Γ s) : hp_KK Γ U :=
  ⟨va_K.moved hW.alike h.1, fun w hw => hp_Nw.warm (List.mem_filter.mp hw).2 hW (h.2.1 w hw), h.2.2.warm hW⟩
theorem hp_blind (Γ : hp_G) (α : hp_T) (av : List Value) : FrameBlind (hp_Pc Γ α av) := fun a U g mk q => by
  obtain ⟨q0, qR, qK, qN, qT⟩ := q
  exact ⟨q0, qR, va_K.moved (u := U) (U := U.calling g mk a) (Vm.Alike.refl U.vm) qK, fun w hw => hp_Nw.same (s := U) (U := U.calling g mk a) (List.mem_filter.mp hw).2 rfl (qN w hw), hp_TX.same (s := U) (U := U.calling g mk a) rfl qT⟩
/-- what a method's own tables say -/
def hp_LB (y : MethodName) (bytes : ByteArray) (maxL : Nat) (ret : Option FieldType) (n : Nat) : Prop := Cond.code y bytes maxL ret ∈ lw_u ∧ Cond.initialized y.cls ∈ lw_u ∧ maxL ≤ 26 ∧ (y.cls ≠ "java/lang/invoke/MethodHandle" ∧ y.cls ≠ "java/lang/invoke/VarHandle" ∧ (parseMethodDescriptor y.desc).map (fun d => d.parameters.length) = some n)
def hp_LV (y : MethodName) (κ : Nat) : Prop := Cond.instanceMethod y ∈ lw_u ∧ Cond.selects y.cls y y ∈ lw_u ∧ (hp_q (hp_b κ)).1 = y.cls ∧ vwCl[hp_b κ - 1]? = some (hp_q (hp_b κ)) ∧ hp_isC κ = true
/-- a call's link: ordinary or among nest mates -/
def hp_LK (own : String) (index : Nat) (y : MethodName) : Prop := Cond.methodLink own index y ∈ lw_u ∨ ∃ host, Cond.methodLinkNest own index y host ∈ hp_nest
section HPC
variable {p : Program} {l : Launch} {e : Env} {s : State} {m : MethodId} {args : Array Value} {below : List Frame} {meth : Method} {c : Code} {H : Heap} {locs : List Loc} {cells slots : Nat} {Q : State → Prop} {cc bytes : ByteArray} {nL maxL : Nat} {ret : Option FieldType} {own : String} {Γ : hp_G} {α0 α α' : hp_T} {Iv : hp_T → hp_T → Prop} {pc pc' : Nat} {ls : Array Slot} {st rest : List Value} {b κ k t index n d d' mc ms mc' ms' : Nat} {y : MethodName} {As : List Value} {R : Room}
theorem hp_runV {Qc : Array Value → State → Outcome → State → Prop} (C : hp_C Γ p m c cc nL s args own) (B : hp_B Γ Iv s α0 α H locs) (hM : Met l y (hp_ws y bytes maxL ret) (hp_rm d' mc ms) (hp_Pc Γ α (.ref b :: As)) Qc mc ms (hp_A Γ)) (hB : hp_LB y bytes maxL ret n) (hV : hp_LV y κ) (hL : hp_LK own index y) (hk : hp_K α b = κ) (hR : R = hp_rm d mc' ms') (hd : d' < d) (hlen : As.length = n) (hsz : ls.size = nL) (hst : st = As.reverse ++ .ref b :: rest) (hcat : (rest.map fun v => v.category).sum ≤ 8) (hdg : decode cc pc = .ok (.invokevirtual index, 3)) (hf : cells + mc ≤ mc' ∧ slots + ms ≤ ms') :
    va_Run p l e R s m args below meth c H locs cells slots mc ms (F0 m pc ls st) rest (Qc (Value.ref b :: As).toArray) (hp_A Γ) := by
  obtain ⟨h1, h2, h3, h4⟩ := hB
  obtain ⟨v1, v2, v3, v4, v5⟩ := hV
  have hts := C.1.2.2.2.2
  have hrecv : ∃ cellB : Cell, H[b]? = some cellB ∧ cellB.vm.isStatics = false ∧ s.vm.findClass y.cls = some cellB.cls := by
    rw [← v3]
    exact va_recv C.2.1 (hp_P1 (B.at hk v5).2) v4 (q0 := 0) rfl
  have hp : PreV s H y.cls b (hp_Pc Γ α (.ref b :: As)) As := ⟨hp_blind Γ α _, hrecv, fun U hU hW => ⟨rfl, by rw [hU]; exact B.1, C.2.warm hW⟩⟩
  have hRR : (hp_rm d' mc ms).frames + 1 ≤ R.frames ∧ 8 + (maxL + 11) + (hp_rm d' mc ms).locals ≤ R.locals := by
    rw [hR]; show d' + 1 ≤ d ∧ 8 + (maxL + 11) + 45 * d' ≤ 45 * d; omega
  have hff : cells + mc ≤ R.cells ∧ slots + ms ≤ R.slots := by rw [hR]; exact hf
  rcases hL with hL | ⟨host, hL⟩
  · exact va_runV (As := As) (rest := rest) (n := n) (C := y.cls) C.1 hM ⟨callB_of n hts (hp_gs h1) rfl rfl rfl (hts _ h2) (hts _ hL) h4 hRR, hts _ v1, hts _ v2⟩ hp rfl hlen hsz hst (lv_room (m := m) (pc := pc) (ls := ls) (rest := st) hcat) hdg hff
  · exact va_runVN (As := As) (rest := rest) (n := n) (C := y.cls) C.1 hM ⟨va_cnB n hts (hp_gs h1) rfl rfl rfl (C.2.2.1 _ hL) (hts _ h2) h4 hRR, hts _ v1, hts _ v2⟩ hp rfl hlen hsz hst (lv_room (m := m) (pc := pc) (ls := ls) (rest := st) hcat) hdg hff
theorem hp_runS {Qc : Array Value → State → Outcome → State → Prop} (C : hp_C Γ p m c cc nL s args own) (B : hp_B Γ Iv s α0 α H locs) (hM : Met l y (hp_ws y bytes maxL ret) (hp_rm d' mc ms) (hp_Pc Γ α As) Qc mc ms (hp_A Γ)) (hB : hp_LB y bytes maxL ret n) (hV : Cond.static y ∈ lw_u) (hL : hp_LK own index y) (hR : R = hp_rm d mc' ms') (hd : d' < d) (hlen : As.length = n) (hsz : ls.size = nL) (hst : st = As.reverse ++ rest) (hcat : (rest.map fun v => v.category).sum ≤ 8) (hdg : decode cc pc = .ok (.invokestatic index, 3)) (hf : cells + mc ≤ mc' ∧ slots + ms ≤ ms') :
    va_Run p l e R s m args below meth c H locs cells slots mc ms (F0 m pc ls st) rest (Qc As.toArray) (hp_A Γ) := by
  obtain ⟨h1, h2, h3, h4⟩ := hB
  have hts := C.1.2.2.2.2
  have hp : PreS s H (hp_Pc Γ α As) As := ⟨hp_blind Γ α _, fun U hU hW => ⟨rfl, by rw [hU]; exact B.1, C.2.warm hW⟩⟩
  have hRR : (hp_rm d' mc ms).frames + 1 ≤ R.frames ∧ 8 + (maxL + 11) + (hp_rm d' mc ms).locals ≤ R.locals := by
    rw [hR]; show d' + 1 ≤ d ∧ 8 + (maxL + 11) + 45 * d' ≤ 45 * d; omega
  have hff : cells + mc ≤ R.cells ∧ slots + ms ≤ R.slots := by rw [hR]; exact hf
  rcases hL with hL | ⟨host, hL⟩
  · exact va_runS (As := As) (rest := rest) (n := n) C.1 hM ⟨callB_of n hts (hp_gs h1) rfl rfl rfl (hts _ h2) (hts _ hL) h4 hRR, hts _ hV⟩ hp rfl hlen hsz hst (lv_room (m := m) (pc := pc) (ls := ls) (rest := st) hcat) hdg hff
  · exact va_runSN (As := As) (rest := rest) (n := n) C.1 hM ⟨va_cnB n hts (hp_gs h1) rfl rfl rfl (C.2.2.1 _ hL) (hts _ h2) h4 hRR, hts _ hV, trivial⟩ hp rfl hlen hsz hst (lv_room (m := m) (pc := pc) (ls := ls) (rest := st) hcat) hdg hff
variable {a : Array Value}
theorem q_ci {post : Int32 → hp_T → Prop} (B : hp_B Γ Iv s α0 α H locs) (hr : va_Run p l e R s m args below meth c H locs cells slots mc ms (F0 m pc ls st) rest (hp_Qi Γ post a) (hp_A Γ)) (hi : ∀ r β, post r β → Iv α0 β) (hpc : pc + 3 = pc')
    (kk : ∀ (r : Int32) (β : hp_T) (H1 : Heap) (locs1 : List Loc), post r β → hp_B Γ Iv s α0 β H1 locs1 → W p l e R s m args below meth c H1 locs1 (cells + mc) (slots + ms) Q (F0 m pc' ls (.int r :: rest))) : W p l e R s m args below meth c H locs cells slots Q (F0 m pc ls st) := by
  subst hpc
  exact va_calli hr B.2.1 (fun _ _ h => h) (fun _ h => h) (fun r u t H1 locs1 ht _ hw hB _ _ hS => kk r u H1 locs1 hw ⟨by rw [← ht]; exact hB, hS, hi r u hw⟩)
theorem q_cv {post : hp_T → Prop} (B : hp_B Γ Iv s α0 α H locs) (hr : va_Run p l e R s m args below meth c H locs cells slots mc ms (F0 m pc ls st) rest (hp_Qv Γ post a) (hp_A Γ)) (hi : ∀ β, post β → Iv α0 β) (hpc : pc + 3 = pc')
    (kk : ∀ (β : hp_T) (H1 : Heap) (locs1 : List Loc), post β → hp_B Γ Iv s α0 β H1 locs1 → W p l e R s m args below meth c H1 locs1 (cells + mc) (slots + ms) Q (F0 m pc' ls rest)) : W p l e R s m args below meth c H locs cells slots Q (F0 m pc ls st) := by
  subst hpc
  exact va_callv hr B.2.1 (fun _ _ h => h) (fun _ h => h) (fun u t H1 locs1 ht _ hw hB _ _ hS => kk u H1 locs1 hw ⟨by rw [← ht]; exact hB, hS, hi u hw⟩)
theorem q_cl {post : Int64 → hp_T → Prop} (B : hp_B Γ Iv s α0 α H locs) (hr : va_Run p l e R s m args below meth c H locs cells slots mc ms (F0 m pc ls st) rest (hp_Ql Γ post a) (hp_A Γ)) (hi : ∀ r β, post r β → Iv α0 β) (hpc : pc + 3 = pc')
    (kk : ∀ (r : Int64) (β : hp_T) (H1 : Heap) (locs1 : List Loc), post r β → hp_B Γ Iv s α0 β H1 locs1 → W p l e R s m args below meth c H1 locs1 (cells + mc) (slots + ms) Q (F0 m pc' ls (.long r :: rest))) : W p l e R s m args below meth c H locs cells slots Q (F0 m pc ls st) := by
  subst hpc
  exact va_calll hr B.2.1 (fun _ _ h => h) (fun _ h => h) (fun r u t H1 locs1 ht _ hw hB _ _ hS => kk r u H1 locs1 hw ⟨by rw [← ht]; exact hB, hS, hi r u hw⟩)
theorem q_cq {post : Option Nat → hp_T → Prop} (B : hp_B Γ Iv s α0 α H locs) (hr : va_Run p l e R s m args below meth c H locs cells slots mc ms (F0 m pc ls st) rest (hp_Qq Γ post a) (hp_A Γ)) (hi : ∀ r β, post r β → Iv α0 β) (hpc : pc + 3 = pc')
    (kk : ∀ (r : Option Nat) (β : hp_T) (H1 : Heap) (locs1 : List Loc), post r β → hp_B Γ Iv s α0 β H1 locs1 → W p l e R s m args below meth c H1 locs1 (cells + mc) (slots + ms) Q (F0 m pc' ls (va_rf r :: rest))) : W p l e R s m args below meth c H locs cells slots Q (F0 m pc ls st) := by
  subst hpc
  exact va_callq hr B.2.1 (fun _ _ h => h) (fun _ h => h) (fun r u t H1 locs1 ht _ hw hB _ _ hS => kk r u H1 locs1 hw ⟨by rw [← ht]; exact hB, hS, hi r u hw⟩)
/-! ends -/
theorem q_iret {post : Int32 → hp_T → Prop} {x : Int32} (C : hp_C Γ p m c cc nL s args own) (B : hp_B Γ Iv s α0 α H locs) (hr : meth.sig.returnType = some .int) (hl : meth.locks = false) (hp : post x α) (hdg : decode cc pc = .ok (.ireturn, 1)) : W p l e R s m args below meth c H locs cells slots (MQ below (hp_Qi Γ post) args s cells slots (hp_A Γ)) (F0 m pc ls [.int x]) :=
  W.iret C.1.1 C.1.2.1 hr (fun _ ht _ => ⟨⟨x, α, rfl, hp, by dsimp only; rw [ht]; exact B.1⟩, B.2.1.F ht⟩) B.2.1.2.2 hdg hl
theorem q_zret {post : Int32 → hp_T → Prop} {x : Int32} {ty : FieldType} (C : hp_C Γ p m c cc nL s args own) (B : hp_B Γ Iv s α0 α H locs) (hr : meth.sig.returnType = some ty) (hl : meth.locks = false) (hn : narrow ty (.int x) = .int x) (hp : post x α) (hdg : decode cc pc = .ok (.ireturn, 1)) : W p l e R s m args below meth c H locs cells slots (MQ below (hp_Qi Γ post) args s cells slots (hp_A Γ)) (F0 m pc ls [.int x]) :=
  W.zret C.1.1 C.1.2.1 hr hn (fun _ ht _ => ⟨⟨x, α, rfl, hp, by dsimp only; rw [ht]; exact B.1⟩, B.2.1.F ht⟩) B.2.1.2.2 hdg hl
theorem q_vret {post : hp_T → Prop} (C : hp_C Γ p m c cc nL s args own) (B : hp_B Γ Iv s α0 α H locs) (hr : meth.sig.returnType = none) (hl : meth.locks = false) (hp : post α) (hdg : decode cc pc = .ok (.return_, 1)) : W p l e R s m args below meth c H locs cells slots (MQ below (hp_Qv Γ post) args s cells slots (hp_A Γ)) (F0 m pc ls []) :=
  W.vret C.1.1 C.1.2.1 hr (fun _ ht _ => ⟨⟨α, rfl, hp, by dsimp only; rw [ht]; exact B.1⟩, B.2.1.F ht⟩) B.2.1.2.2 hdg hl
theorem q_lret {post : Int64 → hp_T → Prop} {x : Int64} (C : hp_C Γ p m c cc nL s args own) (B : hp_B Γ Iv s α0 α H locs) (hr : meth.sig.returnType = some .long) (hl : meth.locks = false) (hp : post x α) (hdg : decode cc pc = .ok (.lreturn, 1)) : W p l e R s m args below meth c H locs cells slots (MQ below (hp_Ql Γ post) args s cells slots (hp_A Γ)) (F0 m pc ls [.long x]) :=
  W.lret C.1.1 C.1.2.1 hr (fun _ ht _ => ⟨⟨x, α, rfl, hp, by dsimp only; rw [ht]; exact B.1⟩, B.2.1.F ht⟩) B.2.1.2.2 hdg hl
theorem q_aret {post : Option Nat → hp_T → Prop} {x : Option Nat} {C0 : String} (C : hp_C Γ p m c cc nL s args own) (B : hp_B Γ Iv s α0 α H locs) (hr : meth.sig.returnType = some (.object C0)) (hl : meth.locks = false) (hp : post x α) (hdg : decode cc pc = .ok (.areturn, 1)) : W p l e R s m args below meth c H locs cells slots (MQ below (hp_Qq Γ post) args s cells slots (hp_A Γ)) (F0 m pc ls [va_rf x]) :=
  W.aret C.1.1 C.1.2.1 hr (Or.inl ⟨_, rfl⟩) (by cases x <;> simp [va_rf]) (fun _ ht _ => ⟨⟨x, α, rfl, hp, by dsimp only; rw [ht]; exact B.1⟩, B.2.1.F ht⟩) B.2.1.2.2 hdg hl
/-- a method's start -/
theorem hp_start {Qc : Array Value → State → Outcome → State → Prop} {av : List Value} (hy : plainName y.cls = true)
    (body : ∀ p e s m below meth c, hp_C Γ p m c bytes maxL s av.toArray y.cls → meth.sig.returnType = ret → meth.locks = false → hp_B Γ (fun _ _ => True) s α α s.heap [] → meth.name = y.name →
      W p l e (hp_rm d mc ms) s m av.toArray below meth c s.heap [] 0 0 (MQ below Qc av.toArray s mc ms (hp_A Γ)) (entryFrame m av.toArray maxL)) : Met l y (hp_ws y bytes maxL ret) (hp_rm d mc ms) (hp_Pc Γ α av) Qc mc ms (hp_A Γ) := by
  refine Met.ofW (cc := bytes) (maxL := maxL) (ret := ret) hy rfl ?_
  intro p e s m args below meth c s₁ B hml hv
  obtain ⟨rfl, hR, hK⟩ := hv
  have hts := atoms_spec (ws := hp_ws y bytes maxL ret) B.pre
  exact body p e s m below meth c ⟨⟨B.exec, B.bytes, hml, findClass_of_methodNamed B.named, fun w hw => hts w (List.mem_cons_of_mem _ hw)⟩, hK⟩ B.returns B.notSynchronized ⟨hR, va_S.rf, trivial⟩ (name_of_methodNamed B.named B.method).1
end HPC
