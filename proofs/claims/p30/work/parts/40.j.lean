section JN7_0
/-! ===== making objects and rows; objects under way (kind 100 and the class's) ===== -/
def hp_nw (α : hp_T) (h κ : Nat) : hp_T := (fun b => if b = h then κ else α.1 b, fun φ b => if b = h then 0 else α.2.1 φ b, fun φ b => if b = h then 0 else α.2.2.1 φ b, α.2.2.2.1, fun φ b => if b = h then none else α.2.2.2.2.1 φ b, fun ψ b i => if b = h then 0 else α.2.2.2.2.2.1 ψ b i, fun ψ b i => if b = h then 0 else α.2.2.2.2.2.2.1 ψ b i, fun ψ b i => if b = h then none else α.2.2.2.2.2.2.2 ψ b i)
def hp_dv (t : Nat) : Value := if t = 0 then .int 0 else if t = 2 then .long 0 else .null
theorem nw_v_ne {α : hp_T} {h κ b t φ : Nat} (hb : b ≠ h) : hp_v (hp_nw α h κ) b t φ = hp_v α b t φ := by
  simp [hp_v, hp_I, hp_J, hp_R, hp_N, hp_nw, hb]
theorem nw_ce_ne {dA : Nat → ClassId} {α : hp_T} {h κ b : Nat} (hb : b ≠ h) : ∀ ψ, hp_ce dA (hp_nw α h κ) ψ b = hp_ce dA α ψ b :=
  hp_ce_neE (fun t φ => nw_v_ne hb) (fun ψ => ⟨by funext i; simp [hp_E, hp_nw, hb], by funext i; simp [hp_L, hp_nw, hb], by funext i; simp [hp_Q, hp_nw, hb]⟩)
theorem nw_v {α : hp_T} {h κ t φ : Nat} (ht : t ≠ 1) : hp_v (hp_nw α h κ) h t φ = hp_dv t := by
  unfold hp_v hp_dv
  by_cases h0 : t = 0
  · simp [h0, hp_I, hp_nw]
  · by_cases h2 : t = 2
    · simp [h2, hp_J, hp_nw]
    · simp [h0, ht, h2, hp_N, hp_nw, va_rf]
theorem nw_fv {α : hp_T} {h κ : Nat} : ∀ (ts : List Nat) (ψ : Nat), (∀ t ∈ ts, t ≠ 1) → hp_fv (hp_nw α h κ) h ts ψ = ts.map hp_dv := by
  intro ts
  induction ts with
  | nil => intro ψ _; rfl
  | cons t ts ih =>
    intro ψ ht
    show _ :: _ = _ :: _
    rw [nw_v (ht t List.mem_cons_self), ih (ψ + 1) (fun q hq => ht q (List.mem_cons_of_mem _ hq))]
theorem tg_no1 {κ : Nat} (hκ : 1 ≤ κ) : ∀ t ∈ hp_tg (100 + κ), t ≠ 1 := by
  intro t ht
  unfold hp_tg at ht
  rw [if_neg (by omega)] at ht
  obtain ⟨q, -, rfl⟩ := List.mem_map.mp ht
  unfold hp_rw
  by_cases h : q = 1
  · rw [if_pos h]; decide
  · rw [if_neg h]; exact h
theorem hp_Rep.fresh {Γ : hp_G} {α : hp_T} {H : Heap} (h : hp_Rep Γ α H) : hp_K α H.size = 0 := by
  by_cases e : hp_K α H.size = 0
  · exact e
  · exact absurd (h.2.2 _ e).2.lt (Nat.lt_irrefl _)
theorem hp_Rep.nw {Γ : hp_G} {α : hp_T} {H H1 : Heap} {κ : Nat} (h : hp_Rep Γ α H) (z : H1.size = H.size + 1) (o : ∀ q : Nat, q < H.size → H1[q]? = H[q]?) (he : va_at (Γ.2.1, Γ.2.2.1) vwCl (H.size, hp_ce Γ.2.2.2.1 (hp_nw α H.size κ) κ H.size) H1) : hp_Rep Γ (hp_nw α H.size κ) H1 := by
  have h0 := h.1
  refine ⟨by omega, fun q hq => (o q (by omega)).trans (h.2.1 q hq), fun a ha => ?_⟩
  by_cases e : a = H.size
  · subst e
    have hk : hp_K (hp_nw α H.size κ) H.size = κ := by simp [hp_K, hp_nw]
    rw [hk]
    exact ⟨h.1, he⟩
  · have hk : hp_K (hp_nw α H.size κ) a = hp_K α a := by simp [hp_K, hp_nw, e]
    rw [hk] at ha ⊢
    obtain ⟨h1, h2⟩ := h.2.2 a ha
    refine ⟨h1, ?_⟩
    rw [nw_ce_ne e]
    exact h2.kept (o a h2.lt)
theorem hp_b_100 {κ : Nat} : hp_b (100 + κ) = κ := by unfold hp_b; rw [if_neg (by omega)]; omega
theorem va_S.grow {A : Nat → Prop} {H0 H H1 : Heap} {locs : List Loc} (h : va_S A H0 H locs) (z : H1.size = H.size + 1) (o : ∀ q : Nat, q < H.size → H1[q]? = H[q]?) : va_S A H0 H1 locs := by
  have := h.1
  exact ⟨by omega, fun x h1 h2 => (o x (by omega)).trans (h.2.1 x h1 h2), h.2.2⟩
theorem nw_cx {α : hp_T} {h κ n t : Nat} (ht : t < 3) (cA : ClassId) : vp_cell cA (n, hp_cx (hp_nw α h κ) κ h t) = arrV cA n (fun _ => .int 0) := by
  unfold hp_cx
  rw [if_pos ht, vp_cell_i]
  congr 1
  funext j
  simp [hp_E, hp_nw]
theorem nw_cl {α : hp_T} {h κ n : Nat} (cA : ClassId) : vp_cell cA (n, hp_cx (hp_nw α h κ) κ h 3) = arrV cA n (fun _ => .long 0) := by
  show arrV cA n (fun j => .long (hp_L (hp_nw α h κ) κ h j)) = _
  congr 1
  funext j
  simp [hp_L, hp_nw]
theorem nw_cq {α : hp_T} {h κ n t : Nat} (ht : 4 ≤ t) (cA : ClassId) : vp_cell cA (n, hp_cx (hp_nw α h κ) κ h t) = arrV cA n (fun _ => .null) := by
  unfold hp_cx
  rw [if_neg (by omega), if_neg (by omega), vp_cell_q]
  congr 1
  funext j
  simp [hp_Q, hp_nw, va_rf]
theorem hp_sQ_at {α : hp_T} {κ a j : Nat} {x : Option Nat} : hp_Q (hp_sQ α κ a j x) κ a = va_up (hp_Q α κ a) j x := by
  funext i
  by_cases h : i = j
  · subst h; simp [hp_Q, hp_sQ, hp_uq, va_up]
  · simp [hp_Q, hp_sQ, hp_uq, va_up, h]
theorem hp_sQ_ne {α : hp_T} {κ a j b κ' : Nat} {x : Option Nat} (h : b ≠ a) : hp_Q (hp_sQ α κ a j x) κ' b = hp_Q α κ' b := by
  funext i
  simp [hp_Q, hp_sQ, hp_uq, h]
theorem hp_sL_at {α : hp_T} {κ a j : Nat} {x : Int64} : hp_L (hp_sL α κ a j x) κ a = fun i => if i = j then x else hp_L α κ a i := by
  funext i
  by_cases h : i = j
  · subst h; simp [hp_L, hp_sL, hp_uq]
  · simp [hp_L, hp_sL, hp_uq, h]
theorem hp_sL_ne {α : hp_T} {κ a j b κ' : Nat} {x : Int64} (h : b ≠ a) : hp_L (hp_sL α κ a j x) κ' b = hp_L α κ' b := by
  funext i
  simp [hp_L, hp_sL, hp_uq, h]
section HPW
variable {p : Program} {l : Launch} {e : Env} {R : Room} {s : State} {m : MethodId} {args : Array Value} {below : List Frame} {meth : Method} {c : Code} {H : Heap} {locs : List Loc} {cells slots : Nat} {Q : State → Prop} {cc : ByteArray} {nL : Nat} {own : String} {Γ : hp_G} {α0 α α' : hp_T} {Iv : hp_T → hp_T → Prop} {pc pc' : Nat} {ls : Array Slot} {rest : List Value} {a κ k t index φ n d mc ms N : Nat} {v : Value} {i x : Int32}
theorem q_new (C : hp_C Γ p m c cc nL s args own) (B : hp_B Γ Iv s α0 α H locs) (hcl : Cond.classLink own index (hp_q κ).1 ∈ lw_u) (hit : Cond.instantiable (hp_q κ).1 (hp_q κ).2.2 ∈ lw_u) (hiz : Cond.initialized (hp_q κ).1 ∈ lw_u) (hq : vwCl[κ - 1]? = some (hp_q κ)) (hin : ∀ w ∈ u_ws (hp_q κ).1 (hp_q κ).2.1 (hp_q κ).2.2, w ∈ lw_u) (hty : ∀ j, j < (hp_q κ).2.2 → parseFieldDescriptor ((hp_q κ).2.1 j).2.2.1 = some (hp_ty κ j)) (hdf : ∀ j, j < (hp_q κ).2.2 → defaultValue (hp_ty κ j) = vp_V ((hp_tg (100 + κ)).map hp_dv) j) (hκ : 1 ≤ κ) (hic : hp_isC (100 + κ) = true) (hN : (hp_q κ).2.2 = N) (hR : R = hp_rm d mc ms) (hcc : cells + 1 ≤ mc) (hss : slots + N ≤ ms) (hdg : decode cc pc = .ok (.new index, 3)) (hpc : pc + 3 = pc') (hiv : ∀ h, hp_K α h = 0 → Iv α0 (hp_nw α h (100 + κ)))
    (kk : ∀ (β : hp_T) (h : Nat) (H1 : Heap), hp_K α h = 0 → β = hp_nw α h (100 + κ) → hp_B Γ Iv s α0 β H1 locs → W p l e R s m args below meth c H1 locs (cells + 1) (slots + N) Q (F0 m pc' ls (.ref h :: rest))) : W p l e R s m args below meth c H locs cells slots Q (F0 m pc ls rest) := by
  obtain ⟨⟨hx, hb, hml, hown, hts⟩, hK, -⟩ := C
  subst hpc; subst hN
  have hKn := hK.1 _ _ hq
  refine W.newcK hx hb hown (hts _ hcl) (hts _ hit) (hts _ hiz) rfl hdg (by rw [hR]; exact hcc) (by rw [hR]; exact hss) hKn.2.1 rfl fun H1 kC hkC e1 z1 o1 => ?_
  refine kk _ H.size H1 B.1.fresh rfl ⟨B.1.nw z1 o1 ?_, B.2.1.grow z1 o1, hiv _ B.1.fresh⟩
  rw [hp_ce_c hic, hp_b_100, nw_fv _ _ (tg_no1 hκ)]
  exact ⟨_, hq, (u_born (hp_ty κ) hts hin hKn hkC e1 hty).to hdf⟩
theorem q_newa {atype : ArrayType} {ty : FieldType} {dv : Value} (C : hp_C Γ p m c cc nL s args own) (B : hp_B Γ Iv s α0 α H locs) (hac : Cond.arrayClass (newarray.typeOf atype) ∈ lw_u) (hty : newarray.typeOf atype = ty) (hκ : 20 ≤ κ ∧ κ < 60) (har : hp_ar κ = (t, n)) (htt : (hp_tys Γ.2.2.2.1)[t]? = some (Γ.2.2.2.1 t, ty)) (hRA : ∀ (U : State) (cA : ClassId), va_RA U cA ty → U.vm.findClass ("[" ++ ty.toString) = some cA) (hdv : defaultValue ty = dv) (hcl : ∀ (h : Nat) (cA : ClassId), vp_cell cA (n, hp_cx (hp_nw α h κ) κ h t) = arrV cA n (fun _ => dv)) (hx0 : ¬ x < 0) (hxn : x.toNatClampNeg = n) (hby : n * componentBytes (newarray.typeOf atype) ≤ 536870912) (hR : R = hp_rm d mc ms) (hcc : cells + 1 ≤ mc) (hss : slots + n ≤ ms) (hdg : decode cc pc = .ok (.newarray atype, 2)) (hpc : pc + 2 = pc') (hiv : ∀ h, hp_K α h = 0 → Iv α0 (hp_nw α h κ))
    (kk : ∀ (β : hp_T) (h : Nat) (H1 : Heap), hp_K α h = 0 → β = hp_nw α h κ → hp_B Γ Iv s α0 β H1 locs → W p l e R s m args below meth c H1 locs (cells + 1) (slots + n) Q (F0 m pc' ls (.ref h :: rest))) : W p l e R s m args below meth c H locs cells slots Q (F0 m pc ls (.int x :: rest)) := by
  obtain ⟨⟨hx, hb, hml, hown, hts⟩, hK, -⟩ := C
  subst hpc; subst hty
  refine va_newaK (atype := atype) hx hb (hts _ hac) rfl hdg rfl hx0 hxn hby (by rw [hR]; exact hcc) (by rw [hR]; exact hss) rfl fun H1 cA e1 z1 o1 hAr hNm => ?_
  have hcA : cA = Γ.2.2.2.1 t := Option.some.inj (hNm.symm.trans (hRA _ _ (hK.2 t _ htt).2))
  subst hcA
  refine kk _ H.size H1 B.1.fresh rfl ⟨B.1.nw z1 o1 ?_, B.2.1.grow z1 o1, hiv _ B.1.fresh⟩
  rw [hp_ce_a hκ har]
  show H1[H.size]? = some (vp_cell _ _)
  rw [hcl, ← hdv]
  exact e1
/-- lastore -/
theorem q_las {x : Int64} {j : Nat} (C : hp_C Γ p m c cc nL s args own) (B : hp_B Γ Iv s α0 α H locs) (hk : hp_K α a = κ) (hκ : 20 ≤ κ ∧ κ < 60) (har : hp_ar κ = (3, n)) (hin : vp_in i n) (hj : i.toNatClampNeg = j) (hiv : Iv α0 (hp_sL α κ a j x)) (hdg : decode cc pc = .ok (.lastore, 1)) (hpc : pc + 1 = pc')
    (kk : ∀ (β : hp_T) (H1 : Heap) (locs1 : List Loc), β = hp_sL α κ a j x → hp_B Γ Iv s α0 β H1 locs1 → W p l e R s m args below meth c H1 locs1 cells slots Q (F0 m pc' ls rest)) : W p l e R s m args below meth c H locs cells slots Q (F0 m pc ls (.long x :: .int i :: .ref a :: rest)) := by
  subst hpc; subst hj
  obtain ⟨hbase, hat⟩ := B.ar hk hκ har
  refine W.last C.1.1 C.1.2.1 hat ((C.2.1.2 3 _ rfl).1 n (fun j => .long (hp_L α κ a j))) (fun q => by cases q) (by show ¬ (i < 0 ∨ (arrV _ _ _).slots.size ≤ _); rw [arrV_size]; exact hin) rfl rfl hdg fun H1 e z oq => ?_
  refine kk _ H1 _ rfl ⟨B.1.upd z oq (by rw [hk]; omega) ?_ rfl (fun b hb => hp_ce_neE (fun t φ => rfl) (fun κ' => ⟨rfl, hp_sL_ne hb, rfl⟩)), B.2.1.put z oq hbase, hiv⟩
  rw [hk, hp_ce_a hκ har]
  show H1[a]? = some (arrV _ n (fun q => .long (hp_L (hp_sL α κ a i.toNatClampNeg x) κ a q)))
  rw [hp_sL_at, e]
  show some ((arrV _ n (fun q => .long (hp_L α κ a q))).setSlot _ _) = _
  rw [arrV_store]
  congr 2
  funext q
  by_cases hq : q = i.toNatClampNeg
  · subst hq
    simp [updV]
  · simp [updV, hq]
/-- putfield of a final field, in a constructor -/
theorem q_putF (C : hp_C Γ p m c cc nL s args own) (B : hp_B Γ Iv s α0 α H locs) (hk : hp_K α a = κ) (hF : hp_F own index (hp_b κ) k) (hc : hp_isC κ = true) (ht : (hp_tg κ)[k]? = some t) (hfin : ((hp_q (hp_b κ)).2.1 k).2.2.2 = true) (hin2 : meth.name = "<init>") (hdecl : ((hp_q (hp_b κ)).2.1 k).1 = own) (hn : narrow (hp_ty (hp_b κ) k) v = v) (hfit : fits (hp_ty (hp_b κ) k) v = true)
    (hK' : hp_K α' = hp_K α) (hv : hp_v α' a t (50 * hp_b κ + k) = v) (hv' : ∀ t φ, φ ≠ 50 * hp_b κ + k → hp_v α' a t φ = hp_v α a t φ) (hb' : ∀ b, b ≠ a → ∀ κ, hp_ce Γ.2.2.2.1 α' κ b = hp_ce Γ.2.2.2.1 α κ b) (hiv : Iv α0 α')
    (hdg : decode cc pc = .ok (.putfield index, 3)) (hpc : pc + 3 = pc')
    (kk : ∀ (H1 : Heap) (locs1 : List Loc), hp_B Γ Iv s α0 α' H1 locs1 → W p l e R s m args below meth c H1 locs1 cells slots Q (F0 m pc' ls rest)) : W p l e R s m args below meth c H locs cells slots Q (F0 m pc ls (v :: .ref a :: rest)) := by
  obtain ⟨⟨hx, hb, hml, hown, hts⟩, hK, -⟩ := C
  obtain ⟨hq, hkN, hin, hty, hnm, hlk⟩ := hF
  obtain ⟨hbase, hat⟩ := B.at hk hc
  subst hpc
  have h0 : hp_K α a ≠ 0 := by rw [hk]; intro h; rw [h] at hc; cases hc
  have hap := va_apart (own := own) hts hin (hp_ty (hp_b κ)) hty hnm hK hq
  obtain ⟨r, h1, cell, q1, q2, q3, q4⟩ := hat
  have hr : r = hp_q (hp_b κ) := Option.some.inj (h1.symm.trans hq)
  subst hr
  obtain ⟨hS, hfc, kC, hkC, hkind⟩ := hK.1 _ _ hq
  obtain ⟨cf, kf, fi, f, hi, hsl⟩ := hS k hkN
  have hlay := hts _ (hin _ (u_in_lay hkN))
  unfold u_lay at hlay
  rw [if_pos hfin] at hlay
  have hst := (u_facts hfc hkC (u_lays hts hin hkN) hi).1
  have hcf : m.cls = cf := by
    obtain ⟨_, _, c', _, _, _, -, -, hf', -, -, -, hown2, -⟩ := Cond.laysFinal_spec hlay
    have e1 : c' = cf := by have := hi.symm.trans hf'; simp at this; exact this.1.symm
    rw [hdecl] at hown2
    rw [← e1]; exact Option.some.inj (hown.symm.trans hown2)
  have h6 := u_fits hfc hkC hkind (Or.inr hlay) hi (hty k hkN) hn hfit
  refine W.putFinK hx hb hown (hts _ hlk) hi hst hcf hin2 (by rw [q2]; exact h6) q1 q3 (by rw [hsl]; exact k2_hasslot (q4 k hkN)) rfl rfl hdg fun H' e1 e2 e3 => ?_
  rw [hsl] at e1 ⊢
  refine kk H' _ ⟨B.1.upd e2 e3 h0 ?_ hK' hb', B.2.1.put e2 e3 hbase, hiv⟩
  rw [hk, hp_ce_c hc]
  refine ⟨_, hq, t_OB.to (V := updV (vp_V (hp_fv α a (hp_tg κ) (50 * hp_b κ))) k v) ⟨_, e1, q2, q3, t_set q4 hap hkN v⟩ (fun j _ => ?_)⟩
  have hl : k < (hp_fv α a (hp_tg κ) (50 * hp_b κ)).length := by rw [hp_fv_len]; exact (List.getElem?_eq_some_iff.mp ht).1
  rw [vp_updV_set hl v j, hp_fv_set (hp_tg κ) k (50 * hp_b κ) ht hv hv']
theorem q_putnF {x φ : Nat} (C : hp_C Γ p m c cc nL s args own) (B : hp_B Γ Iv s α0 α H locs) (hk : hp_K α a = κ) (hF : hp_F own index (hp_b κ) k) (hc : hp_isC κ = true) (ht : (hp_tg κ)[k]? = some 3) (hfin : ((hp_q (hp_b κ)).2.1 k).2.2.2 = true) (hin2 : meth.name = "<init>") (hdecl : ((hp_q (hp_b κ)).2.1 k).1 = own) (hn : narrow (hp_ty (hp_b κ) k) (.ref x) = .ref x) (hfit : fits (hp_ty (hp_b κ) k) (.ref x) = true) (hφ : 50 * hp_b κ + k = φ) (hiv : Iv α0 (hp_sN α φ a (some x)))
    (hdg : decode cc pc = .ok (.putfield index, 3)) (hpc : pc + 3 = pc')
    (kk : ∀ (β : hp_T) (H1 : Heap) (locs1 : List Loc), β = hp_sN α φ a (some x) → hp_B Γ Iv s α0 β H1 locs1 → W p l e R s m args below meth c H1 locs1 cells slots Q (F0 m pc' ls rest)) : W p l e R s m args below meth c H locs cells slots Q (F0 m pc ls (.ref x :: .ref a :: rest)) := by
  subst hφ
  refine q_putF C B hk hF hc ht hfin hin2 hdecl hn hfit (α' := hp_sN α (50 * hp_b κ + k) a (some x)) rfl ?_ ?_ (fun b hb => hp_ce_ne (fun t φ => ?_) ⟨rfl, rfl, rfl⟩) hiv hdg hpc (fun H1 locs1 B1 => kk _ H1 locs1 rfl B1)
  · simp [hp_v, hp_N, hp_sN, hp_up, va_rf]
  · intro t φ h; simp [hp_v, hp_I, hp_R, hp_J, hp_N, hp_sN, hp_up, h]
  · simp [hp_v, hp_I, hp_R, hp_J, hp_N, hp_sN, hp_up, hb]
variable {bytes : ByteArray} {maxL d' mc' ms' : Nat} {st : List Value} {b : Nat} {y : MethodName} {As : List Value}
/-- a call of a constructor -/
theorem hp_runI {Qc : Array Value → State → Outcome → State → Prop} (C : hp_C Γ p m c cc nL s args own) (B : hp_B Γ Iv s α0 α H locs) (hM : Met l y (hp_ws y bytes maxL none) (hp_rm d' mc ms) (hp_Pc Γ α (.ref b :: As)) Qc mc ms (hp_A Γ)) (hB : hp_LB y bytes maxL none n) (hy : y.name = "<init>") (hI : Cond.instanceMethod y ∈ lw_u) (hL : hp_LK own index y) (hR : R = hp_rm d mc' ms') (hd : d' < d) (hlen : As.length = n) (hsz : ls.size = nL) (hst : st = As.reverse ++ .ref b :: rest) (hcat : (rest.map fun v => v.category).sum ≤ 8) (hdg : decode cc pc = .ok (.invokespecial index, 3)) (hf : cells + mc ≤ mc' ∧ slots + ms ≤ ms') :
    va_Run p l e R s m args below meth c H locs cells slots mc ms (F0 m pc ls st) rest (Qc (Value.ref b :: As).toArray) (hp_A Γ) := by
  obtain ⟨h1, h2, h3, h4⟩ := hB
  have hts := C.1.2.2.2.2
  have hp : PreS s H (hp_Pc Γ α (.ref b :: As)) (.ref b :: As) := ⟨hp_blind Γ α _, fun U hU hW => ⟨rfl, by rw [hU]; exact B.1, C.2.warm hW⟩⟩
  have hRR : (hp_rm d' mc ms).frames + 1 ≤ R.frames ∧ 8 + (maxL + 11) + (hp_rm d' mc ms).locals ≤ R.locals := by
    rw [hR]; show d' + 1 ≤ d ∧ 8 + (maxL + 11) + 45 * d' ≤ 45 * d; omega
  have hff : cells + mc ≤ R.cells ∧ slots + ms ≤ R.slots := by rw [hR]; exact hf
  rcases hL with hL | ⟨host, hL⟩
  · exact va_runI (As := As) (rest := rest) (n := n) C.1 hM ⟨callB_of n hts (hp_gs h1) rfl rfl rfl (hts _ h2) (hts _ hL) h4 hRR, hy, hts _ hI⟩ hp rfl hlen hsz hst (lv_room (m := m) (pc := pc) (ls := ls) (rest := st) hcat) hdg hff
  · exact va_runIN (As := As) (rest := rest) (n := n) C.1 hM ⟨va_cnB n hts (hp_gs h1) rfl rfl rfl (C.2.2.1 _ hL) (hts _ h2) h4 hRR, hy, hts _ hI⟩ hp rfl hlen hsz hst (lv_room (m := m) (pc := pc) (ls := ls) (rest := st) hcat) hdg hff
/-- Object's own constructor -/
theorem q_obj (C : hp_C Γ p m c cc nL s args own) (hlk : Cond.methodLink own index objectInit ∈ lw_u) (hsz : ls.size = nL) (hR : R = hp_rm d mc ms) (hd : 1 ≤ d) (hdg : decode cc pc = .ok (.invokespecial index, 3)) (hpc : pc + 3 = pc')
    (kk : W p l e R s m args below meth c H locs cells slots Q (F0 m pc' ls [])) : W p l e R s m args below meth c H locs cells slots Q (F0 m pc ls [.ref a]) := by
  obtain ⟨⟨hx, hb, hml, hown, hts⟩, -⟩ := C
  subst hpc
  exact W.objInit hx hb hown (hts _ hlk) (hts _ oi_in) (hts _ oi_cd) rfl (by rw [hml]; exact hsz) rfl hdg (by rw [hR]; exact hd) (by rw [hR]; show 2 * 0 + 0 + 12 ≤ 45 * d; omega) kk
end HPW
end JN7_0
section JN7_1
/-! ===== constructors: what grows, what an object under way has ===== -/
def sa (α β : hp_T) (b : Nat) : Prop := hp_K β b = hp_K α b ∧ (∀ φ, hp_I β φ b = hp_I α φ b) ∧ (∀ φ, hp_J β φ b = hp_J α φ b) ∧ (∀ φ, hp_R β φ b = hp_R α φ b) ∧ (∀ φ, hp_N β φ b = hp_N α φ b) ∧ (∀ κ j, hp_E β κ b j = hp_E α κ b j) ∧ (∀ κ j, hp_L β κ b j = hp_L α κ b j) ∧ (∀ κ j, hp_Q β κ b j = hp_Q α κ b j)
theorem sa_rf {α : hp_T} {b : Nat} : sa α α b := ⟨rfl, fun _ => rfl, fun _ => rfl, fun _ => rfl, fun _ => rfl, fun _ _ => rfl, fun _ _ => rfl, fun _ _ => rfl⟩
theorem sa_tr {α β γ : hp_T} {b : Nat} (h : sa α β b) (g : sa β γ b) : sa α γ b := by
  obtain ⟨h1, h2, h3, h4, h5, h6, h7, h8⟩ := h
  obtain ⟨g1, g2, g3, g4, g5, g6, g7, g8⟩ := g
  exact ⟨g1.trans h1, fun φ => (g2 φ).trans (h2 φ), fun φ => (g3 φ).trans (h3 φ), fun φ => (g4 φ).trans (h4 φ), fun φ => (g5 φ).trans (h5 φ), fun κ j => (g6 κ j).trans (h6 κ j), fun κ j => (g7 κ j).trans (h7 κ j), fun κ j => (g8 κ j).trans (h8 κ j)⟩
theorem lk_mem {φ v : Nat} : ∀ l : List (Nat × Nat), l.lookup φ = some v → (φ, v) ∈ l := by
  intro l
  induction l with
  | nil => intro h; cases h
  | cons q l ih =>
    intro h
    rw [List.lookup_cons] at h
    by_cases e : φ == q.1
    · rw [e] at h
      have e2 : φ = q.1 := by simpa using e
      have e3 : q.2 = v := by simpa using h
      rw [show q = (φ, v) by rw [e2, ← e3]]
      exact List.mem_cons_self
    · have e2 : (φ == q.1) = false := by simpa using e
      rw [e2] at h
      exact List.mem_cons_of_mem _ (ih h)
theorem gc_rk_mem {φ : Nat} (h : gc_rk φ ≠ 0) : (φ, gc_rk φ) ∈ gc_rt := by
  unfold gc_rk at h ⊢
  cases e : gc_rt.lookup φ with
  | none => rw [e] at h; exact absurd rfl h
  | some v => exact lk_mem gc_rt e
theorem gc_rt_ok : ∀ q ∈ gc_rt, q.1 / 50 ≤ 13 ∧ q.2 < 60 := by decide +kernel
theorem gc_t_lt {φ k : Nat} (h : gc_rk φ ≠ 0) (t : gc_t φ k) : k ≠ 0 ∧ k < 60 := by
  have := (gc_rt_ok _ (gc_rk_mem h)).2
  rcases t with t | t
  · rw [t]; exact ⟨h, this⟩
  · rw [t.2]; decide
theorem gc_q_lt {κ : Nat} : gc_qk κ < 60 := by
  unfold gc_qk
  split
  · decide
  · split
    · decide
    · split
      · decide
      · split <;> decide
theorem gc_q_20 {κ : Nat} (h : gc_qk κ ≠ 0) : 20 ≤ κ ∧ κ < 60 := by
  unfold gc_qk at h
  split at h
  · omega
  · split at h
    · omega
    · split at h
      · omega
      · split at h
        · omega
        · exact absurd rfl h
theorem gc_i0 (φ : Nat) : gc_i φ 0 := fun _ => by decide
theorem gc_nw {α : hp_T} {h κ : Nat} (g : GC α) (hh : hp_K α h = 0) (hκ : 20 ≤ κ) : GC (hp_nw α h κ) := by
  obtain ⟨g1, g2, g3, g4⟩ := g
  have hk : ∀ b, b ≠ h → hp_K (hp_nw α h κ) b = hp_K α b := fun b hb => by simp [hp_K, hp_nw, hb]
  have hkh : hp_K (hp_nw α h κ) h = κ := by simp [hp_K, hp_nw]
  refine ⟨fun φ a => ?_, fun φ a ha hr => ?_, fun a b ha hb => ?_, fun κ' a j b ha hq hb => ?_⟩
  · by_cases e : a = h
    · rw [show hp_I (hp_nw α h κ) φ a = 0 by simp [hp_I, hp_nw, e]]; exact gc_i0 φ
    · rw [show hp_I (hp_nw α h κ) φ a = hp_I α φ a by simp [hp_I, hp_nw, e]]; exact g1 φ a
  · have h13 := (gc_rt_ok _ (gc_rk_mem hr)).1
    by_cases e : a = h
    · rw [e, hkh] at ha
      simp only at h13
      omega
    · rw [hk a e] at ha
      have t := g2 φ a ha hr
      have hne : hp_R α φ a ≠ h := fun q => (gc_t_lt hr t).1 (by rw [q]; exact hh)
      show gc_t φ (hp_K (hp_nw α h κ) (hp_R α φ a))
      rw [hk _ hne]; exact t
  · by_cases e : a = h
    · rw [show hp_N (hp_nw α h κ) 618 a = none by simp [hp_N, hp_nw, e]] at hb; cases hb
    · rw [hk a e] at ha
      rw [show hp_N (hp_nw α h κ) 618 a = hp_N α 618 a by simp [hp_N, hp_nw, e]] at hb
      have t := g3 a b ha hb
      rw [hk b (fun q => by rw [q, hh] at t; cases t)]; exact t
  · by_cases e : a = h
    · rw [show hp_Q (hp_nw α h κ) κ' a j = none by simp [hp_Q, hp_nw, e]] at hb; cases hb
    · rw [hk a e] at ha
      rw [show hp_Q (hp_nw α h κ) κ' a j = hp_Q α κ' a j by simp [hp_Q, hp_nw, e]] at hb
      have t := g4 κ' a j b ha hq hb
      rw [hk b (fun q => by rw [q, hh] at t; exact hq t.symm)]; exact t
theorem gc_sI {α : hp_T} {φ a : Nat} {v : Int32} (g : GC α) (hv : gc_i φ v) : GC (hp_sI α φ a v) := by
  refine ⟨fun ψ b => ?_, g.2⟩
  by_cases e : ψ = φ ∧ b = a
  · obtain ⟨rfl, rfl⟩ := e
    rw [hp_I_at]; exact hv
  · rw [show hp_I (hp_sI α φ a v) ψ b = hp_I α ψ b by simp [hp_I, hp_sI, hp_up, e]]; exact g.1 ψ b
theorem gc_sN {α : hp_T} {φ a : Nat} {x : Option Nat} (g : GC α) (hk : hp_K α a ≠ 12) : GC (hp_sN α φ a x) := by
  refine ⟨g.1, g.2.1, fun b c hb hc => ?_, g.2.2.2⟩
  have e : ¬ (618 = φ ∧ b = a) := fun q => hk (by rw [← q.2]; exact hb)
  rw [show hp_N (hp_sN α φ a x) 618 b = hp_N α 618 b by simp [hp_N, hp_sN, hp_up, e]] at hc
  exact g.2.2.1 b c hb hc
theorem gc_sQ {α : hp_T} {κ a j w : Nat} (g : GC α) (hw : hp_K α w = gc_qk κ) : GC (hp_sQ α κ a j (some w)) := by
  refine ⟨g.1, g.2.1, g.2.2.1, fun κ' b i c hb hq hc => ?_⟩
  by_cases e : κ' = κ ∧ b = a ∧ i = j
  · obtain ⟨rfl, rfl, rfl⟩ := e
    rw [show hp_Q (hp_sQ α κ' b i (some w)) κ' b i = some w by simp [hp_Q, hp_sQ, hp_uq]] at hc
    cases hc
    exact hw
  · rw [show hp_Q (hp_sQ α κ a j (some w)) κ' b i = hp_Q α κ' b i by simp [hp_Q, hp_sQ, hp_uq, e]] at hc
    exact g.2.2.2 κ' b i c hb hq hc
/-- since α0 all that was there stays, but the object a0 -/
def gx (a0 : Nat) (α0 α : hp_T) : Prop := GC α ∧ ∀ b, b ≠ a0 → hp_K α0 b ≠ 0 → sa α0 α b
theorem gx_rf {a0 : Nat} {α : hp_T} (g : GC α) : gx a0 α α := ⟨g, fun _ _ _ => sa_rf⟩
theorem gx_st {a0 : Nat} {α0 α β : hp_T} (h : gx a0 α0 α) (g : GC β) (hs : ∀ b, b ≠ a0 → hp_K α0 b ≠ 0 → hp_K α b ≠ 0 → sa α β b) : gx a0 α0 β := ⟨g, fun b h1 h2 => by
  have h3 := h.2 b h1 h2
  exact sa_tr h3 (hs b h1 h2 (by rw [h3.1]; exact h2))⟩
theorem sa_nw {α : hp_T} {h κ b : Nat} (hb : b ≠ h) : sa α (hp_nw α h κ) b := by
  refine ⟨?_, fun φ => ?_, fun φ => ?_, fun φ => rfl, fun φ => ?_, fun κ j => ?_, fun κ j => ?_, fun κ j => ?_⟩ <;> simp [hp_K, hp_I, hp_J, hp_N, hp_E, hp_L, hp_Q, hp_nw, hb]
theorem sa_sI {α : hp_T} {φ a b : Nat} {v : Int32} (hb : b ≠ a) : sa α (hp_sI α φ a v) b := by
  refine ⟨rfl, fun ψ => ?_, fun φ => rfl, fun φ => rfl, fun φ => rfl, fun κ j => rfl, fun κ j => rfl, fun κ j => rfl⟩
  simp [hp_I, hp_sI, hp_up, hb]
theorem sa_sN {α : hp_T} {φ a b : Nat} {v : Option Nat} (hb : b ≠ a) : sa α (hp_sN α φ a v) b := by
  refine ⟨rfl, fun ψ => rfl, fun φ => rfl, fun φ => rfl, fun ψ => ?_, fun κ j => rfl, fun κ j => rfl, fun κ j => rfl⟩
  simp [hp_N, hp_sN, hp_up, hb]
theorem sa_sQ {α : hp_T} {κ a j b : Nat} {v : Option Nat} (hb : b ≠ a) : sa α (hp_sQ α κ a j v) b := by
  refine ⟨rfl, fun ψ => rfl, fun φ => rfl, fun φ => rfl, fun ψ => rfl, fun κ j => rfl, fun κ j => rfl, fun κ j => ?_⟩
  simp [hp_Q, hp_sQ, hp_uq, hb]
theorem sa_sL {α : hp_T} {κ a j b : Nat} {v : Int64} (hb : b ≠ a) : sa α (hp_sL α κ a j v) b := by
  refine ⟨rfl, fun ψ => rfl, fun φ => rfl, fun φ => rfl, fun ψ => rfl, fun κ j => rfl, fun κ j => ?_, fun κ j => rfl⟩
  simp [hp_L, hp_sL, hp_uq, hb]
/-- an object under way: the references that it has, the ints that were set -/
def co (α0 : hp_T) (a0 κ : Nat) (α : hp_T) (l : List Nat) (f : List (Nat × Int32)) : Prop := hp_K α a0 = 100 + κ ∧ (∀ φ ∈ l, ∃ x, hp_N α φ a0 = some x ∧ gc_t φ (hp_K α x) ∧ hp_K α x ≠ 0 ∧ hp_K α x < 60 ∧ hp_K α0 x = 0 ∧ (20 ≤ hp_K α x → ∀ j, hp_E α (hp_K α x) x j = 0)) ∧ (∀ q ∈ f, hp_I α q.1 a0 = q.2) ∧ ∀ φ, (∀ q ∈ f, q.1 ≠ φ) → hp_I α φ a0 = 0
section CO
variable {α0 α β : hp_T} {a0 κ : Nat} {l : List Nat} {f : List (Nat × Int32)} {h κ' b φ x j w : Nat} {v : Int32}
theorem co_0 (hk : hp_K α a0 = 100 + κ) (z : ∀ φ, hp_I α φ a0 = 0) : co α a0 κ α [] [] := ⟨hk, fun _ h => (by cases h), fun _ h => (by cases h), fun φ _ => z φ⟩
/-- a step that leaves the object and all complete ones as they are -/
theorem co_st (O : co α0 a0 κ α l f) (h0 : sa α β a0) (hx : ∀ x, hp_K α x ≠ 0 → hp_K α x < 60 → sa α β x) : co α0 a0 κ β l f := by
  obtain ⟨o1, o2, o3, o4⟩ := O
  refine ⟨by rw [h0.1]; exact o1, fun φ hφ => ?_, fun q hq => by rw [h0.2.1]; exact o3 q hq, fun φ hφ => by rw [h0.2.1]; exact o4 φ hφ⟩
  obtain ⟨x, x1, x2, x3, x4, x5, x6⟩ := o2 φ hφ
  have hs := hx x x3 x4
  refine ⟨x, by rw [h0.2.2.2.2.1]; exact x1, by rw [hs.1]; exact x2, by rw [hs.1]; exact x3, by rw [hs.1]; exact x4, x5, fun h j => ?_⟩
  rw [hs.1] at h
  rw [hs.1, hs.2.2.2.2.2.1]
  exact x6 h j
theorem co_nw (O : co α0 a0 κ α l f) (hh : hp_K α h = 0) : co α0 a0 κ (hp_nw α h κ') l f :=
  co_st O (sa_nw (fun e => by rw [← e, O.1] at hh; omega)) (fun x hx _ => sa_nw (fun e => hx (by rw [e]; exact hh)))
theorem co_call (O : co α0 a0 κ α l f) (g : gx b α β) (hb : a0 ≠ b) (hkb : 60 ≤ hp_K α b) : co α0 a0 κ β l f :=
  co_st O (g.2 a0 hb (by rw [O.1]; omega)) (fun x h1 h2 => g.2 x (fun e => by rw [e] at h2; omega) h1)
theorem co_sQ (O : co α0 a0 κ α l f) : co α0 a0 κ (hp_sQ α κ' b j (some w)) l f := O
theorem co_sL {y : Int64} (O : co α0 a0 κ α l f) : co α0 a0 κ (hp_sL α κ' b j y) l f := O
theorem co_sN (O : co α0 a0 κ α l f) (hx : gc_t φ (hp_K α x) ∧ hp_K α x ≠ 0 ∧ hp_K α x < 60 ∧ hp_K α0 x = 0 ∧ (20 ≤ hp_K α x → ∀ j, hp_E α (hp_K α x) x j = 0)) : co α0 a0 κ (hp_sN α φ a0 (some x)) (φ :: l) f := by
  refine ⟨O.1, fun ψ hψ => ?_, O.2.2.1, O.2.2.2⟩
  by_cases e : ψ = φ
  · subst e
    exact ⟨x, by simp [hp_N, hp_sN, hp_up], hx⟩
  · obtain ⟨y, y1, y2⟩ := O.2.1 ψ (by rcases List.mem_cons.mp hψ with q | q; exact absurd q e; exact q)
    exact ⟨y, by rw [show hp_N (hp_sN α φ a0 (some x)) ψ a0 = hp_N α ψ a0 by simp [hp_N, hp_sN, hp_up, e]]; exact y1, y2⟩
theorem co_s0 (O : co α0 a0 κ α l f) (hφ : φ ∉ l) : co α0 a0 κ (hp_sN α φ a0 none) l f := by
  refine ⟨O.1, fun ψ hψ => ?_, O.2.2.1, O.2.2.2⟩
  have e : ψ ≠ φ := fun q => hφ (q ▸ hψ)
  obtain ⟨y, y1, y2⟩ := O.2.1 ψ hψ
  exact ⟨y, by rw [show hp_N (hp_sN α φ a0 none) ψ a0 = hp_N α ψ a0 by simp [hp_N, hp_sN, hp_up, e]]; exact y1, y2⟩
theorem co_sI (O : co α0 a0 κ α l f) (hφ : ∀ q ∈ f, q.1 ≠ φ) : co α0 a0 κ (hp_sI α φ a0 v) l ((φ, v) :: f) := by
  refine ⟨O.1, O.2.1, fun q hq => ?_, fun ψ hψ => ?_⟩
  · rcases List.mem_cons.mp hq with e | e
    · rw [e]; exact hp_I_at
    · rw [hp_I_ne (hφ q e)]; exact O.2.2.1 q e
  · have e : ψ ≠ φ := fun q => hψ (φ, v) List.mem_cons_self q.symm
    rw [hp_I_ne e]
    exact O.2.2.2 ψ (fun q hq => hψ q (List.mem_cons_of_mem _ hq))
theorem gx_new (G : gx a0 α0 α) (O : co α0 a0 κ α l f) (hh : hp_K α h = 0) : hp_K α0 h = 0 ∧ a0 ≠ h := by
  have hne : a0 ≠ h := fun e => by rw [← e, O.1] at hh; omega
  refine ⟨?_, hne⟩
  by_cases e : hp_K α0 h = 0
  · exact e
  · exact absurd ((G.2 h (fun q => hne q.symm) e).1.symm.trans hh) e
theorem gx_nw (G : gx a0 α0 α) (hκ : 20 ≤ κ') (hh : hp_K α h = 0) : gx a0 α0 (hp_nw α h κ') :=
  gx_st G (gc_nw G.1 hh hκ) (fun b _ _ h3 => sa_nw (fun e => h3 (by rw [e]; exact hh)))
theorem gx_sI (G : gx a0 α0 α) (hv : gc_i φ v) : gx a0 α0 (hp_sI α φ a0 v) := gx_st G (gc_sI G.1 hv) (fun _ h1 _ _ => sa_sI h1)
theorem gx_sN {y : Option Nat} (G : gx a0 α0 α) (O : co α0 a0 κ α l f) : gx a0 α0 (hp_sN α φ a0 y) := gx_st G (gc_sN G.1 (by rw [O.1]; omega)) (fun _ h1 _ _ => sa_sN h1)
theorem gx_sQ (G : gx a0 α0 α) (hb : hp_K α0 b = 0) (hw : hp_K α w = gc_qk κ') : gx a0 α0 (hp_sQ α κ' b j (some w)) := gx_st G (gc_sQ G.1 hw) (fun _ _ h2 _ => sa_sQ (fun e => h2 (by rw [e]; exact hb)))
theorem gx_sL {y : Int64} (G : gx a0 α0 α) (hb : hp_K α0 b = 0) : gx a0 α0 (hp_sL α κ' b j y) := gx_st G G.1 (fun _ _ h2 _ => sa_sL (fun e => h2 (by rw [e]; exact hb)))
theorem gx_call (G : gx a0 α0 α) (g : gx b α β) (hb : hp_K α0 b = 0) : gx a0 α0 β := gx_st G g.1 (fun _ _ h2 h3 => g.2 _ (fun e => h2 (by rw [e]; exact hb)) h3)
/-- the object is complete: its kind is its class's -/
def hp_cv (α : hp_T) (a κ : Nat) : hp_T := (fun b => if b = a then κ else α.1 b, α.2.1, α.2.2.1, fun φ b => if b = a then (α.2.2.2.2.1 φ a).getD 0 else α.2.2.2.1 φ b, α.2.2.2.2)
theorem cv_fv {a : Nat} : ∀ (ts : List Nat) (ψ : Nat), (∀ k, ts[k]? = some 1 → hp_N α (ψ + k) a ≠ none) → hp_fv (hp_cv α a κ) a ts ψ = hp_fv α a (ts.map hp_rw) ψ := by
  intro ts
  induction ts with
  | nil => intro ψ _; rfl
  | cons t ts ih =>
    intro ψ ht
    show _ :: _ = _ :: _
    rw [ih (ψ + 1) (fun k hk => by rw [show ψ + 1 + k = ψ + (k + 1) by omega]; exact ht (k + 1) hk)]
    congr 1
    unfold hp_rw
    by_cases e : t = 1
    · subst e
      have h0 := ht 0 rfl
      cases hn : hp_N α ψ a with
      | none => exact absurd hn h0
      | some x =>
        have hr : hp_R (hp_cv α a κ) ψ a = x := by
          show (if a = a then (hp_N α ψ a).getD 0 else hp_R α ψ a) = x
          rw [if_pos rfl, hn]; rfl
        simp [hp_v, hr, hn, va_rf]
    · rw [if_neg e]
      simp [hp_v, e, hp_I, hp_J, hp_N, hp_cv]
theorem hp_Rep.cv {Γ : hp_G} {H : Heap} {a : Nat} (R : hp_Rep Γ α H) (hk : hp_K α a = 100 + κ) (hκ : 1 ≤ κ ∧ κ < 20) (hn : ∀ k, (hp_tg κ)[k]? = some 1 → hp_N α (50 * κ + k) a ≠ none) : hp_Rep Γ (hp_cv α a κ) H := by
  refine ⟨R.1, R.2.1, fun b hb => ?_⟩
  by_cases e : b = a
  · subst e
    have hkb : hp_K (hp_cv α b κ) b = κ := by simp [hp_K, hp_cv]
    rw [hkb]
    obtain ⟨r1, r2⟩ := R.2.2 b (by rw [hk]; omega)
    refine ⟨r1, ?_⟩
    rw [hk, hp_ce_c (by unfold hp_isC; simp; omega), hp_b_100] at r2
    have hc : hp_isC κ = true := by unfold hp_isC; simp; omega
    have hbk : hp_b κ = κ := by unfold hp_b; rw [if_pos (by omega)]
    have htg : hp_tg (100 + κ) = (hp_tg κ).map hp_rw := by
      unfold hp_tg
      rw [if_neg (by omega), if_pos (by omega), show 100 + κ - 101 = κ - 1 by omega]
    rw [hp_ce_c hc, hbk, cv_fv _ _ hn, ← htg]
    exact r2
  · have hkb : hp_K (hp_cv α a κ) b = hp_K α b := by simp [hp_K, hp_cv, e]
    rw [hkb] at hb ⊢
    obtain ⟨r1, r2⟩ := R.2.2 b hb
    refine ⟨r1, ?_⟩
    have hce := hp_ce_neE (dA := Γ.2.2.2.1) (α := α) (β := hp_cv α a κ) (b := b) (fun t φ => by simp [hp_v, hp_I, hp_J, hp_R, hp_N, hp_cv, e]) (fun κ' => ⟨rfl, rfl, rfl⟩) (hp_K α b)
    rw [hce]
    exact r2
theorem cv_k (hb : b ≠ a0) : hp_K (hp_cv α a0 κ) b = hp_K α b := by simp [hp_K, hp_cv, hb]
theorem gc_cv (g : GC α) (hk : hp_K α a0 = 100 + κ) (hκ : 1 ≤ κ ∧ κ < 20) (hn : ∀ φ, φ / 50 = κ → gc_rk φ ≠ 0 → ∃ x, hp_N α φ a0 = some x ∧ gc_t φ (hp_K α x)) (h3 : κ = 12 → hp_N α 618 a0 = none) : GC (hp_cv α a0 κ) := by
  obtain ⟨g1, g2, g3, g4⟩ := g
  have hk0 : hp_K (hp_cv α a0 κ) a0 = κ := by simp [hp_K, hp_cv]
  refine ⟨g1, fun φ a ha hr => ?_, fun a b ha hb => ?_, fun κ' a j b ha hq hb => ?_⟩
  · by_cases e : a = a0
    · subst e
      rw [hk0] at ha
      obtain ⟨x, x1, x2⟩ := hn φ ha.symm hr
      have hR : hp_R (hp_cv α a κ) φ a = x := by
        show (if a = a then (hp_N α φ a).getD 0 else hp_R α φ a) = x
        rw [if_pos rfl, x1]; rfl
      have hx := (gc_t_lt hr x2).2
      rw [hR, cv_k (fun q => by rw [q, hk] at hx; omega)]
      exact x2
    · rw [cv_k e] at ha
      have t := g2 φ a ha hr
      have hR : hp_R (hp_cv α a0 κ) φ a = hp_R α φ a := by simp [hp_R, hp_cv, e]
      have hx := (gc_t_lt hr t).2
      rw [hR, cv_k (fun q => by rw [q, hk] at hx; omega)]
      exact t
  · have hb' : hp_N α 618 a = some b := hb
    by_cases e : a = a0
    · subst e
      rw [hk0] at ha
      rw [h3 ha] at hb'; cases hb'
    · rw [cv_k e] at ha
      have t := g3 a b ha hb'
      rw [cv_k (fun q => by rw [q, hk] at t; omega)]; exact t
  · have hb' : hp_Q α κ' a j = some b := hb
    by_cases e : a = a0
    · subst e
      rw [hk0] at ha
      have := (gc_q_20 hq).1
      omega
    · rw [cv_k e] at ha
      have t := g4 κ' a j b ha hq hb'
      have := gc_q_lt (κ := κ')
      rw [cv_k (fun q => by rw [q, hk] at t; omega)]; exact t
theorem gx_cv (G : gx a0 α0 α) (g : GC (hp_cv α a0 κ)) : gx a0 α0 (hp_cv α a0 κ) := gx_st G g (fun b h1 _ _ => by
  refine ⟨cv_k h1, fun _ => rfl, fun _ => rfl, fun φ => ?_, fun _ => rfl, fun _ _ => rfl, fun _ _ => rfl, fun _ _ => rfl⟩
  simp [hp_R, hp_cv, h1])
/-- the references of a class -/
def gc_fl (κ : Nat) : List Nat := (gc_rt.filter (fun q => q.1 / 50 == κ)).map (fun q => q.1)
theorem co_done {Γ : hp_G} {H : Heap} {s : State} {locs : List Loc} (B : hp_B Γ (gx a0) s α0 α H locs) (O : co α0 a0 κ α l f) (hκ : 1 ≤ κ ∧ κ < 20) (hl : ∀ φ ∈ gc_fl κ, φ ∈ l) (ht : ∀ k, (hp_tg κ)[k]? = some 1 → 50 * κ + k ∈ l) (h3 : κ = 12 → hp_N α 618 a0 = none) : hp_B Γ (gx a0) s α0 (hp_cv α a0 κ) H locs ∧ hp_K (hp_cv α a0 κ) a0 = κ ∧ (∀ q ∈ f, hp_I (hp_cv α a0 κ) q.1 a0 = q.2) ∧ (∀ φ, (∀ q ∈ f, q.1 ≠ φ) → hp_I (hp_cv α a0 κ) φ a0 = 0) ∧ ∀ φ ∈ l, ∃ x, hp_R (hp_cv α a0 κ) φ a0 = x ∧ hp_N α φ a0 = some x ∧ hp_K (hp_cv α a0 κ) x = hp_K α x ∧ gc_t φ (hp_K α x) ∧ (20 ≤ hp_K α x → ∀ j, hp_E α (hp_K α x) x j = 0) := by
  have gC : GC (hp_cv α a0 κ) := gc_cv B.2.2.1 O.1 hκ (fun φ h1 h2 => by
    obtain ⟨x, x1, x2, -⟩ := O.2.1 φ (hl φ (List.mem_map.mpr ⟨(φ, gc_rk φ), List.mem_filter.mpr ⟨gc_rk_mem h2, by simpa using h1⟩, rfl⟩))
    exact ⟨x, x1, x2⟩) h3
  refine ⟨⟨B.1.cv O.1 hκ (fun k hk => ?_), B.2.1, gx_cv B.2.2 gC⟩, by simp [hp_K, hp_cv], O.2.2.1, O.2.2.2, fun φ hφ => ?_⟩
  · obtain ⟨x, x1, -⟩ := O.2.1 _ (ht k hk)
    rw [x1]; intro q; cases q
  · obtain ⟨x, x1, x2, x3, x4, x5, x6⟩ := O.2.1 φ hφ
    refine ⟨x, ?_, x1, cv_k (fun q => by rw [q, O.1] at x4; omega), x2, x6⟩
    show (if a0 = a0 then (hp_N α φ a0).getD 0 else hp_R α φ a0) = x
    rw [if_pos rfl, x1]; rfl
end CO
theorem nw_k {α : hp_T} {h κ : Nat} : hp_K (hp_nw α h κ) h = κ := by simp [hp_K, hp_nw]
theorem nw_i {α : hp_T} {h κ φ : Nat} : hp_I (hp_nw α h κ) φ h = 0 := by simp [hp_I, hp_nw]
theorem nw_e {α : hp_T} {h κ ψ j : Nat} : hp_E (hp_nw α h κ) ψ h j = 0 := by simp [hp_E, hp_nw]
theorem sN_at {α : hp_T} {φ a : Nat} {x : Option Nat} : hp_N (hp_sN α φ a x) φ a = x := by simp [hp_N, hp_sN, hp_up]
theorem co_fin {α0 α : hp_T} {a0 κ : Nat} {l : List Nat} {f : List (Nat × Int32)} {Γ : hp_G} {H : Heap} {s : State} {locs : List Loc} (B : hp_B Γ (gx a0) s α0 α H locs) (O : co α0 a0 κ α l f) (hκ : 1 ≤ κ ∧ κ < 20) (hl : ∀ φ ∈ gc_fl κ, φ ∈ l) (ht : ∀ k, k < (hp_tg κ).length → (hp_tg κ)[k]? = some 1 → 50 * κ + k ∈ l) (h3 : κ = 12 → hp_N α 618 a0 = none) : hp_B Γ (gx a0) s α0 (hp_cv α a0 κ) H locs ∧ hp_K (hp_cv α a0 κ) a0 = κ ∧ (∀ q ∈ f, hp_I (hp_cv α a0 κ) q.1 a0 = q.2) ∧ (∀ φ, (∀ q ∈ f, q.1 ≠ φ) → hp_I (hp_cv α a0 κ) φ a0 = 0) ∧ ∀ φ ∈ l, ∃ x, hp_R (hp_cv α a0 κ) φ a0 = x ∧ hp_N α φ a0 = some x ∧ hp_K (hp_cv α a0 κ) x = hp_K α x ∧ gc_t φ (hp_K α x) ∧ (20 ≤ hp_K α x → ∀ j, hp_E α (hp_K α x) x j = 0) := co_done B O hκ hl (fun k hk => ht k (List.getElem?_eq_some_iff.mp hk).1 hk) h3
end JN7_1
section JN7_2
theorem df_1 : ∀ j, j < (hp_q 1).2.2 → defaultValue (hp_ty 1 j) = vp_V ((hp_tg (100 + 1)).map hp_dv) j := fun j hj => by
  have hj : j < 5 := hj
  match j, hj with
  | 0, _ => rfl
  | 1, _ => rfl
  | 2, _ => rfl
  | 3, _ => rfl
  | 4, _ => rfl
  | j + 5, h => exact absurd h (by omega)
theorem df_2 : ∀ j, j < (hp_q 2).2.2 → defaultValue (hp_ty 2 j) = vp_V ((hp_tg (100 + 2)).map hp_dv) j := fun j hj => by
  have hj : j < 5 := hj
  match j, hj with
  | 0, _ => rfl
  | 1, _ => rfl
  | 2, _ => rfl
  | 3, _ => rfl
  | 4, _ => rfl
  | j + 5, h => exact absurd h (by omega)
theorem df_3 : ∀ j, j < (hp_q 3).2.2 → defaultValue (hp_ty 3 j) = vp_V ((hp_tg (100 + 3)).map hp_dv) j := fun j hj => by
  have hj : j < 3 := hj
  match j, hj with
  | 0, _ => rfl
  | 1, _ => rfl
  | 2, _ => rfl
  | j + 3, h => exact absurd h (by omega)
theorem df_4 : ∀ j, j < (hp_q 4).2.2 → defaultValue (hp_ty 4 j) = vp_V ((hp_tg (100 + 4)).map hp_dv) j := fun j hj => by
  have hj : j < 10 := hj
  match j, hj with
  | 0, _ => rfl
  | 1, _ => rfl
  | 2, _ => rfl
  | 3, _ => rfl
  | 4, _ => rfl
  | 5, _ => rfl
  | 6, _ => rfl
  | 7, _ => rfl
  | 8, _ => rfl
  | 9, _ => rfl
  | j + 10, h => exact absurd h (by omega)
theorem df_5 : ∀ j, j < (hp_q 5).2.2 → defaultValue (hp_ty 5 j) = vp_V ((hp_tg (100 + 5)).map hp_dv) j := fun j hj => by
  have hj : j < 11 := hj
  match j, hj with
  | 0, _ => rfl
  | 1, _ => rfl
  | 2, _ => rfl
  | 3, _ => rfl
  | 4, _ => rfl
  | 5, _ => rfl
  | 6, _ => rfl
  | 7, _ => rfl
  | 8, _ => rfl
  | 9, _ => rfl
  | 10, _ => rfl
  | j + 11, h => exact absurd h (by omega)
theorem df_6 : ∀ j, j < (hp_q 6).2.2 → defaultValue (hp_ty 6 j) = vp_V ((hp_tg (100 + 6)).map hp_dv) j := fun j hj => by
  have hj : j < 2 := hj
  match j, hj with
  | 0, _ => rfl
  | 1, _ => rfl
  | j + 2, h => exact absurd h (by omega)
theorem df_7 : ∀ j, j < (hp_q 7).2.2 → defaultValue (hp_ty 7 j) = vp_V ((hp_tg (100 + 7)).map hp_dv) j := fun j hj => by
  have hj : j < 7 := hj
  match j, hj with
  | 0, _ => rfl
  | 1, _ => rfl
  | 2, _ => rfl
  | 3, _ => rfl
  | 4, _ => rfl
  | 5, _ => rfl
  | 6, _ => rfl
  | j + 7, h => exact absurd h (by omega)
theorem df_8 : ∀ j, j < (hp_q 8).2.2 → defaultValue (hp_ty 8 j) = vp_V ((hp_tg (100 + 8)).map hp_dv) j := fun j hj => by
  have hj : j < 4 := hj
  match j, hj with
  | 0, _ => rfl
  | 1, _ => rfl
  | 2, _ => rfl
  | 3, _ => rfl
  | j + 4, h => exact absurd h (by omega)
theorem df_9 : ∀ j, j < (hp_q 9).2.2 → defaultValue (hp_ty 9 j) = vp_V ((hp_tg (100 + 9)).map hp_dv) j := fun j hj => by
  have hj : j < 5 := hj
  match j, hj with
  | 0, _ => rfl
  | 1, _ => rfl
  | 2, _ => rfl
  | 3, _ => rfl
  | 4, _ => rfl
  | j + 5, h => exact absurd h (by omega)
theorem df_10 : ∀ j, j < (hp_q 10).2.2 → defaultValue (hp_ty 10 j) = vp_V ((hp_tg (100 + 10)).map hp_dv) j := fun j hj => by
  have hj : j < 2 := hj
  match j, hj with
  | 0, _ => rfl
  | 1, _ => rfl
  | j + 2, h => exact absurd h (by omega)
theorem df_11 : ∀ j, j < (hp_q 11).2.2 → defaultValue (hp_ty 11 j) = vp_V ((hp_tg (100 + 11)).map hp_dv) j := fun j hj => by
  have hj : j < 10 := hj
  match j, hj with
  | 0, _ => rfl
  | 1, _ => rfl
  | 2, _ => rfl
  | 3, _ => rfl
  | 4, _ => rfl
  | 5, _ => rfl
  | 6, _ => rfl
  | 7, _ => rfl
  | 8, _ => rfl
  | 9, _ => rfl
  | j + 10, h => exact absurd h (by omega)
theorem df_12 : ∀ j, j < (hp_q 12).2.2 → defaultValue (hp_ty 12 j) = vp_V ((hp_tg (100 + 12)).map hp_dv) j := fun j hj => by
  have hj : j < 19 := hj
  match j, hj with
  | 0, _ => rfl
  | 1, _ => rfl
  | 2, _ => rfl
  | 3, _ => rfl
  | 4, _ => rfl
  | 5, _ => rfl
  | 6, _ => rfl
  | 7, _ => rfl
  | 8, _ => rfl
  | 9, _ => rfl
  | 10, _ => rfl
  | 11, _ => rfl
  | 12, _ => rfl
  | 13, _ => rfl
  | 14, _ => rfl
  | 15, _ => rfl
  | 16, _ => rfl
  | 17, _ => rfl
  | 18, _ => rfl
  | j + 19, h => exact absurd h (by omega)
theorem df_13 : ∀ j, j < (hp_q 13).2.2 → defaultValue (hp_ty 13 j) = vp_V ((hp_tg (100 + 13)).map hp_dv) j := fun j hj => by
  have hj : j < 48 := hj
  match j, hj with
  | 0, _ => rfl
  | 1, _ => rfl
  | 2, _ => rfl
  | 3, _ => rfl
  | 4, _ => rfl
  | 5, _ => rfl
  | 6, _ => rfl
  | 7, _ => rfl
  | 8, _ => rfl
  | 9, _ => rfl
  | 10, _ => rfl
  | 11, _ => rfl
  | 12, _ => rfl
  | 13, _ => rfl
  | 14, _ => rfl
  | 15, _ => rfl
  | 16, _ => rfl
  | 17, _ => rfl
  | 18, _ => rfl
  | 19, _ => rfl
  | 20, _ => rfl
  | 21, _ => rfl
  | 22, _ => rfl
  | 23, _ => rfl
  | 24, _ => rfl
  | 25, _ => rfl
  | 26, _ => rfl
  | 27, _ => rfl
  | 28, _ => rfl
  | 29, _ => rfl
  | 30, _ => rfl
  | 31, _ => rfl
  | 32, _ => rfl
  | 33, _ => rfl
  | 34, _ => rfl
  | 35, _ => rfl
  | 36, _ => rfl
  | 37, _ => rfl
  | 38, _ => rfl
  | 39, _ => rfl
  | 40, _ => rfl
  | 41, _ => rfl
  | 42, _ => rfl
  | 43, _ => rfl
  | 44, _ => rfl
  | 45, _ => rfl
  | 46, _ => rfl
  | 47, _ => rfl
  | j + 48, h => exact absurd h (by omega)
set_option maxRecDepth 100000 in
set_option maxHeartbeats 4000000 in
theorem t_X5_init (Γ : hp_G) (l : Launch) (α : hp_T) (g : GC α) (a0 : Nat) (k0 : hp_K α a0 = 106) (z0 : ∀ φ, hp_I α φ a0 = 0) : Met l yX5_init (hp_ws yX5_init cX5_init 1 none) (hp_rm 1 1 64) (hp_Pc Γ α [.ref a0]) (hp_Qv Γ (fun β => gx a0 α β ∧ hp_K β a0 = 6 ∧ (∀ q ∈ ([(301, 0)] : List (Nat × Int32)), hp_I β q.1 a0 = q.2))) 1 64 (hp_A Γ) := by
  refine hp_start (by decide) ?_
  intro p e s m below meth c C hr hlk B0 hnm
  have C : hp_C Γ p m c cX5_init 1 s ([.ref a0] : List Value).toArray RX5 := C
  have hx := C.1.1
  have hb := C.1.2.1
  have hown := C.1.2.2.2.1
  have hts := C.1.2.2.2.2
  have B : hp_B Γ (gx a0) s α α s.heap [] := ⟨B0.1, B0.2.1, gx_rf g⟩
  have O : co α a0 6 α [] [] := co_0 k0 z0
  have hl := lv_entry ([.ref a0]) (n := 1) (Nat.le_of_ble_eq_true rfl)
  show W p l e (hp_rm 1 1 64) s m ([.ref a0] : List Value).toArray below meth c s.heap [] 0 0 (MQ below (hp_Qv Γ (fun β => gx a0 α β ∧ hp_K β a0 = 6 ∧ (∀ q ∈ ([(301, 0)] : List (Nat × Int32)), hp_I β q.1 a0 = q.2))) ([.ref a0] : List Value).toArray s 1 64 (hp_A Γ)) (entryFrame m ([.ref a0] : List Value).toArray 1)
  rw [lg_entry_eq]
  generalize (lg_sl ([.ref a0]) ++ List.replicate (1 - (lg_sl ([.ref a0])).length) Slot.unset).toArray = ls at hl ⊢
  have hl : lv_has ls 1 [(0, .ref a0)] := hl
  refine lv_aload_n hx hb dX5_init_0 rfl (lv_at hl 0 rfl) (hp_n (n := 1) rfl ?_)
  refine q_obj (pc' := 4) C ol_X5 hl.1 rfl (by decide) dX5_init_1 rfl ?_
  refine lv_aload_n hx hb dX5_init_4 rfl (lv_at hl 0 rfl) (hp_n (n := 5) rfl ?_)
  refine lv_bipush (v := 64) hx hb dX5_init_5 (by decide) (hp_n (n := 7) rfl ?_)
  refine q_newa (κ := 20) (t := 0) (n := 64) (atype := .int) (ty := .int) (dv := .int 0) (pc' := 9) C B ac_int rfl (by decide) rfl rfl (fun _ _ q => q) rfl (fun _ cA => nw_cx (by decide) cA) (by decide) (by decide +kernel) (Nat.le_of_ble_eq_true rfl) rfl (by omega) (by omega) dX5_init_7 rfl (fun q hq => gx_nw B.2.2 (by decide) hq) (fun βh1 ah1 Hh1 fh1 eh1 Bh1 => ?_)
  have nh1 := gx_new B.2.2 O fh1
  have Oh1 : co α a0 6 βh1 [] [] := by rw [eh1]; exact co_nw O fh1
  have kh1 : hp_K βh1 ah1 = 20 := by rw [eh1]; exact nw_k
  refine W.widen (k := 1) (n := 64) (by omega) (by omega) ?_
  refine q_putnF (κ := 106) (k := 0) (φ := 300) (pc' := 12) C Bh1 Oh1.1 fl_X5_9 rfl rfl rfl hnm rfl rfl rfl rfl (gx_sN Bh1.2.2 Oh1) dX5_init_9 rfl (fun βh2 Hh2 Lh2 eh2 Bh2 => ?_)
  have Oh2 : co α a0 6 βh2 [300] [] := by rw [eh2]; exact co_sN Oh1 ⟨(Or.inl (by rw [kh1]; rfl)), by rw [kh1]; decide, by rw [kh1]; decide, nh1.1, (fun _ j => by rw [eh1]; exact nw_e)⟩
  refine lv_aload_n hx hb dX5_init_12 rfl (lv_at hl 0 rfl) (hp_n (n := 13) rfl ?_)
  refine lv_iconst (v := 0) hx hb dX5_init_13 (by decide) (hp_n (n := 14) rfl ?_)
  refine q_puti (κ := 106) (k := 1) (φ := 301) (pc' := 17) C Bh2 Oh2.1 fl_X5_15 rfl rfl rfl rfl rfl rfl (gx_sI Bh2.2.2 (gc_i0 _)) dX5_init_14 rfl (fun βh3 Hh3 Lh3 eh3 Bh3 => ?_)
  have Oh3 : co α a0 6 βh3 [300] [(301, 0)] := by rw [eh3]; exact co_sI Oh2 (by decide)
  obtain ⟨Bh4, kh4, fh4, -⟩ := co_fin Bh3 Oh3 (by decide) (by decide) (by decide) (fun q => absurd q (by decide))
  refine W.widen (k := 1) (n := 64) (by omega) (by omega) ?_
  exact q_vret C Bh4 hr hlk ⟨Bh4.2.2, kh4, fh4⟩ dX5_init_17
set_option maxRecDepth 100000 in
set_option maxHeartbeats 4000000 in
theorem t_X8_init (Γ : hp_G) (l : Launch) (α : hp_T) (g : GC α) (a0 : Nat) (k0 : hp_K α a0 = 109) (z0 : ∀ φ, hp_I α φ a0 = 0) : Met l yX8_init (hp_ws yX8_init cX8_init 1 none) (hp_rm 1 3 192) (hp_Pc Γ α [.ref a0]) (hp_Qv Γ (fun β => gx a0 α β ∧ hp_K β a0 = 9 ∧ (∀ q ∈ ([(454, 0), (453, 0)] : List (Nat × Int32)), hp_I β q.1 a0 = q.2))) 3 192 (hp_A Γ) := by
  refine hp_start (by decide) ?_
  intro p e s m below meth c C hr hlk B0 hnm
  have C : hp_C Γ p m c cX8_init 1 s ([.ref a0] : List Value).toArray RX8 := C
  have hx := C.1.1
  have hb := C.1.2.1
  have hown := C.1.2.2.2.1
  have hts := C.1.2.2.2.2
  have B : hp_B Γ (gx a0) s α α s.heap [] := ⟨B0.1, B0.2.1, gx_rf g⟩
  have O : co α a0 9 α [] [] := co_0 k0 z0
  have hl := lv_entry ([.ref a0]) (n := 1) (Nat.le_of_ble_eq_true rfl)
  show W p l e (hp_rm 1 3 192) s m ([.ref a0] : List Value).toArray below meth c s.heap [] 0 0 (MQ below (hp_Qv Γ (fun β => gx a0 α β ∧ hp_K β a0 = 9 ∧ (∀ q ∈ ([(454, 0), (453, 0)] : List (Nat × Int32)), hp_I β q.1 a0 = q.2))) ([.ref a0] : List Value).toArray s 3 192 (hp_A Γ)) (entryFrame m ([.ref a0] : List Value).toArray 1)
  rw [lg_entry_eq]
  generalize (lg_sl ([.ref a0]) ++ List.replicate (1 - (lg_sl ([.ref a0])).length) Slot.unset).toArray = ls at hl ⊢
  have hl : lv_has ls 1 [(0, .ref a0)] := hl
  refine lv_aload_n hx hb dX8_init_0 rfl (lv_at hl 0 rfl) (hp_n (n := 1) rfl ?_)
  refine q_obj (pc' := 4) C ol_X8 hl.1 rfl (by decide) dX8_init_1 rfl ?_
  refine lv_aload_n hx hb dX8_init_4 rfl (lv_at hl 0 rfl) (hp_n (n := 5) rfl ?_)
  refine lv_bipush (v := 64) hx hb dX8_init_5 (by decide) (hp_n (n := 7) rfl ?_)
  refine q_newa (κ := 21) (t := 0) (n := 64) (atype := .int) (ty := .int) (dv := .int 0) (pc' := 9) C B ac_int rfl (by decide) rfl rfl (fun _ _ q => q) rfl (fun _ cA => nw_cx (by decide) cA) (by decide) (by decide +kernel) (Nat.le_of_ble_eq_true rfl) rfl (by omega) (by omega) dX8_init_7 rfl (fun q hq => gx_nw B.2.2 (by decide) hq) (fun βh1 ah1 Hh1 fh1 eh1 Bh1 => ?_)
  have nh1 := gx_new B.2.2 O fh1
  have Oh1 : co α a0 9 βh1 [] [] := by rw [eh1]; exact co_nw O fh1
  have kh1 : hp_K βh1 ah1 = 21 := by rw [eh1]; exact nw_k
  refine W.widen (k := 1) (n := 64) (by omega) (by omega) ?_
  refine q_putnF (κ := 109) (k := 0) (φ := 450) (pc' := 12) C Bh1 Oh1.1 fl_X8_9 rfl rfl rfl hnm rfl rfl rfl rfl (gx_sN Bh1.2.2 Oh1) dX8_init_9 rfl (fun βh2 Hh2 Lh2 eh2 Bh2 => ?_)
  have Oh2 : co α a0 9 βh2 [450] [] := by rw [eh2]; exact co_sN Oh1 ⟨(Or.inl (by rw [kh1]; rfl)), by rw [kh1]; decide, by rw [kh1]; decide, nh1.1, (fun _ j => by rw [eh1]; exact nw_e)⟩
  refine lv_aload_n hx hb dX8_init_12 rfl (lv_at hl 0 rfl) (hp_n (n := 13) rfl ?_)
  refine lv_bipush (v := 64) hx hb dX8_init_13 (by decide) (hp_n (n := 15) rfl ?_)
  refine q_newa (κ := 22) (t := 0) (n := 64) (atype := .int) (ty := .int) (dv := .int 0) (pc' := 17) C Bh2 ac_int rfl (by decide) rfl rfl (fun _ _ q => q) rfl (fun _ cA => nw_cx (by decide) cA) (by decide) (by decide +kernel) (Nat.le_of_ble_eq_true rfl) rfl (by omega) (by omega) dX8_init_15 rfl (fun q hq => gx_nw Bh2.2.2 (by decide) hq) (fun βh3 ah3 Hh3 fh3 eh3 Bh3 => ?_)
  have nh3 := gx_new Bh2.2.2 Oh2 fh3
  have Oh3 : co α a0 9 βh3 [450] [] := by rw [eh3]; exact co_nw Oh2 fh3
  have kh3 : hp_K βh3 ah3 = 22 := by rw [eh3]; exact nw_k
  refine W.widen (k := 2) (n := 128) (by omega) (by omega) ?_
  refine q_putnF (κ := 109) (k := 1) (φ := 451) (pc' := 20) C Bh3 Oh3.1 fl_X8_15 rfl rfl rfl hnm rfl rfl rfl rfl (gx_sN Bh3.2.2 Oh3) dX8_init_17 rfl (fun βh4 Hh4 Lh4 eh4 Bh4 => ?_)
  have Oh4 : co α a0 9 βh4 [451, 450] [] := by rw [eh4]; exact co_sN Oh3 ⟨(Or.inl (by rw [kh3]; rfl)), by rw [kh3]; decide, by rw [kh3]; decide, nh3.1, (fun _ j => by rw [eh3]; exact nw_e)⟩
  refine lv_aload_n hx hb dX8_init_20 rfl (lv_at hl 0 rfl) (hp_n (n := 21) rfl ?_)
  refine lv_bipush (v := 64) hx hb dX8_init_21 (by decide) (hp_n (n := 23) rfl ?_)
  refine q_newa (κ := 23) (t := 2) (n := 64) (atype := .boolean) (ty := .boolean) (dv := .int 0) (pc' := 25) C Bh4 ac_boolean rfl (by decide) rfl rfl (fun _ _ q => q) rfl (fun _ cA => nw_cx (by decide) cA) (by decide) (by decide +kernel) (Nat.le_of_ble_eq_true rfl) rfl (by omega) (by omega) dX8_init_23 rfl (fun q hq => gx_nw Bh4.2.2 (by decide) hq) (fun βh5 ah5 Hh5 fh5 eh5 Bh5 => ?_)
  have nh5 := gx_new Bh4.2.2 Oh4 fh5
  have Oh5 : co α a0 9 βh5 [451, 450] [] := by rw [eh5]; exact co_nw Oh4 fh5
  have kh5 : hp_K βh5 ah5 = 23 := by rw [eh5]; exact nw_k
  refine W.widen (k := 3) (n := 192) (by omega) (by omega) ?_
  refine q_putnF (κ := 109) (k := 2) (φ := 452) (pc' := 28) C Bh5 Oh5.1 fl_X8_18 rfl rfl rfl hnm rfl rfl rfl rfl (gx_sN Bh5.2.2 Oh5) dX8_init_25 rfl (fun βh6 Hh6 Lh6 eh6 Bh6 => ?_)
  have Oh6 : co α a0 9 βh6 [452, 451, 450] [] := by rw [eh6]; exact co_sN Oh5 ⟨(Or.inl (by rw [kh5]; rfl)), by rw [kh5]; decide, by rw [kh5]; decide, nh5.1, (fun _ j => by rw [eh5]; exact nw_e)⟩
  refine lv_aload_n hx hb dX8_init_28 rfl (lv_at hl 0 rfl) (hp_n (n := 29) rfl ?_)
  refine lv_iconst (v := 0) hx hb dX8_init_29 (by decide) (hp_n (n := 30) rfl ?_)
  refine q_puti (κ := 109) (k := 3) (φ := 453) (pc' := 33) C Bh6 Oh6.1 fl_X8_22 rfl rfl rfl rfl rfl rfl (gx_sI Bh6.2.2 (gc_i0 _)) dX8_init_30 rfl (fun βh7 Hh7 Lh7 eh7 Bh7 => ?_)
  have Oh7 : co α a0 9 βh7 [452, 451, 450] [(453, 0)] := by rw [eh7]; exact co_sI Oh6 (by decide)
  refine lv_aload_n hx hb dX8_init_33 rfl (lv_at hl 0 rfl) (hp_n (n := 34) rfl ?_)
  refine lv_iconst (v := 0) hx hb dX8_init_34 (by decide) (hp_n (n := 35) rfl ?_)
  refine q_puti (κ := 109) (k := 4) (φ := 454) (pc' := 38) C Bh7 Oh7.1 fl_X8_26 rfl rfl rfl rfl rfl rfl (gx_sI Bh7.2.2 (gc_i0 _)) dX8_init_35 rfl (fun βh8 Hh8 Lh8 eh8 Bh8 => ?_)
  have Oh8 : co α a0 9 βh8 [452, 451, 450] [(454, 0), (453, 0)] := by rw [eh8]; exact co_sI Oh7 (by decide)
  obtain ⟨Bh9, kh9, fh9, -⟩ := co_fin Bh8 Oh8 (by decide) (by decide) (by decide) (fun q => absurd q (by decide))
  refine W.widen (k := 3) (n := 192) (by omega) (by omega) ?_
  exact q_vret C Bh9 hr hlk ⟨Bh9.2.2, kh9, fh9⟩ dX8_init_38
set_option maxRecDepth 100000 in
set_option maxHeartbeats 4000000 in
theorem t_X4_init (Γ : hp_G) (l : Launch) (α : hp_T) (g : GC α) (a0 : Nat) (k0 : hp_K α a0 = 105) (z0 : ∀ φ, hp_I α φ a0 = 0) : Met l yX4_init (hp_ws yX4_init cX4_init 1 none) (hp_rm 2 8 131305) (hp_Pc Γ α [.ref a0]) (hp_Qv Γ (fun β => gx a0 α β ∧ hp_K β a0 = 5 ∧ (∀ q ∈ ([(260, 0), (259, 0), (258, (-1)), (257, 0), (256, (-1)), (255, 0), (252, 0)] : List (Nat × Int32)), hp_I β q.1 a0 = q.2))) 8 131305 (hp_A Γ) := by
  refine hp_start (by decide) ?_
  intro p e s m below meth c C hr hlk B0 hnm
  have C : hp_C Γ p m c cX4_init 1 s ([.ref a0] : List Value).toArray RX4 := C
  have hx := C.1.1
  have hb := C.1.2.1
  have hown := C.1.2.2.2.1
  have hts := C.1.2.2.2.2
  have B : hp_B Γ (gx a0) s α α s.heap [] := ⟨B0.1, B0.2.1, gx_rf g⟩
  have O : co α a0 5 α [] [] := co_0 k0 z0
  have hl := lv_entry ([.ref a0]) (n := 1) (Nat.le_of_ble_eq_true rfl)
  show W p l e (hp_rm 2 8 131305) s m ([.ref a0] : List Value).toArray below meth c s.heap [] 0 0 (MQ below (hp_Qv Γ (fun β => gx a0 α β ∧ hp_K β a0 = 5 ∧ (∀ q ∈ ([(260, 0), (259, 0), (258, (-1)), (257, 0), (256, (-1)), (255, 0), (252, 0)] : List (Nat × Int32)), hp_I β q.1 a0 = q.2))) ([.ref a0] : List Value).toArray s 8 131305 (hp_A Γ)) (entryFrame m ([.ref a0] : List Value).toArray 1)
  rw [lg_entry_eq]
  generalize (lg_sl ([.ref a0]) ++ List.replicate (1 - (lg_sl ([.ref a0])).length) Slot.unset).toArray = ls at hl ⊢
  have hl : lv_has ls 1 [(0, .ref a0)] := hl
  refine lv_aload_n hx hb dX4_init_0 rfl (lv_at hl 0 rfl) (hp_n (n := 1) rfl ?_)
  refine q_obj (pc' := 4) C ol_X4 hl.1 rfl (by decide) dX4_init_1 rfl ?_
  refine lv_aload_n hx hb dX4_init_4 rfl (lv_at hl 0 rfl) (hp_n (n := 5) rfl ?_)
  refine lv_ldc hx hb hown (hts _ kc_X4_9) dX4_init_5 (hp_n (n := 7) rfl ?_)
  refine q_newa (κ := 34) (t := 0) (n := 65521) (atype := .int) (ty := .int) (dv := .int 0) (pc' := 9) C B ac_int rfl (by decide) rfl rfl (fun _ _ q => q) rfl (fun _ cA => nw_cx (by decide) cA) (by decide) (by decide +kernel) (Nat.le_of_ble_eq_true rfl) rfl (by omega) (by omega) dX4_init_7 rfl (fun q hq => gx_nw B.2.2 (by decide) hq) (fun βh1 ah1 Hh1 fh1 eh1 Bh1 => ?_)
  have nh1 := gx_new B.2.2 O fh1
  have Oh1 : co α a0 5 βh1 [] [] := by rw [eh1]; exact co_nw O fh1
  have kh1 : hp_K βh1 ah1 = 34 := by rw [eh1]; exact nw_k
  refine W.widen (k := 1) (n := 65521) (by omega) (by omega) ?_
  refine q_putnF (κ := 105) (k := 0) (φ := 250) (pc' := 12) C Bh1 Oh1.1 fl_X4_10 rfl rfl rfl hnm rfl rfl rfl rfl (gx_sN Bh1.2.2 Oh1) dX4_init_9 rfl (fun βh2 Hh2 Lh2 eh2 Bh2 => ?_)
  have Oh2 : co α a0 5 βh2 [250] [] := by rw [eh2]; exact co_sN Oh1 ⟨(Or.inl (by rw [kh1]; rfl)), by rw [kh1]; decide, by rw [kh1]; decide, nh1.1, (fun _ j => by rw [eh1]; exact nw_e)⟩
  refine lv_aload_n hx hb dX4_init_12 rfl (lv_at hl 0 rfl) (hp_n (n := 13) rfl ?_)
  refine lv_ldc hx hb hown (hts _ kc_X4_9) dX4_init_13 (hp_n (n := 15) rfl ?_)
  refine q_newa (κ := 35) (t := 0) (n := 65521) (atype := .int) (ty := .int) (dv := .int 0) (pc' := 17) C Bh2 ac_int rfl (by decide) rfl rfl (fun _ _ q => q) rfl (fun _ cA => nw_cx (by decide) cA) (by decide) (by decide +kernel) (Nat.le_of_ble_eq_true rfl) rfl (by omega) (by omega) dX4_init_15 rfl (fun q hq => gx_nw Bh2.2.2 (by decide) hq) (fun βh3 ah3 Hh3 fh3 eh3 Bh3 => ?_)
  have nh3 := gx_new Bh2.2.2 Oh2 fh3
  have Oh3 : co α a0 5 βh3 [250] [] := by rw [eh3]; exact co_nw Oh2 fh3
  have kh3 : hp_K βh3 ah3 = 35 := by rw [eh3]; exact nw_k
  refine W.widen (k := 2) (n := 131042) (by omega) (by omega) ?_
  refine q_putnF (κ := 105) (k := 1) (φ := 251) (pc' := 20) C Bh3 Oh3.1 fl_X4_16 rfl rfl rfl hnm rfl rfl rfl rfl (gx_sN Bh3.2.2 Oh3) dX4_init_17 rfl (fun βh4 Hh4 Lh4 eh4 Bh4 => ?_)
  have Oh4 : co α a0 5 βh4 [251, 250] [] := by rw [eh4]; exact co_sN Oh3 ⟨(Or.inl (by rw [kh3]; rfl)), by rw [kh3]; decide, by rw [kh3]; decide, nh3.1, (fun _ j => by rw [eh3]; exact nw_e)⟩
  refine lv_aload_n hx hb dX4_init_20 rfl (lv_at hl 0 rfl) (hp_n (n := 21) rfl ?_)
  refine lv_iconst (v := 0) hx hb dX4_init_21 (by decide) (hp_n (n := 22) rfl ?_)
  refine q_puti (κ := 105) (k := 2) (φ := 252) (pc' := 25) C Bh4 Oh4.1 fl_X4_19 rfl rfl rfl rfl rfl rfl (gx_sI Bh4.2.2 (gc_i0 _)) dX4_init_22 rfl (fun βh5 Hh5 Lh5 eh5 Bh5 => ?_)
  have Oh5 : co α a0 5 βh5 [251, 250] [(252, 0)] := by rw [eh5]; exact co_sI Oh4 (by decide)
  refine lv_aload_n hx hb dX4_init_25 rfl (lv_at hl 0 rfl) (hp_n (n := 26) rfl ?_)
  refine q_new (κ := 9) (N := 5) (pc' := 29) C Bh5 cl_X4_23 it_X8 iz_X8 rfl in_9 tyX8_ok df_9 (by decide) rfl rfl rfl (by omega) (by omega) dX4_init_26 rfl (fun q hq => gx_nw Bh5.2.2 (by decide) hq) (fun βh6 ah6 Hh6 fh6 eh6 Bh6 => ?_)
  have nh6 := gx_new Bh5.2.2 Oh5 fh6
  have Oh6 : co α a0 5 βh6 [251, 250] [(252, 0)] := by rw [eh6]; exact co_nw Oh5 fh6
  have kh6 : hp_K βh6 ah6 = 109 := by rw [eh6]; exact nw_k
  have zh6 : ∀ φ, hp_I βh6 φ ah6 = 0 := fun φ => by rw [eh6]; exact nw_i
  refine W.widen (k := 3) (n := 131047) (by omega) (by omega) ?_
  refine lv_dup hx hb dX4_init_29 rfl (hp_n (n := 30) rfl ?_)
  refine q_cv (pc' := 33) Bh6 (hp_runI (As := []) (rest := [.ref ah6, .ref a0]) C Bh6 (t_X8_init Γ l βh6 Bh6.2.2.1 ah6 kh6 zh6) lb_X8_init rfl li_X8_init lk_X4_25 rfl (by decide) rfl hl.1 rfl (Nat.le_of_ble_eq_true rfl) dX4_init_30 ⟨by omega, by omega⟩) (fun q hq => gx_call Bh6.2.2 hq.1 nh6.1) rfl (fun βh7 Hh7 Lh7 ph7 Bh7 => ?_)
  have Oh7 : co α a0 5 βh7 [251, 250] [(252, 0)] := co_call Oh6 ph7.1 nh6.2 (by rw [kh6]; decide)
  have kh7 : hp_K βh7 ah6 = 9 := ph7.2.1
  refine W.widen (k := 6) (n := 131239) (by omega) (by omega) ?_
  refine q_putn (κ := 105) (k := 3) (φ := 253) (pc' := 36) C Bh7 Oh7.1 fl_X4_26 rfl rfl rfl rfl rfl rfl (gx_sN Bh7.2.2 Oh7) dX4_init_33 rfl (fun βh8 Hh8 Lh8 eh8 Bh8 => ?_)
  have Oh8 : co α a0 5 βh8 [253, 251, 250] [(252, 0)] := by rw [eh8]; exact co_sN Oh7 ⟨(Or.inl (by rw [kh7]; rfl)), by rw [kh7]; decide, by rw [kh7]; decide, nh6.1, (by rw [kh7]; intro q; exact absurd q (by decide))⟩
  refine lv_aload_n hx hb dX4_init_36 rfl (lv_at hl 0 rfl) (hp_n (n := 37) rfl ?_)
  refine q_new (κ := 6) (N := 2) (pc' := 40) C Bh8 cl_X4_30 it_X5 iz_X5 rfl in_6 tyX5_ok df_6 (by decide) rfl rfl rfl (by omega) (by omega) dX4_init_37 rfl (fun q hq => gx_nw Bh8.2.2 (by decide) hq) (fun βh9 ah9 Hh9 fh9 eh9 Bh9 => ?_)
  have nh9 := gx_new Bh8.2.2 Oh8 fh9
  have Oh9 : co α a0 5 βh9 [253, 251, 250] [(252, 0)] := by rw [eh9]; exact co_nw Oh8 fh9
  have kh9 : hp_K βh9 ah9 = 106 := by rw [eh9]; exact nw_k
  have zh9 : ∀ φ, hp_I βh9 φ ah9 = 0 := fun φ => by rw [eh9]; exact nw_i
  refine W.widen (k := 7) (n := 131241) (by omega) (by omega) ?_
  refine lv_dup hx hb dX4_init_40 rfl (hp_n (n := 41) rfl ?_)
  refine q_cv (pc' := 44) Bh9 (hp_runI (As := []) (rest := [.ref ah9, .ref a0]) C Bh9 (t_X5_init Γ l βh9 Bh9.2.2.1 ah9 kh9 zh9) lb_X5_init rfl li_X5_init lk_X4_32 rfl (by decide) rfl hl.1 rfl (Nat.le_of_ble_eq_true rfl) dX4_init_41 ⟨by omega, by omega⟩) (fun q hq => gx_call Bh9.2.2 hq.1 nh9.1) rfl (fun βh10 Hh10 Lh10 ph10 Bh10 => ?_)
  have Oh10 : co α a0 5 βh10 [253, 251, 250] [(252, 0)] := co_call Oh9 ph10.1 nh9.2 (by rw [kh9]; decide)
  have kh10 : hp_K βh10 ah9 = 6 := ph10.2.1
  refine W.widen (k := 8) (n := 131305) (by omega) (by omega) ?_
  refine q_putn (κ := 105) (k := 4) (φ := 254) (pc' := 47) C Bh10 Oh10.1 fl_X4_33 rfl rfl rfl rfl rfl rfl (gx_sN Bh10.2.2 Oh10) dX4_init_44 rfl (fun βh11 Hh11 Lh11 eh11 Bh11 => ?_)
  have Oh11 : co α a0 5 βh11 [254, 253, 251, 250] [(252, 0)] := by rw [eh11]; exact co_sN Oh10 ⟨(Or.inl (by rw [kh10]; rfl)), by rw [kh10]; decide, by rw [kh10]; decide, nh9.1, (by rw [kh10]; intro q; exact absurd q (by decide))⟩
  refine lv_aload_n hx hb dX4_init_47 rfl (lv_at hl 0 rfl) (hp_n (n := 48) rfl ?_)
  refine lv_iconst (v := 0) hx hb dX4_init_48 (by decide) (hp_n (n := 49) rfl ?_)
  refine q_puti (κ := 105) (k := 5) (φ := 255) (pc' := 52) C Bh11 Oh11.1 fl_X4_37 rfl rfl rfl rfl rfl rfl (gx_sI Bh11.2.2 (gc_i0 _)) dX4_init_49 rfl (fun βh12 Hh12 Lh12 eh12 Bh12 => ?_)
  have Oh12 : co α a0 5 βh12 [254, 253, 251, 250] [(255, 0), (252, 0)] := by rw [eh12]; exact co_sI Oh11 (by decide)
  refine lv_aload_n hx hb dX4_init_52 rfl (lv_at hl 0 rfl) (hp_n (n := 53) rfl ?_)
  refine lv_iconst (v := (-1)) hx hb dX4_init_53 (by decide) (hp_n (n := 54) rfl ?_)
  refine q_puti (κ := 105) (k := 6) (φ := 256) (pc' := 57) C Bh12 Oh12.1 fl_X4_40 rfl rfl rfl rfl rfl rfl (gx_sI Bh12.2.2 (fun q => absurd q (by decide))) dX4_init_54 rfl (fun βh13 Hh13 Lh13 eh13 Bh13 => ?_)
  have Oh13 : co α a0 5 βh13 [254, 253, 251, 250] [(256, (-1)), (255, 0), (252, 0)] := by rw [eh13]; exact co_sI Oh12 (by decide)
  refine lv_aload_n hx hb dX4_init_57 rfl (lv_at hl 0 rfl) (hp_n (n := 58) rfl ?_)
  refine lv_iconst (v := 0) hx hb dX4_init_58 (by decide) (hp_n (n := 59) rfl ?_)
  refine q_puti (κ := 105) (k := 7) (φ := 257) (pc' := 62) C Bh13 Oh13.1 fl_X4_43 rfl rfl rfl rfl rfl rfl (gx_sI Bh13.2.2 (gc_i0 _)) dX4_init_59 rfl (fun βh14 Hh14 Lh14 eh14 Bh14 => ?_)
  have Oh14 : co α a0 5 βh14 [254, 253, 251, 250] [(257, 0), (256, (-1)), (255, 0), (252, 0)] := by rw [eh14]; exact co_sI Oh13 (by decide)
  refine lv_aload_n hx hb dX4_init_62 rfl (lv_at hl 0 rfl) (hp_n (n := 63) rfl ?_)
  refine lv_iconst (v := (-1)) hx hb dX4_init_63 (by decide) (hp_n (n := 64) rfl ?_)
  refine q_puti (κ := 105) (k := 8) (φ := 258) (pc' := 67) C Bh14 Oh14.1 fl_X4_46 rfl rfl rfl rfl rfl rfl (gx_sI Bh14.2.2 (fun q => absurd q (by decide))) dX4_init_64 rfl (fun βh15 Hh15 Lh15 eh15 Bh15 => ?_)
  have Oh15 : co α a0 5 βh15 [254, 253, 251, 250] [(258, (-1)), (257, 0), (256, (-1)), (255, 0), (252, 0)] := by rw [eh15]; exact co_sI Oh14 (by decide)
  refine lv_aload_n hx hb dX4_init_67 rfl (lv_at hl 0 rfl) (hp_n (n := 68) rfl ?_)
  refine lv_iconst (v := 0) hx hb dX4_init_68 (by decide) (hp_n (n := 69) rfl ?_)
  refine q_puti (κ := 105) (k := 9) (φ := 259) (pc' := 72) C Bh15 Oh15.1 fl_X4_49 rfl rfl rfl rfl rfl rfl (gx_sI Bh15.2.2 (gc_i0 _)) dX4_init_69 rfl (fun βh16 Hh16 Lh16 eh16 Bh16 => ?_)
  have Oh16 : co α a0 5 βh16 [254, 253, 251, 250] [(259, 0), (258, (-1)), (257, 0), (256, (-1)), (255, 0), (252, 0)] := by rw [eh16]; exact co_sI Oh15 (by decide)
  refine lv_aload_n hx hb dX4_init_72 rfl (lv_at hl 0 rfl) (hp_n (n := 73) rfl ?_)
  refine lv_iconst (v := 0) hx hb dX4_init_73 (by decide) (hp_n (n := 74) rfl ?_)
  refine q_puti (κ := 105) (k := 10) (φ := 260) (pc' := 77) C Bh16 Oh16.1 fl_X4_52 rfl rfl rfl rfl rfl rfl (gx_sI Bh16.2.2 (gc_i0 _)) dX4_init_74 rfl (fun βh17 Hh17 Lh17 eh17 Bh17 => ?_)
  have Oh17 : co α a0 5 βh17 [254, 253, 251, 250] [(260, 0), (259, 0), (258, (-1)), (257, 0), (256, (-1)), (255, 0), (252, 0)] := by rw [eh17]; exact co_sI Oh16 (by decide)
  obtain ⟨Bh18, kh18, fh18, -⟩ := co_fin Bh17 Oh17 (by decide) (by decide) (by decide) (fun q => absurd q (by decide))
  refine W.widen (k := 8) (n := 131305) (by omega) (by omega) ?_
  exact q_vret C Bh18 hr hlk ⟨Bh18.2.2, kh18, fh18⟩ dX4_init_77
end JN7_2
section JN7_3
abbrev w_X11_preparedRoots_S : cw_W := ([252], [], [34, 35], [])
set_option maxRecDepth 100000 in
set_option maxHeartbeats 4000000 in
theorem t_X11_preparedRoots_S (Γ : hp_G) (l : Launch) (α : hp_T) (g : GC α) (a0 : Nat) (k0 : hp_K α a0 = 12) (b0 : Nat) (hN : hp_N α 618 a0 = some b0) : Met l yX11_preparedRoots (hp_ws yX11_preparedRoots cX11_preparedRoots 1 (some (.object "ProvenRecord$Roots"))) (hp_rm 3 0 0) (hp_Pc Γ α [.ref a0]) (hp_Qq Γ (fun r β => cw w_X11_preparedRoots_S α β ∧ r = some b0)) 0 0 (hp_A Γ) := by
  refine hp_start (by decide) ?_
  intro p e s m below meth c C hr hlk B0 hnm
  have C : hp_C Γ p m c cX11_preparedRoots 1 s ([.ref a0] : List Value).toArray RX11 := C
  have hx := C.1.1
  have hb := C.1.2.1
  have hown := C.1.2.2.2.1
  have hts := C.1.2.2.2.2
  have B : hp_B Γ (cw w_X11_preparedRoots_S) s α α s.heap [] := ⟨B0.1, B0.2.1, cw_rf g⟩
  have kb0 : hp_K α b0 = 5 := g.2.2.1 a0 b0 k0 hN
  have hl := lv_entry ([.ref a0]) (n := 1) (Nat.le_of_ble_eq_true rfl)
  show W p l e (hp_rm 3 0 0) s m ([.ref a0] : List Value).toArray below meth c s.heap [] 0 0 (MQ below (hp_Qq Γ (fun r β => cw w_X11_preparedRoots_S α β ∧ r = some b0)) ([.ref a0] : List Value).toArray s 0 0 (hp_A Γ)) (entryFrame m ([.ref a0] : List Value).toArray 1)
  rw [lg_entry_eq]
  generalize (lg_sl ([.ref a0]) ++ List.replicate (1 - (lg_sl ([.ref a0])).length) Slot.unset).toArray = ls at hl ⊢
  have hl : lv_has ls 1 [(0, .ref a0)] := hl
  refine lv_aload_n hx hb dX11_preparedRoots_0 rfl (lv_at hl 0 rfl) (hp_n (n := 1) rfl ?_)
  refine q_get (v := va_rf (some b0)) (κ := 12) (k := 18) (pc' := 4) C B (cw_k B.2.2 k0) fl_X11_90 rfl rfl (by show va_rf (hp_N α 618 a0) = _; rw [B.2.2.2.2.1, hN]) dX11_preparedRoots_1 rfl ?_
  refine lv_ifnonnull (tgt := 18) hx hb dX11_preparedRoots_4 (by decide) ?_
  refine lv_aload_n hx hb dX11_preparedRoots_18 rfl (lv_at hl 0 rfl) (hp_n (n := 19) rfl ?_)
  refine q_get (v := va_rf (some b0)) (κ := 12) (k := 18) (pc' := 22) C B (cw_k B.2.2 k0) fl_X11_90 rfl rfl (by show va_rf (hp_N α 618 a0) = _; rw [B.2.2.2.2.1, hN]) dX11_preparedRoots_19 rfl ?_
  refine lv_aload_n hx hb dX11_preparedRoots_22 rfl (lv_at hl 0 rfl) (hp_n (n := 23) rfl ?_)
  refine q_getr (κ := 12) (k := 1) (φ := 601) (pc' := 26) C B (cw_k B.2.2 k0) fl_X11_16 rfl rfl rfl (cw_r B.2.2 k0 rfl rfl (by decide) (by decide)) dX11_preparedRoots_23 rfl (fun b_3 eb_3 kb_3 => ?_)
  refine q_geti (κ := 11) (k := 0) (φ := 550) (pc' := 29) C B (cw_k B.2.2 kb_3) fl_X11_122 rfl rfl rfl dX11_preparedRoots_26 rfl (fun x_4 ex_4 => ?_)
  refine q_cv (pc' := 32) B (hp_runV (As := [.int x_4]) (rest := []) C B (t_X4_prepare Γ l α B.2.2.1 b0 (cw_k B.2.2 kb0) x_4) lb_X4_prepare lv_X4_prepare lk_X11_475 (cw_k B.2.2 kb0) rfl (by decide) rfl hl.1 rfl (Nat.le_of_ble_eq_true rfl) dX11_preparedRoots_29 ⟨Nat.le_refl _, Nat.le_refl _⟩) (fun _ h => cw_tr B.2.2 h (by decide)) rfl (fun αh_5 Hh_5 Lh_5 ph_5 Bh_5 => ?_)
  refine lv_aload_n hx hb dX11_preparedRoots_32 rfl (lv_at hl 0 rfl) (hp_n (n := 33) rfl ?_)
  refine q_get (v := va_rf (some b0)) (κ := 12) (k := 18) (pc' := 36) C Bh_5 (cw_k Bh_5.2.2 k0) fl_X11_90 rfl rfl (by show va_rf (hp_N αh_5 618 a0) = _; rw [Bh_5.2.2.2.2.1, hN]) dX11_preparedRoots_33 rfl ?_
  exact q_aret (x := (some b0)) C Bh_5 hr hlk ⟨Bh_5.2.2, rfl⟩ dX11_preparedRoots_36
abbrev w_X11_weak_S : cw_W := ([252, 255, 256, 258, 259, 260, 301, 453, 454, 600], [253, 254], [20, 21, 22, 23, 33, 34, 35], [])
set_option maxRecDepth 100000 in
set_option maxHeartbeats 4000000 in
theorem t_X11_weak_S (Γ : hp_G) (l : Launch) (α : hp_T) (g : GC α) (a0 : Nat) (k0 : hp_K α a0 = 12) (a1 : Int32) (a2 : Int32) (a3 : Int32) (a4 : Int32) (b0 : Nat) (hN : hp_N α 618 a0 = some b0) : Met l yX11_weak (hp_ws yX11_weak cX11_weak 8 (some .int)) (hp_rm 72 0 0) (hp_Pc Γ α [.ref a0, .int a1, .int a2, .int a3, .int a4]) (hp_Qi Γ (fun r β => cw w_X11_weak_S α β)) 0 0 (hp_A Γ) := by
  refine hp_start (by decide) ?_
  intro p e s m below meth c C hr hlk B0 hnm
  have C : hp_C Γ p m c cX11_weak 8 s ([.ref a0, .int a1, .int a2, .int a3, .int a4] : List Value).toArray RX11 := C
  have hx := C.1.1
  have hb := C.1.2.1
  have hown := C.1.2.2.2.1
  have hts := C.1.2.2.2.2
  have B : hp_B Γ (cw w_X11_weak_S) s α α s.heap [] := ⟨B0.1, B0.2.1, cw_rf g⟩
  have kb0 : hp_K α b0 = 5 := g.2.2.1 a0 b0 k0 hN
  have lit0 : (0 : Int32).toInt = 0 := by decide
  have lit1 : (1 : Int32).toInt = 1 := by decide
  have lit5 : (5 : Int32).toInt = 5 := by decide
  have hl := lv_entry ([.ref a0, .int a1, .int a2, .int a3, .int a4]) (n := 8) (Nat.le_of_ble_eq_true rfl)
  show W p l e (hp_rm 72 0 0) s m ([.ref a0, .int a1, .int a2, .int a3, .int a4] : List Value).toArray below meth c s.heap [] 0 0 (MQ below (hp_Qi Γ (fun r β => cw w_X11_weak_S α β)) ([.ref a0, .int a1, .int a2, .int a3, .int a4] : List Value).toArray s 0 0 (hp_A Γ)) (entryFrame m ([.ref a0, .int a1, .int a2, .int a3, .int a4] : List Value).toArray 8)
  rw [lg_entry_eq]
  generalize (lg_sl ([.ref a0, .int a1, .int a2, .int a3, .int a4]) ++ List.replicate (8 - (lg_sl ([.ref a0, .int a1, .int a2, .int a3, .int a4])).length) Slot.unset).toArray = ls at hl ⊢
  have hl : lv_has ls 8 [(0, .ref a0), (1, .int a1), (2, .int a2), (3, .int a3), (4, .int a4)] := hl
  refine lv_iload hx hb dX11_weak_0 (lv_at hl 4 rfl) (hp_n (n := 2) rfl ?_)
  have J11 : ∀ (Hh_1 : Heap) (Lh_1 : List Loc) (Bh_1 : hp_B Γ (cw w_X11_weak_S) s α α Hh_1 Lh_1) (ls : Array Slot) (hl : lv_has ls 8 [(0, .ref a0)]), W p l e (hp_rm 72 0 0) s m ([.ref a0, .int a1, .int a2, .int a3, .int a4] : List Value).toArray below meth c Hh_1 Lh_1 0 0 (MQ below (hp_Qi Γ (fun r β => cw w_X11_weak_S α β)) ([.ref a0, .int a1, .int a2, .int a3, .int a4] : List Value).toArray s 0 0 (hp_A Γ)) (F0 m 11 ls []) := by
    intro Hh_1 Lh_1 Bh_1 ls hl
    refine lv_aload_n hx hb dX11_weak_11 rfl (lv_at hl 0 rfl) (hp_n (n := 12) rfl ?_)
    refine lv_iconst (v := 1) hx hb dX11_weak_12 (by decide) (hp_n (n := 13) rfl ?_)
    refine q_ci (pc' := 16) Bh_1 (hp_runV (As := [.int 1]) (rest := []) C Bh_1 (t_X11_refuse Γ l α Bh_1.2.2.1 a0 (cw_k Bh_1.2.2 k0) 1) lb_X11_refuse lv_X11_refuse lk_X11_98 (cw_k Bh_1.2.2 k0) rfl (by decide) rfl hl.1 rfl (Nat.le_of_ble_eq_true rfl) dX11_weak_13 ⟨Nat.le_refl _, Nat.le_refl _⟩) (fun _ _ h => cw_tr Bh_1.2.2 h (by decide)) rfl (fun rh_2 αh_2 Hh_2 Lh_2 ph_2 Bh_2 => ?_)
    exact q_iret C Bh_2 hr hlk Bh_2.2.2 dX11_weak_16
  refine lv_if_lt (tgt := 11) hx hb dX11_weak_2 (by decide) (fun c_3 => ?_) (fun c_3 => hp_n (n := 5) rfl ?_)
  ·
    have jc_3 := il_lt c_3
    exact J11 s.heap [] B ls (lv_sub hl [0] rfl)
  ·
    have jc_3 := il_nlt c_3
    refine lv_iload hx hb dX11_weak_5 (lv_at hl 4 rfl) (hp_n (n := 7) rfl ?_)
    refine lv_iconst (v := 1) hx hb dX11_weak_7 (by decide) (hp_n (n := 8) rfl ?_)
    refine lv_icmp_le (tgt := 17) hx hb dX11_weak_8 (by decide) (fun c_4 => ?_) (fun c_4 => hp_n (n := 11) rfl ?_)
    ·
      have jc_4 := il_le c_4
      refine lv_aload_n hx hb dX11_weak_17 rfl (lv_at hl 0 rfl) (hp_n (n := 18) rfl ?_)
      refine q_getr (κ := 12) (k := 1) (φ := 601) (pc' := 21) C B (cw_k B.2.2 k0) fl_X11_16 rfl rfl rfl (cw_r B.2.2 k0 rfl rfl (by decide) (by decide)) dX11_weak_18 rfl (fun b_5 eb_5 kb_5 => ?_)
      refine lv_iload_n hx hb dX11_weak_21 rfl (lv_at hl 1 rfl) (hp_n (n := 22) rfl ?_)
      refine q_cq (pc' := 25) B (hp_runV (As := [.int a1]) (rest := []) C B (t_X10_logAt Γ l α B.2.2.1 b_5 (cw_k B.2.2 kb_5) a1) lb_X10_logAt lv_X10_logAt lk_X11_163 (cw_k B.2.2 kb_5) rfl (by decide) rfl hl.1 rfl (Nat.le_of_ble_eq_true rfl) dX11_weak_22 ⟨Nat.le_refl _, Nat.le_refl _⟩) (fun _ _ h => by rw [h.1]; exact B.2.2) rfl (fun rh_6 αh_6 Hh_6 Lh_6 ph_6 Bh_6 => ?_)
      rw [ph_6.1] at Bh_6
      rcases rh_6 with _ | bh_6
      ·
        refine lv_astoreN (lv' := [(5, .null), (0, .ref a0), (1, .int a1), (2, .int a2), (3, .int a3), (4, .int a4)]) hx hb dX11_weak_25 hl (by decide) rfl (fun ls hl => hp_n (n := 27) rfl ?_)
        refine lv_aloadN hx hb dX11_weak_27 (lv_at hl 0 rfl) (hp_n (n := 29) rfl ?_)
        refine lv_iload_n hx hb dX11_weak_29 rfl (lv_at hl 3 rfl) (hp_n (n := 30) rfl ?_)
        refine lv_iload_n hx hb dX11_weak_30 rfl (lv_at hl 4 rfl) (hp_n (n := 31) rfl ?_)
        refine q_ci (pc' := 34) Bh_6 (hp_runS (As := [va_rf none, .int a2, .int a3]) (rest := []) C Bh_6 (t_X11_wrongInclusion Γ l α Bh_6.2.2.1 none (fun b h => by cases h) a2 a3) lb_X11_wrongInclusion ls_X11_wrongInclusion lk_X11_264 rfl (by decide) rfl hl.1 rfl (Nat.le_of_ble_eq_true rfl) dX11_weak_31 ⟨Nat.le_refl _, Nat.le_refl _⟩) (fun _ _ h => by rw [h]; exact Bh_6.2.2) rfl (fun rh_7 αh_7 Hh_7 Lh_7 ph_7 Bh_7 => ?_)
        rw [ph_7] at Bh_7
        refine lv_istore (lv' := [(6, .int rh_7), (5, .null), (0, .ref a0), (1, .int a1), (2, .int a2), (3, .int a3), (4, .int a4)]) hx hb dX11_weak_34 hl (by decide) rfl (fun ls hl => hp_n (n := 36) rfl ?_)
        refine lv_iload hx hb dX11_weak_36 (lv_at hl 0 rfl) (hp_n (n := 38) rfl ?_)
        have J46 : ∀ (Hh_8 : Heap) (Lh_8 : List Loc) (Bh_8 : hp_B Γ (cw w_X11_weak_S) s α α Hh_8 Lh_8) (ls : Array Slot) (hl : lv_has ls 8 [(0, .ref a0), (6, .int rh_7)]), W p l e (hp_rm 72 0 0) s m ([.ref a0, .int a1, .int a2, .int a3, .int a4] : List Value).toArray below meth c Hh_8 Lh_8 0 0 (MQ below (hp_Qi Γ (fun r β => cw w_X11_weak_S α β)) ([.ref a0, .int a1, .int a2, .int a3, .int a4] : List Value).toArray s 0 0 (hp_A Γ)) (F0 m 46 ls []) := by
          intro Hh_8 Lh_8 Bh_8 ls hl
          refine lv_aload_n hx hb dX11_weak_46 rfl (lv_at hl 0 rfl) (hp_n (n := 47) rfl ?_)
          refine lv_iload hx hb dX11_weak_47 (lv_at hl 1 rfl) (hp_n (n := 49) rfl ?_)
          refine q_ci (pc' := 52) Bh_8 (hp_runV (As := [.int rh_7]) (rest := []) C Bh_8 (t_X11_refuse Γ l α Bh_8.2.2.1 a0 (cw_k Bh_8.2.2 k0) rh_7) lb_X11_refuse lv_X11_refuse lk_X11_98 (cw_k Bh_8.2.2 k0) rfl (by decide) rfl hl.1 rfl (Nat.le_of_ble_eq_true rfl) dX11_weak_49 ⟨Nat.le_refl _, Nat.le_refl _⟩) (fun _ _ h => cw_tr Bh_8.2.2 h (by decide)) rfl (fun rh_9 αh_9 Hh_9 Lh_9 ph_9 Bh_9 => ?_)
          exact q_iret C Bh_9 hr hlk Bh_9.2.2 dX11_weak_52
        refine lv_if_ne (tgt := 46) hx hb dX11_weak_38 (by decide) (fun c_10 => ?_) (fun c_10 => hp_n (n := 41) rfl ?_)
        ·
          have jc_10 := il_ne c_10
          exact J46 Hh_7 Lh_7 Bh_7 ls (lv_sub hl [2, 0] rfl)
        ·
          have jc_10 := il_eq c_10
          refine lv_aloadN hx hb dX11_weak_41 (lv_at hl 1 rfl) (hp_n (n := 43) rfl ?_)
          refine lv_ifnonnullN hx hb dX11_weak_43 (hp_n (n := 46) rfl ?_)
          exact J46 Hh_7 Lh_7 Bh_7 ls (lv_sub hl [2, 0] rfl)
      ·
        have kbh_6 : hp_K α bh_6 = 3 := cw_k' Bh_6.2.2 (ph_6.2 bh_6 rfl)
        refine lv_astore (lv' := [(5, .ref bh_6), (0, .ref a0), (1, .int a1), (2, .int a2), (3, .int a3), (4, .int a4)]) hx hb dX11_weak_25 hl (by decide) rfl (fun ls hl => hp_n (n := 27) rfl ?_)
        refine lv_aload hx hb dX11_weak_27 (lv_at hl 0 rfl) (hp_n (n := 29) rfl ?_)
        refine lv_iload_n hx hb dX11_weak_29 rfl (lv_at hl 3 rfl) (hp_n (n := 30) rfl ?_)
        refine lv_iload_n hx hb dX11_weak_30 rfl (lv_at hl 4 rfl) (hp_n (n := 31) rfl ?_)
        refine q_ci (pc' := 34) Bh_6 (hp_runS (As := [va_rf (some bh_6), .int a2, .int a3]) (rest := []) C Bh_6 (t_X11_wrongInclusion Γ l α Bh_6.2.2.1 (some bh_6) (fun b h => by cases h; exact (cw_k Bh_6.2.2 kbh_6)) a2 a3) lb_X11_wrongInclusion ls_X11_wrongInclusion lk_X11_264 rfl (by decide) rfl hl.1 rfl (Nat.le_of_ble_eq_true rfl) dX11_weak_31 ⟨Nat.le_refl _, Nat.le_refl _⟩) (fun _ _ h => by rw [h]; exact Bh_6.2.2) rfl (fun rh_11 αh_11 Hh_11 Lh_11 ph_11 Bh_11 => ?_)
        rw [ph_11] at Bh_11
        refine lv_istore (lv' := [(6, .int rh_11), (5, .ref bh_6), (0, .ref a0), (1, .int a1), (2, .int a2), (3, .int a3), (4, .int a4)]) hx hb dX11_weak_34 hl (by decide) rfl (fun ls hl => hp_n (n := 36) rfl ?_)
        refine lv_iload hx hb dX11_weak_36 (lv_at hl 0 rfl) (hp_n (n := 38) rfl ?_)
        have J46 : ∀ (Hh_12 : Heap) (Lh_12 : List Loc) (Bh_12 : hp_B Γ (cw w_X11_weak_S) s α α Hh_12 Lh_12) (ls : Array Slot) (hl : lv_has ls 8 [(0, .ref a0), (6, .int rh_11)]), W p l e (hp_rm 72 0 0) s m ([.ref a0, .int a1, .int a2, .int a3, .int a4] : List Value).toArray below meth c Hh_12 Lh_12 0 0 (MQ below (hp_Qi Γ (fun r β => cw w_X11_weak_S α β)) ([.ref a0, .int a1, .int a2, .int a3, .int a4] : List Value).toArray s 0 0 (hp_A Γ)) (F0 m 46 ls []) := by
          intro Hh_12 Lh_12 Bh_12 ls hl
          refine lv_aload_n hx hb dX11_weak_46 rfl (lv_at hl 0 rfl) (hp_n (n := 47) rfl ?_)
          refine lv_iload hx hb dX11_weak_47 (lv_at hl 1 rfl) (hp_n (n := 49) rfl ?_)
          refine q_ci (pc' := 52) Bh_12 (hp_runV (As := [.int rh_11]) (rest := []) C Bh_12 (t_X11_refuse Γ l α Bh_12.2.2.1 a0 (cw_k Bh_12.2.2 k0) rh_11) lb_X11_refuse lv_X11_refuse lk_X11_98 (cw_k Bh_12.2.2 k0) rfl (by decide) rfl hl.1 rfl (Nat.le_of_ble_eq_true rfl) dX11_weak_49 ⟨Nat.le_refl _, Nat.le_refl _⟩) (fun _ _ h => cw_tr Bh_12.2.2 h (by decide)) rfl (fun rh_13 αh_13 Hh_13 Lh_13 ph_13 Bh_13 => ?_)
          exact q_iret C Bh_13 hr hlk Bh_13.2.2 dX11_weak_52
        refine lv_if_ne (tgt := 46) hx hb dX11_weak_38 (by decide) (fun c_14 => ?_) (fun c_14 => hp_n (n := 41) rfl ?_)
        ·
          have jc_14 := il_ne c_14
          exact J46 Hh_11 Lh_11 Bh_11 ls (lv_sub hl [2, 0] rfl)
        ·
          have jc_14 := il_eq c_14
          refine lv_aload hx hb dX11_weak_41 (lv_at hl 1 rfl) (hp_n (n := 43) rfl ?_)
          refine lv_ifnonnull (tgt := 53) hx hb dX11_weak_43 (by decide) ?_
          refine lv_aload_n hx hb dX11_weak_53 rfl (lv_at hl 2 rfl) (hp_n (n := 54) rfl ?_)
          refine q_getr (κ := 12) (k := 12) (φ := 612) (pc' := 57) C Bh_11 (cw_k Bh_11.2.2 k0) fl_X11_62 rfl rfl rfl (cw_r Bh_11.2.2 k0 rfl rfl (by decide) (by decide)) dX11_weak_54 rfl (fun b_15 eb_15 kb_15 => ?_)
          refine lv_iload_n hx hb dX11_weak_57 rfl (lv_at hl 4 rfl) (hp_n (n := 58) rfl ?_)
          refine lv_iload_n hx hb dX11_weak_58 rfl (lv_at hl 5 rfl) (hp_n (n := 59) rfl ?_)
          refine q_cv (pc' := 62) Bh_11 (hp_runV (As := [.int a2, .int a3]) (rest := []) C Bh_11 (t_X8_toThing Γ l α Bh_11.2.2.1 b_15 (cw_k Bh_11.2.2 kb_15) a2 a3) lb_X8_toThing lv_X8_toThing lk_X11_267 (cw_k Bh_11.2.2 kb_15) rfl (by decide) rfl hl.1 rfl (Nat.le_of_ble_eq_true rfl) dX11_weak_59 ⟨Nat.le_refl _, Nat.le_refl _⟩) (fun _ h => cw_tr Bh_11.2.2 h (by decide)) rfl (fun αh_16 Hh_16 Lh_16 ph_16 Bh_16 => ?_)
          refine lv_aload_n hx hb dX11_weak_62 rfl (lv_at hl 2 rfl) (hp_n (n := 63) rfl ?_)
          have t_17 : b_5 = hp_R αh_16 601 a0 := by rw [cw_R ph_16 a0 (by decide)]; exact eb_5
          refine q_gets (κ := 12) (k := 1) (φ := 601) (pc' := 66) C Bh_16 (cw_k Bh_16.2.2 k0) fl_X11_16 rfl rfl rfl t_17 dX11_weak_63 rfl ?_
          refine lv_aload_n hx hb dX11_weak_66 rfl (lv_at hl 2 rfl) (hp_n (n := 67) rfl ?_)
          have t_18 : b_15 = hp_R αh_16 612 a0 := by rw [cw_R ph_16 a0 (by decide)]; exact eb_15
          refine q_gets (κ := 12) (k := 12) (φ := 612) (pc' := 70) C Bh_16 (cw_k Bh_16.2.2 k0) fl_X11_62 rfl rfl rfl t_18 dX11_weak_67 rfl ?_
          refine lv_aload hx hb dX11_weak_70 (lv_at hl 1 rfl) (hp_n (n := 72) rfl ?_)
          refine lv_aload_n hx hb dX11_weak_72 rfl (lv_at hl 2 rfl) (hp_n (n := 73) rfl ?_)
          refine q_getr (κ := 12) (k := 14) (φ := 614) (pc' := 76) C Bh_16 (cw_k Bh_16.2.2 k0) fl_X11_69 rfl rfl rfl (cw_r Bh_16.2.2 k0 rfl rfl (by decide) (by decide)) dX11_weak_73 rfl (fun b_19 eb_19 kb_19 => ?_)
          refine q_cv (pc' := 79) Bh_16 (hp_runV (As := [.ref b_15, va_rf (some bh_6), .ref b_19]) (rest := []) C Bh_16 (t_X10_marksAlong Γ l αh_16 Bh_16.2.2.1 b_5 (cw_k Bh_16.2.2 kb_5) b_15 (cw_k Bh_16.2.2 kb_15) (some bh_6) (fun b h => by cases h; exact (cw_k Bh_16.2.2 kbh_6)) b_19 (cw_k Bh_16.2.2 kb_19)) lb_X10_marksAlong lv_X10_marksAlong lk_X11_270 (cw_k Bh_16.2.2 kb_5) rfl (by decide) rfl hl.1 rfl (Nat.le_of_ble_eq_true rfl) dX11_weak_76 ⟨Nat.le_refl _, Nat.le_refl _⟩) (fun _ h => cw_tr Bh_16.2.2 h (by decide)) rfl (fun αh_20 Hh_20 Lh_20 ph_20 Bh_20 => ?_)
          refine lv_aload_n hx hb dX11_weak_79 rfl (lv_at hl 2 rfl) (hp_n (n := 80) rfl ?_)
          refine q_cq (pc' := 83) Bh_20 (hp_runV (As := []) (rest := []) C Bh_20 (t_X11_preparedRoots_S Γ l αh_20 Bh_20.2.2.1 a0 (cw_k Bh_20.2.2 k0) b0 (by rw [Bh_20.2.2.2.2.1, hN])) lb_X11_preparedRoots lv_X11_preparedRoots lk_X11_363 (cw_k Bh_20.2.2 k0) rfl (by decide) rfl hl.1 rfl (Nat.le_of_ble_eq_true rfl) dX11_weak_80 ⟨Nat.le_refl _, Nat.le_refl _⟩) (fun _ _ h => cw_tr Bh_20.2.2 h.1 (by decide)) rfl (fun rh_21 αh_21 Hh_21 Lh_21 ph_21 Bh_21 => ?_)
          have prh_21 := ph_21.2
          subst prh_21
          refine lv_astore (lv' := [(7, .ref b0), (6, .int rh_11), (5, .ref bh_6), (0, .ref a0), (1, .int a1), (2, .int a2), (3, .int a3), (4, .int a4)]) hx hb dX11_weak_83 hl (by decide) rfl (fun ls hl => hp_n (n := 85) rfl ?_)
          refine lv_aload hx hb dX11_weak_85 (lv_at hl 0 rfl) (hp_n (n := 87) rfl ?_)
          refine lv_aload_n hx hb dX11_weak_87 rfl (lv_at hl 3 rfl) (hp_n (n := 88) rfl ?_)
          have t_22 : b_15 = hp_R αh_20 612 a0 := by rw [cw_R ph_20 a0 (by decide)]; exact t_18
          have t_23 : b_15 = hp_R αh_21 612 a0 := by rw [cw_R ph_21.1 a0 (by decide)]; exact t_22
          refine q_gets (κ := 12) (k := 12) (φ := 612) (pc' := 91) C Bh_21 (cw_k Bh_21.2.2 k0) fl_X11_62 rfl rfl rfl t_23 dX11_weak_88 rfl ?_
          refine lv_aload_n hx hb dX11_weak_91 rfl (lv_at hl 3 rfl) (hp_n (n := 92) rfl ?_)
          have t_24 : b_19 = hp_R αh_20 614 a0 := by rw [cw_R ph_20 a0 (by decide)]; exact eb_19
          have t_25 : b_19 = hp_R αh_21 614 a0 := by rw [cw_R ph_21.1 a0 (by decide)]; exact t_24
          refine q_gets (κ := 12) (k := 14) (φ := 614) (pc' := 95) C Bh_21 (cw_k Bh_21.2.2 k0) fl_X11_69 rfl rfl rfl t_25 dX11_weak_92 rfl ?_
          refine lv_aload hx hb dX11_weak_95 (lv_at hl 2 rfl) (hp_n (n := 97) rfl ?_)
          refine lv_iload_n hx hb dX11_weak_97 rfl (lv_at hl 5 rfl) (hp_n (n := 98) rfl ?_)
          refine q_ci (pc' := 101) Bh_21 (hp_runV (As := [.int a2]) (rest := [.ref b_19, .ref b_15, .ref b0]) C Bh_21 (t_X2_markAt Γ l αh_21 Bh_21.2.2.1 bh_6 (cw_k Bh_21.2.2 kbh_6) a2) lb_X2_markAt lv_X2_markAt lk_X11_174 (cw_k Bh_21.2.2 kbh_6) rfl (by decide) rfl hl.1 rfl (Nat.le_of_ble_eq_true rfl) dX11_weak_98 ⟨Nat.le_refl _, Nat.le_refl _⟩) (fun _ _ h => by rw [h]; exact Bh_21.2.2) rfl (fun rh_26 αh_26 Hh_26 Lh_26 ph_26 Bh_26 => ?_)
          rw [ph_26] at Bh_26
          refine lv_aload_n hx hb dX11_weak_101 rfl (lv_at hl 3 rfl) (hp_n (n := 102) rfl ?_)
          have t_27 : b_5 = hp_R αh_20 601 a0 := by rw [cw_R ph_20 a0 (by decide)]; exact t_17
          have t_28 : b_5 = hp_R αh_21 601 a0 := by rw [cw_R ph_21.1 a0 (by decide)]; exact t_27
          refine q_gets (κ := 12) (k := 1) (φ := 601) (pc' := 105) C Bh_26 (cw_k Bh_26.2.2 k0) fl_X11_16 rfl rfl rfl t_28 dX11_weak_102 rfl ?_
          refine lv_aload hx hb dX11_weak_105 (lv_at hl 2 rfl) (hp_n (n := 107) rfl ?_)
          refine lv_iload_n hx hb dX11_weak_107 rfl (lv_at hl 6 rfl) (hp_n (n := 108) rfl ?_)
          refine q_ci (pc' := 111) Bh_26 (hp_runV (As := [va_rf (some bh_6), .int a3]) (rest := [.int rh_26, .ref b_19, .ref b_15, .ref b0]) C Bh_26 (t_X10_headOf Γ l αh_21 Bh_26.2.2.1 b_5 (cw_k Bh_26.2.2 kb_5) (some bh_6) (fun b h => by cases h; exact (cw_k Bh_26.2.2 kbh_6)) a3) lb_X10_headOf lv_X10_headOf lk_X11_184 (cw_k Bh_26.2.2 kb_5) rfl (by decide) rfl hl.1 rfl (Nat.le_of_ble_eq_true rfl) dX11_weak_108 ⟨Nat.le_refl _, Nat.le_refl _⟩) (fun _ _ h => cw_tr Bh_26.2.2 h (by decide)) rfl (fun rh_29 αh_29 Hh_29 Lh_29 ph_29 Bh_29 => ?_)
          refine q_cv (pc' := 114) Bh_29 (hp_runV (As := [.ref b_15, .ref b_19, .int rh_26, .int rh_29]) (rest := []) C Bh_29 (t_X4_seekThing Γ l αh_29 Bh_29.2.2.1 b0 (cw_k Bh_29.2.2 kb0) b_15 (cw_k Bh_29.2.2 kb_15) b_19 (cw_k Bh_29.2.2 kb_19) rh_26 rh_29) lb_X4_seekThing lv_X4_seekThing lk_X11_367 (cw_k Bh_29.2.2 kb0) rfl (by decide) rfl hl.1 rfl (Nat.le_of_ble_eq_true rfl) dX11_weak_111 ⟨Nat.le_refl _, Nat.le_refl _⟩) (fun _ h => cw_tr Bh_29.2.2 h (by decide)) rfl (fun αh_30 Hh_30 Lh_30 ph_30 Bh_30 => ?_)
          refine lv_iload hx hb dX11_weak_114 (lv_at hl 7 rfl) (hp_n (n := 116) rfl ?_)
          refine lv_if_ne (tgt := 129) hx hb dX11_weak_116 (by decide) (fun c_31 => ?_) (fun c_31 => hp_n (n := 119) rfl ?_)
          ·
            have jc_31 := il_ne c_31
            refine lv_aload hx hb dX11_weak_129 (lv_at hl 0 rfl) (hp_n (n := 131) rfl ?_)
            refine q_geti (κ := 5) (k := 9) (φ := 259) (pc' := 134) C Bh_30 (cw_k Bh_30.2.2 kb0) fl_X11_373 rfl rfl rfl dX11_weak_131 rfl (fun x_32 ex_32 => ?_)
            refine lv_if_ne (tgt := 145) hx hb dX11_weak_134 (by decide) (fun c_33 => ?_) (fun c_33 => hp_n (n := 137) rfl ?_)
            ·
              have jc_33 := il_ne c_33
              refine lv_aload_n hx hb dX11_weak_145 rfl (lv_at hl 3 rfl) (hp_n (n := 146) rfl ?_)
              refine lv_aload hx hb dX11_weak_146 (lv_at hl 0 rfl) (hp_n (n := 148) rfl ?_)
              refine q_geti (κ := 5) (k := 10) (φ := 260) (pc' := 151) C Bh_30 (cw_k Bh_30.2.2 kb0) fl_X11_376 rfl rfl rfl dX11_weak_148 rfl (fun x_34 ex_34 => ?_)
              refine q_ci (pc' := 154) Bh_30 (hp_runV (As := [.int x_34]) (rest := []) C Bh_30 (t_X11_answer Γ l αh_30 Bh_30.2.2.1 a0 (cw_k Bh_30.2.2 k0) x_34) lb_X11_answer lv_X11_answer lk_X11_115 (cw_k Bh_30.2.2 k0) rfl (by decide) rfl hl.1 rfl (Nat.le_of_ble_eq_true rfl) dX11_weak_151 ⟨Nat.le_refl _, Nat.le_refl _⟩) (fun _ _ h => cw_tr Bh_30.2.2 h (by decide)) rfl (fun rh_35 αh_35 Hh_35 Lh_35 ph_35 Bh_35 => ?_)
              exact q_iret C Bh_35 hr hlk Bh_35.2.2 dX11_weak_154
            ·
              have jc_33 := il_eq c_33
              refine lv_aload_n hx hb dX11_weak_137 rfl (lv_at hl 3 rfl) (hp_n (n := 138) rfl ?_)
              refine lv_iconst (v := 5) hx hb dX11_weak_138 (by decide) (hp_n (n := 139) rfl ?_)
              refine q_ci (pc' := 142) Bh_30 (hp_runV (As := [.int 5]) (rest := []) C Bh_30 (t_X11_refuse Γ l αh_30 Bh_30.2.2.1 a0 (cw_k Bh_30.2.2 k0) 5) lb_X11_refuse lv_X11_refuse lk_X11_98 (cw_k Bh_30.2.2 k0) rfl (by decide) rfl hl.1 rfl (Nat.le_of_ble_eq_true rfl) dX11_weak_139 ⟨Nat.le_refl _, Nat.le_refl _⟩) (fun _ _ h => cw_tr Bh_30.2.2 h (by decide)) rfl (fun rh_36 αh_36 Hh_36 Lh_36 ph_36 Bh_36 => ?_)
              refine lv_goto (tgt := 154) hx hb dX11_weak_142 (by decide) ?_
              exact q_iret C Bh_36 hr hlk Bh_36.2.2 dX11_weak_154
          ·
            have jc_31 := il_eq c_31
            refine lv_aload_n hx hb dX11_weak_119 rfl (lv_at hl 3 rfl) (hp_n (n := 120) rfl ?_)
            refine lv_aload hx hb dX11_weak_120 (lv_at hl 0 rfl) (hp_n (n := 122) rfl ?_)
            refine q_geti (κ := 5) (k := 9) (φ := 259) (pc' := 125) C Bh_30 (cw_k Bh_30.2.2 kb0) fl_X11_373 rfl rfl rfl dX11_weak_122 rfl (fun x_37 ex_37 => ?_)
            refine q_ci (pc' := 128) Bh_30 (hp_runV (As := [.int x_37]) (rest := []) C Bh_30 (t_X11_answer Γ l αh_30 Bh_30.2.2.1 a0 (cw_k Bh_30.2.2 k0) x_37) lb_X11_answer lv_X11_answer lk_X11_115 (cw_k Bh_30.2.2 k0) rfl (by decide) rfl hl.1 rfl (Nat.le_of_ble_eq_true rfl) dX11_weak_125 ⟨Nat.le_refl _, Nat.le_refl _⟩) (fun _ _ h => cw_tr Bh_30.2.2 h (by decide)) rfl (fun rh_38 αh_38 Hh_38 Lh_38 ph_38 Bh_38 => ?_)
            exact q_iret C Bh_38 hr hlk Bh_38.2.2 dX11_weak_128
    ·
      have jc_4 := il_nle c_4
      exact J11 s.heap [] B ls (lv_sub hl [0] rfl)
abbrev w_X11_forge_S : cw_W := ([252, 255, 256, 257, 258, 259, 260, 453, 454, 600], [253, 254], [21, 22, 23, 34, 35], [])
set_option maxRecDepth 100000 in
set_option maxHeartbeats 4000000 in
theorem t_X11_forge_S (Γ : hp_G) (l : Launch) (α : hp_T) (g : GC α) (a0 : Nat) (k0 : hp_K α a0 = 12) (a1 : Int32) (a2 : Int32) (a3 : Int32) (a4 : Int32) (a5 : Int32) (b0 : Nat) (hN : hp_N α 618 a0 = some b0) : Met l yX11_forge (hp_ws yX11_forge cX11_forge 7 (some .int)) (hp_rm 72 0 0) (hp_Pc Γ α [.ref a0, .int a1, .int a2, .int a3, .int a4, .int a5]) (hp_Qi Γ (fun r β => cw w_X11_forge_S α β)) 0 0 (hp_A Γ) := by
  refine hp_start (by decide) ?_
  intro p e s m below meth c C hr hlk B0 hnm
  have C : hp_C Γ p m c cX11_forge 7 s ([.ref a0, .int a1, .int a2, .int a3, .int a4, .int a5] : List Value).toArray RX11 := C
  have hx := C.1.1
  have hb := C.1.2.1
  have hown := C.1.2.2.2.1
  have hts := C.1.2.2.2.2
  have B : hp_B Γ (cw w_X11_forge_S) s α α s.heap [] := ⟨B0.1, B0.2.1, cw_rf g⟩
  have kb0 : hp_K α b0 = 5 := g.2.2.1 a0 b0 k0 hN
  have lit0 : (0 : Int32).toInt = 0 := by decide
  have lit1 : (1 : Int32).toInt = 1 := by decide
  have lit5 : (5 : Int32).toInt = 5 := by decide
  have hl := lv_entry ([.ref a0, .int a1, .int a2, .int a3, .int a4, .int a5]) (n := 7) (Nat.le_of_ble_eq_true rfl)
  show W p l e (hp_rm 72 0 0) s m ([.ref a0, .int a1, .int a2, .int a3, .int a4, .int a5] : List Value).toArray below meth c s.heap [] 0 0 (MQ below (hp_Qi Γ (fun r β => cw w_X11_forge_S α β)) ([.ref a0, .int a1, .int a2, .int a3, .int a4, .int a5] : List Value).toArray s 0 0 (hp_A Γ)) (entryFrame m ([.ref a0, .int a1, .int a2, .int a3, .int a4, .int a5] : List Value).toArray 7)
  rw [lg_entry_eq]
  generalize (lg_sl ([.ref a0, .int a1, .int a2, .int a3, .int a4, .int a5]) ++ List.replicate (7 - (lg_sl ([.ref a0, .int a1, .int a2, .int a3, .int a4, .int a5])).length) Slot.unset).toArray = ls at hl ⊢
  have hl : lv_has ls 7 [(0, .ref a0), (1, .int a1), (2, .int a2), (3, .int a3), (4, .int a4), (5, .int a5)] := hl
  refine lv_iload_n hx hb dX11_forge_0 rfl (lv_at hl 2 rfl) (hp_n (n := 1) rfl ?_)
  refine lv_iload_n hx hb dX11_forge_1 rfl (lv_at hl 3 rfl) (hp_n (n := 2) rfl ?_)
  refine q_ci (pc' := 5) B (hp_runS (As := [.int a2, .int a3]) (rest := []) C B (t_X11_isThing Γ l α B.2.2.1 a2 a3) lb_X11_isThing ls_X11_isThing lk_X11_301 rfl (by decide) rfl hl.1 rfl (Nat.le_of_ble_eq_true rfl) dX11_forge_2 ⟨Nat.le_refl _, Nat.le_refl _⟩) (fun _ _ h => by rw [h.1]; exact B.2.2) rfl (fun rh_1 αh_1 Hh_1 Lh_1 ph_1 Bh_1 => ?_)
  rw [ph_1.1] at Bh_1
  have zh_1 := ph_1.2
  have J30 : ∀ (Hh_2 : Heap) (Lh_2 : List Loc) (Bh_2 : hp_B Γ (cw w_X11_forge_S) s α α Hh_2 Lh_2) (ls : Array Slot) (hl : lv_has ls 7 [(0, .ref a0)]), W p l e (hp_rm 72 0 0) s m ([.ref a0, .int a1, .int a2, .int a3, .int a4, .int a5] : List Value).toArray below meth c Hh_2 Lh_2 0 0 (MQ below (hp_Qi Γ (fun r β => cw w_X11_forge_S α β)) ([.ref a0, .int a1, .int a2, .int a3, .int a4, .int a5] : List Value).toArray s 0 0 (hp_A Γ)) (F0 m 30 ls []) := by
    intro Hh_2 Lh_2 Bh_2 ls hl
    refine lv_aload_n hx hb dX11_forge_30 rfl (lv_at hl 0 rfl) (hp_n (n := 31) rfl ?_)
    refine lv_iconst (v := 1) hx hb dX11_forge_31 (by decide) (hp_n (n := 32) rfl ?_)
    refine q_ci (pc' := 35) Bh_2 (hp_runV (As := [.int 1]) (rest := []) C Bh_2 (t_X11_refuse Γ l α Bh_2.2.2.1 a0 (cw_k Bh_2.2.2 k0) 1) lb_X11_refuse lv_X11_refuse lk_X11_98 (cw_k Bh_2.2.2 k0) rfl (by decide) rfl hl.1 rfl (Nat.le_of_ble_eq_true rfl) dX11_forge_32 ⟨Nat.le_refl _, Nat.le_refl _⟩) (fun _ _ h => cw_tr Bh_2.2.2 h (by decide)) rfl (fun rh_3 αh_3 Hh_3 Lh_3 ph_3 Bh_3 => ?_)
    exact q_iret C Bh_3 hr hlk Bh_3.2.2 dX11_forge_35
  refine lv_if_eq (tgt := 30) hx hb dX11_forge_5 (by decide) (fun c_4 => ?_) (fun c_4 => hp_n (n := 8) rfl ?_)
  ·
    have jc_4 := il_eq c_4
    exact J30 Hh_1 Lh_1 Bh_1 ls (lv_sub hl [0] rfl)
  ·
    have jc_4 := il_ne c_4
    refine lv_iload hx hb dX11_forge_8 (lv_at hl 5 rfl) (hp_n (n := 10) rfl ?_)
    refine lv_if_lt (tgt := 30) hx hb dX11_forge_10 (by decide) (fun c_5 => ?_) (fun c_5 => hp_n (n := 13) rfl ?_)
    ·
      have jc_5 := il_lt c_5
      exact J30 Hh_1 Lh_1 Bh_1 ls (lv_sub hl [0] rfl)
    ·
      have jc_5 := il_nlt c_5
      refine lv_aload_n hx hb dX11_forge_13 rfl (lv_at hl 0 rfl) (hp_n (n := 14) rfl ?_)
      refine lv_iload_n hx hb dX11_forge_14 rfl (lv_at hl 1 rfl) (hp_n (n := 15) rfl ?_)
      refine q_ci (pc' := 18) Bh_1 (hp_runV (As := [.int a1]) (rest := []) C Bh_1 (t_X11_isMark Γ l α Bh_1.2.2.1 a0 (cw_k Bh_1.2.2 k0) a1) lb_X11_isMark lv_X11_isMark lk_X11_188 (cw_k Bh_1.2.2 k0) rfl (by decide) rfl hl.1 rfl (Nat.le_of_ble_eq_true rfl) dX11_forge_15 ⟨Nat.le_refl _, Nat.le_refl _⟩) (fun _ _ h => by rw [h.1]; exact Bh_1.2.2) rfl (fun rh_6 αh_6 Hh_6 Lh_6 ph_6 Bh_6 => ?_)
      rw [ph_6.1] at Bh_6
      have zh_6 := ph_6.2
      refine lv_if_eq (tgt := 30) hx hb dX11_forge_18 (by decide) (fun c_7 => ?_) (fun c_7 => hp_n (n := 21) rfl ?_)
      ·
        have jc_7 := il_eq c_7
        exact J30 Hh_6 Lh_6 Bh_6 ls (lv_sub hl [0] rfl)
      ·
        have jc_7 := il_ne c_7
        refine lv_aload_n hx hb dX11_forge_21 rfl (lv_at hl 0 rfl) (hp_n (n := 22) rfl ?_)
        refine lv_iload hx hb dX11_forge_22 (lv_at hl 4 rfl) (hp_n (n := 24) rfl ?_)
        refine q_ci (pc' := 27) Bh_6 (hp_runV (As := [.int a4]) (rest := []) C Bh_6 (t_X11_isMark Γ l α Bh_6.2.2.1 a0 (cw_k Bh_6.2.2 k0) a4) lb_X11_isMark lv_X11_isMark lk_X11_188 (cw_k Bh_6.2.2 k0) rfl (by decide) rfl hl.1 rfl (Nat.le_of_ble_eq_true rfl) dX11_forge_24 ⟨Nat.le_refl _, Nat.le_refl _⟩) (fun _ _ h => by rw [h.1]; exact Bh_6.2.2) rfl (fun rh_8 αh_8 Hh_8 Lh_8 ph_8 Bh_8 => ?_)
        rw [ph_8.1] at Bh_8
        have zh_8 := ph_8.2
        refine lv_if_ne (tgt := 36) hx hb dX11_forge_27 (by decide) (fun c_9 => ?_) (fun c_9 => hp_n (n := 30) rfl ?_)
        ·
          have jc_9 := il_ne c_9
          refine lv_aload_n hx hb dX11_forge_36 rfl (lv_at hl 0 rfl) (hp_n (n := 37) rfl ?_)
          refine q_getr (κ := 12) (k := 12) (φ := 612) (pc' := 40) C Bh_8 (cw_k Bh_8.2.2 k0) fl_X11_62 rfl rfl rfl (cw_r Bh_8.2.2 k0 rfl rfl (by decide) (by decide)) dX11_forge_37 rfl (fun b_10 eb_10 kb_10 => ?_)
          refine lv_iload_n hx hb dX11_forge_40 rfl (lv_at hl 2 rfl) (hp_n (n := 41) rfl ?_)
          refine lv_iload_n hx hb dX11_forge_41 rfl (lv_at hl 3 rfl) (hp_n (n := 42) rfl ?_)
          refine q_cv (pc' := 45) Bh_8 (hp_runV (As := [.int a2, .int a3]) (rest := []) C Bh_8 (t_X8_toThing Γ l α Bh_8.2.2.1 b_10 (cw_k Bh_8.2.2 kb_10) a2 a3) lb_X8_toThing lv_X8_toThing lk_X11_267 (cw_k Bh_8.2.2 kb_10) rfl (by decide) rfl hl.1 rfl (Nat.le_of_ble_eq_true rfl) dX11_forge_42 ⟨Nat.le_refl _, Nat.le_refl _⟩) (fun _ h => cw_tr Bh_8.2.2 h (by decide)) rfl (fun αh_11 Hh_11 Lh_11 ph_11 Bh_11 => ?_)
          refine lv_aload_n hx hb dX11_forge_45 rfl (lv_at hl 0 rfl) (hp_n (n := 46) rfl ?_)
          refine q_getr (κ := 12) (k := 3) (φ := 603) (pc' := 49) C Bh_11 (cw_k Bh_11.2.2 k0) fl_X11_26 rfl rfl rfl (cw_r Bh_11.2.2 k0 rfl rfl (by decide) (by decide)) dX11_forge_46 rfl (fun b_12 eb_12 kb_12 => ?_)
          refine q_geti (κ := 6) (k := 1) (φ := 301) (pc' := 52) C Bh_11 (cw_k Bh_11.2.2 kb_12) fl_X11_132 rfl rfl rfl dX11_forge_49 rfl (fun x_13 ex_13 => ?_)
          refine lv_aload_n hx hb dX11_forge_52 rfl (lv_at hl 0 rfl) (hp_n (n := 53) rfl ?_)
          have t_14 : b_10 = hp_R αh_11 612 a0 := by rw [cw_R ph_11 a0 (by decide)]; exact eb_10
          refine q_gets (κ := 12) (k := 12) (φ := 612) (pc' := 56) C Bh_11 (cw_k Bh_11.2.2 k0) fl_X11_62 rfl rfl rfl t_14 dX11_forge_53 rfl ?_
          refine q_geti (κ := 9) (k := 3) (φ := 453) (pc' := 59) C Bh_11 (cw_k Bh_11.2.2 kb_10) fl_X11_312 rfl rfl rfl dX11_forge_56 rfl (fun x_15 ex_15 => ?_)
          obtain ⟨gx_15a, gx_15b⟩ : 0 ≤ x_15.toInt ∧ x_15.toInt ≤ 64 := by rw [ex_15]; exact Bh_11.2.2.1.1 453 b_10 rfl
          have J74 : ∀ (Hh_16 : Heap) (Lh_16 : List Loc) (Bh_16 : hp_B Γ (cw w_X11_forge_S) s α αh_11 Hh_16 Lh_16) (ls : Array Slot) (hl : lv_has ls 7 [(0, .ref a0)]), W p l e (hp_rm 72 0 0) s m ([.ref a0, .int a1, .int a2, .int a3, .int a4, .int a5] : List Value).toArray below meth c Hh_16 Lh_16 0 0 (MQ below (hp_Qi Γ (fun r β => cw w_X11_forge_S α β)) ([.ref a0, .int a1, .int a2, .int a3, .int a4, .int a5] : List Value).toArray s 0 0 (hp_A Γ)) (F0 m 74 ls []) := by
            intro Hh_16 Lh_16 Bh_16 ls hl
            refine lv_aload_n hx hb dX11_forge_74 rfl (lv_at hl 0 rfl) (hp_n (n := 75) rfl ?_)
            refine lv_iconst (v := 5) hx hb dX11_forge_75 (by decide) (hp_n (n := 76) rfl ?_)
            refine q_ci (pc' := 79) Bh_16 (hp_runV (As := [.int 5]) (rest := []) C Bh_16 (t_X11_refuse Γ l αh_11 Bh_16.2.2.1 a0 (cw_k Bh_16.2.2 k0) 5) lb_X11_refuse lv_X11_refuse lk_X11_98 (cw_k Bh_16.2.2 k0) rfl (by decide) rfl hl.1 rfl (Nat.le_of_ble_eq_true rfl) dX11_forge_76 ⟨Nat.le_refl _, Nat.le_refl _⟩) (fun _ _ h => cw_tr Bh_16.2.2 h (by decide)) rfl (fun rh_17 αh_17 Hh_17 Lh_17 ph_17 Bh_17 => ?_)
            exact q_iret C Bh_17 hr hlk Bh_17.2.2 dX11_forge_79
          refine lv_icmp_ne (tgt := 74) hx hb dX11_forge_59 (by decide) (fun c_18 => ?_) (fun c_18 => hp_n (n := 62) rfl ?_)
          ·
            have jc_18 := il_ne c_18
            exact J74 Hh_11 Lh_11 Bh_11 ls (lv_sub hl [0] rfl)
          ·
            have jc_18 := il_eq c_18
            refine lv_iload hx hb dX11_forge_62 (lv_at hl 5 rfl) (hp_n (n := 64) rfl ?_)
            refine lv_aload_n hx hb dX11_forge_64 rfl (lv_at hl 0 rfl) (hp_n (n := 65) rfl ?_)
            refine q_gets (κ := 12) (k := 3) (φ := 603) (pc' := 68) C Bh_11 (cw_k Bh_11.2.2 k0) fl_X11_26 rfl rfl rfl eb_12 dX11_forge_65 rfl ?_
            refine q_getj (κ := 6) (k := 1) (φ := 301) (pc' := 71) C Bh_11 (cw_k Bh_11.2.2 kb_12) fl_X11_132 rfl rfl rfl ex_13 dX11_forge_68 rfl ?_
            refine lv_icmp_lt (tgt := 80) hx hb dX11_forge_71 (by decide) (fun c_19 => ?_) (fun c_19 => hp_n (n := 74) rfl ?_)
            ·
              have jc_19 := il_lt c_19
              refine lv_aload_n hx hb dX11_forge_80 rfl (lv_at hl 0 rfl) (hp_n (n := 81) rfl ?_)
              refine q_cq (pc' := 84) Bh_11 (hp_runV (As := []) (rest := []) C Bh_11 (t_X11_preparedRoots_S Γ l αh_11 Bh_11.2.2.1 a0 (cw_k Bh_11.2.2 k0) b0 (by rw [Bh_11.2.2.2.2.1, hN])) lb_X11_preparedRoots lv_X11_preparedRoots lk_X11_363 (cw_k Bh_11.2.2 k0) rfl (by decide) rfl hl.1 rfl (Nat.le_of_ble_eq_true rfl) dX11_forge_81 ⟨Nat.le_refl _, Nat.le_refl _⟩) (fun _ _ h => cw_tr Bh_11.2.2 h.1 (by decide)) rfl (fun rh_20 αh_20 Hh_20 Lh_20 ph_20 Bh_20 => ?_)
              have prh_20 := ph_20.2
              subst prh_20
              refine lv_astore (lv' := [(6, .ref b0), (0, .ref a0), (1, .int a1), (2, .int a2), (3, .int a3), (4, .int a4), (5, .int a5)]) hx hb dX11_forge_84 hl (by decide) rfl (fun ls hl => hp_n (n := 86) rfl ?_)
              refine lv_aload hx hb dX11_forge_86 (lv_at hl 0 rfl) (hp_n (n := 88) rfl ?_)
              refine lv_aload_n hx hb dX11_forge_88 rfl (lv_at hl 1 rfl) (hp_n (n := 89) rfl ?_)
              have t_21 : b_10 = hp_R αh_20 612 a0 := by rw [cw_R ph_20.1 a0 (by decide)]; exact t_14
              refine q_gets (κ := 12) (k := 12) (φ := 612) (pc' := 92) C Bh_20 (cw_k Bh_20.2.2 k0) fl_X11_62 rfl rfl rfl t_21 dX11_forge_89 rfl ?_
              refine lv_aload_n hx hb dX11_forge_92 rfl (lv_at hl 1 rfl) (hp_n (n := 93) rfl ?_)
              have t_22 : b_12 = hp_R αh_20 603 a0 := by rw [cw_R ph_20.1 a0 (by decide)]; exact eb_12
              refine q_gets (κ := 12) (k := 3) (φ := 603) (pc' := 96) C Bh_20 (cw_k Bh_20.2.2 k0) fl_X11_26 rfl rfl rfl t_22 dX11_forge_93 rfl ?_
              refine lv_aload_n hx hb dX11_forge_96 rfl (lv_at hl 1 rfl) (hp_n (n := 97) rfl ?_)
              refine q_gets (κ := 12) (k := 12) (φ := 612) (pc' := 100) C Bh_20 (cw_k Bh_20.2.2 k0) fl_X11_62 rfl rfl rfl t_21 dX11_forge_97 rfl ?_
              refine lv_aload_n hx hb dX11_forge_100 rfl (lv_at hl 1 rfl) (hp_n (n := 101) rfl ?_)
              refine q_getr (κ := 12) (k := 1) (φ := 601) (pc' := 104) C Bh_20 (cw_k Bh_20.2.2 k0) fl_X11_16 rfl rfl rfl (cw_r Bh_20.2.2 k0 rfl rfl (by decide) (by decide)) dX11_forge_101 rfl (fun b_23 eb_23 kb_23 => ?_)
              refine q_geti (κ := 11) (k := 0) (φ := 550) (pc' := 107) C Bh_20 (cw_k Bh_20.2.2 kb_23) fl_X11_122 rfl rfl rfl dX11_forge_104 rfl (fun x_24 ex_24 => ?_)
              refine lv_aload_n hx hb dX11_forge_107 rfl (lv_at hl 1 rfl) (hp_n (n := 108) rfl ?_)
              refine q_gets (κ := 12) (k := 3) (φ := 603) (pc' := 111) C Bh_20 (cw_k Bh_20.2.2 k0) fl_X11_26 rfl rfl rfl t_22 dX11_forge_108 rfl ?_
              refine lv_iload_n hx hb dX11_forge_111 rfl (lv_at hl 2 rfl) (hp_n (n := 112) rfl ?_)
              refine lv_iload hx hb dX11_forge_112 (lv_at hl 6 rfl) (hp_n (n := 114) rfl ?_)
              refine q_ci (pc' := 117) Bh_20 (hp_runV (As := [.int x_24, .ref b_12, .int a1, .int a5]) (rest := [.ref b_12, .ref b_10, .ref b0]) C Bh_20 (t_X8_folded Γ l αh_20 Bh_20.2.2.1 b_10 (cw_k Bh_20.2.2 kb_10) x_24 b_12 (cw_k Bh_20.2.2 kb_12) a1 a5) lb_X8_folded lv_X8_folded lk_X11_382 (cw_k Bh_20.2.2 kb_10) rfl (by decide) rfl hl.1 rfl (Nat.le_of_ble_eq_true rfl) dX11_forge_114 ⟨Nat.le_refl _, Nat.le_refl _⟩) (fun _ _ h => by rw [h]; exact Bh_20.2.2) rfl (fun rh_25 αh_25 Hh_25 Lh_25 ph_25 Bh_25 => ?_)
              rw [ph_25] at Bh_25
              refine lv_iload hx hb dX11_forge_117 (lv_at hl 5 rfl) (hp_n (n := 119) rfl ?_)
              refine lv_iload hx hb dX11_forge_119 (lv_at hl 6 rfl) (hp_n (n := 121) rfl ?_)
              refine q_cv (pc' := 124) Bh_25 (hp_runV (As := [.ref b_10, .ref b_12, .int rh_25, .int a4, .int a5]) (rest := []) C Bh_25 (t_X4_seekStep Γ l αh_20 Bh_25.2.2.1 b0 (cw_k Bh_25.2.2 kb0) b_10 (cw_k Bh_25.2.2 kb_10) b_12 (cw_k Bh_25.2.2 kb_12) rh_25 a4 a5) lb_X4_seekStep lv_X4_seekStep lk_X11_388 (cw_k Bh_25.2.2 kb0) rfl (by decide) rfl hl.1 rfl (Nat.le_of_ble_eq_true rfl) dX11_forge_121 ⟨Nat.le_refl _, Nat.le_refl _⟩) (fun _ h => cw_tr Bh_25.2.2 h (by decide)) rfl (fun αh_26 Hh_26 Lh_26 ph_26 Bh_26 => ?_)
              refine lv_aload hx hb dX11_forge_124 (lv_at hl 0 rfl) (hp_n (n := 126) rfl ?_)
              refine q_geti (κ := 5) (k := 9) (φ := 259) (pc' := 129) C Bh_26 (cw_k Bh_26.2.2 kb0) fl_X11_373 rfl rfl rfl dX11_forge_126 rfl (fun x_27 ex_27 => ?_)
              refine lv_if_ne (tgt := 140) hx hb dX11_forge_129 (by decide) (fun c_28 => ?_) (fun c_28 => hp_n (n := 132) rfl ?_)
              ·
                have jc_28 := il_ne c_28
                refine lv_aload_n hx hb dX11_forge_140 rfl (lv_at hl 1 rfl) (hp_n (n := 141) rfl ?_)
                refine lv_aload hx hb dX11_forge_141 (lv_at hl 0 rfl) (hp_n (n := 143) rfl ?_)
                refine q_geti (κ := 5) (k := 10) (φ := 260) (pc' := 146) C Bh_26 (cw_k Bh_26.2.2 kb0) fl_X11_376 rfl rfl rfl dX11_forge_143 rfl (fun x_29 ex_29 => ?_)
                refine q_ci (pc' := 149) Bh_26 (hp_runV (As := [.int x_29]) (rest := []) C Bh_26 (t_X11_answer Γ l αh_26 Bh_26.2.2.1 a0 (cw_k Bh_26.2.2 k0) x_29) lb_X11_answer lv_X11_answer lk_X11_115 (cw_k Bh_26.2.2 k0) rfl (by decide) rfl hl.1 rfl (Nat.le_of_ble_eq_true rfl) dX11_forge_146 ⟨Nat.le_refl _, Nat.le_refl _⟩) (fun _ _ h => cw_tr Bh_26.2.2 h (by decide)) rfl (fun rh_30 αh_30 Hh_30 Lh_30 ph_30 Bh_30 => ?_)
                exact q_iret C Bh_30 hr hlk Bh_30.2.2 dX11_forge_149
              ·
                have jc_28 := il_eq c_28
                refine lv_aload_n hx hb dX11_forge_132 rfl (lv_at hl 1 rfl) (hp_n (n := 133) rfl ?_)
                refine lv_iconst (v := 5) hx hb dX11_forge_133 (by decide) (hp_n (n := 134) rfl ?_)
                refine q_ci (pc' := 137) Bh_26 (hp_runV (As := [.int 5]) (rest := []) C Bh_26 (t_X11_refuse Γ l αh_26 Bh_26.2.2.1 a0 (cw_k Bh_26.2.2 k0) 5) lb_X11_refuse lv_X11_refuse lk_X11_98 (cw_k Bh_26.2.2 k0) rfl (by decide) rfl hl.1 rfl (Nat.le_of_ble_eq_true rfl) dX11_forge_134 ⟨Nat.le_refl _, Nat.le_refl _⟩) (fun _ _ h => cw_tr Bh_26.2.2 h (by decide)) rfl (fun rh_31 αh_31 Hh_31 Lh_31 ph_31 Bh_31 => ?_)
                refine lv_goto (tgt := 149) hx hb dX11_forge_137 (by decide) ?_
                exact q_iret C Bh_31 hr hlk Bh_31.2.2 dX11_forge_149
            ·
              have jc_19 := il_nlt c_19
              exact J74 Hh_11 Lh_11 Bh_11 ls (lv_sub hl [0] rfl)
        ·
          have jc_9 := il_eq c_9
          exact J30 Hh_8 Lh_8 Bh_8 ls (lv_sub hl [0] rfl)
end JN7_3
section JN7_4
/-! ===== Roots, made at the first call ===== -/
def cg (w : cw_W) (α β : hp_T) : Prop := GC β ∧ (∀ b, hp_K α b ≠ 0 → hp_K β b = hp_K α b) ∧ (∀ φ b, hp_K α b ≠ 0 → φ ∉ w.1 → hp_I β φ b = hp_I α φ b) ∧ (∀ φ b, hp_K α b ≠ 0 → φ ∉ w.2.1 → hp_R β φ b = hp_R α φ b) ∧ (∀ κ b j, hp_K α b ≠ 0 → κ ∉ w.2.2.1 → hp_E β κ b j = hp_E α κ b j) ∧ (∀ κ b j, hp_K α b ≠ 0 → hp_L β κ b j = hp_L α κ b j) ∧ (∀ φ b, hp_K α b ≠ 0 → φ ∉ w.2.2.2 → hp_J β φ b = hp_J α φ b) ∧ ∀ κ b j, hp_K α b ≠ 0 → hp_Q β κ b j = hp_Q α κ b j
theorem cg_cw {w : cw_W} {α β : hp_T} (h : cw w α β) : cg w α β := by
  obtain ⟨h0, h1, h2, h3, h4, h5, h6, h7, h8⟩ := h
  exact ⟨h0, fun b _ => by rw [h1], fun φ b _ hφ => by rw [h5 φ hφ], fun φ b _ hφ => by rw [h6 φ hφ], fun κ b j _ hκ => by rw [h7 κ hκ], fun κ b j _ => by rw [h4], fun φ b _ hφ => by rw [h8 φ hφ], fun κ b j _ => by rw [h3]⟩
theorem cg_tr {v w : cw_W} {α β γ : hp_T} (h : cg w α β) (g : cg v β γ) (hs : cw_sub v w = true) : cg w α γ := by
  simp only [cw_sub, Bool.and_eq_true] at hs
  obtain ⟨⟨⟨s1, s2⟩, s3⟩, s4⟩ := hs
  obtain ⟨h0, h1, h2, h3, h4, h5, h6, h7⟩ := h
  obtain ⟨g0, g1, g2, g3, g4, g5, g6, g7⟩ := g
  have hk : ∀ b, hp_K α b ≠ 0 → hp_K β b ≠ 0 := fun b hb => by rw [h1 b hb]; exact hb
  exact ⟨g0, fun b hb => (g1 b (hk b hb)).trans (h1 b hb), fun φ b hb hφ => (g2 φ b (hk b hb) (cw_in s1 hφ)).trans (h2 φ b hb hφ), fun φ b hb hφ => (g3 φ b (hk b hb) (cw_in s2 hφ)).trans (h3 φ b hb hφ), fun κ b j hb hκ => (g4 κ b j (hk b hb) (cw_in s3 hκ)).trans (h4 κ b j hb hκ), fun κ b j hb => (g5 κ b j (hk b hb)).trans (h5 κ b j hb), fun φ b hb hφ => (g6 φ b (hk b hb) (cw_in s4 hφ)).trans (h6 φ b hb hφ), fun κ b j hb => (g7 κ b j (hk b hb)).trans (h7 κ b j hb)⟩
theorem cg_sa {w : cw_W} {α β : hp_T} (g : GC β) (h : ∀ b, hp_K α b ≠ 0 → sa α β b) : cg w α β :=
  ⟨g, fun b hb => (h b hb).1, fun φ b hb _ => (h b hb).2.1 φ, fun φ b hb _ => (h b hb).2.2.2.1 φ, fun κ b j hb _ => (h b hb).2.2.2.2.2.1 κ j, fun κ b j hb => (h b hb).2.2.2.2.2.2.1 κ j, fun φ b hb _ => (h b hb).2.2.1 φ, fun κ b j hb => (h b hb).2.2.2.2.2.2.2 κ j⟩
theorem cg_sN {w : cw_W} {α : hp_T} {φ a : Nat} {x : Option Nat} (g : GC (hp_sN α φ a x)) : cg w α (hp_sN α φ a x) :=
  ⟨g, fun b _ => rfl, fun _ b _ _ => rfl, fun _ b _ _ => rfl, fun κ b j _ _ => rfl, fun κ b j _ => rfl, fun _ b _ _ => rfl, fun κ b j _ => rfl⟩
theorem gc_sN5 {α : hp_T} {a x : Nat} (g : GC α) (hx : hp_K α x = 5) : GC (hp_sN α 618 a (some x)) := by
  refine ⟨g.1, g.2.1, fun b c hb hc => ?_, g.2.2.2⟩
  by_cases e : b = a
  · subst e
    rw [sN_at] at hc
    cases hc
    exact hx
  · rw [show hp_N (hp_sN α 618 a (some x)) 618 b = hp_N α 618 b by simp [hp_N, hp_sN, hp_up, e]] at hc
    exact g.2.2.1 b c hb hc
set_option maxRecDepth 100000 in
set_option maxHeartbeats 4000000 in
theorem t_X11_preparedRoots_N (Γ : hp_G) (l : Launch) (α : hp_T) (g : GC α) (a0 : Nat) (k0 : hp_K α a0 = 12) (hN : hp_N α 618 a0 = none) : Met l yX11_preparedRoots (hp_ws yX11_preparedRoots cX11_preparedRoots 1 (some (.object "ProvenRecord$Roots"))) (hp_rm 3 9 131316) (hp_Pc Γ α [.ref a0]) (hp_Qq Γ (fun r β => ∃ b0, r = some b0 ∧ cg w_X4_prepare α β ∧ hp_K β b0 = 5 ∧ hp_N β 618 a0 = some b0)) 9 131316 (hp_A Γ) := by
  refine hp_start (by decide) ?_
  intro p e s m below meth c C hr hlk B hnm
  have C : hp_C Γ p m c cX11_preparedRoots 1 s ([.ref a0] : List Value).toArray RX11 := C
  have hx := C.1.1
  have hb := C.1.2.1
  have hown := C.1.2.2.2.1
  have hts := C.1.2.2.2.2
  have hl := lv_entry ([.ref a0]) (n := 1) (Nat.le_of_ble_eq_true rfl)
  rw [lg_entry_eq]
  generalize (lg_sl ([.ref a0]) ++ List.replicate (1 - (lg_sl ([.ref a0])).length) Slot.unset).toArray = ls at hl ⊢
  have hl : lv_has ls 1 [(0, .ref a0)] := hl
  refine lv_aload_n hx hb dX11_preparedRoots_0 rfl (lv_at hl 0 rfl) (hp_n (n := 1) rfl ?_)
  refine q_get (v := .null) (κ := 12) (k := 18) (t := 3) (pc' := 4) C B k0 fl_X11_90 rfl rfl (by show va_rf (hp_N α 618 a0) = _; rw [hN]; rfl) dX11_preparedRoots_1 rfl ?_
  refine lv_ifnonnullN hx hb dX11_preparedRoots_4 (hp_n (n := 7) rfl ?_)
  refine lv_aload_n hx hb dX11_preparedRoots_7 rfl (lv_at hl 0 rfl) (hp_n (n := 8) rfl ?_)
  refine q_new (κ := 5) (N := 11) (pc' := 11) C B cl_X11_368 it_X4 iz_X4 rfl in_5 tyX4_ok df_5 (by decide) rfl rfl rfl (by omega) (by omega) dX11_preparedRoots_8 rfl (fun _ _ => trivial) (fun β1 h H1 f1 e1 B1 => ?_)
  have g1 : GC β1 := by rw [e1]; exact gc_nw g f1 (by decide)
  have k1 : hp_K β1 h = 105 := by rw [e1]; exact nw_k
  have z1 : ∀ φ, hp_I β1 φ h = 0 := fun φ => by rw [e1]; exact nw_i
  have s1 : ∀ b, hp_K α b ≠ 0 → b ≠ h ∧ sa α β1 b := fun b hb => by
    have hne : b ≠ h := fun q => hb (by rw [q]; exact f1)
    exact ⟨hne, by rw [e1]; exact sa_nw hne⟩
  refine lv_dup hx hb dX11_preparedRoots_11 rfl (hp_n (n := 12) rfl ?_)
  refine q_cv (pc' := 15) B1 (hp_runI (As := []) (rest := [.ref h, .ref a0]) C B1 (t_X4_init Γ l β1 g1 h k1 z1) lb_X4_init rfl li_X4_init lk_X11_474 rfl (by decide) rfl hl.1 rfl (Nat.le_of_ble_eq_true rfl) dX11_preparedRoots_12 ⟨by omega, by omega⟩) (fun _ _ => trivial) rfl (fun β2 H2 L2 p2 B2 => ?_)
  have s2 : ∀ b, hp_K α b ≠ 0 → sa α β2 b := fun b hb => by
    obtain ⟨h1, h2⟩ := s1 b hb
    exact sa_tr h2 (p2.1.2 b h1 (by rw [h2.1]; exact hb))
  have ka2 : hp_K β2 a0 = 12 := (s2 a0 (by rw [k0]; decide)).1.trans k0
  refine q_putn (κ := 12) (k := 18) (φ := 618) (pc' := 18) C B2 ka2 fl_X11_90 rfl rfl rfl rfl rfl rfl trivial dX11_preparedRoots_15 rfl (fun β3 H3 L3 e3 B3 => ?_)
  have g3 : GC β3 := by rw [e3]; exact gc_sN5 p2.1.1 p2.2.1
  have n3 : hp_N β3 618 a0 = some h := by rw [e3]; exact sN_at
  have ka3 : hp_K β3 a0 = 12 := by rw [e3]; exact ka2
  have kh3 : hp_K β3 h = 5 := by rw [e3]; exact p2.2.1
  have c3 : cg w_X4_prepare α β3 := cg_tr (v := w_X4_prepare) (cg_sa p2.1.1 s2) (by rw [e3]; exact cg_sN (by rw [← e3]; exact g3)) (by decide)
  refine lv_aload_n hx hb dX11_preparedRoots_18 rfl (lv_at hl 0 rfl) (hp_n (n := 19) rfl ?_)
  refine q_get (v := .ref h) (κ := 12) (k := 18) (t := 3) (pc' := 22) C B3 ka3 fl_X11_90 rfl rfl (by show va_rf (hp_N β3 618 a0) = _; rw [n3]; rfl) dX11_preparedRoots_19 rfl ?_
  refine lv_aload_n hx hb dX11_preparedRoots_22 rfl (lv_at hl 0 rfl) (hp_n (n := 23) rfl ?_)
  have kw : hp_K β3 (hp_R β3 601 a0) = 11 := by
    rcases g3.2.1 601 a0 (by rw [ka3]) (by decide) with q | q
    · exact q
    · exact absurd q.1 (by decide)
  refine q_get (v := .ref (hp_R β3 601 a0)) (κ := 12) (k := 1) (t := 1) (pc' := 26) C B3 ka3 fl_X11_16 rfl rfl rfl dX11_preparedRoots_23 rfl ?_
  refine q_geti (κ := 11) (k := 0) (φ := 550) (pc' := 29) C B3 kw fl_X11_122 rfl rfl rfl dX11_preparedRoots_26 rfl (fun x ex => ?_)
  refine q_cv (pc' := 32) B3 (hp_runV (As := [.int x]) (rest := []) C B3 (t_X4_prepare Γ l β3 g3 h kh3 x) lb_X4_prepare lv_X4_prepare lk_X11_475 kh3 rfl (by decide) rfl hl.1 rfl (Nat.le_of_ble_eq_true rfl) dX11_preparedRoots_29 ⟨by omega, by omega⟩) (fun _ _ => trivial) rfl (fun β4 H4 L4 p4 B4 => ?_)
  have n4 : hp_N β4 618 a0 = some h := by rw [p4.2.2.1]; exact n3
  have ka4 : hp_K β4 a0 = 12 := by rw [p4.2.1]; exact ka3
  refine lv_aload_n hx hb dX11_preparedRoots_32 rfl (lv_at hl 0 rfl) (hp_n (n := 33) rfl ?_)
  refine q_get (v := .ref h) (κ := 12) (k := 18) (t := 3) (pc' := 36) C B4 ka4 fl_X11_90 rfl rfl (by show va_rf (hp_N β4 618 a0) = _; rw [n4]; rfl) dX11_preparedRoots_33 rfl ?_
  refine W.widen (k := 9) (n := 131316) (by omega) (by omega) ?_
  exact q_aret (x := some h) C B4 hr hlk ⟨h, rfl, cg_tr c3 (cg_cw p4) (by decide), by rw [p4.2.1]; exact kh3, n4⟩ dX11_preparedRoots_36
end JN7_4
section JN7_5
/-! ===== what a call made, told by the heap itself ===== -/
def zs (H H1 : Heap) : Prop := H1.toList.map (fun c => c.slots.size) = H.toList.map (fun c => c.slots.size)
def hp_PcH (Γ : hp_G) (α : hp_T) (Hs : Heap) (av : List Value) : Array Value → State → Prop := va_Pc av (fun U => U.heap = Hs ∧ hp_Rep Γ α U.heap ∧ hp_KK Γ U)
/-- behind it: nothing was made, or Roots are there -/
def hp_Bz (Γ : hp_G) (Hs : Heap) (a0 : Nat) (β : hp_T) (t : State) : Prop := hp_Rep Γ β t.heap ∧ (hp_N β 618 a0 = none → zs Hs t.heap)
theorem hp_blindH (Γ : hp_G) (α : hp_T) (Hs : Heap) (av : List Value) : FrameBlind (hp_PcH Γ α Hs av) := fun a U g mk q => by
  obtain ⟨q0, qz, qR, qK, qN, qT⟩ := q
  exact ⟨q0, qz, qR, va_K.moved (u := U) (U := U.calling g mk a) (Vm.Alike.refl U.vm) qK, fun w hw => hp_Nw.same (s := U) (U := U.calling g mk a) (List.mem_filter.mp hw).2 rfl (qN w hw), hp_TX.same (s := U) (U := U.calling g mk a) rfl qT⟩
theorem hp_startH {l : Launch} {Γ : hp_G} {α : hp_T} {Hs : Heap} {bytes : ByteArray} {maxL d mc ms : Nat} {ret : Option FieldType} {y : MethodName} {Qc : Array Value → State → Outcome → State → Prop} {av : List Value} (hy : plainName y.cls = true)
    (body : ∀ p e s m below meth c, hp_C Γ p m c bytes maxL s av.toArray y.cls → meth.sig.returnType = ret → meth.locks = false → hp_B Γ (fun _ _ => True) s α α s.heap [] → s.heap = Hs →
      W p l e (hp_rm d mc ms) s m av.toArray below meth c s.heap [] 0 0 (MQ below Qc av.toArray s mc ms (hp_A Γ)) (entryFrame m av.toArray maxL)) : Met l y (hp_ws y bytes maxL ret) (hp_rm d mc ms) (hp_PcH Γ α Hs av) Qc mc ms (hp_A Γ) := by
  refine Met.ofW (cc := bytes) (maxL := maxL) (ret := ret) hy rfl ?_
  intro p e s m args below meth c s₁ B hml hv
  obtain ⟨rfl, hz, hR, hK⟩ := hv
  have hts := atoms_spec (ws := hp_ws y bytes maxL ret) B.pre
  exact body p e s m below meth c ⟨⟨B.exec, B.bytes, hml, findClass_of_methodNamed B.named, fun w hw => hts w (List.mem_cons_of_mem _ hw)⟩, hK⟩ B.returns B.notSynchronized ⟨hR, va_S.rf, trivial⟩ hz
section HPZ
variable {p : Program} {l : Launch} {e : Env} {R : Room} {s : State} {m : MethodId} {args : Array Value} {below : List Frame} {meth : Method} {c : Code} {H : Heap} {locs : List Loc} {cells slots : Nat} {Q : State → Prop} {cc : ByteArray} {nL : Nat} {own : String} {Γ : hp_G} {α0 α : hp_T} {Iv : hp_T → hp_T → Prop} {pc pc' : Nat} {ls : Array Slot} {rest st : List Value} {mc ms : Nat} {x : Int32} {Hs : Heap} {a0 : Nat}
theorem zs_of {T : State} (X : Stand p l e R s m args below meth c T locs 0 0) : zs s.heap T.heap := by
  obtain ⟨-, h1, h2, -, -, h3⟩ := X.same
  have h1' : s.heap.size ≤ T.heap.size := h1
  have h2' : T.heap.size ≤ s.heap.size + 0 := h2
  unfold zs
  apply List.ext_getElem?
  intro i
  rw [List.getElem?_map, List.getElem?_map, Array.getElem?_toList, Array.getElem?_toList]
  cases hc : s.heap[i]? with
  | none =>
    have : s.heap.size ≤ i := by simpa using hc
    rw [show T.heap[i]? = none by simp; omega]
  | some c0 =>
    obtain ⟨c', k1, -, k3, -⟩ := h3 i c0 hc
    have k1' : T.heap[i]? = some c' := k1
    rw [k1']
    simp [k3]
theorem q_iretZ {post : Int32 → hp_T → Prop} (C : hp_C Γ p m c cc nL s args own) (B : hp_B Γ Iv s α0 α H locs) (hr : meth.sig.returnType = some .int) (hl : meth.locks = false) (hH : s.heap = Hs) (hp : post x α) (hdg : decode cc pc = .ok (.ireturn, 1)) : W p l e R s m args below meth c H locs 0 0 (MQ below (va_Qi post (hp_Bz Γ Hs a0) (hp_A Γ)) args s mc ms (hp_A Γ)) (F0 m pc ls [.int x]) := by
  intro T hT X
  have hz := zs_of X
  rw [hT, hH] at hz
  exact (W.widen (k := mc) (n := ms) (Nat.zero_le _) (Nat.zero_le _) (W.iret C.1.1 C.1.2.1 hr (fun _ ht _ => ⟨⟨x, α, rfl, hp, by dsimp only [hp_Bz]; rw [ht]; exact ⟨B.1, fun _ => hz⟩⟩, B.2.1.F ht⟩) B.2.1.2.2 hdg hl)) T hT X
theorem q_iretQ {post : Int32 → hp_T → Prop} {Bq : hp_T → State → Prop} (C : hp_C Γ p m c cc nL s args own) (B : hp_B Γ Iv s α0 α H locs) (hr : meth.sig.returnType = some .int) (hl : meth.locks = false) (hp : post x α) (hq : ∀ t : State, hp_Rep Γ α t.heap → Bq α t) (hdg : decode cc pc = .ok (.ireturn, 1)) : W p l e R s m args below meth c H locs cells slots (MQ below (va_Qi post Bq (hp_A Γ)) args s cells slots (hp_A Γ)) (F0 m pc ls [.int x]) :=
  W.iret C.1.1 C.1.2.1 hr (fun t ht _ => ⟨⟨x, α, rfl, hp, hq _ (by rw [ht]; exact B.1)⟩, B.2.1.F ht⟩) B.2.1.2.2 hdg hl
/-- fewer cells than were allowed, where the heap says so -/
theorem zs_narrow {T T' : State} {L : List Loc} (X : Stand p l e R s m args below meth c T locs cells slots) (X' : Stand p l e R s m args below meth c T' L (cells + mc) (slots + ms)) (hz : zs T.heap T'.heap) : Stand p l e R s m args below meth c T' L cells slots := by
  obtain ⟨-, a1, a2, -, a4, -⟩ := X.same
  obtain ⟨b0, b1, b2, b3, b4, b5⟩ := X'.same
  have a2' : T.heap.size ≤ s.heap.size + cells := a2
  have a4' : ((T.heap.toList.drop s.heap.size).map (·.slots.size)).sum ≤ slots := a4
  have hsz : T'.heap.size = T.heap.size := by
    have := congrArg List.length hz
    simpa using this
  have hsum : ((T'.heap.toList.drop s.heap.size).map (·.slots.size)) = ((T.heap.toList.drop s.heap.size).map (·.slots.size)) := by
    rw [List.map_drop, List.map_drop]
    unfold zs at hz
    rw [hz]
  refine { X' with same := ⟨b0, b1, ?_, b3, ?_, b5⟩ }
  · show T'.heap.size ≤ s.heap.size + cells
    omega
  · show ((T'.heap.toList.drop s.heap.size).map (·.slots.size)).sum ≤ slots
    rw [hsum]; exact a4'
end HPZ
end JN7_5
section JN7_6
set_option maxRecDepth 100000 in
set_option maxHeartbeats 4000000 in
theorem u_X11_weak (Γ : hp_G) (l : Launch) (α : hp_T) (g : GC α) (a0 : Nat) (k0 : hp_K α a0 = 12) (a2 : Int32) (a3 : Int32) (a4 : Int32) (a5 : Nat) (k5 : hp_K α a5 = 3) (b0 : Nat) (kb0 : hp_K α b0 = 5) {p : Program} {e : Env} {s : State} {m : MethodId} {below : List Frame} {meth : Method} {c : Code} {args0 : Array Value} (C : hp_C Γ p m c cX11_weak 8 s args0 RX11) (hr : meth.sig.returnType = (some .int)) (hlk : meth.locks = false) (H0 : Heap) (L0 : List Loc) (B : hp_B Γ (cw w_X11_weak_S) s α α H0 L0) (Pst : Int32 → hp_T → Prop) (Bq : hp_T → State → Prop) (hP : ∀ r β, cw w_X11_weak_S α β → Pst r β) (hq : ∀ β (t : State), cw w_X11_weak_S α β → hp_Rep Γ β t.heap → Bq β t) (ls : Array Slot) (hl : lv_has ls 8 [(0, .ref a0), (2, .int a2), (3, .int a3), (4, .int a4), (5, .ref a5)]) : W p l e (hp_rm 72 9 131316) s m args0 below meth c H0 L0 9 131316 (MQ below (va_Qi Pst Bq (hp_A Γ)) args0 s 9 131316 (hp_A Γ)) (F0 m 83 ls [.ref b0]) := by
  have hx := C.1.1
  have hb := C.1.2.1
  have hown := C.1.2.2.2.1
  have hts := C.1.2.2.2.2
  have lit0 : (0 : Int32).toInt = 0 := by decide
  have lit5 : (5 : Int32).toInt = 5 := by decide
  refine lv_astore (lv' := [(7, .ref b0), (0, .ref a0), (2, .int a2), (3, .int a3), (4, .int a4), (5, .ref a5)]) hx hb dX11_weak_83 hl (by decide) rfl (fun ls hl => hp_n (n := 85) rfl ?_)
  refine lv_aload hx hb dX11_weak_85 (lv_at hl 0 rfl) (hp_n (n := 87) rfl ?_)
  refine lv_aload_n hx hb dX11_weak_87 rfl (lv_at hl 1 rfl) (hp_n (n := 88) rfl ?_)
  refine q_getr (κ := 12) (k := 12) (φ := 612) (pc' := 91) C B (cw_k B.2.2 k0) fl_X11_62 rfl rfl rfl (cw_r B.2.2 k0 rfl rfl (by decide) (by decide)) dX11_weak_88 rfl (fun b_1 eb_1 kb_1 => ?_)
  refine lv_aload_n hx hb dX11_weak_91 rfl (lv_at hl 1 rfl) (hp_n (n := 92) rfl ?_)
  refine q_getr (κ := 12) (k := 14) (φ := 614) (pc' := 95) C B (cw_k B.2.2 k0) fl_X11_69 rfl rfl rfl (cw_r B.2.2 k0 rfl rfl (by decide) (by decide)) dX11_weak_92 rfl (fun b_2 eb_2 kb_2 => ?_)
  refine lv_aload hx hb dX11_weak_95 (lv_at hl 5 rfl) (hp_n (n := 97) rfl ?_)
  refine lv_iload_n hx hb dX11_weak_97 rfl (lv_at hl 2 rfl) (hp_n (n := 98) rfl ?_)
  refine q_ci (pc' := 101) B (hp_runV (As := [.int a2]) (rest := [.ref b_2, .ref b_1, .ref b0]) C B (t_X2_markAt Γ l α B.2.2.1 a5 (cw_k B.2.2 k5) a2) lb_X2_markAt lv_X2_markAt lk_X11_174 (cw_k B.2.2 k5) rfl (by decide) rfl hl.1 rfl (Nat.le_of_ble_eq_true rfl) dX11_weak_98 ⟨Nat.le_refl _, Nat.le_refl _⟩) (fun _ _ h => by rw [h]; exact B.2.2) rfl (fun rh_3 αh_3 Hh_3 Lh_3 ph_3 Bh_3 => ?_)
  rw [ph_3] at Bh_3
  refine lv_aload_n hx hb dX11_weak_101 rfl (lv_at hl 1 rfl) (hp_n (n := 102) rfl ?_)
  refine q_getr (κ := 12) (k := 1) (φ := 601) (pc' := 105) C Bh_3 (cw_k Bh_3.2.2 k0) fl_X11_16 rfl rfl rfl (cw_r Bh_3.2.2 k0 rfl rfl (by decide) (by decide)) dX11_weak_102 rfl (fun b_4 eb_4 kb_4 => ?_)
  refine lv_aload hx hb dX11_weak_105 (lv_at hl 5 rfl) (hp_n (n := 107) rfl ?_)
  refine lv_iload_n hx hb dX11_weak_107 rfl (lv_at hl 3 rfl) (hp_n (n := 108) rfl ?_)
  refine q_ci (pc' := 111) Bh_3 (hp_runV (As := [va_rf (some a5), .int a3]) (rest := [.int rh_3, .ref b_2, .ref b_1, .ref b0]) C Bh_3 (t_X10_headOf Γ l α Bh_3.2.2.1 b_4 (cw_k Bh_3.2.2 kb_4) (some a5) (fun b h => by cases h; exact (cw_k Bh_3.2.2 k5)) a3) lb_X10_headOf lv_X10_headOf lk_X11_184 (cw_k Bh_3.2.2 kb_4) rfl (by decide) rfl hl.1 rfl (Nat.le_of_ble_eq_true rfl) dX11_weak_108 ⟨Nat.le_refl _, Nat.le_refl _⟩) (fun _ _ h => cw_tr Bh_3.2.2 h (by decide)) rfl (fun rh_5 αh_5 Hh_5 Lh_5 ph_5 Bh_5 => ?_)
  refine q_cv (pc' := 114) Bh_5 (hp_runV (As := [.ref b_1, .ref b_2, .int rh_3, .int rh_5]) (rest := []) C Bh_5 (t_X4_seekThing Γ l αh_5 Bh_5.2.2.1 b0 (cw_k Bh_5.2.2 kb0) b_1 (cw_k Bh_5.2.2 kb_1) b_2 (cw_k Bh_5.2.2 kb_2) rh_3 rh_5) lb_X4_seekThing lv_X4_seekThing lk_X11_367 (cw_k Bh_5.2.2 kb0) rfl (by decide) rfl hl.1 rfl (Nat.le_of_ble_eq_true rfl) dX11_weak_111 ⟨Nat.le_refl _, Nat.le_refl _⟩) (fun _ h => cw_tr Bh_5.2.2 h (by decide)) rfl (fun αh_6 Hh_6 Lh_6 ph_6 Bh_6 => ?_)
  refine lv_iload hx hb dX11_weak_114 (lv_at hl 4 rfl) (hp_n (n := 116) rfl ?_)
  refine lv_if_ne (tgt := 129) hx hb dX11_weak_116 (by decide) (fun c_7 => ?_) (fun c_7 => hp_n (n := 119) rfl ?_)
  ·
    have jc_7 := il_ne c_7
    refine lv_aload hx hb dX11_weak_129 (lv_at hl 0 rfl) (hp_n (n := 131) rfl ?_)
    refine q_geti (κ := 5) (k := 9) (φ := 259) (pc' := 134) C Bh_6 (cw_k Bh_6.2.2 kb0) fl_X11_373 rfl rfl rfl dX11_weak_131 rfl (fun x_8 ex_8 => ?_)
    refine lv_if_ne (tgt := 145) hx hb dX11_weak_134 (by decide) (fun c_9 => ?_) (fun c_9 => hp_n (n := 137) rfl ?_)
    ·
      have jc_9 := il_ne c_9
      refine lv_aload_n hx hb dX11_weak_145 rfl (lv_at hl 1 rfl) (hp_n (n := 146) rfl ?_)
      refine lv_aload hx hb dX11_weak_146 (lv_at hl 0 rfl) (hp_n (n := 148) rfl ?_)
      refine q_geti (κ := 5) (k := 10) (φ := 260) (pc' := 151) C Bh_6 (cw_k Bh_6.2.2 kb0) fl_X11_376 rfl rfl rfl dX11_weak_148 rfl (fun x_10 ex_10 => ?_)
      refine q_ci (pc' := 154) Bh_6 (hp_runV (As := [.int x_10]) (rest := []) C Bh_6 (t_X11_answer Γ l αh_6 Bh_6.2.2.1 a0 (cw_k Bh_6.2.2 k0) x_10) lb_X11_answer lv_X11_answer lk_X11_115 (cw_k Bh_6.2.2 k0) rfl (by decide) rfl hl.1 rfl (Nat.le_of_ble_eq_true rfl) dX11_weak_151 ⟨Nat.le_refl _, Nat.le_refl _⟩) (fun _ _ h => cw_tr Bh_6.2.2 h (by decide)) rfl (fun rh_11 αh_11 Hh_11 Lh_11 ph_11 Bh_11 => ?_)
      exact q_iretQ C Bh_11 hr hlk (hP _ _ Bh_11.2.2) (fun t ht => hq _ t Bh_11.2.2 ht) dX11_weak_154
    ·
      have jc_9 := il_eq c_9
      refine lv_aload_n hx hb dX11_weak_137 rfl (lv_at hl 1 rfl) (hp_n (n := 138) rfl ?_)
      refine lv_iconst (v := 5) hx hb dX11_weak_138 (by decide) (hp_n (n := 139) rfl ?_)
      refine q_ci (pc' := 142) Bh_6 (hp_runV (As := [.int 5]) (rest := []) C Bh_6 (t_X11_refuse Γ l αh_6 Bh_6.2.2.1 a0 (cw_k Bh_6.2.2 k0) 5) lb_X11_refuse lv_X11_refuse lk_X11_98 (cw_k Bh_6.2.2 k0) rfl (by decide) rfl hl.1 rfl (Nat.le_of_ble_eq_true rfl) dX11_weak_139 ⟨Nat.le_refl _, Nat.le_refl _⟩) (fun _ _ h => cw_tr Bh_6.2.2 h (by decide)) rfl (fun rh_12 αh_12 Hh_12 Lh_12 ph_12 Bh_12 => ?_)
      refine lv_goto (tgt := 154) hx hb dX11_weak_142 (by decide) ?_
      exact q_iretQ C Bh_12 hr hlk (hP _ _ Bh_12.2.2) (fun t ht => hq _ t Bh_12.2.2 ht) dX11_weak_154
  ·
    have jc_7 := il_eq c_7
    refine lv_aload_n hx hb dX11_weak_119 rfl (lv_at hl 1 rfl) (hp_n (n := 120) rfl ?_)
    refine lv_aload hx hb dX11_weak_120 (lv_at hl 0 rfl) (hp_n (n := 122) rfl ?_)
    refine q_geti (κ := 5) (k := 9) (φ := 259) (pc' := 125) C Bh_6 (cw_k Bh_6.2.2 kb0) fl_X11_373 rfl rfl rfl dX11_weak_122 rfl (fun x_13 ex_13 => ?_)
    refine q_ci (pc' := 128) Bh_6 (hp_runV (As := [.int x_13]) (rest := []) C Bh_6 (t_X11_answer Γ l αh_6 Bh_6.2.2.1 a0 (cw_k Bh_6.2.2 k0) x_13) lb_X11_answer lv_X11_answer lk_X11_115 (cw_k Bh_6.2.2 k0) rfl (by decide) rfl hl.1 rfl (Nat.le_of_ble_eq_true rfl) dX11_weak_125 ⟨Nat.le_refl _, Nat.le_refl _⟩) (fun _ _ h => cw_tr Bh_6.2.2 h (by decide)) rfl (fun rh_14 αh_14 Hh_14 Lh_14 ph_14 Bh_14 => ?_)
    exact q_iretQ C Bh_14 hr hlk (hP _ _ Bh_14.2.2) (fun t ht => hq _ t Bh_14.2.2 ht) dX11_weak_128
abbrev w_X11_weak_N : cw_W := ([252, 255, 256, 258, 259, 260, 301, 453, 454, 600], [253, 254], [20, 21, 22, 23, 33, 34, 35], [])
set_option maxRecDepth 100000 in
set_option maxHeartbeats 4000000 in
theorem t_X11_weak_N (Γ : hp_G) (l : Launch) (α : hp_T) (g : GC α) (Hs : Heap) (a0 : Nat) (k0 : hp_K α a0 = 12) (a1 : Int32) (a2 : Int32) (a3 : Int32) (a4 : Int32) (hN : hp_N α 618 a0 = none) : Met l yX11_weak (hp_ws yX11_weak cX11_weak 8 (some .int)) (hp_rm 72 9 131316) (hp_PcH Γ α Hs [.ref a0, .int a1, .int a2, .int a3, .int a4]) (va_Qi (fun r β => cg w_X11_weak_S α β) (hp_Bz Γ Hs a0) (hp_A Γ)) 9 131316 (hp_A Γ) := by
  refine hp_startH (by decide) ?_
  intro p e s m below meth c C hr hlk B0 hHs
  have C : hp_C Γ p m c cX11_weak 8 s ([.ref a0, .int a1, .int a2, .int a3, .int a4] : List Value).toArray RX11 := C
  have hx := C.1.1
  have hb := C.1.2.1
  have hown := C.1.2.2.2.1
  have hts := C.1.2.2.2.2
  have B : hp_B Γ (cw w_X11_weak_N) s α α s.heap [] := ⟨B0.1, B0.2.1, cw_rf g⟩
  have lit0 : (0 : Int32).toInt = 0 := by decide
  have lit1 : (1 : Int32).toInt = 1 := by decide
  have hl := lv_entry ([.ref a0, .int a1, .int a2, .int a3, .int a4]) (n := 8) (Nat.le_of_ble_eq_true rfl)
  show W p l e (hp_rm 72 9 131316) s m ([.ref a0, .int a1, .int a2, .int a3, .int a4] : List Value).toArray below meth c s.heap [] 0 0 (MQ below (va_Qi (fun r β => cg w_X11_weak_S α β) (hp_Bz Γ Hs a0) (hp_A Γ)) ([.ref a0, .int a1, .int a2, .int a3, .int a4] : List Value).toArray s 9 131316 (hp_A Γ)) (entryFrame m ([.ref a0, .int a1, .int a2, .int a3, .int a4] : List Value).toArray 8)
  rw [lg_entry_eq]
  generalize (lg_sl ([.ref a0, .int a1, .int a2, .int a3, .int a4]) ++ List.replicate (8 - (lg_sl ([.ref a0, .int a1, .int a2, .int a3, .int a4])).length) Slot.unset).toArray = ls at hl ⊢
  have hl : lv_has ls 8 [(0, .ref a0), (1, .int a1), (2, .int a2), (3, .int a3), (4, .int a4)] := hl
  refine lv_iload hx hb dX11_weak_0 (lv_at hl 4 rfl) (hp_n (n := 2) rfl ?_)
  have J11 : ∀ (Hh_1 : Heap) (Lh_1 : List Loc) (Bh_1 : hp_B Γ (cw w_X11_weak_N) s α α Hh_1 Lh_1) (ls : Array Slot) (hl : lv_has ls 8 [(0, .ref a0)]), W p l e (hp_rm 72 9 131316) s m ([.ref a0, .int a1, .int a2, .int a3, .int a4] : List Value).toArray below meth c Hh_1 Lh_1 0 0 (MQ below (va_Qi (fun r β => cg w_X11_weak_S α β) (hp_Bz Γ Hs a0) (hp_A Γ)) ([.ref a0, .int a1, .int a2, .int a3, .int a4] : List Value).toArray s 9 131316 (hp_A Γ)) (F0 m 11 ls []) := by
    intro Hh_1 Lh_1 Bh_1 ls hl
    refine lv_aload_n hx hb dX11_weak_11 rfl (lv_at hl 0 rfl) (hp_n (n := 12) rfl ?_)
    refine lv_iconst (v := 1) hx hb dX11_weak_12 (by decide) (hp_n (n := 13) rfl ?_)
    refine q_ci (pc' := 16) Bh_1 (hp_runV (As := [.int 1]) (rest := []) C Bh_1 (t_X11_refuse Γ l α Bh_1.2.2.1 a0 (cw_k Bh_1.2.2 k0) 1) lb_X11_refuse lv_X11_refuse lk_X11_98 (cw_k Bh_1.2.2 k0) rfl (by decide) rfl hl.1 rfl (Nat.le_of_ble_eq_true rfl) dX11_weak_13 ⟨Nat.zero_le _, Nat.zero_le _⟩) (fun _ _ h => cw_tr Bh_1.2.2 h (by decide)) rfl (fun rh_2 αh_2 Hh_2 Lh_2 ph_2 Bh_2 => ?_)
    exact q_iretZ C Bh_2 hr hlk hHs (cg_cw Bh_2.2.2) dX11_weak_16
  refine lv_if_lt (tgt := 11) hx hb dX11_weak_2 (by decide) (fun c_3 => ?_) (fun c_3 => hp_n (n := 5) rfl ?_)
  ·
    have jc_3 := il_lt c_3
    exact J11 s.heap [] B ls (lv_sub hl [0] rfl)
  ·
    have jc_3 := il_nlt c_3
    refine lv_iload hx hb dX11_weak_5 (lv_at hl 4 rfl) (hp_n (n := 7) rfl ?_)
    refine lv_iconst (v := 1) hx hb dX11_weak_7 (by decide) (hp_n (n := 8) rfl ?_)
    refine lv_icmp_le (tgt := 17) hx hb dX11_weak_8 (by decide) (fun c_4 => ?_) (fun c_4 => hp_n (n := 11) rfl ?_)
    ·
      have jc_4 := il_le c_4
      refine lv_aload_n hx hb dX11_weak_17 rfl (lv_at hl 0 rfl) (hp_n (n := 18) rfl ?_)
      refine q_getr (κ := 12) (k := 1) (φ := 601) (pc' := 21) C B (cw_k B.2.2 k0) fl_X11_16 rfl rfl rfl (cw_r B.2.2 k0 rfl rfl (by decide) (by decide)) dX11_weak_18 rfl (fun b_5 eb_5 kb_5 => ?_)
      refine lv_iload_n hx hb dX11_weak_21 rfl (lv_at hl 1 rfl) (hp_n (n := 22) rfl ?_)
      refine q_cq (pc' := 25) B (hp_runV (As := [.int a1]) (rest := []) C B (t_X10_logAt Γ l α B.2.2.1 b_5 (cw_k B.2.2 kb_5) a1) lb_X10_logAt lv_X10_logAt lk_X11_163 (cw_k B.2.2 kb_5) rfl (by decide) rfl hl.1 rfl (Nat.le_of_ble_eq_true rfl) dX11_weak_22 ⟨Nat.zero_le _, Nat.zero_le _⟩) (fun _ _ h => by rw [h.1]; exact B.2.2) rfl (fun rh_6 αh_6 Hh_6 Lh_6 ph_6 Bh_6 => ?_)
      rw [ph_6.1] at Bh_6
      rcases rh_6 with _ | bh_6
      ·
        refine lv_astoreN (lv' := [(5, .null), (0, .ref a0), (1, .int a1), (2, .int a2), (3, .int a3), (4, .int a4)]) hx hb dX11_weak_25 hl (by decide) rfl (fun ls hl => hp_n (n := 27) rfl ?_)
        refine lv_aloadN hx hb dX11_weak_27 (lv_at hl 0 rfl) (hp_n (n := 29) rfl ?_)
        refine lv_iload_n hx hb dX11_weak_29 rfl (lv_at hl 3 rfl) (hp_n (n := 30) rfl ?_)
        refine lv_iload_n hx hb dX11_weak_30 rfl (lv_at hl 4 rfl) (hp_n (n := 31) rfl ?_)
        refine q_ci (pc' := 34) Bh_6 (hp_runS (As := [va_rf none, .int a2, .int a3]) (rest := []) C Bh_6 (t_X11_wrongInclusion Γ l α Bh_6.2.2.1 none (fun b h => by cases h) a2 a3) lb_X11_wrongInclusion ls_X11_wrongInclusion lk_X11_264 rfl (by decide) rfl hl.1 rfl (Nat.le_of_ble_eq_true rfl) dX11_weak_31 ⟨Nat.zero_le _, Nat.zero_le _⟩) (fun _ _ h => by rw [h]; exact Bh_6.2.2) rfl (fun rh_7 αh_7 Hh_7 Lh_7 ph_7 Bh_7 => ?_)
        rw [ph_7] at Bh_7
        refine lv_istore (lv' := [(6, .int rh_7), (5, .null), (0, .ref a0), (1, .int a1), (2, .int a2), (3, .int a3), (4, .int a4)]) hx hb dX11_weak_34 hl (by decide) rfl (fun ls hl => hp_n (n := 36) rfl ?_)
        refine lv_iload hx hb dX11_weak_36 (lv_at hl 0 rfl) (hp_n (n := 38) rfl ?_)
        have J46 : ∀ (Hh_8 : Heap) (Lh_8 : List Loc) (Bh_8 : hp_B Γ (cw w_X11_weak_N) s α α Hh_8 Lh_8) (ls : Array Slot) (hl : lv_has ls 8 [(0, .ref a0), (6, .int rh_7)]), W p l e (hp_rm 72 9 131316) s m ([.ref a0, .int a1, .int a2, .int a3, .int a4] : List Value).toArray below meth c Hh_8 Lh_8 0 0 (MQ below (va_Qi (fun r β => cg w_X11_weak_S α β) (hp_Bz Γ Hs a0) (hp_A Γ)) ([.ref a0, .int a1, .int a2, .int a3, .int a4] : List Value).toArray s 9 131316 (hp_A Γ)) (F0 m 46 ls []) := by
          intro Hh_8 Lh_8 Bh_8 ls hl
          refine lv_aload_n hx hb dX11_weak_46 rfl (lv_at hl 0 rfl) (hp_n (n := 47) rfl ?_)
          refine lv_iload hx hb dX11_weak_47 (lv_at hl 1 rfl) (hp_n (n := 49) rfl ?_)
          refine q_ci (pc' := 52) Bh_8 (hp_runV (As := [.int rh_7]) (rest := []) C Bh_8 (t_X11_refuse Γ l α Bh_8.2.2.1 a0 (cw_k Bh_8.2.2 k0) rh_7) lb_X11_refuse lv_X11_refuse lk_X11_98 (cw_k Bh_8.2.2 k0) rfl (by decide) rfl hl.1 rfl (Nat.le_of_ble_eq_true rfl) dX11_weak_49 ⟨Nat.zero_le _, Nat.zero_le _⟩) (fun _ _ h => cw_tr Bh_8.2.2 h (by decide)) rfl (fun rh_9 αh_9 Hh_9 Lh_9 ph_9 Bh_9 => ?_)
          exact q_iretZ C Bh_9 hr hlk hHs (cg_cw Bh_9.2.2) dX11_weak_52
        refine lv_if_ne (tgt := 46) hx hb dX11_weak_38 (by decide) (fun c_10 => ?_) (fun c_10 => hp_n (n := 41) rfl ?_)
        ·
          have jc_10 := il_ne c_10
          exact J46 Hh_7 Lh_7 Bh_7 ls (lv_sub hl [2, 0] rfl)
        ·
          have jc_10 := il_eq c_10
          refine lv_aloadN hx hb dX11_weak_41 (lv_at hl 1 rfl) (hp_n (n := 43) rfl ?_)
          refine lv_ifnonnullN hx hb dX11_weak_43 (hp_n (n := 46) rfl ?_)
          exact J46 Hh_7 Lh_7 Bh_7 ls (lv_sub hl [2, 0] rfl)
      ·
        have kbh_6 : hp_K α bh_6 = 3 := cw_k' Bh_6.2.2 (ph_6.2 bh_6 rfl)
        refine lv_astore (lv' := [(5, .ref bh_6), (0, .ref a0), (1, .int a1), (2, .int a2), (3, .int a3), (4, .int a4)]) hx hb dX11_weak_25 hl (by decide) rfl (fun ls hl => hp_n (n := 27) rfl ?_)
        refine lv_aload hx hb dX11_weak_27 (lv_at hl 0 rfl) (hp_n (n := 29) rfl ?_)
        refine lv_iload_n hx hb dX11_weak_29 rfl (lv_at hl 3 rfl) (hp_n (n := 30) rfl ?_)
        refine lv_iload_n hx hb dX11_weak_30 rfl (lv_at hl 4 rfl) (hp_n (n := 31) rfl ?_)
        refine q_ci (pc' := 34) Bh_6 (hp_runS (As := [va_rf (some bh_6), .int a2, .int a3]) (rest := []) C Bh_6 (t_X11_wrongInclusion Γ l α Bh_6.2.2.1 (some bh_6) (fun b h => by cases h; exact (cw_k Bh_6.2.2 kbh_6)) a2 a3) lb_X11_wrongInclusion ls_X11_wrongInclusion lk_X11_264 rfl (by decide) rfl hl.1 rfl (Nat.le_of_ble_eq_true rfl) dX11_weak_31 ⟨Nat.zero_le _, Nat.zero_le _⟩) (fun _ _ h => by rw [h]; exact Bh_6.2.2) rfl (fun rh_11 αh_11 Hh_11 Lh_11 ph_11 Bh_11 => ?_)
        rw [ph_11] at Bh_11
        refine lv_istore (lv' := [(6, .int rh_11), (5, .ref bh_6), (0, .ref a0), (1, .int a1), (2, .int a2), (3, .int a3), (4, .int a4)]) hx hb dX11_weak_34 hl (by decide) rfl (fun ls hl => hp_n (n := 36) rfl ?_)
        refine lv_iload hx hb dX11_weak_36 (lv_at hl 0 rfl) (hp_n (n := 38) rfl ?_)
        have J46 : ∀ (Hh_12 : Heap) (Lh_12 : List Loc) (Bh_12 : hp_B Γ (cw w_X11_weak_N) s α α Hh_12 Lh_12) (ls : Array Slot) (hl : lv_has ls 8 [(0, .ref a0), (6, .int rh_11)]), W p l e (hp_rm 72 9 131316) s m ([.ref a0, .int a1, .int a2, .int a3, .int a4] : List Value).toArray below meth c Hh_12 Lh_12 0 0 (MQ below (va_Qi (fun r β => cg w_X11_weak_S α β) (hp_Bz Γ Hs a0) (hp_A Γ)) ([.ref a0, .int a1, .int a2, .int a3, .int a4] : List Value).toArray s 9 131316 (hp_A Γ)) (F0 m 46 ls []) := by
          intro Hh_12 Lh_12 Bh_12 ls hl
          refine lv_aload_n hx hb dX11_weak_46 rfl (lv_at hl 0 rfl) (hp_n (n := 47) rfl ?_)
          refine lv_iload hx hb dX11_weak_47 (lv_at hl 1 rfl) (hp_n (n := 49) rfl ?_)
          refine q_ci (pc' := 52) Bh_12 (hp_runV (As := [.int rh_11]) (rest := []) C Bh_12 (t_X11_refuse Γ l α Bh_12.2.2.1 a0 (cw_k Bh_12.2.2 k0) rh_11) lb_X11_refuse lv_X11_refuse lk_X11_98 (cw_k Bh_12.2.2 k0) rfl (by decide) rfl hl.1 rfl (Nat.le_of_ble_eq_true rfl) dX11_weak_49 ⟨Nat.zero_le _, Nat.zero_le _⟩) (fun _ _ h => cw_tr Bh_12.2.2 h (by decide)) rfl (fun rh_13 αh_13 Hh_13 Lh_13 ph_13 Bh_13 => ?_)
          exact q_iretZ C Bh_13 hr hlk hHs (cg_cw Bh_13.2.2) dX11_weak_52
        refine lv_if_ne (tgt := 46) hx hb dX11_weak_38 (by decide) (fun c_14 => ?_) (fun c_14 => hp_n (n := 41) rfl ?_)
        ·
          have jc_14 := il_ne c_14
          exact J46 Hh_11 Lh_11 Bh_11 ls (lv_sub hl [2, 0] rfl)
        ·
          have jc_14 := il_eq c_14
          refine lv_aload hx hb dX11_weak_41 (lv_at hl 1 rfl) (hp_n (n := 43) rfl ?_)
          refine lv_ifnonnull (tgt := 53) hx hb dX11_weak_43 (by decide) ?_
          refine lv_aload_n hx hb dX11_weak_53 rfl (lv_at hl 2 rfl) (hp_n (n := 54) rfl ?_)
          refine q_getr (κ := 12) (k := 12) (φ := 612) (pc' := 57) C Bh_11 (cw_k Bh_11.2.2 k0) fl_X11_62 rfl rfl rfl (cw_r Bh_11.2.2 k0 rfl rfl (by decide) (by decide)) dX11_weak_54 rfl (fun b_15 eb_15 kb_15 => ?_)
          refine lv_iload_n hx hb dX11_weak_57 rfl (lv_at hl 4 rfl) (hp_n (n := 58) rfl ?_)
          refine lv_iload_n hx hb dX11_weak_58 rfl (lv_at hl 5 rfl) (hp_n (n := 59) rfl ?_)
          refine q_cv (pc' := 62) Bh_11 (hp_runV (As := [.int a2, .int a3]) (rest := []) C Bh_11 (t_X8_toThing Γ l α Bh_11.2.2.1 b_15 (cw_k Bh_11.2.2 kb_15) a2 a3) lb_X8_toThing lv_X8_toThing lk_X11_267 (cw_k Bh_11.2.2 kb_15) rfl (by decide) rfl hl.1 rfl (Nat.le_of_ble_eq_true rfl) dX11_weak_59 ⟨Nat.zero_le _, Nat.zero_le _⟩) (fun _ h => cw_tr Bh_11.2.2 h (by decide)) rfl (fun αh_16 Hh_16 Lh_16 ph_16 Bh_16 => ?_)
          refine lv_aload_n hx hb dX11_weak_62 rfl (lv_at hl 2 rfl) (hp_n (n := 63) rfl ?_)
          have t_17 : b_5 = hp_R αh_16 601 a0 := by rw [cw_R ph_16 a0 (by decide)]; exact eb_5
          refine q_gets (κ := 12) (k := 1) (φ := 601) (pc' := 66) C Bh_16 (cw_k Bh_16.2.2 k0) fl_X11_16 rfl rfl rfl t_17 dX11_weak_63 rfl ?_
          refine lv_aload_n hx hb dX11_weak_66 rfl (lv_at hl 2 rfl) (hp_n (n := 67) rfl ?_)
          have t_18 : b_15 = hp_R αh_16 612 a0 := by rw [cw_R ph_16 a0 (by decide)]; exact eb_15
          refine q_gets (κ := 12) (k := 12) (φ := 612) (pc' := 70) C Bh_16 (cw_k Bh_16.2.2 k0) fl_X11_62 rfl rfl rfl t_18 dX11_weak_67 rfl ?_
          refine lv_aload hx hb dX11_weak_70 (lv_at hl 1 rfl) (hp_n (n := 72) rfl ?_)
          refine lv_aload_n hx hb dX11_weak_72 rfl (lv_at hl 2 rfl) (hp_n (n := 73) rfl ?_)
          refine q_getr (κ := 12) (k := 14) (φ := 614) (pc' := 76) C Bh_16 (cw_k Bh_16.2.2 k0) fl_X11_69 rfl rfl rfl (cw_r Bh_16.2.2 k0 rfl rfl (by decide) (by decide)) dX11_weak_73 rfl (fun b_19 eb_19 kb_19 => ?_)
          refine q_cv (pc' := 79) Bh_16 (hp_runV (As := [.ref b_15, va_rf (some bh_6), .ref b_19]) (rest := []) C Bh_16 (t_X10_marksAlong Γ l αh_16 Bh_16.2.2.1 b_5 (cw_k Bh_16.2.2 kb_5) b_15 (cw_k Bh_16.2.2 kb_15) (some bh_6) (fun b h => by cases h; exact (cw_k Bh_16.2.2 kbh_6)) b_19 (cw_k Bh_16.2.2 kb_19)) lb_X10_marksAlong lv_X10_marksAlong lk_X11_270 (cw_k Bh_16.2.2 kb_5) rfl (by decide) rfl hl.1 rfl (Nat.le_of_ble_eq_true rfl) dX11_weak_76 ⟨Nat.zero_le _, Nat.zero_le _⟩) (fun _ h => cw_tr Bh_16.2.2 h (by decide)) rfl (fun αh_20 Hh_20 Lh_20 ph_20 Bh_20 => ?_)
          refine lv_aload_n hx hb dX11_weak_79 rfl (lv_at hl 2 rfl) (hp_n (n := 80) rfl ?_)
          have kaN := (cw_k Bh_20.2.2 k0)
          have BN : hp_B Γ (fun _ _ => True) s α αh_20 Hh_20 Lh_20 := ⟨Bh_20.1, Bh_20.2.1, trivial⟩
          refine q_cq (pc' := 83) BN (hp_runV (As := []) (rest := []) C BN (t_X11_preparedRoots_N Γ l αh_20 Bh_20.2.2.1 a0 kaN (by rw [Bh_20.2.2.2.2.1]; exact hN)) lb_X11_preparedRoots lv_X11_preparedRoots lk_X11_363 kaN rfl (by decide) rfl hl.1 rfl (Nat.le_of_ble_eq_true rfl) dX11_weak_80 ⟨Nat.le_refl _, Nat.le_refl _⟩) (fun _ _ _ => trivial) rfl (fun rN αN HN LN pN BM => ?_)
          obtain ⟨b0, rfl, cN, kN, nN⟩ := pN
          have ckN : ∀ b, hp_K α b ≠ 0 → hp_K αN b = hp_K α b := fun b hb => by rw [cN.2.1 b (by rw [Bh_20.2.2.2.1]; exact hb), Bh_20.2.2.2.1]
          exact u_X11_weak Γ l αN cN.1 a0 ((ckN _ (by rw [k0]; decide)).trans k0) a2 a3 a4 bh_6 ((ckN _ (by rw [kbh_6]; decide)).trans kbh_6) b0 kN C hr hlk HN LN ⟨BM.1, BM.2.1, cw_rf cN.1⟩ _ _ (fun _ _ hw => cg_tr (cg_tr (cg_cw Bh_20.2.2) cN (by decide)) (cg_cw hw) (by decide)) (fun β t hw hR => ⟨hR, fun hn => by rw [hw.2.2.1, nN] at hn; cases hn⟩) ls (lv_sub hl [2, 4, 5, 6, 1] rfl)
    ·
      have jc_4 := il_nle c_4
      exact J11 s.heap [] B ls (lv_sub hl [0] rfl)
set_option maxRecDepth 100000 in
set_option maxHeartbeats 4000000 in
theorem u_X11_forge (Γ : hp_G) (l : Launch) (α : hp_T) (g : GC α) (a0 : Nat) (k0 : hp_K α a0 = 12) (a1 : Int32) (a4 : Int32) (a5 : Int32) (b0 : Nat) (kb0 : hp_K α b0 = 5) {p : Program} {e : Env} {s : State} {m : MethodId} {below : List Frame} {meth : Method} {c : Code} {args0 : Array Value} (C : hp_C Γ p m c cX11_forge 7 s args0 RX11) (hr : meth.sig.returnType = (some .int)) (hlk : meth.locks = false) (H0 : Heap) (L0 : List Loc) (B : hp_B Γ (cw w_X11_forge_S) s α α H0 L0) (Pst : Int32 → hp_T → Prop) (Bq : hp_T → State → Prop) (hP : ∀ r β, cw w_X11_forge_S α β → Pst r β) (hq : ∀ β (t : State), cw w_X11_forge_S α β → hp_Rep Γ β t.heap → Bq β t) (ls : Array Slot) (hl : lv_has ls 7 [(0, .ref a0), (1, .int a1), (4, .int a4), (5, .int a5)]) : W p l e (hp_rm 72 9 131316) s m args0 below meth c H0 L0 9 131316 (MQ below (va_Qi Pst Bq (hp_A Γ)) args0 s 9 131316 (hp_A Γ)) (F0 m 84 ls [.ref b0]) := by
  have hx := C.1.1
  have hb := C.1.2.1
  have hown := C.1.2.2.2.1
  have hts := C.1.2.2.2.2
  have lit0 : (0 : Int32).toInt = 0 := by decide
  have lit5 : (5 : Int32).toInt = 5 := by decide
  refine lv_astore (lv' := [(6, .ref b0), (0, .ref a0), (1, .int a1), (4, .int a4), (5, .int a5)]) hx hb dX11_forge_84 hl (by decide) rfl (fun ls hl => hp_n (n := 86) rfl ?_)
  refine lv_aload hx hb dX11_forge_86 (lv_at hl 0 rfl) (hp_n (n := 88) rfl ?_)
  refine lv_aload_n hx hb dX11_forge_88 rfl (lv_at hl 1 rfl) (hp_n (n := 89) rfl ?_)
  refine q_getr (κ := 12) (k := 12) (φ := 612) (pc' := 92) C B (cw_k B.2.2 k0) fl_X11_62 rfl rfl rfl (cw_r B.2.2 k0 rfl rfl (by decide) (by decide)) dX11_forge_89 rfl (fun b_1 eb_1 kb_1 => ?_)
  refine lv_aload_n hx hb dX11_forge_92 rfl (lv_at hl 1 rfl) (hp_n (n := 93) rfl ?_)
  refine q_getr (κ := 12) (k := 3) (φ := 603) (pc' := 96) C B (cw_k B.2.2 k0) fl_X11_26 rfl rfl rfl (cw_r B.2.2 k0 rfl rfl (by decide) (by decide)) dX11_forge_93 rfl (fun b_2 eb_2 kb_2 => ?_)
  refine lv_aload_n hx hb dX11_forge_96 rfl (lv_at hl 1 rfl) (hp_n (n := 97) rfl ?_)
  refine q_gets (κ := 12) (k := 12) (φ := 612) (pc' := 100) C B (cw_k B.2.2 k0) fl_X11_62 rfl rfl rfl eb_1 dX11_forge_97 rfl ?_
  refine lv_aload_n hx hb dX11_forge_100 rfl (lv_at hl 1 rfl) (hp_n (n := 101) rfl ?_)
  refine q_getr (κ := 12) (k := 1) (φ := 601) (pc' := 104) C B (cw_k B.2.2 k0) fl_X11_16 rfl rfl rfl (cw_r B.2.2 k0 rfl rfl (by decide) (by decide)) dX11_forge_101 rfl (fun b_3 eb_3 kb_3 => ?_)
  refine q_geti (κ := 11) (k := 0) (φ := 550) (pc' := 107) C B (cw_k B.2.2 kb_3) fl_X11_122 rfl rfl rfl dX11_forge_104 rfl (fun x_4 ex_4 => ?_)
  refine lv_aload_n hx hb dX11_forge_107 rfl (lv_at hl 1 rfl) (hp_n (n := 108) rfl ?_)
  refine q_gets (κ := 12) (k := 3) (φ := 603) (pc' := 111) C B (cw_k B.2.2 k0) fl_X11_26 rfl rfl rfl eb_2 dX11_forge_108 rfl ?_
  refine lv_iload_n hx hb dX11_forge_111 rfl (lv_at hl 2 rfl) (hp_n (n := 112) rfl ?_)
  refine lv_iload hx hb dX11_forge_112 (lv_at hl 4 rfl) (hp_n (n := 114) rfl ?_)
  refine q_ci (pc' := 117) B (hp_runV (As := [.int x_4, .ref b_2, .int a1, .int a5]) (rest := [.ref b_2, .ref b_1, .ref b0]) C B (t_X8_folded Γ l α B.2.2.1 b_1 (cw_k B.2.2 kb_1) x_4 b_2 (cw_k B.2.2 kb_2) a1 a5) lb_X8_folded lv_X8_folded lk_X11_382 (cw_k B.2.2 kb_1) rfl (by decide) rfl hl.1 rfl (Nat.le_of_ble_eq_true rfl) dX11_forge_114 ⟨Nat.le_refl _, Nat.le_refl _⟩) (fun _ _ h => by rw [h]; exact B.2.2) rfl (fun rh_5 αh_5 Hh_5 Lh_5 ph_5 Bh_5 => ?_)
  rw [ph_5] at Bh_5
  refine lv_iload hx hb dX11_forge_117 (lv_at hl 3 rfl) (hp_n (n := 119) rfl ?_)
  refine lv_iload hx hb dX11_forge_119 (lv_at hl 4 rfl) (hp_n (n := 121) rfl ?_)
  refine q_cv (pc' := 124) Bh_5 (hp_runV (As := [.ref b_1, .ref b_2, .int rh_5, .int a4, .int a5]) (rest := []) C Bh_5 (t_X4_seekStep Γ l α Bh_5.2.2.1 b0 (cw_k Bh_5.2.2 kb0) b_1 (cw_k Bh_5.2.2 kb_1) b_2 (cw_k Bh_5.2.2 kb_2) rh_5 a4 a5) lb_X4_seekStep lv_X4_seekStep lk_X11_388 (cw_k Bh_5.2.2 kb0) rfl (by decide) rfl hl.1 rfl (Nat.le_of_ble_eq_true rfl) dX11_forge_121 ⟨Nat.le_refl _, Nat.le_refl _⟩) (fun _ h => cw_tr Bh_5.2.2 h (by decide)) rfl (fun αh_6 Hh_6 Lh_6 ph_6 Bh_6 => ?_)
  refine lv_aload hx hb dX11_forge_124 (lv_at hl 0 rfl) (hp_n (n := 126) rfl ?_)
  refine q_geti (κ := 5) (k := 9) (φ := 259) (pc' := 129) C Bh_6 (cw_k Bh_6.2.2 kb0) fl_X11_373 rfl rfl rfl dX11_forge_126 rfl (fun x_7 ex_7 => ?_)
  refine lv_if_ne (tgt := 140) hx hb dX11_forge_129 (by decide) (fun c_8 => ?_) (fun c_8 => hp_n (n := 132) rfl ?_)
  ·
    have jc_8 := il_ne c_8
    refine lv_aload_n hx hb dX11_forge_140 rfl (lv_at hl 1 rfl) (hp_n (n := 141) rfl ?_)
    refine lv_aload hx hb dX11_forge_141 (lv_at hl 0 rfl) (hp_n (n := 143) rfl ?_)
    refine q_geti (κ := 5) (k := 10) (φ := 260) (pc' := 146) C Bh_6 (cw_k Bh_6.2.2 kb0) fl_X11_376 rfl rfl rfl dX11_forge_143 rfl (fun x_9 ex_9 => ?_)
    refine q_ci (pc' := 149) Bh_6 (hp_runV (As := [.int x_9]) (rest := []) C Bh_6 (t_X11_answer Γ l αh_6 Bh_6.2.2.1 a0 (cw_k Bh_6.2.2 k0) x_9) lb_X11_answer lv_X11_answer lk_X11_115 (cw_k Bh_6.2.2 k0) rfl (by decide) rfl hl.1 rfl (Nat.le_of_ble_eq_true rfl) dX11_forge_146 ⟨Nat.le_refl _, Nat.le_refl _⟩) (fun _ _ h => cw_tr Bh_6.2.2 h (by decide)) rfl (fun rh_10 αh_10 Hh_10 Lh_10 ph_10 Bh_10 => ?_)
    exact q_iretQ C Bh_10 hr hlk (hP _ _ Bh_10.2.2) (fun t ht => hq _ t Bh_10.2.2 ht) dX11_forge_149
  ·
    have jc_8 := il_eq c_8
    refine lv_aload_n hx hb dX11_forge_132 rfl (lv_at hl 1 rfl) (hp_n (n := 133) rfl ?_)
    refine lv_iconst (v := 5) hx hb dX11_forge_133 (by decide) (hp_n (n := 134) rfl ?_)
    refine q_ci (pc' := 137) Bh_6 (hp_runV (As := [.int 5]) (rest := []) C Bh_6 (t_X11_refuse Γ l αh_6 Bh_6.2.2.1 a0 (cw_k Bh_6.2.2 k0) 5) lb_X11_refuse lv_X11_refuse lk_X11_98 (cw_k Bh_6.2.2 k0) rfl (by decide) rfl hl.1 rfl (Nat.le_of_ble_eq_true rfl) dX11_forge_134 ⟨Nat.le_refl _, Nat.le_refl _⟩) (fun _ _ h => cw_tr Bh_6.2.2 h (by decide)) rfl (fun rh_11 αh_11 Hh_11 Lh_11 ph_11 Bh_11 => ?_)
    refine lv_goto (tgt := 149) hx hb dX11_forge_137 (by decide) ?_
    exact q_iretQ C Bh_11 hr hlk (hP _ _ Bh_11.2.2) (fun t ht => hq _ t Bh_11.2.2 ht) dX11_forge_149
abbrev w_X11_forge_N : cw_W := ([252, 255, 256, 257, 258, 259, 260, 453, 454, 600], [253, 254], [21, 22, 23, 34, 35], [])
set_option maxRecDepth 100000 in
set_option maxHeartbeats 4000000 in
theorem t_X11_forge_N (Γ : hp_G) (l : Launch) (α : hp_T) (g : GC α) (Hs : Heap) (a0 : Nat) (k0 : hp_K α a0 = 12) (a1 : Int32) (a2 : Int32) (a3 : Int32) (a4 : Int32) (a5 : Int32) (hN : hp_N α 618 a0 = none) : Met l yX11_forge (hp_ws yX11_forge cX11_forge 7 (some .int)) (hp_rm 72 9 131316) (hp_PcH Γ α Hs [.ref a0, .int a1, .int a2, .int a3, .int a4, .int a5]) (va_Qi (fun r β => cg w_X11_forge_S α β) (hp_Bz Γ Hs a0) (hp_A Γ)) 9 131316 (hp_A Γ) := by
  refine hp_startH (by decide) ?_
  intro p e s m below meth c C hr hlk B0 hHs
  have C : hp_C Γ p m c cX11_forge 7 s ([.ref a0, .int a1, .int a2, .int a3, .int a4, .int a5] : List Value).toArray RX11 := C
  have hx := C.1.1
  have hb := C.1.2.1
  have hown := C.1.2.2.2.1
  have hts := C.1.2.2.2.2
  have B : hp_B Γ (cw w_X11_forge_N) s α α s.heap [] := ⟨B0.1, B0.2.1, cw_rf g⟩
  have lit0 : (0 : Int32).toInt = 0 := by decide
  have lit1 : (1 : Int32).toInt = 1 := by decide
  have lit5 : (5 : Int32).toInt = 5 := by decide
  have hl := lv_entry ([.ref a0, .int a1, .int a2, .int a3, .int a4, .int a5]) (n := 7) (Nat.le_of_ble_eq_true rfl)
  show W p l e (hp_rm 72 9 131316) s m ([.ref a0, .int a1, .int a2, .int a3, .int a4, .int a5] : List Value).toArray below meth c s.heap [] 0 0 (MQ below (va_Qi (fun r β => cg w_X11_forge_S α β) (hp_Bz Γ Hs a0) (hp_A Γ)) ([.ref a0, .int a1, .int a2, .int a3, .int a4, .int a5] : List Value).toArray s 9 131316 (hp_A Γ)) (entryFrame m ([.ref a0, .int a1, .int a2, .int a3, .int a4, .int a5] : List Value).toArray 7)
  rw [lg_entry_eq]
  generalize (lg_sl ([.ref a0, .int a1, .int a2, .int a3, .int a4, .int a5]) ++ List.replicate (7 - (lg_sl ([.ref a0, .int a1, .int a2, .int a3, .int a4, .int a5])).length) Slot.unset).toArray = ls at hl ⊢
  have hl : lv_has ls 7 [(0, .ref a0), (1, .int a1), (2, .int a2), (3, .int a3), (4, .int a4), (5, .int a5)] := hl
  refine lv_iload_n hx hb dX11_forge_0 rfl (lv_at hl 2 rfl) (hp_n (n := 1) rfl ?_)
  refine lv_iload_n hx hb dX11_forge_1 rfl (lv_at hl 3 rfl) (hp_n (n := 2) rfl ?_)
  refine q_ci (pc' := 5) B (hp_runS (As := [.int a2, .int a3]) (rest := []) C B (t_X11_isThing Γ l α B.2.2.1 a2 a3) lb_X11_isThing ls_X11_isThing lk_X11_301 rfl (by decide) rfl hl.1 rfl (Nat.le_of_ble_eq_true rfl) dX11_forge_2 ⟨Nat.zero_le _, Nat.zero_le _⟩) (fun _ _ h => by rw [h.1]; exact B.2.2) rfl (fun rh_1 αh_1 Hh_1 Lh_1 ph_1 Bh_1 => ?_)
  rw [ph_1.1] at Bh_1
  have zh_1 := ph_1.2
  have J30 : ∀ (Hh_2 : Heap) (Lh_2 : List Loc) (Bh_2 : hp_B Γ (cw w_X11_forge_N) s α α Hh_2 Lh_2) (ls : Array Slot) (hl : lv_has ls 7 [(0, .ref a0)]), W p l e (hp_rm 72 9 131316) s m ([.ref a0, .int a1, .int a2, .int a3, .int a4, .int a5] : List Value).toArray below meth c Hh_2 Lh_2 0 0 (MQ below (va_Qi (fun r β => cg w_X11_forge_S α β) (hp_Bz Γ Hs a0) (hp_A Γ)) ([.ref a0, .int a1, .int a2, .int a3, .int a4, .int a5] : List Value).toArray s 9 131316 (hp_A Γ)) (F0 m 30 ls []) := by
    intro Hh_2 Lh_2 Bh_2 ls hl
    refine lv_aload_n hx hb dX11_forge_30 rfl (lv_at hl 0 rfl) (hp_n (n := 31) rfl ?_)
    refine lv_iconst (v := 1) hx hb dX11_forge_31 (by decide) (hp_n (n := 32) rfl ?_)
    refine q_ci (pc' := 35) Bh_2 (hp_runV (As := [.int 1]) (rest := []) C Bh_2 (t_X11_refuse Γ l α Bh_2.2.2.1 a0 (cw_k Bh_2.2.2 k0) 1) lb_X11_refuse lv_X11_refuse lk_X11_98 (cw_k Bh_2.2.2 k0) rfl (by decide) rfl hl.1 rfl (Nat.le_of_ble_eq_true rfl) dX11_forge_32 ⟨Nat.zero_le _, Nat.zero_le _⟩) (fun _ _ h => cw_tr Bh_2.2.2 h (by decide)) rfl (fun rh_3 αh_3 Hh_3 Lh_3 ph_3 Bh_3 => ?_)
    exact q_iretZ C Bh_3 hr hlk hHs (cg_cw Bh_3.2.2) dX11_forge_35
  refine lv_if_eq (tgt := 30) hx hb dX11_forge_5 (by decide) (fun c_4 => ?_) (fun c_4 => hp_n (n := 8) rfl ?_)
  ·
    have jc_4 := il_eq c_4
    exact J30 Hh_1 Lh_1 Bh_1 ls (lv_sub hl [0] rfl)
  ·
    have jc_4 := il_ne c_4
    refine lv_iload hx hb dX11_forge_8 (lv_at hl 5 rfl) (hp_n (n := 10) rfl ?_)
    refine lv_if_lt (tgt := 30) hx hb dX11_forge_10 (by decide) (fun c_5 => ?_) (fun c_5 => hp_n (n := 13) rfl ?_)
    ·
      have jc_5 := il_lt c_5
      exact J30 Hh_1 Lh_1 Bh_1 ls (lv_sub hl [0] rfl)
    ·
      have jc_5 := il_nlt c_5
      refine lv_aload_n hx hb dX11_forge_13 rfl (lv_at hl 0 rfl) (hp_n (n := 14) rfl ?_)
      refine lv_iload_n hx hb dX11_forge_14 rfl (lv_at hl 1 rfl) (hp_n (n := 15) rfl ?_)
      refine q_ci (pc' := 18) Bh_1 (hp_runV (As := [.int a1]) (rest := []) C Bh_1 (t_X11_isMark Γ l α Bh_1.2.2.1 a0 (cw_k Bh_1.2.2 k0) a1) lb_X11_isMark lv_X11_isMark lk_X11_188 (cw_k Bh_1.2.2 k0) rfl (by decide) rfl hl.1 rfl (Nat.le_of_ble_eq_true rfl) dX11_forge_15 ⟨Nat.zero_le _, Nat.zero_le _⟩) (fun _ _ h => by rw [h.1]; exact Bh_1.2.2) rfl (fun rh_6 αh_6 Hh_6 Lh_6 ph_6 Bh_6 => ?_)
      rw [ph_6.1] at Bh_6
      have zh_6 := ph_6.2
      refine lv_if_eq (tgt := 30) hx hb dX11_forge_18 (by decide) (fun c_7 => ?_) (fun c_7 => hp_n (n := 21) rfl ?_)
      ·
        have jc_7 := il_eq c_7
        exact J30 Hh_6 Lh_6 Bh_6 ls (lv_sub hl [0] rfl)
      ·
        have jc_7 := il_ne c_7
        refine lv_aload_n hx hb dX11_forge_21 rfl (lv_at hl 0 rfl) (hp_n (n := 22) rfl ?_)
        refine lv_iload hx hb dX11_forge_22 (lv_at hl 4 rfl) (hp_n (n := 24) rfl ?_)
        refine q_ci (pc' := 27) Bh_6 (hp_runV (As := [.int a4]) (rest := []) C Bh_6 (t_X11_isMark Γ l α Bh_6.2.2.1 a0 (cw_k Bh_6.2.2 k0) a4) lb_X11_isMark lv_X11_isMark lk_X11_188 (cw_k Bh_6.2.2 k0) rfl (by decide) rfl hl.1 rfl (Nat.le_of_ble_eq_true rfl) dX11_forge_24 ⟨Nat.zero_le _, Nat.zero_le _⟩) (fun _ _ h => by rw [h.1]; exact Bh_6.2.2) rfl (fun rh_8 αh_8 Hh_8 Lh_8 ph_8 Bh_8 => ?_)
        rw [ph_8.1] at Bh_8
        have zh_8 := ph_8.2
        refine lv_if_ne (tgt := 36) hx hb dX11_forge_27 (by decide) (fun c_9 => ?_) (fun c_9 => hp_n (n := 30) rfl ?_)
        ·
          have jc_9 := il_ne c_9
          refine lv_aload_n hx hb dX11_forge_36 rfl (lv_at hl 0 rfl) (hp_n (n := 37) rfl ?_)
          refine q_getr (κ := 12) (k := 12) (φ := 612) (pc' := 40) C Bh_8 (cw_k Bh_8.2.2 k0) fl_X11_62 rfl rfl rfl (cw_r Bh_8.2.2 k0 rfl rfl (by decide) (by decide)) dX11_forge_37 rfl (fun b_10 eb_10 kb_10 => ?_)
          refine lv_iload_n hx hb dX11_forge_40 rfl (lv_at hl 2 rfl) (hp_n (n := 41) rfl ?_)
          refine lv_iload_n hx hb dX11_forge_41 rfl (lv_at hl 3 rfl) (hp_n (n := 42) rfl ?_)
          refine q_cv (pc' := 45) Bh_8 (hp_runV (As := [.int a2, .int a3]) (rest := []) C Bh_8 (t_X8_toThing Γ l α Bh_8.2.2.1 b_10 (cw_k Bh_8.2.2 kb_10) a2 a3) lb_X8_toThing lv_X8_toThing lk_X11_267 (cw_k Bh_8.2.2 kb_10) rfl (by decide) rfl hl.1 rfl (Nat.le_of_ble_eq_true rfl) dX11_forge_42 ⟨Nat.zero_le _, Nat.zero_le _⟩) (fun _ h => cw_tr Bh_8.2.2 h (by decide)) rfl (fun αh_11 Hh_11 Lh_11 ph_11 Bh_11 => ?_)
          refine lv_aload_n hx hb dX11_forge_45 rfl (lv_at hl 0 rfl) (hp_n (n := 46) rfl ?_)
          refine q_getr (κ := 12) (k := 3) (φ := 603) (pc' := 49) C Bh_11 (cw_k Bh_11.2.2 k0) fl_X11_26 rfl rfl rfl (cw_r Bh_11.2.2 k0 rfl rfl (by decide) (by decide)) dX11_forge_46 rfl (fun b_12 eb_12 kb_12 => ?_)
          refine q_geti (κ := 6) (k := 1) (φ := 301) (pc' := 52) C Bh_11 (cw_k Bh_11.2.2 kb_12) fl_X11_132 rfl rfl rfl dX11_forge_49 rfl (fun x_13 ex_13 => ?_)
          refine lv_aload_n hx hb dX11_forge_52 rfl (lv_at hl 0 rfl) (hp_n (n := 53) rfl ?_)
          have t_14 : b_10 = hp_R αh_11 612 a0 := by rw [cw_R ph_11 a0 (by decide)]; exact eb_10
          refine q_gets (κ := 12) (k := 12) (φ := 612) (pc' := 56) C Bh_11 (cw_k Bh_11.2.2 k0) fl_X11_62 rfl rfl rfl t_14 dX11_forge_53 rfl ?_
          refine q_geti (κ := 9) (k := 3) (φ := 453) (pc' := 59) C Bh_11 (cw_k Bh_11.2.2 kb_10) fl_X11_312 rfl rfl rfl dX11_forge_56 rfl (fun x_15 ex_15 => ?_)
          obtain ⟨gx_15a, gx_15b⟩ : 0 ≤ x_15.toInt ∧ x_15.toInt ≤ 64 := by rw [ex_15]; exact Bh_11.2.2.1.1 453 b_10 rfl
          have J74 : ∀ (Hh_16 : Heap) (Lh_16 : List Loc) (Bh_16 : hp_B Γ (cw w_X11_forge_N) s α αh_11 Hh_16 Lh_16) (ls : Array Slot) (hl : lv_has ls 7 [(0, .ref a0)]), W p l e (hp_rm 72 9 131316) s m ([.ref a0, .int a1, .int a2, .int a3, .int a4, .int a5] : List Value).toArray below meth c Hh_16 Lh_16 0 0 (MQ below (va_Qi (fun r β => cg w_X11_forge_S α β) (hp_Bz Γ Hs a0) (hp_A Γ)) ([.ref a0, .int a1, .int a2, .int a3, .int a4, .int a5] : List Value).toArray s 9 131316 (hp_A Γ)) (F0 m 74 ls []) := by
            intro Hh_16 Lh_16 Bh_16 ls hl
            refine lv_aload_n hx hb dX11_forge_74 rfl (lv_at hl 0 rfl) (hp_n (n := 75) rfl ?_)
            refine lv_iconst (v := 5) hx hb dX11_forge_75 (by decide) (hp_n (n := 76) rfl ?_)
            refine q_ci (pc' := 79) Bh_16 (hp_runV (As := [.int 5]) (rest := []) C Bh_16 (t_X11_refuse Γ l αh_11 Bh_16.2.2.1 a0 (cw_k Bh_16.2.2 k0) 5) lb_X11_refuse lv_X11_refuse lk_X11_98 (cw_k Bh_16.2.2 k0) rfl (by decide) rfl hl.1 rfl (Nat.le_of_ble_eq_true rfl) dX11_forge_76 ⟨Nat.zero_le _, Nat.zero_le _⟩) (fun _ _ h => cw_tr Bh_16.2.2 h (by decide)) rfl (fun rh_17 αh_17 Hh_17 Lh_17 ph_17 Bh_17 => ?_)
            exact q_iretZ C Bh_17 hr hlk hHs (cg_cw Bh_17.2.2) dX11_forge_79
          refine lv_icmp_ne (tgt := 74) hx hb dX11_forge_59 (by decide) (fun c_18 => ?_) (fun c_18 => hp_n (n := 62) rfl ?_)
          ·
            have jc_18 := il_ne c_18
            exact J74 Hh_11 Lh_11 Bh_11 ls (lv_sub hl [0] rfl)
          ·
            have jc_18 := il_eq c_18
            refine lv_iload hx hb dX11_forge_62 (lv_at hl 5 rfl) (hp_n (n := 64) rfl ?_)
            refine lv_aload_n hx hb dX11_forge_64 rfl (lv_at hl 0 rfl) (hp_n (n := 65) rfl ?_)
            refine q_gets (κ := 12) (k := 3) (φ := 603) (pc' := 68) C Bh_11 (cw_k Bh_11.2.2 k0) fl_X11_26 rfl rfl rfl eb_12 dX11_forge_65 rfl ?_
            refine q_getj (κ := 6) (k := 1) (φ := 301) (pc' := 71) C Bh_11 (cw_k Bh_11.2.2 kb_12) fl_X11_132 rfl rfl rfl ex_13 dX11_forge_68 rfl ?_
            refine lv_icmp_lt (tgt := 80) hx hb dX11_forge_71 (by decide) (fun c_19 => ?_) (fun c_19 => hp_n (n := 74) rfl ?_)
            ·
              have jc_19 := il_lt c_19
              refine lv_aload_n hx hb dX11_forge_80 rfl (lv_at hl 0 rfl) (hp_n (n := 81) rfl ?_)
              have kaN := (cw_k Bh_11.2.2 k0)
              have BN : hp_B Γ (fun _ _ => True) s α αh_11 Hh_11 Lh_11 := ⟨Bh_11.1, Bh_11.2.1, trivial⟩
              refine q_cq (pc' := 84) BN (hp_runV (As := []) (rest := []) C BN (t_X11_preparedRoots_N Γ l αh_11 Bh_11.2.2.1 a0 kaN (by rw [Bh_11.2.2.2.2.1]; exact hN)) lb_X11_preparedRoots lv_X11_preparedRoots lk_X11_363 kaN rfl (by decide) rfl hl.1 rfl (Nat.le_of_ble_eq_true rfl) dX11_forge_81 ⟨Nat.le_refl _, Nat.le_refl _⟩) (fun _ _ _ => trivial) rfl (fun rN αN HN LN pN BM => ?_)
              obtain ⟨b0, rfl, cN, kN, nN⟩ := pN
              have ckN : ∀ b, hp_K α b ≠ 0 → hp_K αN b = hp_K α b := fun b hb => by rw [cN.2.1 b (by rw [Bh_11.2.2.2.1]; exact hb), Bh_11.2.2.2.1]
              exact u_X11_forge Γ l αN cN.1 a0 ((ckN _ (by rw [k0]; decide)).trans k0) a1 a4 a5 b0 kN C hr hlk HN LN ⟨BM.1, BM.2.1, cw_rf cN.1⟩ _ _ (fun _ _ hw => cg_tr (cg_tr (cg_cw Bh_11.2.2) cN (by decide)) (cg_cw hw) (by decide)) (fun β t hw hR => ⟨hR, fun hn => by rw [hw.2.2.1, nN] at hn; cases hn⟩) ls (lv_sub hl [0, 1, 4, 5] rfl)
            ·
              have jc_19 := il_nlt c_19
              exact J74 Hh_11 Lh_11 Bh_11 ls (lv_sub hl [0] rfl)
        ·
          have jc_9 := il_eq c_9
          exact J30 Hh_8 Lh_8 Bh_8 ls (lv_sub hl [0] rfl)
end JN7_6
section JN7_7
/-! ===== pure functions: what comes of them ===== -/
def ws {R : Type} (o : Option R) (P : R → Prop) : Prop := ∃ r, o = some r ∧ P r
section WS
variable {R A : Type} {P Q : R → Prop} {k : Option R} {i j : Int32} {n : Nat}
theorem ws_s {r : R} (h : P r) : ws (some r) P := ⟨r, rfl, h⟩
theorem ws_m {o : Option R} (h : ws o P) (g : ∀ r, P r → Q r) : ws o Q := by
  obtain ⟨r, h1, h2⟩ := h
  exact ⟨r, h1, g r h2⟩
theorem ws_g (h0 : 0 ≤ i.toInt) (h1 : i.toInt < (n : Int)) (h : ws k P) : ws (ms_g i n k) P := by
  unfold ms_g; rw [if_pos ⟨h0, h1⟩]; exact h
theorem ws_n (h0 : ¬ i = 0) (h : ws k P) : ws (ms_n i k) P := by
  unfold ms_n; rw [if_neg h0]; exact h
theorem ws_nl {i : Int64} (h0 : ¬ i = 0) (h : ws k P) : ws (ms_nl i k) P := by
  unfold ms_nl; rw [if_neg h0]; exact h
theorem ws_z (h0 : i = 0 ∨ i = 1) (h : ws k P) : ws (ms_z i k) P := by
  unfold ms_z; rw [if_pos h0]; exact h
theorem ws_q (h0 : 0 ≤ i.toInt) (h1 : i.toInt < j.toInt) (h : ws k P) : ws (ms_q i j k) P := by
  unfold ms_q; rw [if_pos ⟨h0, h1⟩]; exact h
theorem ws_l {v : A} {k : A → Option R} (h : ws (k v) P) : ws (ms_l v k) P := h
theorem ws_ln {v : A} {k : A → Option R} (h : ∀ x, x = v → ws (k x) P) : ws (ms_l v k) P := h v rfl
theorem ws_b {x : Option A} {k : A → Option R} {S : A → Prop} (h : ws x S) (g : ∀ a, S a → ws (k a) P) : ws (ms_b x k) P := by
  obtain ⟨a, h1, h2⟩ := h
  unfold ms_b; rw [h1]; exact g a h2
theorem ws_c {x : Option (A × ms_T)} {k : A → ms_T → Option R} {S : A × ms_T → Prop} (h : ws x S) (g : ∀ a τ, S (a, τ) → ws (k a τ) P) : ws (ms_c x k) P := by
  obtain ⟨a, h1, h2⟩ := h
  unfold ms_c; rw [h1]; exact g a.1 a.2 h2
theorem ws_i {c : Prop} [Decidable c] {a b : Option R} (h : c → ws a P) (g : ¬ c → ws b P) : ws (if c then a else b) P := by
  by_cases e : c
  · rw [if_pos e]; exact h e
  · rw [if_neg e]; exact g e
theorem ws_lt {a b : Option R} (h : i.toInt < j.toInt → ws a P) (g : j.toInt ≤ i.toInt → ws b P) : ws (if i < j then a else b) P := ws_i (fun e => h (il_lt e)) (fun e => g (il_nlt e))
theorem ws_le {a b : Option R} (h : i.toInt ≤ j.toInt → ws a P) (g : j.toInt < i.toInt → ws b P) : ws (if i ≤ j then a else b) P := ws_i (fun e => h (il_le e)) (fun e => g (il_nle e))
theorem ws_e {a b : Option R} (h : i = j → ws a P) (g : ¬ i.toInt = j.toInt → ws b P) : ws (if i = j then a else b) P := ws_i h (fun e => g (il_ne e))
end WS
theorem mI_sI {σ : ms_T} {φ ψ : Nat} {v : Int32} : ms_I (ms_sI σ φ v) ψ = if ψ = φ then v else ms_I σ ψ := rfl
theorem mI_sE {σ : ms_T} {κ j ψ : Nat} {v : Int32} : ms_I (ms_sE σ κ j v) ψ = ms_I σ ψ := rfl
theorem mI_sJ {σ : ms_T} {ψ : Nat} {v : Int64} : ms_I (ms_sJ σ v) ψ = ms_I σ ψ := rfl
theorem mE_sI {σ : ms_T} {φ κ j : Nat} {v : Int32} : ms_E (ms_sI σ φ v) κ j = ms_E σ κ j := rfl
theorem mE_sE {σ : ms_T} {κ j ψ i : Nat} {v : Int32} : ms_E (ms_sE σ κ j v) ψ i = if ψ = κ ∧ i = j then v else ms_E σ ψ i := rfl
/-- the reference's ranges: of the cells, of what counts stay between calls -/
def rC (f : Nat → Int32) : Prop := (1 ≤ (f 0).toInt ∧ (f 0).toInt ≤ 4) ∧ (101 ≤ (f 1).toInt ∧ (f 1).toInt ≤ 65521) ∧ (0 ≤ (f 2).toInt ∧ (f 2).toInt ≤ 64) ∧ (0 ≤ (f 3).toInt ∧ (f 3).toInt ≤ 16) ∧ (∀ r, r < 4 → 0 ≤ (f (72 + r)).toInt ∧ (f (72 + r)).toInt ≤ 48) ∧ (∀ w, w < 4 → 0 ≤ (f (76 + 4 * w)).toInt ∧ (f (76 + 4 * w)).toInt ≤ 48) ∧ (∀ i, i < 16 → 0 ≤ (f (92 + 10 * i)).toInt ∧ (f (92 + 10 * i)).toInt ≤ 3) ∧ (∀ i, i < 16 → 0 ≤ (f (93 + 10 * i)).toInt ∧ (f (93 + 10 * i)).toInt ≤ 48) ∧ (∀ q, q < 192 → 0 ≤ (f (252 + q)).toInt ∧ (f (252 + q)).toInt ≤ 8)
def rI (σ : ms_T) : Prop := (0 ≤ (ms_I σ 664).toInt ∧ (ms_I σ 664).toInt ≤ 8) ∧ (0 ≤ (ms_I σ 667).toInt ∧ (ms_I σ 667).toInt ≤ 900) ∧ (0 ≤ (ms_I σ 682).toInt ∧ (ms_I σ 682).toInt ≤ 20) ∧ (0 ≤ (ms_I σ 697).toInt ∧ (ms_I σ 697).toInt ≤ 900)
def RI (σ : ms_T) : Prop := rI σ ∧ rC (ms_E σ 40)
/-- clears() -/
def cl_P (σ τ : ms_T) : Prop := (∀ φ, ms_I τ φ = ms_I σ φ) ∧ (∀ κ j, κ ≠ 40 → ms_E τ κ j = ms_E σ κ j) ∧ ms_E τ 40 0 = 1 ∧ ms_E τ 40 1 = 65521 ∧ ∀ j, 2 ≤ j → j < 1980 → ms_E τ 40 j = 0
theorem cl_L (n : Nat) : ∀ (k : Nat) (σ σ0 : ms_T) (v : Int32), 0 ≤ v.toInt → v.toInt ≤ 1980 → 1980 - v.toInt < (k : Int) → (∀ φ, ms_I σ φ = ms_I σ0 φ) → (∀ κ j, κ ≠ 40 → ms_E σ κ j = ms_E σ0 κ j) → (∀ j : Nat, (j : Int) < v.toInt → ms_E σ 40 j = 0) → ws (f_X12_clears_L2 n k σ v) (cl_P σ0) := by
  intro k
  induction k with
  | zero => intro σ σ0 v h0 h1 h2; omega
  | succ k ih =>
    intro σ σ0 v h0 h1 h2 hI hE hz
    have l1 : (1980 : Int32).toInt = 1980 := by decide
    rw [f_X12_clears_L2.eq_2]
    refine ws_le (fun c => ?_) (fun c => ?_)
    · refine ws_g (by decide) (by decide) (ws_l (ws_g (by decide) (by decide) (ws_l (ws_s ?_))))
      refine ⟨fun φ => by rw [mI_sE, mI_sE]; exact hI φ, fun κ j hκ => ?_, ?_, ?_, fun j h2 h3 => ?_⟩
      · rw [mE_sE, mE_sE, if_neg (fun q => hκ q.1), if_neg (fun q => hκ q.1)]; exact hE κ j hκ
      · rw [mE_sE, mE_sE, if_neg (by decide), if_pos (by decide)]
      · rw [mE_sE, if_pos (by decide)]
      · have z0 : (0 : Int32).toNatClampNeg = 0 := by decide
        have z1 : (1 : Int32).toNatClampNeg = 1 := by decide
        rw [mE_sE, mE_sE, z0, z1, if_neg (fun q => by omega), if_neg (fun q => by omega)]
        exact hz j (by omega)
    · have hc := ic_clamp h0
      have e1 : (v + 1).toInt = v.toInt + 1 := ii_add (x := v) (y := 1) (by rw [show (1 : Int32).toInt = 1 from rfl]; omega) (by rw [show (1 : Int32).toInt = 1 from rfl]; omega)
      refine ws_g h0 (by omega) (ws_l (ws_l ?_))
      refine ih _ σ0 (v + 1) (by omega) (by omega) (by omega) (fun φ => by rw [mI_sE]; exact hI φ) (fun κ j hκ => ?_) (fun j hj => ?_)
      · rw [mE_sE, if_neg (fun q => hκ q.1)]; exact hE κ j hκ
      · rw [mE_sE]
        by_cases e : j = v.toNatClampNeg
        · rw [if_pos ⟨rfl, e⟩]
        · rw [if_neg (fun q => e q.2)]
          exact hz j (by omega)
theorem s_clears (n : Nat) (hn : 1981 ≤ n) (σ : ms_T) : ws (f_X12_clears n σ) (cl_P σ) := by
  unfold f_X12_clears
  exact cl_L n n σ σ 0 (by decide) (by decide) (by rw [show (0 : Int32).toInt = 0 from rfl]; omega) (fun _ => rfl) (fun _ _ _ => rfl) (fun j hj => by rw [show (0 : Int32).toInt = 0 from rfl] at hj; omega)
theorem cl_rC {σ τ : ms_T} (h : cl_P σ τ) : rC (ms_E τ 40) := by
  obtain ⟨-, -, h0, h1, hz⟩ := h
  have z : (0 : Int32).toInt = 0 := rfl
  refine ⟨by rw [h0]; decide, by rw [h1]; decide, by rw [hz 2 (by omega) (by omega)]; decide, by rw [hz 3 (by omega) (by omega)]; decide, fun r hr => ?_, fun r hr => ?_, fun r hr => ?_, fun r hr => ?_, fun r hr => ?_⟩
  · rw [hz _ (by omega) (by omega)]; decide
  · rw [hz _ (by omega) (by omega)]; decide
  · rw [hz _ (by omega) (by omega)]; decide
  · rw [hz _ (by omega) (by omega)]; decide
  · rw [hz _ (by omega) (by omega)]; decide
theorem gc_mo {α β : hp_T} (h : mo α β) (g : GC α) : GC β := by
  obtain ⟨h1, h2, h3, h4, h5, h6, h7⟩ := h
  obtain ⟨g1, g2, g3, g4⟩ := g
  refine ⟨fun φ a => ?_, ?_, ?_, ?_⟩
  · intro hφ
    have hφ2 : φ = 453 ∨ φ = 301 := by simpa using hφ
    rw [h6 φ (by omega)]
    exact g1 φ a hφ
  · rw [h1, h2]; exact g2
  · rw [h1, h3]; exact g3
  · rw [h1, h4]; exact g4
/-! the reference's constructor -/
def lwx (α : hp_T) (a0 : Nat) : Prop := ∃ h, hp_N α 678 a0 = some h ∧ hp_K α h ≠ 0 ∧ ∀ j, j < 12 → hp_L α 48 h j = ms_w j
theorem lwx_nw {α : hp_T} {a0 h κ : Nat} (l : lwx α a0) (hk : hp_K α a0 ≠ 0) (hh : hp_K α h = 0) : lwx (hp_nw α h κ) a0 := by
  obtain ⟨x, x1, x2, x3⟩ := l
  have s0 := sa_nw (α := α) (κ := κ) (b := a0) (h := h) (fun e => hk (by rw [e]; exact hh))
  have sx := sa_nw (α := α) (κ := κ) (b := x) (h := h) (fun e => x2 (by rw [e]; exact hh))
  exact ⟨x, by rw [s0.2.2.2.2.1]; exact x1, by rw [sx.1]; exact x2, fun j hj => by rw [sx.2.2.2.2.2.2.1]; exact x3 j hj⟩
theorem lwx_sN {α : hp_T} {a0 φ : Nat} {y : Option Nat} (l : lwx α a0) (hφ : φ ≠ 678) : lwx (hp_sN α φ a0 y) a0 := by
  obtain ⟨x, x1, x2, x3⟩ := l
  exact ⟨x, by rw [show hp_N (hp_sN α φ a0 y) 678 a0 = hp_N α 678 a0 by simp [hp_N, hp_sN, hp_up, Ne.symm hφ]]; exact x1, x2, x3⟩
theorem sL_step {α : hp_T} {h i : Nat} {v : Int64} (l : ∀ j, j < i → hp_L α 48 h j = ms_w j) (hv : ms_w i = v) : ∀ j, j < i + 1 → hp_L (hp_sL α 48 h i v) 48 h j = ms_w j := by
  intro j hj
  rw [hp_sL_at]
  show (if j = i then v else hp_L α 48 h j) = ms_w j
  by_cases e : j = i
  · rw [if_pos e, e, hv]
  · rw [if_neg e]; exact l j (by omega)
theorem ms_mf_ok : ∀ q ∈ ms_mf, (ms_mf.lookup q.1).getD 0 = q.2 ∧ gc_rk q.2 = q.1 ∧ q.2 ≠ 350 ∧ 20 ≤ q.1 := by decide +kernel
theorem hm_make {α : hp_T} {a0 : Nat} {l : List Nat} (hk : hp_K (hp_cv α a0 13) a0 = 13) (hx : ∀ φ ∈ l, ∃ x, hp_R (hp_cv α a0 13) φ a0 = x ∧ hp_N α φ a0 = some x ∧ hp_K (hp_cv α a0 13) x = hp_K α x ∧ gc_t φ (hp_K α x) ∧ (20 ≤ hp_K α x → ∀ j, hp_E α (hp_K α x) x j = 0)) (hl : ∀ q ∈ ms_mf, q.2 ∈ l) (lw : lwx α a0) : ∃ ρ σ, hm_M (hp_cv α a0 13) a0 ρ σ ∧ (∀ φ, ms_I σ φ = hp_I (hp_cv α a0 13) φ a0) := by
  refine ⟨fun κ => hp_R (hp_cv α a0 13) ((ms_mf.lookup κ).getD 0) a0, (fun φ => hp_I (hp_cv α a0 13) φ a0, fun κ j => hp_E (hp_cv α a0 13) κ (hp_R (hp_cv α a0 13) ((ms_mf.lookup κ).getD 0) a0) j, hp_J (hp_cv α a0 13) 677 a0), ⟨hk, fun q hq => ?_, fun φ _ => rfl, fun κ j _ _ => rfl, rfl, fun j hj => ?_⟩, fun φ => rfl⟩
  · obtain ⟨o1, o2, o3, o4⟩ := ms_mf_ok q hq
    obtain ⟨x, x1, x2, x3, x4, -⟩ := hx q.2 (hl q hq)
    dsimp only
    rw [o1]
    refine ⟨rfl, ?_⟩
    rw [x1, x3]
    rcases x4 with e | e
    · rw [e, o2]
    · exact absurd e.1 o3
  · obtain ⟨x, x1, x2, x3, x4, -⟩ := hx 678 (hl (48, 678) (by decide))
    obtain ⟨y, y1, y2, y3⟩ := lw
    rw [y1] at x2
    cases x2
    show hp_L α 48 (hp_R (hp_cv α a0 13) 678 a0) j = ms_w j
    rw [x1]
    exact y3 j hj
end JN7_7
section JN7_8
/-! ===== the law's start ===== -/
def nr_L : List Cond := flatC (Jvm.Cond.and given_1 narrow_1)
set_option maxRecDepth 100000 in
noncomputable def tdn_1 : { l : List Cond // List.drop 16 (nr_L) = l } := by
  constructor
  conv => lhs; whnf
theorem tn_1 {w : Cond} (h : w ∈ tdn_1.1) : w ∈ nr_L := tmd 16 _ (by rw [tdn_1.2]; exact h)
set_option maxRecDepth 100000 in
noncomputable def tdn_2 : { l : List Cond // List.drop 16 (tdn_1.1) = l } := by
  constructor
  conv => lhs; whnf
theorem tn_2 {w : Cond} (h : w ∈ tdn_2.1) : w ∈ nr_L := tn_1 (tmd 16 _ (by rw [tdn_2.2]; exact h))
set_option maxRecDepth 100000 in
noncomputable def tdn_3 : { l : List Cond // List.drop 16 (tdn_2.1) = l } := by
  constructor
  conv => lhs; whnf
theorem tn_3 {w : Cond} (h : w ∈ tdn_3.1) : w ∈ nr_L := tn_2 (tmd 16 _ (by rw [tdn_3.2]; exact h))
set_option maxRecDepth 100000 in
noncomputable def tdn_4 : { l : List Cond // List.drop 16 (tdn_3.1) = l } := by
  constructor
  conv => lhs; whnf
theorem tn_4 {w : Cond} (h : w ∈ tdn_4.1) : w ∈ nr_L := tn_3 (tmd 16 _ (by rw [tdn_4.2]; exact h))
set_option maxRecDepth 100000 in
noncomputable def tdn_5 : { l : List Cond // List.drop 16 (tdn_4.1) = l } := by
  constructor
  conv => lhs; whnf
theorem tn_5 {w : Cond} (h : w ∈ tdn_5.1) : w ∈ nr_L := tn_4 (tmd 16 _ (by rw [tdn_5.2]; exact h))
set_option maxRecDepth 100000 in
noncomputable def tdn_6 : { l : List Cond // List.drop 16 (tdn_5.1) = l } := by
  constructor
  conv => lhs; whnf
theorem tn_6 {w : Cond} (h : w ∈ tdn_6.1) : w ∈ nr_L := tn_5 (tmd 16 _ (by rw [tdn_6.2]; exact h))
set_option maxRecDepth 100000 in
noncomputable def tdn_7 : { l : List Cond // List.drop 16 (tdn_6.1) = l } := by
  constructor
  conv => lhs; whnf
theorem tn_7 {w : Cond} (h : w ∈ tdn_7.1) : w ∈ nr_L := tn_6 (tmd 16 _ (by rw [tdn_7.2]; exact h))
set_option maxRecDepth 100000 in
noncomputable def tdn_8 : { l : List Cond // List.drop 16 (tdn_7.1) = l } := by
  constructor
  conv => lhs; whnf
theorem tn_8 {w : Cond} (h : w ∈ tdn_8.1) : w ∈ nr_L := tn_7 (tmd 16 _ (by rw [tdn_8.2]; exact h))
set_option maxRecDepth 100000 in
noncomputable def tdn_9 : { l : List Cond // List.drop 16 (tdn_8.1) = l } := by
  constructor
  conv => lhs; whnf
theorem tn_9 {w : Cond} (h : w ∈ tdn_9.1) : w ∈ nr_L := tn_8 (tmd 16 _ (by rw [tdn_9.2]; exact h))
set_option maxRecDepth 100000 in
noncomputable def tdn_10 : { l : List Cond // List.drop 16 (tdn_9.1) = l } := by
  constructor
  conv => lhs; whnf
theorem tn_10 {w : Cond} (h : w ∈ tdn_10.1) : w ∈ nr_L := tn_9 (tmd 16 _ (by rw [tdn_10.2]; exact h))
set_option maxRecDepth 100000 in
noncomputable def tdn_11 : { l : List Cond // List.drop 16 (tdn_10.1) = l } := by
  constructor
  conv => lhs; whnf
theorem tn_11 {w : Cond} (h : w ∈ tdn_11.1) : w ∈ nr_L := tn_10 (tmd 16 _ (by rw [tdn_11.2]; exact h))
set_option maxRecDepth 100000 in
noncomputable def tdn_12 : { l : List Cond // List.drop 16 (tdn_11.1) = l } := by
  constructor
  conv => lhs; whnf
theorem tn_12 {w : Cond} (h : w ∈ tdn_12.1) : w ∈ nr_L := tn_11 (tmd 16 _ (by rw [tdn_12.2]; exact h))
set_option maxRecDepth 100000 in
noncomputable def tdn_13 : { l : List Cond // List.drop 16 (tdn_12.1) = l } := by
  constructor
  conv => lhs; whnf
theorem tn_13 {w : Cond} (h : w ∈ tdn_13.1) : w ∈ nr_L := tn_12 (tmd 16 _ (by rw [tdn_13.2]; exact h))
def hp_tm (i : Nat) : Term := ([.string "ProvenRecord" 498, .string "ProvenRecord" 496, .string "ProvenRecord" 422, .string "ProvenRecord" 420, .string "ProvenRecord" 418, .string "ProvenRecord" 429, .string "ProvenRecord" 500, .string "ProvenRecord$Reader" 86, .string "ProvenRecord$Reader" 186, .string "ProvenRecord$Reader" 97, .string "ProvenRecord$Reader" 107, .string "ProvenRecord$Reader" 129, .string "ProvenRecord" 427, .string "ProvenRecord$Reader" 166, .string "ProvenRecord$Reader" 127, .string "ProvenRecord" 409, .string "ProvenRecord$Reader" 161, .string "ProvenRecord$Reader" 69, .string "ProvenRecord$Reader" 156, .string "ProvenRecord$Reader" 112, .string "ProvenRecord$Reader" 92] : List Term).getD i (.arg 0)
theorem tx_ex {args : Array Value} {s : State} (hs : ∀ c ∈ nr_L, c.before args s = true) : ∀ i, i < 21 → (Cond.exactly (hp_tm i) "java/lang/String").before args s = true := by
  intro i hi
  match i, hi with
  | 0, _ => exact hs _ (tn_8 (List.mem_of_getElem? (i := 11) rfl))
  | 1, _ => exact hs _ (tn_8 (List.mem_of_getElem? (i := 4) rfl))
  | 2, _ => exact hs _ (tn_7 (List.mem_of_getElem? (i := 10) rfl))
  | 3, _ => exact hs _ (tn_7 (List.mem_of_getElem? (i := 0) rfl))
  | 4, _ => exact hs _ (tn_6 (List.mem_of_getElem? (i := 8) rfl))
  | 5, _ => exact hs _ (tn_9 (List.mem_of_getElem? (i := 14) rfl))
  | 6, _ => exact hs _ (tn_9 (List.mem_of_getElem? (i := 0) rfl))
  | 7, _ => exact hs _ (tn_1 (List.mem_of_getElem? (i := 0) rfl))
  | 8, _ => exact hs _ (tn_5 (List.mem_of_getElem? (i := 11) rfl))
  | 9, _ => exact hs _ (tn_1 (List.mem_of_getElem? (i := 13) rfl))
  | 10, _ => exact hs _ (tn_2 (List.mem_of_getElem? (i := 5) rfl))
  | 11, _ => exact hs _ (tn_3 (List.mem_of_getElem? (i := 13) rfl))
  | 12, _ => exact hs _ (tn_9 (List.mem_of_getElem? (i := 5) rfl))
  | 13, _ => exact hs _ (tn_5 (List.mem_of_getElem? (i := 3) rfl))
  | 14, _ => exact hs _ (tn_3 (List.mem_of_getElem? (i := 7) rfl))
  | 15, _ => exact hs _ (tn_6 (List.mem_of_getElem? (i := 1) rfl))
  | 16, _ => exact hs _ (tn_4 (List.mem_of_getElem? (i := 11) rfl))
  | 17, _ => exact hs _ (List.mem_of_getElem? (i := 9) rfl)
  | 18, _ => exact hs _ (tn_4 (List.mem_of_getElem? (i := 5) rfl))
  | 19, _ => exact hs _ (tn_2 (List.mem_of_getElem? (i := 15) rfl))
  | 20, _ => exact hs _ (tn_1 (List.mem_of_getElem? (i := 7) rfl))
  | i + 21, h => exact absurd h (by omega)
theorem tx_co {args : Array Value} {s : State} (hs : ∀ c ∈ nr_L, c.before args s = true) : ∀ i, i < 21 → (Cond.eq (.field (hp_tm i) "java/lang/String" "coder" "B") (.int 0)).before args s = true := by
  intro i hi
  match i, hi with
  | 0, _ => exact hs _ (tn_8 (List.mem_of_getElem? (i := 12) rfl))
  | 1, _ => exact hs _ (tn_8 (List.mem_of_getElem? (i := 5) rfl))
  | 2, _ => exact hs _ (tn_7 (List.mem_of_getElem? (i := 11) rfl))
  | 3, _ => exact hs _ (tn_7 (List.mem_of_getElem? (i := 1) rfl))
  | 4, _ => exact hs _ (tn_6 (List.mem_of_getElem? (i := 9) rfl))
  | 5, _ => exact hs _ (tn_9 (List.mem_of_getElem? (i := 15) rfl))
  | 6, _ => exact hs _ (tn_9 (List.mem_of_getElem? (i := 1) rfl))
  | 7, _ => exact hs _ (tn_1 (List.mem_of_getElem? (i := 1) rfl))
  | 8, _ => exact hs _ (tn_5 (List.mem_of_getElem? (i := 12) rfl))
  | 9, _ => exact hs _ (tn_1 (List.mem_of_getElem? (i := 14) rfl))
  | 10, _ => exact hs _ (tn_2 (List.mem_of_getElem? (i := 6) rfl))
  | 11, _ => exact hs _ (tn_3 (List.mem_of_getElem? (i := 14) rfl))
  | 12, _ => exact hs _ (tn_9 (List.mem_of_getElem? (i := 6) rfl))
  | 13, _ => exact hs _ (tn_5 (List.mem_of_getElem? (i := 4) rfl))
  | 14, _ => exact hs _ (tn_3 (List.mem_of_getElem? (i := 8) rfl))
  | 15, _ => exact hs _ (tn_6 (List.mem_of_getElem? (i := 2) rfl))
  | 16, _ => exact hs _ (tn_4 (List.mem_of_getElem? (i := 12) rfl))
  | 17, _ => exact hs _ (List.mem_of_getElem? (i := 10) rfl)
  | 18, _ => exact hs _ (tn_4 (List.mem_of_getElem? (i := 6) rfl))
  | 19, _ => exact hs _ (tn_3 (List.mem_of_getElem? (i := 0) rfl))
  | 20, _ => exact hs _ (tn_1 (List.mem_of_getElem? (i := 8) rfl))
  | i + 21, h => exact absurd h (by omega)
theorem tx_ar {args : Array Value} {s : State} (hs : ∀ c ∈ nr_L, c.before args s = true) : ∀ i, i < 21 → (Cond.arrayOf (.field (hp_tm i) "java/lang/String" "value" "[B") .byte).before args s = true := by
  intro i hi
  match i, hi with
  | 0, _ => exact hs _ (tn_8 (List.mem_of_getElem? (i := 13) rfl))
  | 1, _ => exact hs _ (tn_8 (List.mem_of_getElem? (i := 6) rfl))
  | 2, _ => exact hs _ (tn_7 (List.mem_of_getElem? (i := 12) rfl))
  | 3, _ => exact hs _ (tn_7 (List.mem_of_getElem? (i := 2) rfl))
  | 4, _ => exact hs _ (tn_6 (List.mem_of_getElem? (i := 10) rfl))
  | 5, _ => exact hs _ (tn_10 (List.mem_of_getElem? (i := 0) rfl))
  | 6, _ => exact hs _ (tn_9 (List.mem_of_getElem? (i := 2) rfl))
  | 7, _ => exact hs _ (tn_1 (List.mem_of_getElem? (i := 2) rfl))
  | 8, _ => exact hs _ (tn_5 (List.mem_of_getElem? (i := 13) rfl))
  | 9, _ => exact hs _ (tn_1 (List.mem_of_getElem? (i := 15) rfl))
  | 10, _ => exact hs _ (tn_2 (List.mem_of_getElem? (i := 7) rfl))
  | 11, _ => exact hs _ (tn_3 (List.mem_of_getElem? (i := 15) rfl))
  | 12, _ => exact hs _ (tn_9 (List.mem_of_getElem? (i := 7) rfl))
  | 13, _ => exact hs _ (tn_5 (List.mem_of_getElem? (i := 5) rfl))
  | 14, _ => exact hs _ (tn_3 (List.mem_of_getElem? (i := 9) rfl))
  | 15, _ => exact hs _ (tn_6 (List.mem_of_getElem? (i := 3) rfl))
  | 16, _ => exact hs _ (tn_4 (List.mem_of_getElem? (i := 13) rfl))
  | 17, _ => exact hs _ (List.mem_of_getElem? (i := 11) rfl)
  | 18, _ => exact hs _ (tn_4 (List.mem_of_getElem? (i := 7) rfl))
  | 19, _ => exact hs _ (tn_3 (List.mem_of_getElem? (i := 1) rfl))
  | 20, _ => exact hs _ (tn_1 (List.mem_of_getElem? (i := 9) rfl))
  | i + 21, h => exact absurd h (by omega)
theorem tx_le {args : Array Value} {s : State} (hs : ∀ c ∈ nr_L, c.before args s = true) : ∀ i, i < 21 → (Cond.eq (.length (.field (hp_tm i) "java/lang/String" "value" "[B")) (.int (Int32.ofNat (hp_sn.getD i 0)))).before args s = true := by
  intro i hi
  match i, hi with
  | 0, _ => exact hs _ (tn_8 (List.mem_of_getElem? (i := 14) rfl))
  | 1, _ => exact hs _ (tn_8 (List.mem_of_getElem? (i := 7) rfl))
  | 2, _ => exact hs _ (tn_7 (List.mem_of_getElem? (i := 13) rfl))
  | 3, _ => exact hs _ (tn_7 (List.mem_of_getElem? (i := 3) rfl))
  | 4, _ => exact hs _ (tn_6 (List.mem_of_getElem? (i := 11) rfl))
  | 5, _ => exact hs _ (tn_10 (List.mem_of_getElem? (i := 1) rfl))
  | 6, _ => exact hs _ (tn_9 (List.mem_of_getElem? (i := 3) rfl))
  | 7, _ => exact hs _ (tn_1 (List.mem_of_getElem? (i := 3) rfl))
  | 8, _ => exact hs _ (tn_5 (List.mem_of_getElem? (i := 14) rfl))
  | 9, _ => exact hs _ (tn_2 (List.mem_of_getElem? (i := 0) rfl))
  | 10, _ => exact hs _ (tn_2 (List.mem_of_getElem? (i := 8) rfl))
  | 11, _ => exact hs _ (tn_4 (List.mem_of_getElem? (i := 0) rfl))
  | 12, _ => exact hs _ (tn_9 (List.mem_of_getElem? (i := 8) rfl))
  | 13, _ => exact hs _ (tn_5 (List.mem_of_getElem? (i := 6) rfl))
  | 14, _ => exact hs _ (tn_3 (List.mem_of_getElem? (i := 10) rfl))
  | 15, _ => exact hs _ (tn_6 (List.mem_of_getElem? (i := 4) rfl))
  | 16, _ => exact hs _ (tn_4 (List.mem_of_getElem? (i := 14) rfl))
  | 17, _ => exact hs _ (List.mem_of_getElem? (i := 12) rfl)
  | 18, _ => exact hs _ (tn_4 (List.mem_of_getElem? (i := 8) rfl))
  | 19, _ => exact hs _ (tn_3 (List.mem_of_getElem? (i := 2) rfl))
  | 20, _ => exact hs _ (tn_1 (List.mem_of_getElem? (i := 10) rfl))
  | i + 21, h => exact absurd h (by omega)
theorem tx_el0 {args : Array Value} {s : State} (hs : ∀ c ∈ nr_L, c.before args s = true) : ∀ j, j < 1 → (Cond.eq (.elem (.field (hp_tm 0) "java/lang/String" "value" "[B") (.int (Int32.ofNat j))) (.int ((hp_sb.getD 0 []).getD j 0))).before args s = true := by
  intro j hj
  match j, hj with
  | 0, _ => exact hs _ (tn_8 (List.mem_of_getElem? (i := 15) rfl))
  | j + 1, h => exact absurd h (by omega)
theorem tx_el1 {args : Array Value} {s : State} (hs : ∀ c ∈ nr_L, c.before args s = true) : ∀ j, j < 3 → (Cond.eq (.elem (.field (hp_tm 1) "java/lang/String" "value" "[B") (.int (Int32.ofNat j))) (.int ((hp_sb.getD 1 []).getD j 0))).before args s = true := by
  intro j hj
  match j, hj with
  | 0, _ => exact hs _ (tn_8 (List.mem_of_getElem? (i := 8) rfl))
  | 1, _ => exact hs _ (tn_8 (List.mem_of_getElem? (i := 9) rfl))
  | 2, _ => exact hs _ (tn_8 (List.mem_of_getElem? (i := 10) rfl))
  | j + 3, h => exact absurd h (by omega)
theorem tx_el2 {args : Array Value} {s : State} (hs : ∀ c ∈ nr_L, c.before args s = true) : ∀ j, j < 6 → (Cond.eq (.elem (.field (hp_tm 2) "java/lang/String" "value" "[B") (.int (Int32.ofNat j))) (.int ((hp_sb.getD 2 []).getD j 0))).before args s = true := by
  intro j hj
  match j, hj with
  | 0, _ => exact hs _ (tn_7 (List.mem_of_getElem? (i := 14) rfl))
  | 1, _ => exact hs _ (tn_7 (List.mem_of_getElem? (i := 15) rfl))
  | 2, _ => exact hs _ (tn_8 (List.mem_of_getElem? (i := 0) rfl))
  | 3, _ => exact hs _ (tn_8 (List.mem_of_getElem? (i := 1) rfl))
  | 4, _ => exact hs _ (tn_8 (List.mem_of_getElem? (i := 2) rfl))
  | 5, _ => exact hs _ (tn_8 (List.mem_of_getElem? (i := 3) rfl))
  | j + 6, h => exact absurd h (by omega)
theorem tx_el3 {args : Array Value} {s : State} (hs : ∀ c ∈ nr_L, c.before args s = true) : ∀ j, j < 6 → (Cond.eq (.elem (.field (hp_tm 3) "java/lang/String" "value" "[B") (.int (Int32.ofNat j))) (.int ((hp_sb.getD 3 []).getD j 0))).before args s = true := by
  intro j hj
  match j, hj with
  | 0, _ => exact hs _ (tn_7 (List.mem_of_getElem? (i := 4) rfl))
  | 1, _ => exact hs _ (tn_7 (List.mem_of_getElem? (i := 5) rfl))
  | 2, _ => exact hs _ (tn_7 (List.mem_of_getElem? (i := 6) rfl))
  | 3, _ => exact hs _ (tn_7 (List.mem_of_getElem? (i := 7) rfl))
  | 4, _ => exact hs _ (tn_7 (List.mem_of_getElem? (i := 8) rfl))
  | 5, _ => exact hs _ (tn_7 (List.mem_of_getElem? (i := 9) rfl))
  | j + 6, h => exact absurd h (by omega)
theorem tx_el4 {args : Array Value} {s : State} (hs : ∀ c ∈ nr_L, c.before args s = true) : ∀ j, j < 4 → (Cond.eq (.elem (.field (hp_tm 4) "java/lang/String" "value" "[B") (.int (Int32.ofNat j))) (.int ((hp_sb.getD 4 []).getD j 0))).before args s = true := by
  intro j hj
  match j, hj with
  | 0, _ => exact hs _ (tn_6 (List.mem_of_getElem? (i := 12) rfl))
  | 1, _ => exact hs _ (tn_6 (List.mem_of_getElem? (i := 13) rfl))
  | 2, _ => exact hs _ (tn_6 (List.mem_of_getElem? (i := 14) rfl))
  | 3, _ => exact hs _ (tn_6 (List.mem_of_getElem? (i := 15) rfl))
  | j + 4, h => exact absurd h (by omega)
theorem tx_el5 {args : Array Value} {s : State} (hs : ∀ c ∈ nr_L, c.before args s = true) : ∀ j, j < 4 → (Cond.eq (.elem (.field (hp_tm 5) "java/lang/String" "value" "[B") (.int (Int32.ofNat j))) (.int ((hp_sb.getD 5 []).getD j 0))).before args s = true := by
  intro j hj
  match j, hj with
  | 0, _ => exact hs _ (tn_10 (List.mem_of_getElem? (i := 2) rfl))
  | 1, _ => exact hs _ (tn_10 (List.mem_of_getElem? (i := 3) rfl))
  | 2, _ => exact hs _ (tn_10 (List.mem_of_getElem? (i := 4) rfl))
  | 3, _ => exact hs _ (tn_10 (List.mem_of_getElem? (i := 5) rfl))
  | j + 4, h => exact absurd h (by omega)
theorem tx_el6 {args : Array Value} {s : State} (hs : ∀ c ∈ nr_L, c.before args s = true) : ∀ j, j < 1 → (Cond.eq (.elem (.field (hp_tm 6) "java/lang/String" "value" "[B") (.int (Int32.ofNat j))) (.int ((hp_sb.getD 6 []).getD j 0))).before args s = true := by
  intro j hj
  match j, hj with
  | 0, _ => exact hs _ (tn_9 (List.mem_of_getElem? (i := 4) rfl))
  | j + 1, h => exact absurd h (by omega)
theorem tx_el7 {args : Array Value} {s : State} (hs : ∀ c ∈ nr_L, c.before args s = true) : ∀ j, j < 3 → (Cond.eq (.elem (.field (hp_tm 7) "java/lang/String" "value" "[B") (.int (Int32.ofNat j))) (.int ((hp_sb.getD 7 []).getD j 0))).before args s = true := by
  intro j hj
  match j, hj with
  | 0, _ => exact hs _ (tn_1 (List.mem_of_getElem? (i := 4) rfl))
  | 1, _ => exact hs _ (tn_1 (List.mem_of_getElem? (i := 5) rfl))
  | 2, _ => exact hs _ (tn_1 (List.mem_of_getElem? (i := 6) rfl))
  | j + 3, h => exact absurd h (by omega)
theorem tx_el8 {args : Array Value} {s : State} (hs : ∀ c ∈ nr_L, c.before args s = true) : ∀ j, j < 2 → (Cond.eq (.elem (.field (hp_tm 8) "java/lang/String" "value" "[B") (.int (Int32.ofNat j))) (.int ((hp_sb.getD 8 []).getD j 0))).before args s = true := by
  intro j hj
  match j, hj with
  | 0, _ => exact hs _ (tn_5 (List.mem_of_getElem? (i := 15) rfl))
  | 1, _ => exact hs _ (tn_6 (List.mem_of_getElem? (i := 0) rfl))
  | j + 2, h => exact absurd h (by omega)
theorem tx_el9 {args : Array Value} {s : State} (hs : ∀ c ∈ nr_L, c.before args s = true) : ∀ j, j < 4 → (Cond.eq (.elem (.field (hp_tm 9) "java/lang/String" "value" "[B") (.int (Int32.ofNat j))) (.int ((hp_sb.getD 9 []).getD j 0))).before args s = true := by
  intro j hj
  match j, hj with
  | 0, _ => exact hs _ (tn_2 (List.mem_of_getElem? (i := 1) rfl))
  | 1, _ => exact hs _ (tn_2 (List.mem_of_getElem? (i := 2) rfl))
  | 2, _ => exact hs _ (tn_2 (List.mem_of_getElem? (i := 3) rfl))
  | 3, _ => exact hs _ (tn_2 (List.mem_of_getElem? (i := 4) rfl))
  | j + 4, h => exact absurd h (by omega)
theorem tx_el10 {args : Array Value} {s : State} (hs : ∀ c ∈ nr_L, c.before args s = true) : ∀ j, j < 6 → (Cond.eq (.elem (.field (hp_tm 10) "java/lang/String" "value" "[B") (.int (Int32.ofNat j))) (.int ((hp_sb.getD 10 []).getD j 0))).before args s = true := by
  intro j hj
  match j, hj with
  | 0, _ => exact hs _ (tn_2 (List.mem_of_getElem? (i := 9) rfl))
  | 1, _ => exact hs _ (tn_2 (List.mem_of_getElem? (i := 10) rfl))
  | 2, _ => exact hs _ (tn_2 (List.mem_of_getElem? (i := 11) rfl))
  | 3, _ => exact hs _ (tn_2 (List.mem_of_getElem? (i := 12) rfl))
  | 4, _ => exact hs _ (tn_2 (List.mem_of_getElem? (i := 13) rfl))
  | 5, _ => exact hs _ (tn_2 (List.mem_of_getElem? (i := 14) rfl))
  | j + 6, h => exact absurd h (by omega)
theorem tx_el11 {args : Array Value} {s : State} (hs : ∀ c ∈ nr_L, c.before args s = true) : ∀ j, j < 4 → (Cond.eq (.elem (.field (hp_tm 11) "java/lang/String" "value" "[B") (.int (Int32.ofNat j))) (.int ((hp_sb.getD 11 []).getD j 0))).before args s = true := by
  intro j hj
  match j, hj with
  | 0, _ => exact hs _ (tn_4 (List.mem_of_getElem? (i := 1) rfl))
  | 1, _ => exact hs _ (tn_4 (List.mem_of_getElem? (i := 2) rfl))
  | 2, _ => exact hs _ (tn_4 (List.mem_of_getElem? (i := 3) rfl))
  | 3, _ => exact hs _ (tn_4 (List.mem_of_getElem? (i := 4) rfl))
  | j + 4, h => exact absurd h (by omega)
theorem tx_el12 {args : Array Value} {s : State} (hs : ∀ c ∈ nr_L, c.before args s = true) : ∀ j, j < 5 → (Cond.eq (.elem (.field (hp_tm 12) "java/lang/String" "value" "[B") (.int (Int32.ofNat j))) (.int ((hp_sb.getD 12 []).getD j 0))).before args s = true := by
  intro j hj
  match j, hj with
  | 0, _ => exact hs _ (tn_9 (List.mem_of_getElem? (i := 9) rfl))
  | 1, _ => exact hs _ (tn_9 (List.mem_of_getElem? (i := 10) rfl))
  | 2, _ => exact hs _ (tn_9 (List.mem_of_getElem? (i := 11) rfl))
  | 3, _ => exact hs _ (tn_9 (List.mem_of_getElem? (i := 12) rfl))
  | 4, _ => exact hs _ (tn_9 (List.mem_of_getElem? (i := 13) rfl))
  | j + 5, h => exact absurd h (by omega)
theorem tx_el13 {args : Array Value} {s : State} (hs : ∀ c ∈ nr_L, c.before args s = true) : ∀ j, j < 4 → (Cond.eq (.elem (.field (hp_tm 13) "java/lang/String" "value" "[B") (.int (Int32.ofNat j))) (.int ((hp_sb.getD 13 []).getD j 0))).before args s = true := by
  intro j hj
  match j, hj with
  | 0, _ => exact hs _ (tn_5 (List.mem_of_getElem? (i := 7) rfl))
  | 1, _ => exact hs _ (tn_5 (List.mem_of_getElem? (i := 8) rfl))
  | 2, _ => exact hs _ (tn_5 (List.mem_of_getElem? (i := 9) rfl))
  | 3, _ => exact hs _ (tn_5 (List.mem_of_getElem? (i := 10) rfl))
  | j + 4, h => exact absurd h (by omega)
theorem tx_el14 {args : Array Value} {s : State} (hs : ∀ c ∈ nr_L, c.before args s = true) : ∀ j, j < 2 → (Cond.eq (.elem (.field (hp_tm 14) "java/lang/String" "value" "[B") (.int (Int32.ofNat j))) (.int ((hp_sb.getD 14 []).getD j 0))).before args s = true := by
  intro j hj
  match j, hj with
  | 0, _ => exact hs _ (tn_3 (List.mem_of_getElem? (i := 11) rfl))
  | 1, _ => exact hs _ (tn_3 (List.mem_of_getElem? (i := 12) rfl))
  | j + 2, h => exact absurd h (by omega)
theorem tx_el15 {args : Array Value} {s : State} (hs : ∀ c ∈ nr_L, c.before args s = true) : ∀ j, j < 3 → (Cond.eq (.elem (.field (hp_tm 15) "java/lang/String" "value" "[B") (.int (Int32.ofNat j))) (.int ((hp_sb.getD 15 []).getD j 0))).before args s = true := by
  intro j hj
  match j, hj with
  | 0, _ => exact hs _ (tn_6 (List.mem_of_getElem? (i := 5) rfl))
  | 1, _ => exact hs _ (tn_6 (List.mem_of_getElem? (i := 6) rfl))
  | 2, _ => exact hs _ (tn_6 (List.mem_of_getElem? (i := 7) rfl))
  | j + 3, h => exact absurd h (by omega)
theorem tx_el16 {args : Array Value} {s : State} (hs : ∀ c ∈ nr_L, c.before args s = true) : ∀ j, j < 4 → (Cond.eq (.elem (.field (hp_tm 16) "java/lang/String" "value" "[B") (.int (Int32.ofNat j))) (.int ((hp_sb.getD 16 []).getD j 0))).before args s = true := by
  intro j hj
  match j, hj with
  | 0, _ => exact hs _ (tn_4 (List.mem_of_getElem? (i := 15) rfl))
  | 1, _ => exact hs _ (tn_5 (List.mem_of_getElem? (i := 0) rfl))
  | 2, _ => exact hs _ (tn_5 (List.mem_of_getElem? (i := 1) rfl))
  | 3, _ => exact hs _ (tn_5 (List.mem_of_getElem? (i := 2) rfl))
  | j + 4, h => exact absurd h (by omega)
theorem tx_el17 {args : Array Value} {s : State} (hs : ∀ c ∈ nr_L, c.before args s = true) : ∀ j, j < 3 → (Cond.eq (.elem (.field (hp_tm 17) "java/lang/String" "value" "[B") (.int (Int32.ofNat j))) (.int ((hp_sb.getD 17 []).getD j 0))).before args s = true := by
  intro j hj
  match j, hj with
  | 0, _ => exact hs _ (List.mem_of_getElem? (i := 13) rfl)
  | 1, _ => exact hs _ (List.mem_of_getElem? (i := 14) rfl)
  | 2, _ => exact hs _ (List.mem_of_getElem? (i := 15) rfl)
  | j + 3, h => exact absurd h (by omega)
theorem tx_el18 {args : Array Value} {s : State} (hs : ∀ c ∈ nr_L, c.before args s = true) : ∀ j, j < 2 → (Cond.eq (.elem (.field (hp_tm 18) "java/lang/String" "value" "[B") (.int (Int32.ofNat j))) (.int ((hp_sb.getD 18 []).getD j 0))).before args s = true := by
  intro j hj
  match j, hj with
  | 0, _ => exact hs _ (tn_4 (List.mem_of_getElem? (i := 9) rfl))
  | 1, _ => exact hs _ (tn_4 (List.mem_of_getElem? (i := 10) rfl))
  | j + 2, h => exact absurd h (by omega)
theorem tx_el19 {args : Array Value} {s : State} (hs : ∀ c ∈ nr_L, c.before args s = true) : ∀ j, j < 4 → (Cond.eq (.elem (.field (hp_tm 19) "java/lang/String" "value" "[B") (.int (Int32.ofNat j))) (.int ((hp_sb.getD 19 []).getD j 0))).before args s = true := by
  intro j hj
  match j, hj with
  | 0, _ => exact hs _ (tn_3 (List.mem_of_getElem? (i := 3) rfl))
  | 1, _ => exact hs _ (tn_3 (List.mem_of_getElem? (i := 4) rfl))
  | 2, _ => exact hs _ (tn_3 (List.mem_of_getElem? (i := 5) rfl))
  | 3, _ => exact hs _ (tn_3 (List.mem_of_getElem? (i := 6) rfl))
  | j + 4, h => exact absurd h (by omega)
theorem tx_el20 {args : Array Value} {s : State} (hs : ∀ c ∈ nr_L, c.before args s = true) : ∀ j, j < 2 → (Cond.eq (.elem (.field (hp_tm 20) "java/lang/String" "value" "[B") (.int (Int32.ofNat j))) (.int ((hp_sb.getD 20 []).getD j 0))).before args s = true := by
  intro j hj
  match j, hj with
  | 0, _ => exact hs _ (tn_1 (List.mem_of_getElem? (i := 11) rfl))
  | 1, _ => exact hs _ (tn_1 (List.mem_of_getElem? (i := 12) rfl))
  | j + 2, h => exact absurd h (by omega)
theorem tx_el {args : Array Value} {s : State} (hs : ∀ c ∈ nr_L, c.before args s = true) : ∀ i, i < 21 → ∀ j, j < hp_sn.getD i 0 → (Cond.eq (.elem (.field (hp_tm i) "java/lang/String" "value" "[B") (.int (Int32.ofNat j))) (.int ((hp_sb.getD i []).getD j 0))).before args s = true := by
  intro i hi
  match i, hi with
  | 0, _ => exact tx_el0 hs
  | 1, _ => exact tx_el1 hs
  | 2, _ => exact tx_el2 hs
  | 3, _ => exact tx_el3 hs
  | 4, _ => exact tx_el4 hs
  | 5, _ => exact tx_el5 hs
  | 6, _ => exact tx_el6 hs
  | 7, _ => exact tx_el7 hs
  | 8, _ => exact tx_el8 hs
  | 9, _ => exact tx_el9 hs
  | 10, _ => exact tx_el10 hs
  | 11, _ => exact tx_el11 hs
  | 12, _ => exact tx_el12 hs
  | 13, _ => exact tx_el13 hs
  | 14, _ => exact tx_el14 hs
  | 15, _ => exact tx_el15 hs
  | 16, _ => exact tx_el16 hs
  | 17, _ => exact tx_el17 hs
  | 18, _ => exact tx_el18 hs
  | 19, _ => exact tx_el19 hs
  | 20, _ => exact tx_el20 hs
  | i + 21, h => exact absurd h (by omega)
theorem tx_df : ∀ i, i < 21 → ∀ j, j < 21 → hp_sn.getD i 0 = hp_sn.getD j 0 → (∀ k, k < hp_sn.getD i 0 → (hp_sb.getD i []).getD k 0 = (hp_sb.getD j []).getD k 0) → i = j := by decide +kernel
theorem tx_n8 : ∀ i, i < 21 → hp_sn.getD i 0 < 8 := by decide +kernel
theorem tx_nn {a b : Nat} (ha : a < 8) (hb : b < 8) (h : Int32.ofNat a = Int32.ofNat b) : a = b := by
  have h1 := congrArg Int32.toInt h
  have e : ∀ n, n < 8 → (Int32.ofNat n).toInt = (n : Int) := by decide +kernel
  rw [e a ha, e b hb] at h1
  omega
theorem tx_all {args : Array Value} {s : State} (hs : ∀ c ∈ nr_L, c.before args s = true) {A : Nat → Prop} (hA : ∀ a : Nat, a < s.heap.size → ¬ A a) : ∃ adK adV : Nat → Nat, vk_S 21 hp_sn hp_sb adK adV A s s.heap ∧ ∀ i : Nat, i < 21 → (hp_tm i).eval args s none [] s = some (.ref (adK i)) := by
  have h0 : ∀ i : Nat, ∃ q : Nat × Nat, i < 21 → (hp_tm i).eval args s none [] s = some (.ref q.1) ∧ va_O "java/lang/String" q.1 A s s.heap ∧ va_OF "java/lang/String" "coder" "B" (.int 0) q.1 A s s.heap ∧ va_OF "java/lang/String" "value" "[B" (.ref q.2) q.1 A s s.heap ∧ va_T .byte q.2 (hp_sn.getD i 0) (fun j => .int ((hp_sb.getD i []).getD j 0)) A s s.heap := by
    intro i
    by_cases hi : i < 21
    · obtain ⟨a, c, cA, kA, q1, q2, q3, q4, q5, q6, -⟩ := Cond.exactly_spec (args := args) (first := s) (o := none) (s := s) (idx := []) (t := hp_tm i) (cls := "java/lang/String") (tx_ex hs i hi)
      obtain ⟨t, ht, hT⟩ := va_Tof (f := fun j => .int ((hp_sb.getD i []).getD j 0)) (A := A) (Nat.lt_of_lt_of_le (tx_n8 i hi) (by decide)) (tx_ar hs i hi) (va_eqt (tx_le hs i hi)) (fun j hj => va_eqt (tx_el hs i hi j hj)) hA
      exact ⟨(a, t), fun _ => ⟨q1, ⟨cA, q3, q5, by rw [q6]; exact q2, hA a (Array.getElem?_eq_some_iff.mp q3).1⟩, vk_OFof q1 (va_eqt (tx_co hs i hi)) hA, vk_OFof q1 ht hA, hT⟩⟩
    · exact ⟨(0, 0), fun h => absurd h hi⟩
  obtain ⟨ad, had⟩ := Classical.axiomOfChoice h0
  refine ⟨fun i => (ad i).1, fun i => (ad i).2, ⟨fun i hi => (had i hi).2, fun i j hi hj e => ?_⟩, fun i hi => (had i hi).1⟩
  obtain ⟨-, -, -, ⟨c1, k1, f1, d1, l1, a1, a2, a3, a4, a5, -⟩, ⟨t1, u1, u2, u3, u4, u5, u6, u7⟩⟩ := had i hi
  obtain ⟨-, -, -, ⟨c2, k2, f2, d2, l2, b1, b2, b3, b4, b5, -⟩, ⟨t2, v1, v2, v3, v4, v5, v6, v7⟩⟩ := had j hj
  dsimp only at e
  rw [e] at a3
  have e1 : l1 = l2 := Option.some.inj (a3.symm.trans b3)
  have e2 : (c1, k1, f1, d1) = (c2, k2, f2, d2) := Option.some.inj (a1.symm.trans b1)
  have e3 : d1 = d2 := by injection e2 with _ q; injection q with _ q; injection q with _ q
  subst e1; subst e3
  have e4 : (ad i).2 = (ad j).2 := by
    have := Option.some.inj (a5.symm.trans b5)
    injection this
  rw [e4] at u1
  have e5 : t1 = t2 := Option.some.inj (u1.symm.trans v1)
  subst e5
  have e6 : hp_sn.getD i 0 = hp_sn.getD j 0 := tx_nn (tx_n8 i hi) (tx_n8 j hj) (u5.symm.trans v5)
  refine tx_df i hi j hj e6 (fun k hk => ?_)
  have := Option.some.inj ((u6 k hk).symm.trans (v6 k (by omega)))
  injection this
theorem tx_R {args : Array Value} {s : State} (hs : ∀ c ∈ nr_L, c.before args s = true) {adK : Nat → Nat} (hts : ∀ w ∈ lw_tbl, w.before args s = true) (he : ∀ i : Nat, i < 21 → (hp_tm i).eval args s none [] s = some (.ref (adK i))) : ∀ q ∈ hp_sl, vk_R q.1 q.2.1 q.2.2.1 (adK q.2.2.2) s := by
  intro q hq
  unfold hp_sl at hq
  simp only [List.mem_cons, List.not_mem_nil, or_false] at hq
  rcases hq with rfl | rfl | rfl | rfl | rfl | rfl | rfl | rfl | rfl | rfl | rfl | rfl | rfl | rfl | rfl | rfl | rfl | rfl | rfl | rfl | rfl | rfl | rfl | rfl | rfl | rfl | rfl
  · exact vk_R.of (A := args) (hts _ (tm_6_4 (List.mem_of_getElem? (i := 6) rfl))) (he 15 (by decide))
  · exact vk_R.of (A := args) (hts _ (tm_6_5 (List.mem_of_getElem? (i := 5) rfl))) (he 4 (by decide))
  · exact vk_R.of (A := args) (hts _ (tm_6_5 (List.mem_of_getElem? (i := 6) rfl))) (he 3 (by decide))
  · exact vk_R.of (A := args) (hts _ (tm_6_5 (List.mem_of_getElem? (i := 7) rfl))) (he 2 (by decide))
  · exact vk_R.of (A := args) (hts _ (tm_6_6 (List.mem_of_getElem? (i := 3) rfl))) (he 12 (by decide))
  · exact vk_R.of (A := args) (hts _ (tm_6_6 (List.mem_of_getElem? (i := 4) rfl))) (he 5 (by decide))
  · exact vk_R.of (A := args) (hts _ (tm_6_5 (List.mem_of_getElem? (i := 12) rfl))) (he 1 (by decide))
  · exact vk_R.of (A := args) (hts _ (tm_6_5 (List.mem_of_getElem? (i := 13) rfl))) (he 0 (by decide))
  · exact vk_R.of (A := args) (hts _ (tm_6_5 (List.mem_of_getElem? (i := 14) rfl))) (he 6 (by decide))
  · exact vk_R.of (A := args) (hts _ (tm_3_5 (List.mem_of_getElem? (i := 4) rfl))) (he 10 (by decide))
  · exact vk_R.of (A := args) (hts _ (tm_3_5 (List.mem_of_getElem? (i := 5) rfl))) (he 19 (by decide))
  · exact vk_R.of (A := args) (hts _ (tb_4 (List.mem_of_getElem? (i := 4) rfl))) (he 14 (by decide))
  · exact vk_R.of (A := args) (hts _ (tb_4 (List.mem_of_getElem? (i := 5) rfl))) (he 11 (by decide))
  · exact vk_R.of (A := args) (hts _ (tb_4 (List.mem_of_getElem? (i := 11) rfl))) (he 18 (by decide))
  · exact vk_R.of (A := args) (hts _ (tm_4_1 (List.mem_of_getElem? (i := 0) rfl))) (he 16 (by decide))
  · exact vk_R.of (A := args) (hts _ (tm_4_1 (List.mem_of_getElem? (i := 5) rfl))) (he 13 (by decide))
  · exact vk_R.of (A := args) (hts _ (tm_4_1 (List.mem_of_getElem? (i := 10) rfl))) (he 8 (by decide))
  · exact vk_R.of (A := args) (hts _ (tm_2_13 (List.mem_of_getElem? (i := 14) rfl))) (he 17 (by decide))
  · exact vk_R.of (A := args) (hts _ (tm_3_3 (List.mem_of_getElem? (i := 12) rfl))) (he 7 (by decide))
  · exact vk_R.of (A := args) (hts _ (tm_3_5 (List.mem_of_getElem? (i := 2) rfl))) (he 20 (by decide))
  · exact vk_R.of (A := args) (hts _ (tm_3_5 (List.mem_of_getElem? (i := 3) rfl))) (he 9 (by decide))
  · exact vk_R.of (A := args) (hts _ (tm_9_4 (List.mem_of_getElem? (i := 11) rfl))) (va_eqR (hs _ (tn_10 (List.mem_of_getElem? (i := 12) rfl))) (he 14 (by decide)))
  · exact vk_R.of (A := args) (hts _ (tm_9_5 (List.mem_of_getElem? (i := 10) rfl))) (va_eqR (hs _ (tn_11 (List.mem_of_getElem? (i := 3) rfl))) (he 18 (by decide)))
  · exact vk_R.of (A := args) (hts _ (tm_9_5 (List.mem_of_getElem? (i := 11) rfl))) (va_eqR (hs _ (tn_11 (List.mem_of_getElem? (i := 12) rfl))) (he 16 (by decide)))
  · exact vk_R.of (A := args) (hts _ (tm_9_5 (List.mem_of_getElem? (i := 12) rfl))) (va_eqR (hs _ (tn_12 (List.mem_of_getElem? (i := 5) rfl))) (he 13 (by decide)))
  · exact vk_R.of (A := args) (hts _ (tm_9_6 (List.mem_of_getElem? (i := 5) rfl))) (va_eqR (hs _ (tn_12 (List.mem_of_getElem? (i := 14) rfl))) (he 11 (by decide)))
  · exact vk_R.of (A := args) (hts _ (tm_9_6 (List.mem_of_getElem? (i := 6) rfl))) (va_eqR (hs _ (tn_13 (List.mem_of_getElem? (i := 5) rfl))) (he 20 (by decide)))
theorem st_cls {args : Array Value} {s : State} (hts : ∀ w ∈ lw_u, w.before args s = true) : ∃ (dC : Nat → ClassId) (dI : Nat → Nat → Nat), ∀ (k : Nat) (q : vw_C), vwCl[k]? = some q → u_Kn s q.1 q.2.1 q.2.2 (dC k) (dI k) := by
  have h0 : ∀ k : Nat, ∃ r : ClassId × (Nat → Nat), ∀ q : vw_C, vwCl[k]? = some q → u_Kn s q.1 q.2.1 q.2.2 r.1 r.2 := by
    intro k
    match k with
    | 0 =>
      obtain ⟨c, i, h⟩ := u_known (C := (hp_q 1).1) (T := (hp_q 1).2.1) (N := (hp_q 1).2.2) hts in_1 (hts _ it_X0)
      exact ⟨(c, i), fun q hq => by cases hq; exact h⟩
    | 1 =>
      obtain ⟨c, i, h⟩ := u_known (C := (hp_q 2).1) (T := (hp_q 2).2.1) (N := (hp_q 2).2.2) hts in_2 (hts _ it_X1)
      exact ⟨(c, i), fun q hq => by cases hq; exact h⟩
    | 2 =>
      obtain ⟨c, i, h⟩ := u_known (C := (hp_q 3).1) (T := (hp_q 3).2.1) (N := (hp_q 3).2.2) hts in_3 (hts _ it_X2)
      exact ⟨(c, i), fun q hq => by cases hq; exact h⟩
    | 3 =>
      obtain ⟨c, i, h⟩ := u_known (C := (hp_q 4).1) (T := (hp_q 4).2.1) (N := (hp_q 4).2.2) hts in_4 (hts _ it_X3)
      exact ⟨(c, i), fun q hq => by cases hq; exact h⟩
    | 4 =>
      obtain ⟨c, i, h⟩ := u_known (C := (hp_q 5).1) (T := (hp_q 5).2.1) (N := (hp_q 5).2.2) hts in_5 (hts _ it_X4)
      exact ⟨(c, i), fun q hq => by cases hq; exact h⟩
    | 5 =>
      obtain ⟨c, i, h⟩ := u_known (C := (hp_q 6).1) (T := (hp_q 6).2.1) (N := (hp_q 6).2.2) hts in_6 (hts _ it_X5)
      exact ⟨(c, i), fun q hq => by cases hq; exact h⟩
    | 6 =>
      obtain ⟨c, i, h⟩ := u_known (C := (hp_q 7).1) (T := (hp_q 7).2.1) (N := (hp_q 7).2.2) hts in_7 (hts _ it_X6)
      exact ⟨(c, i), fun q hq => by cases hq; exact h⟩
    | 7 =>
      obtain ⟨c, i, h⟩ := u_known (C := (hp_q 8).1) (T := (hp_q 8).2.1) (N := (hp_q 8).2.2) hts in_8 (hts _ it_X7)
      exact ⟨(c, i), fun q hq => by cases hq; exact h⟩
    | 8 =>
      obtain ⟨c, i, h⟩ := u_known (C := (hp_q 9).1) (T := (hp_q 9).2.1) (N := (hp_q 9).2.2) hts in_9 (hts _ it_X8)
      exact ⟨(c, i), fun q hq => by cases hq; exact h⟩
    | 9 =>
      obtain ⟨c, i, h⟩ := u_known (C := (hp_q 10).1) (T := (hp_q 10).2.1) (N := (hp_q 10).2.2) hts in_10 (hts _ it_X9)
      exact ⟨(c, i), fun q hq => by cases hq; exact h⟩
    | 10 =>
      obtain ⟨c, i, h⟩ := u_known (C := (hp_q 11).1) (T := (hp_q 11).2.1) (N := (hp_q 11).2.2) hts in_11 (hts _ it_X10)
      exact ⟨(c, i), fun q hq => by cases hq; exact h⟩
    | 11 =>
      obtain ⟨c, i, h⟩ := u_known (C := (hp_q 12).1) (T := (hp_q 12).2.1) (N := (hp_q 12).2.2) hts in_12 (hts _ it_X11)
      exact ⟨(c, i), fun q hq => by cases hq; exact h⟩
    | 12 =>
      obtain ⟨c, i, h⟩ := u_known (C := (hp_q 13).1) (T := (hp_q 13).2.1) (N := (hp_q 13).2.2) hts in_13 (hts _ it_X12)
      exact ⟨(c, i), fun q hq => by cases hq; exact h⟩
    | k + 13 => exact ⟨(0, fun _ => 0), fun q hq => by simp [vwCl] at hq⟩
  obtain ⟨f, hf⟩ := Classical.axiomOfChoice h0
  exact ⟨fun k => (f k).1, fun k => (f k).2, hf⟩
theorem st_prim {args : Array Value} {s : State} {ty : FieldType} (h : (Cond.arrayClass ty).before args s = true) (hRA : ∀ (U : State) (cA : ClassId), U.vm.findClass ("[" ++ ty.toString) = some cA → va_RA U cA ty) : ∃ cA : ClassId, ArrOfT s cA ty ∧ va_RA s cA ty := by
  obtain ⟨c, k, comp, h1, h2, h3⟩ := Cond.arrayClass_spec h
  exact ⟨c, fun N z => ⟨(fun k h => by cases h), k, h2, comp, h3⟩, hRA s c h1⟩
theorem st_obj {s : State} {C : String} (h : va_Nw (.arrayOver (.object C)) s) : ∃ cA : ClassId, ArrOfT s cA (.object C) ∧ va_RA s cA (.object C) := by
  obtain ⟨comp, c, k, h1, -, h3, h4, h5⟩ := Cond.arrayOver_spec h
  exact ⟨c, fun N z => ⟨(fun k h => by cases h), k, h3, comp, h4⟩, k, comp, h3, h4, h1, h5⟩
theorem st_row {args : Array Value} {s : State} (hts : ∀ w ∈ lw_u, w.before args s = true) (hN : ∀ w ∈ hp_nest, va_Nw w s) : ∃ dA : Nat → ClassId, ∀ (k : Nat) (q : ClassId × FieldType), (hp_tys dA)[k]? = some q → ArrOfT s q.1 q.2 ∧ va_RA s q.1 q.2 := by
  obtain ⟨c0, h0⟩ := st_prim (hts _ ac_int) (fun _ _ h => h)
  obtain ⟨c1, h1⟩ := st_prim (hts _ ac_byte) (fun _ _ h => h)
  obtain ⟨c2, h2⟩ := st_prim (hts _ ac_boolean) (fun _ _ h => h)
  obtain ⟨c3, h3⟩ := st_prim (hts _ ac_long) (fun _ _ h => h)
  obtain ⟨c4, h4⟩ := st_obj (hN _ ao_X2)
  obtain ⟨c5, h5⟩ := st_obj (hN _ ao_X1)
  obtain ⟨c6, h6⟩ := st_obj (hN _ ao_X7)
  obtain ⟨c7, h7⟩ := st_obj (hN _ ao_X9)
  refine ⟨fun t => ([c0, c1, c2, c3, c4, c5, c6, c7] : List ClassId).getD t 0, fun k q hq => ?_⟩
  match k, hq with
  | 0, hq => cases hq; exact h0
  | 1, hq => cases hq; exact h1
  | 2, hq => cases hq; exact h2
  | 3, hq => cases hq; exact h3
  | 4, hq => cases hq; exact h4
  | 5, hq => cases hq; exact h5
  | 6, hq => cases hq; exact h6
  | 7, hq => cases hq; exact h7
  | k + 8, hq => simp [hp_tys] at hq
theorem st_tab {args : Array Value} {s : State} (hts : ∀ w ∈ lw_tbl, w.before args s = true) : (∀ w ∈ lw_u, w.before args s = true) ∧ ∀ w ∈ hp_nest, va_Nw w s := by
  refine ⟨fun w hw => hts w (List.mem_filter.mp hw).1, fun w hw => ?_⟩
  have h1 := hts w (List.mem_filter.mp hw).1
  have h2 := (List.mem_filter.mp hw).2
  cases w with
  | methodLinkNest a b c d => exact va_tabs rfl rfl h1
  | arrayOver ty =>
    cases ty with
    | object C => exact h1
    | _ => cases h2
  | _ => cases h2
/-- what holds at the law's entry -/
theorem st_KK {args : Array Value} {s : State} (hts : ∀ w ∈ lw_tbl, w.before args s = true) (hgv : (Jvm.Cond.and given_1 narrow_1).before args s = true) : ∃ Γ : hp_G, Γ.1 = s.heap ∧ hp_KK Γ s := by
  have hs : ∀ c ∈ nr_L, c.before args s = true := flat_of_before _ hgv
  obtain ⟨hu, hN⟩ := st_tab hts
  obtain ⟨dC, dI, hc⟩ := st_cls hu
  obtain ⟨dA, hr⟩ := st_row hu hN
  have hA : ∀ a : Nat, a < s.heap.size → ¬ (fun q : Nat => s.heap.size ≤ q) a := fun a h q => Nat.not_le.mpr h q
  obtain ⟨adK, adV, hS, hE⟩ := tx_all hs (A := fun q : Nat => s.heap.size ≤ q) hA
  refine ⟨(s.heap, dC, dI, dA, adK, adV), rfl, ⟨hc, hr⟩, hN, tx_R hs hts hE, hS, va_Zof (hts _ (tm_2_14 (List.mem_of_getElem? (i := 12) rfl))) (hts _ (tb_1 (List.mem_of_getElem? (i := 14) rfl))) (va_eqt (hs _ (List.mem_of_getElem? (i := 4) rfl))) hA, va_Zqof (hts _ (tb_3 (List.mem_of_getElem? (i := 12) rfl))) (hts _ (tm_1_1 (List.mem_of_getElem? (i := 0) rfl))) (hs _ (List.mem_of_getElem? (i := 5) rfl)) hA⟩
end JN7_8
section JN7_9
/-! ===== feed, load, hear: how many bytes are on the tape ===== -/
/-- the class's feed: of the count c before it, the answer r, the count d behind it -/
def fd_C (c r d : Int32) : Prop := (880 < c.toInt ∧ r = -1 ∧ d = c) ∨ (c.toInt ≤ 880 ∧ r = d ∧ d.toInt = c.toInt + 20)
def fd_M (σ : ms_T) (res : Int32 × ms_T) : Prop := fd_C (ms_I σ 667) res.1 (ms_I res.2 667)
def ld_C (c n d : Int32) : Prop := ((n.toInt < 0 ∨ c.toInt < n.toInt) ∧ d = c) ∨ (¬ (n.toInt < 0 ∨ c.toInt < n.toInt) ∧ d = 0)
def ld_M (σ : ms_T) (n : Int32) (τ : ms_T) : Prop := ld_C (ms_I σ 667) n (ms_I τ 667)
theorem ld_dd {c n d d' : Int32} (h : ld_C c n d) (g : ld_C c n d') : d = d' := by
  rcases h with ⟨h1, h2⟩ | ⟨h1, h2⟩
  · rcases g with ⟨g1, g2⟩ | ⟨g1, g2⟩
    · rw [h2, g2]
    · exact absurd h1 g1
  · rcases g with ⟨g1, g2⟩ | ⟨g1, g2⟩
    · exact absurd g1 h1
    · rw [h2, g2]
abbrev w_X11_hear_F : cw_W := ([203, 204, 205, 209, 301, 351, 352, 353, 354, 355, 356, 453, 454, 600, 605], [350, 608, 609], [20, 21, 22, 23], [])
set_option maxRecDepth 100000 in
set_option maxHeartbeats 4000000 in
theorem t_X11_hear_F (Γ : hp_G) (l : Launch) (α : hp_T) (g : GC α) (a0 : Nat) (k0 : hp_K α a0 = 12) (a1 : Int32) : Met l yX11_hear (hp_ws yX11_hear cX11_hear 4 (some .int)) (hp_rm 9 0 0) (hp_Pc Γ α [.ref a0, .int a1]) (hp_Qi Γ (fun r β => cw w_X11_hear_F α β ∧ ld_C (hp_I α 605 a0) a1 (hp_I β 605 a0))) 0 0 (hp_A Γ) := by
  refine hp_start (by decide) ?_
  intro p e s m below meth c C hr hlk B0 hnm
  have C : hp_C Γ p m c cX11_hear 4 s ([.ref a0, .int a1] : List Value).toArray RX11 := C
  have hx := C.1.1
  have hb := C.1.2.1
  have hown := C.1.2.2.2.1
  have hts := C.1.2.2.2.2
  have B : hp_B Γ (cw w_X11_hear_F) s α α s.heap [] := ⟨B0.1, B0.2.1, cw_rf g⟩
  have lit0 : (0 : Int32).toInt = 0 := by decide
  have lit1 : (1 : Int32).toInt = 1 := by decide
  have lit9 : (9 : Int32).toInt = 9 := by decide
  have hl := lv_entry ([.ref a0, .int a1]) (n := 4) (Nat.le_of_ble_eq_true rfl)
  show W p l e (hp_rm 9 0 0) s m ([.ref a0, .int a1] : List Value).toArray below meth c s.heap [] 0 0 (MQ below (hp_Qi Γ (fun r β => cw w_X11_hear_F α β ∧ ld_C (hp_I α 605 a0) a1 (hp_I β 605 a0))) ([.ref a0, .int a1] : List Value).toArray s 0 0 (hp_A Γ)) (entryFrame m ([.ref a0, .int a1] : List Value).toArray 4)
  rw [lg_entry_eq]
  generalize (lg_sl ([.ref a0, .int a1]) ++ List.replicate (4 - (lg_sl ([.ref a0, .int a1])).length) Slot.unset).toArray = ls at hl ⊢
  have hl : lv_has ls 4 [(0, .ref a0), (1, .int a1)] := hl
  obtain ⟨c0, ec0⟩ : ∃ q : Int32, q = hp_I α 605 a0 := ⟨_, rfl⟩
  have ic0 := il_eq ec0
  refine lv_iload_n hx hb dX11_hear_0 rfl (lv_at hl 1 rfl) (hp_n (n := 1) rfl ?_)
  refine lv_if_lt (tgt := 12) hx hb dX11_hear_1 (by decide) (fun c_1 => ?_) (fun c_1 => hp_n (n := 4) rfl ?_)
  ·
    have jc_1 := il_lt c_1
    refine lv_aload_n hx hb dX11_hear_12 rfl (lv_at hl 0 rfl) (hp_n (n := 13) rfl ?_)
    refine lv_iconst (v := 1) hx hb dX11_hear_13 (by decide) (hp_n (n := 14) rfl ?_)
    refine q_ci (pc' := 17) B (hp_runV (As := [.int 1]) (rest := []) C B (t_X11_refuse Γ l α B.2.2.1 a0 (cw_k B.2.2 k0) 1) lb_X11_refuse lv_X11_refuse lk_X11_98 (cw_k B.2.2 k0) rfl (by decide) rfl hl.1 rfl (Nat.le_of_ble_eq_true rfl) dX11_hear_14 ⟨Nat.le_refl _, Nat.le_refl _⟩) (fun _ _ h => cw_tr B.2.2 h (by decide)) rfl (fun rh_2 αh_2 Hh_2 Lh_2 ph_2 Bh_2 => ?_)
    have t_3 : c0 = hp_I αh_2 605 a0 := by rw [cw_I ph_2 a0 (by decide)]; exact ec0
    have uR := il_eq t_3
    exact q_iret C Bh_2 hr hlk (by first | exact ⟨Bh_2.2.2, Or.inl ⟨by omega, by rw [← t_3]; exact ec0⟩⟩ | exact ⟨Bh_2.2.2, Or.inr ⟨by omega, (t_3).symm⟩⟩) dX11_hear_17
  ·
    have jc_1 := il_nlt c_1
    refine lv_iload_n hx hb dX11_hear_4 rfl (lv_at hl 1 rfl) (hp_n (n := 5) rfl ?_)
    refine lv_aload_n hx hb dX11_hear_5 rfl (lv_at hl 0 rfl) (hp_n (n := 6) rfl ?_)
    refine q_getj (κ := 12) (k := 5) (φ := 605) (pc' := 9) C B (cw_k B.2.2 k0) fl_X11_34 rfl rfl rfl ec0 dX11_hear_6 rfl ?_
    refine lv_icmp_le (tgt := 18) hx hb dX11_hear_9 (by decide) (fun c_4 => ?_) (fun c_4 => hp_n (n := 12) rfl ?_)
    ·
      have jc_4 := il_le c_4
      refine lv_aload_n hx hb dX11_hear_18 rfl (lv_at hl 0 rfl) (hp_n (n := 19) rfl ?_)
      refine q_getr (κ := 12) (k := 16) (φ := 616) (pc' := 22) C B (cw_k B.2.2 k0) fl_X11_82 rfl rfl rfl (cw_r B.2.2 k0 rfl rfl (by decide) (by decide)) dX11_hear_19 rfl (fun b_5 eb_5 kb_5 => ?_)
      refine lv_aload_n hx hb dX11_hear_22 rfl (lv_at hl 0 rfl) (hp_n (n := 23) rfl ?_)
      refine q_getr (κ := 12) (k := 4) (φ := 604) (pc' := 26) C B (cw_k B.2.2 k0) fl_X11_30 rfl rfl rfl (cw_r B.2.2 k0 rfl rfl (by decide) (by decide)) dX11_hear_23 rfl (fun b_6 eb_6 kb_6 => ?_)
      refine lv_iload_n hx hb dX11_hear_26 rfl (lv_at hl 1 rfl) (hp_n (n := 27) rfl ?_)
      refine q_cv (pc' := 30) B (hp_runV (As := [.ref b_6, .int a1]) (rest := []) C B (t_X3_begin Γ l α B.2.2.1 b_5 (cw_k B.2.2 kb_5) b_6 (cw_k B.2.2 kb_6) a1) lb_X3_begin lv_X3_begin lk_X11_118 (cw_k B.2.2 kb_5) rfl (by decide) rfl hl.1 rfl (Nat.le_of_ble_eq_true rfl) dX11_hear_27 ⟨Nat.le_refl _, Nat.le_refl _⟩) (fun _ h => cw_tr B.2.2 h (by decide)) rfl (fun αh_7 Hh_7 Lh_7 ph_7 Bh_7 => ?_)
      refine lv_aload_n hx hb dX11_hear_30 rfl (lv_at hl 0 rfl) (hp_n (n := 31) rfl ?_)
      have t_8 : b_5 = hp_R αh_7 616 a0 := by rw [cw_R ph_7 a0 (by decide)]; exact eb_5
      refine q_gets (κ := 12) (k := 16) (φ := 616) (pc' := 34) C Bh_7 (cw_k Bh_7.2.2 k0) fl_X11_82 rfl rfl rfl t_8 dX11_hear_31 rfl ?_
      refine lv_aload_n hx hb dX11_hear_34 rfl (lv_at hl 0 rfl) (hp_n (n := 35) rfl ?_)
      refine q_getr (κ := 12) (k := 1) (φ := 601) (pc' := 38) C Bh_7 (cw_k Bh_7.2.2 k0) fl_X11_16 rfl rfl rfl (cw_r Bh_7.2.2 k0 rfl rfl (by decide) (by decide)) dX11_hear_35 rfl (fun b_9 eb_9 kb_9 => ?_)
      refine q_geti (κ := 11) (k := 0) (φ := 550) (pc' := 41) C Bh_7 (cw_k Bh_7.2.2 kb_9) fl_X11_122 rfl rfl rfl dX11_hear_38 rfl (fun x_10 ex_10 => ?_)
      refine lv_aload_n hx hb dX11_hear_41 rfl (lv_at hl 0 rfl) (hp_n (n := 42) rfl ?_)
      refine q_getr (κ := 12) (k := 9) (φ := 609) (pc' := 45) C Bh_7 (cw_k Bh_7.2.2 k0) fl_X11_50 rfl rfl rfl (cw_r Bh_7.2.2 k0 rfl rfl (by decide) (by decide)) dX11_hear_42 rfl (fun b_11 eb_11 kb_11 => ?_)
      refine q_ci (pc' := 48) Bh_7 (hp_runV (As := [.int x_10, .ref b_11]) (rest := []) C Bh_7 (t_X3_readProofs Γ l αh_7 Bh_7.2.2.1 b_5 (cw_k Bh_7.2.2 kb_5) x_10 b_11 (cw_k Bh_7.2.2 kb_11)) lb_X3_readProofs lv_X3_readProofs lk_X11_125 (cw_k Bh_7.2.2 kb_5) rfl (by decide) rfl hl.1 rfl (Nat.le_of_ble_eq_true rfl) dX11_hear_45 ⟨Nat.le_refl _, Nat.le_refl _⟩) (fun _ _ h => cw_tr Bh_7.2.2 h.1 (by decide)) rfl (fun rh_12 αh_12 Hh_12 Lh_12 ph_12 Bh_12 => ?_)
      have zh_12 := ph_12.2
      refine lv_istore_n (lv' := [(2, .int rh_12), (0, .ref a0), (1, .int a1)]) hx hb dX11_hear_48 rfl hl (by decide) rfl (fun ls hl => hp_n (n := 49) rfl ?_)
      refine lv_aload_n hx hb dX11_hear_49 rfl (lv_at hl 1 rfl) (hp_n (n := 50) rfl ?_)
      refine lv_iconst (v := 0) hx hb dX11_hear_50 (by decide) (hp_n (n := 51) rfl ?_)
      refine q_puti (κ := 12) (k := 5) (φ := 605) (pc' := 54) C Bh_12 (cw_k Bh_12.2.2 k0) fl_X11_34 rfl rfl rfl rfl rfl rfl (cw_sI Bh_12.2.2 (by decide) (fun h => absurd h (by decide))) dX11_hear_51 rfl (fun αh_13 Hh_13 Lh_13 eh_13 Bh_13 => ?_)
      refine lv_iload_n hx hb dX11_hear_54 rfl (lv_at hl 0 rfl) (hp_n (n := 55) rfl ?_)
      refine lv_if_ne (tgt := 65) hx hb dX11_hear_55 (by decide) (fun c_14 => ?_) (fun c_14 => hp_n (n := 58) rfl ?_)
      ·
        have jc_14 := il_ne c_14
        refine lv_aload_n hx hb dX11_hear_65 rfl (lv_at hl 1 rfl) (hp_n (n := 66) rfl ?_)
        refine q_getr (κ := 12) (k := 8) (φ := 608) (pc' := 69) C Bh_13 (cw_k Bh_13.2.2 k0) fl_X11_47 rfl rfl rfl (cw_r Bh_13.2.2 k0 rfl rfl (by decide) (by decide)) dX11_hear_66 rfl (fun b_15 eb_15 kb_15 => ?_)
        refine lv_astore_n (lv' := [(3, .ref b_15), (2, .int rh_12), (0, .ref a0), (1, .int a1)]) hx hb dX11_hear_69 rfl hl (by decide) rfl (fun ls hl => hp_n (n := 70) rfl ?_)
        refine lv_aload_n hx hb dX11_hear_70 rfl (lv_at hl 2 rfl) (hp_n (n := 71) rfl ?_)
        refine lv_aload_n hx hb dX11_hear_71 rfl (lv_at hl 2 rfl) (hp_n (n := 72) rfl ?_)
        have t_16 : b_11 = hp_R αh_12 609 a0 := by rw [cw_R ph_12.1 a0 (by decide)]; exact eb_11
        have t_17 : b_11 = hp_R αh_13 609 a0 := by rw [eh_13]; exact t_16
        refine q_gets (κ := 12) (k := 9) (φ := 609) (pc' := 75) C Bh_13 (cw_k Bh_13.2.2 k0) fl_X11_50 rfl rfl rfl t_17 dX11_hear_72 rfl ?_
        refine q_putr (κ := 12) (k := 8) (φ := 608) (pc' := 78) C Bh_13 (cw_k Bh_13.2.2 k0) fl_X11_47 rfl rfl rfl rfl rfl rfl (cw_sR Bh_13.2.2 (by decide) (Or.inl kb_11)) dX11_hear_75 rfl (fun αh_18 Hh_18 Lh_18 eh_18 Bh_18 => ?_)
        refine lv_aload_n hx hb dX11_hear_78 rfl (lv_at hl 2 rfl) (hp_n (n := 79) rfl ?_)
        refine lv_aload_n hx hb dX11_hear_79 rfl (lv_at hl 0 rfl) (hp_n (n := 80) rfl ?_)
        refine q_putr (κ := 12) (k := 9) (φ := 609) (pc' := 83) C Bh_18 (cw_k Bh_18.2.2 k0) fl_X11_50 rfl rfl rfl rfl rfl rfl (cw_sR Bh_18.2.2 (by decide) (Or.inl kb_15)) dX11_hear_80 rfl (fun αh_19 Hh_19 Lh_19 eh_19 Bh_19 => ?_)
        refine lv_aload_n hx hb dX11_hear_83 rfl (lv_at hl 2 rfl) (hp_n (n := 84) rfl ?_)
        refine lv_aload_n hx hb dX11_hear_84 rfl (lv_at hl 2 rfl) (hp_n (n := 85) rfl ?_)
        refine q_getr (κ := 12) (k := 8) (φ := 608) (pc' := 88) C Bh_19 (cw_k Bh_19.2.2 k0) fl_X11_47 rfl rfl rfl (cw_r Bh_19.2.2 k0 rfl rfl (by decide) (by decide)) dX11_hear_85 rfl (fun b_20 eb_20 kb_20 => ?_)
        refine lv_iconst (v := 0) hx hb dX11_hear_88 (by decide) (hp_n (n := 89) rfl ?_)
        refine q_ci (pc' := 92) Bh_19 (hp_runV (As := [.int 0]) (rest := [.ref a0]) C Bh_19 (t_X5_countOf Γ l αh_19 Bh_19.2.2.1 b_20 (cw_k Bh_19.2.2 kb_20) 0) lb_X5_countOf lv_X5_countOf lk_X11_129 (cw_k Bh_19.2.2 kb_20) rfl (by decide) rfl hl.1 rfl (Nat.le_of_ble_eq_true rfl) dX11_hear_89 ⟨Nat.le_refl _, Nat.le_refl _⟩) (fun _ _ h => by rw [h]; exact Bh_19.2.2) rfl (fun rh_21 αh_21 Hh_21 Lh_21 ph_21 Bh_21 => ?_)
        rw [ph_21] at Bh_21
        refine q_ci (pc' := 95) Bh_21 (hp_runV (As := [.int rh_21]) (rest := []) C Bh_21 (t_X11_answer Γ l αh_19 Bh_21.2.2.1 a0 (cw_k Bh_21.2.2 k0) rh_21) lb_X11_answer lv_X11_answer lk_X11_115 (cw_k Bh_21.2.2 k0) rfl (by decide) rfl hl.1 rfl (Nat.le_of_ble_eq_true rfl) dX11_hear_92 ⟨Nat.le_refl _, Nat.le_refl _⟩) (fun _ _ h => cw_tr Bh_21.2.2 h (by decide)) rfl (fun rh_22 αh_22 Hh_22 Lh_22 ph_22 Bh_22 => ?_)
        have t_23 : 0 = hp_I αh_13 605 a0 := by rw [eh_13]; exact hp_I_at.symm
        have t_24 : 0 = hp_I αh_18 605 a0 := by rw [eh_18]; exact t_23
        have t_25 : 0 = hp_I αh_19 605 a0 := by rw [eh_19]; exact t_24
        have t_26 : 0 = hp_I αh_22 605 a0 := by rw [cw_I ph_22 a0 (by decide)]; exact t_25
        have uR := il_eq t_26
        exact q_iret C Bh_22 hr hlk (by first | exact ⟨Bh_22.2.2, Or.inl ⟨by omega, by rw [← t_26]; exact ec0⟩⟩ | exact ⟨Bh_22.2.2, Or.inr ⟨by omega, (t_26).symm⟩⟩) dX11_hear_95
      ·
        have jc_14 := il_eq c_14
        refine lv_aload_n hx hb dX11_hear_58 rfl (lv_at hl 1 rfl) (hp_n (n := 59) rfl ?_)
        refine lv_bipush (v := 9) hx hb dX11_hear_59 (by decide) (hp_n (n := 61) rfl ?_)
        refine q_ci (pc' := 64) Bh_13 (hp_runV (As := [.int 9]) (rest := []) C Bh_13 (t_X11_refuse Γ l αh_13 Bh_13.2.2.1 a0 (cw_k Bh_13.2.2 k0) 9) lb_X11_refuse lv_X11_refuse lk_X11_98 (cw_k Bh_13.2.2 k0) rfl (by decide) rfl hl.1 rfl (Nat.le_of_ble_eq_true rfl) dX11_hear_61 ⟨Nat.le_refl _, Nat.le_refl _⟩) (fun _ _ h => cw_tr Bh_13.2.2 h (by decide)) rfl (fun rh_27 αh_27 Hh_27 Lh_27 ph_27 Bh_27 => ?_)
        have t_28 : 0 = hp_I αh_13 605 a0 := by rw [eh_13]; exact hp_I_at.symm
        have t_29 : 0 = hp_I αh_27 605 a0 := by rw [cw_I ph_27 a0 (by decide)]; exact t_28
        have uR := il_eq t_29
        exact q_iret C Bh_27 hr hlk (by first | exact ⟨Bh_27.2.2, Or.inl ⟨by omega, by rw [← t_29]; exact ec0⟩⟩ | exact ⟨Bh_27.2.2, Or.inr ⟨by omega, (t_29).symm⟩⟩) dX11_hear_64
    ·
      have jc_4 := il_nle c_4
      refine lv_aload_n hx hb dX11_hear_12 rfl (lv_at hl 0 rfl) (hp_n (n := 13) rfl ?_)
      refine lv_iconst (v := 1) hx hb dX11_hear_13 (by decide) (hp_n (n := 14) rfl ?_)
      refine q_ci (pc' := 17) B (hp_runV (As := [.int 1]) (rest := []) C B (t_X11_refuse Γ l α B.2.2.1 a0 (cw_k B.2.2 k0) 1) lb_X11_refuse lv_X11_refuse lk_X11_98 (cw_k B.2.2 k0) rfl (by decide) rfl hl.1 rfl (Nat.le_of_ble_eq_true rfl) dX11_hear_14 ⟨Nat.le_refl _, Nat.le_refl _⟩) (fun _ _ h => cw_tr B.2.2 h (by decide)) rfl (fun rh_30 αh_30 Hh_30 Lh_30 ph_30 Bh_30 => ?_)
      have t_31 : c0 = hp_I αh_30 605 a0 := by rw [cw_I ph_30 a0 (by decide)]; exact ec0
      have uR := il_eq t_31
      exact q_iret C Bh_30 hr hlk (by first | exact ⟨Bh_30.2.2, Or.inl ⟨by omega, by rw [← t_31]; exact ec0⟩⟩ | exact ⟨Bh_30.2.2, Or.inr ⟨by omega, (t_31).symm⟩⟩) dX11_hear_17
end JN7_9
section JN7_10
/-! ===== the reference's pure functions: they come to something; ranges stay ===== -/
theorem lt0 : (0 : Int32).toInt = 0 := rfl
theorem lt1 : (1 : Int32).toInt = 1 := rfl
theorem c0 : (0 : Int32).toNatClampNeg = 0 := rfl
theorem c1 : (1 : Int32).toNatClampNeg = 1 := rfl
theorem c2 : (2 : Int32).toNatClampNeg = 2 := rfl
theorem c3 : (3 : Int32).toNatClampNeg = 3 := rfl
theorem c4 : (4 : Int32).toNatClampNeg = 4 := rfl
theorem cl_n {i : Int32} {k : Nat} (h : i.toInt = (k : Int)) : i.toNatClampNeg = k := by
  have := ic_clamp (i := i) (by omega)
  omega
/-- what a function may change -/
def fr (wI wE : List Nat) (σ τ : ms_T) : Prop := (∀ φ, φ ∉ wI → ms_I τ φ = ms_I σ φ) ∧ ∀ κ, κ ∉ wE → ∀ j, ms_E τ κ j = ms_E σ κ j
theorem fr_rf {wI wE : List Nat} {σ : ms_T} : fr wI wE σ σ := ⟨fun _ _ => rfl, fun _ _ _ => rfl⟩
theorem fr_tr {wI wE : List Nat} {σ τ υ : ms_T} (h : fr wI wE σ τ) (g : fr wI wE τ υ) : fr wI wE σ υ := ⟨fun φ hφ => (g.1 φ hφ).trans (h.1 φ hφ), fun κ hκ j => (g.2 κ hκ j).trans (h.2 κ hκ j)⟩
theorem fr_sb {vI vE wI wE : List Nat} {σ τ : ms_T} (h : fr vI vE σ τ) (h1 : ∀ x ∈ vI, x ∈ wI) (h2 : ∀ x ∈ vE, x ∈ wE) : fr wI wE σ τ := ⟨fun φ hφ => h.1 φ (fun q => hφ (h1 _ q)), fun κ hκ => h.2 κ (fun q => hκ (h2 _ q))⟩
theorem fr_sI {wI wE : List Nat} {σ : ms_T} {φ : Nat} {v : Int32} (h : φ ∈ wI) : fr wI wE σ (ms_sI σ φ v) := ⟨fun ψ hψ => by rw [mI_sI, if_neg (fun e => hψ (by rw [e]; exact h))], fun _ _ _ => rfl⟩
theorem fr_sE {wI wE : List Nat} {σ : ms_T} {κ j : Nat} {v : Int32} (h : κ ∈ wE) : fr wI wE σ (ms_sE σ κ j v) := ⟨fun _ _ => rfl, fun ψ hψ i => by rw [mE_sE, if_neg (fun e => hψ (by rw [e.1]; exact h))]⟩
theorem fr_sJ {wI wE : List Nat} {σ : ms_T} {v : Int64} : fr wI wE σ (ms_sJ σ v) := ⟨fun _ _ => rfl, fun _ _ _ => rfl⟩
/-- of what does not touch the cells, nor what stays between calls -/
def fk (wI wE : List Nat) : Bool := !(wI.contains 664) && !(wI.contains 667) && !(wI.contains 682) && !(wI.contains 697) && !(wE.contains 40)
theorem RI_fr {wI wE : List Nat} {σ τ : ms_T} (h : RI σ) (f : fr wI wE σ τ) (k : fk wI wE = true) : RI τ := by
  simp only [fk, Bool.and_eq_true] at k
  obtain ⟨⟨⟨⟨k1, k2⟩, k3⟩, k4⟩, k5⟩ := k
  have e1 := f.1 664 (by simpa using k1)
  have e2 := f.1 667 (by simpa using k2)
  have e3 := f.1 682 (by simpa using k3)
  have e4 := f.1 697 (by simpa using k4)
  have e5 : ms_E τ 40 = ms_E σ 40 := funext (f.2 40 (by simpa using k5))
  unfold RI rI
  rw [e1, e2, e3, e4, e5]
  exact h
theorem rC_fr {wI wE : List Nat} {σ τ : ms_T} (h : rC (ms_E σ 40)) (f : fr wI wE σ τ) (k : 40 ∉ wE) : rC (ms_E τ 40) := by
  rw [show ms_E τ 40 = ms_E σ 40 from funext (f.2 40 k)]
  exact h
/-- a thing that is 1 where something holds and 0 where not -/
def bo (r : Int32) (P : Prop) : Prop := (r = 1 ∧ P) ∨ (r = 0 ∧ ¬ P)
theorem s_isIn (n : Nat) (a b c : Int32) : ws (f_X12_isIn n a b c) (fun r => bo r (b.toInt ≤ a.toInt ∧ a.toInt ≤ c.toInt)) := by
  unfold f_X12_isIn
  refine ws_lt (fun h => ws_s (Or.inr ⟨rfl, by omega⟩)) (fun h => ws_lt (fun g => ws_s (Or.inr ⟨rfl, by omega⟩)) (fun g => ws_s (Or.inl ⟨rfl, by omega⟩)))
theorem bo_z {r : Int32} {P : Prop} (h : bo r P) : r = 0 ∨ r = 1 := by
  rcases h with h | h
  · exact Or.inr h.1
  · exact Or.inl h.1
theorem bo_0 {r : Int32} {P : Prop} (h : bo r P) (e : r = 0) : ¬ P := by
  rcases h with h | h
  · rw [h.1] at e; exact absurd e (by decide)
  · exact h.2
theorem bo_1 {r : Int32} {P : Prop} (h : bo r P) (e : ¬ r.toInt = (0 : Int32).toInt) : P := by
  rcases h with h | h
  · exact h.2
  · exact absurd (by rw [h.1]) e
section P1
variable {n : Nat} {σ : ms_T}
theorem s_isRecord (hC : rC (ms_E σ 40)) (a : Int32) : ws (f_X12_isRecord n σ a) (fun r => bo r (0 ≤ a.toInt ∧ a.toInt < (ms_E σ 40 0).toInt)) := by
  unfold f_X12_isRecord
  rw [c0]
  have h1 := hC.1
  have e : (ms_E σ 40 0 - 1).toInt = (ms_E σ 40 0).toInt - 1 := by rw [ii_sub (by rw [lt1]; omega) (by rw [lt1]; omega), lt1]
  refine ws_g (by decide) (by decide) (ws_b (s_isIn n _ _ _) (fun r hr => ws_z (bo_z hr) (ws_s ?_)))
  rw [lt0, e] at hr
  rcases hr with h | h
  · exact Or.inl ⟨h.1, by omega⟩
  · exact Or.inr ⟨h.1, by omega⟩
theorem s_sizeOf (hC : rC (ms_E σ 40)) (a : Int32) (h0 : 0 ≤ a.toInt) (h1 : a.toInt ≤ 3) : ws (f_X12_sizeOf n σ a) (fun r => r = ms_E σ 40 (72 + a.toInt.toNat) ∧ 0 ≤ r.toInt ∧ r.toInt ≤ 48) := by
  unfold f_X12_sizeOf
  have l72 : (72 : Int32).toInt = 72 := by decide
  have e : ((72 : Int32) + a).toInt = 72 + a.toInt := by rw [ii_add (by omega) (by omega), l72]
  have ec : ((72 : Int32) + a).toNatClampNeg = 72 + a.toInt.toNat := cl_n (by omega)
  have hr := hC.2.2.2.2.1 a.toInt.toNat (by omega)
  refine ws_g (by omega) (by omega) (ws_s ?_)
  rw [ec]
  exact ⟨rfl, hr.1, hr.2⟩
theorem s_isMark (hC : rC (ms_E σ 40)) (a : Int32) : ws (f_X12_isMark n σ a) (fun r => bo r (0 ≤ a.toInt ∧ a.toInt < (ms_E σ 40 1).toInt)) := by
  unfold f_X12_isMark
  rw [c1]
  have h1 := hC.2.1
  have e : (ms_E σ 40 1 - 1).toInt = (ms_E σ 40 1).toInt - 1 := by rw [ii_sub (by rw [lt1]; omega) (by rw [lt1]; omega), lt1]
  refine ws_g (by decide) (by decide) (ws_b (s_isIn n _ _ _) (fun r hr => ws_z (bo_z hr) (ws_s ?_)))
  rw [lt0, e] at hr
  rcases hr with h | h
  · exact Or.inl ⟨h.1, by omega⟩
  · exact Or.inr ⟨h.1, by omega⟩
theorem s_mixed (hC : rC (ms_E σ 40)) (a b : Int32) : ws (f_X12_mixed n σ a b) (fun _ => True) := by
  unfold f_X12_mixed
  rw [c1]
  have h1 := hC.2.1
  exact ws_g (by decide) (by decide) (ws_nl (li_nz rfl (by omega)) (ws_s trivial))
theorem s_both (hC : rC (ms_E σ 40)) (a b : Int32) : ws (f_X12_both n σ a b) (fun _ => True) := by
  unfold f_X12_both
  exact ws_b (s_mixed hC _ _) (fun _ _ => ws_b (s_mixed hC _ _) (fun _ _ => ws_s trivial))
theorem s_entryMark_L (hC : rC (ms_E σ 40)) : ∀ (k : Nat) (h q v : Int32), 0 ≤ q.toInt → q.toInt ≤ 191 → 0 ≤ v.toInt → 9 - v.toInt ≤ (k : Int) → v.toInt ≤ 8 → ws (f_X12_entryMark_L13 n σ k h q v) (fun _ => True) := by
  intro k
  induction k with
  | zero => intro h q v h0 h1 h2 h3 h4; omega
  | succ k ih =>
    intro h q v h0 h1 h2 h3 h4
    rw [f_X12_entryMark_L13.eq_2]
    have l252 : (252 : Int32).toInt = 252 := by decide
    have l444 : (444 : Int32).toInt = 444 := by decide
    have l8 : (8 : Int32).toInt = 8 := by decide
    have e1 : ((252 : Int32) + q).toInt = 252 + q.toInt := by rw [ii_add (by omega) (by omega), l252]
    have e2 : ((8 : Int32) * q).toInt = 8 * q.toInt := by rw [ii_mul (by rw [l8]; omega) (by rw [l8]; omega), l8]
    have e3 : ((444 : Int32) + 8 * q).toInt = 444 + 8 * q.toInt := by rw [ii_add (by omega) (by omega), l444, e2]
    have e4 : ((444 : Int32) + 8 * q + v).toInt = 444 + 8 * q.toInt + v.toInt := by rw [ii_add (by omega) (by omega), e3]
    have e5 : (v + 1).toInt = v.toInt + 1 := by rw [ii_add (by rw [lt1]; omega) (by rw [lt1]; omega), lt1]
    have hr := hC.2.2.2.2.2.2.2.2 q.toInt.toNat (by omega)
    have ec : ((252 : Int32) + q).toNatClampNeg = 252 + q.toInt.toNat := cl_n (by omega)
    refine ws_g (by omega) (by omega) ?_
    rw [ec]
    refine ws_le (fun c => ws_s trivial) (fun c => ?_)
    refine ws_g (by omega) (by omega) (ws_b (s_mixed hC _ _) (fun r _ => ws_l ?_))
    exact ih r q (v + 1) h0 h1 (by omega) (by omega) (by omega)
theorem s_entryMark (hn : 70000 ≤ n) (hC : rC (ms_E σ 40)) (r i : Int32) (h0 : 0 ≤ r.toInt) (h1 : r.toInt ≤ 3) (h2 : 0 ≤ i.toInt) (h3 : i.toInt ≤ 47) : ws (f_X12_entryMark n σ r i) (fun _ => True) := by
  unfold f_X12_entryMark
  have l48 : (48 : Int32).toInt = 48 := by decide
  have e1 : ((48 : Int32) * r).toInt = 48 * r.toInt := by rw [ii_mul (by rw [l48]; omega) (by rw [l48]; omega), l48]
  have e2 : ((48 : Int32) * r + i).toInt = 48 * r.toInt + i.toInt := by rw [ii_add (by omega) (by omega), e1]
  exact ws_l (s_entryMark_L hC n _ _ _ (by omega) (by omega) (by decide) (by rw [lt0]; omega) (by decide))
end P1
/-- a power of 2 -/
def p2 (j : Nat) : Int := ((2 ^ j : Nat) : Int)
theorem p2_s (j : Nat) : p2 (j + 1) = 2 * p2 j := by unfold p2; rw [Nat.pow_succ]; omega
theorem p2_p (j : Nat) : 1 ≤ p2 j := by
  have := Nat.one_le_two_pow (n := j)
  unfold p2; omega
theorem p2_m {i j : Nat} (h : i ≤ j) : p2 i ≤ p2 j := by
  have := Nat.pow_le_pow_right (n := 2) (by decide) h
  unfold p2; omega
theorem p2_31 : p2 31 = 2147483648 := by decide
theorem p2_lt {i j : Nat} (h : p2 i < p2 j) : i < j := by
  rcases Nat.lt_or_ge i j with q | q
  · exact q
  · have := p2_m q; omega
/-- the greatest power of 2 that is less -/
def pt (a p : Int32) (j : Nat) : Prop := p.toInt = p2 j ∧ p2 j < a.toInt ∧ a.toInt ≤ p2 (j + 1)
theorem s_part0_L (n : Nat) : ∀ (k : Nat) (a v : Int32) (j : Nat), 2 ≤ a.toInt → v.toInt = p2 j → p2 j < a.toInt → 32 - (j : Int) ≤ (k : Int) → ws (f_X12_part0_L2 n k a v) (fun p => ∃ i, pt a p i) := by
  intro k
  induction k with
  | zero =>
    intro a v j h0 h1 h2 h3
    have := p2_m (show 31 ≤ j by omega)
    have := p2_31
    have := ib_hi a
    omega
  | succ k ih =>
    intro a v j h0 h1 h2 h3
    rw [f_X12_part0_L2.eq_2]
    have b1 := ib_hi a
    have b2 := p2_p j
    have e1 : (a - v).toInt = a.toInt - v.toInt := ii_sub (by omega) (by omega)
    refine ws_le (fun c => ws_s ⟨j, h1, h2, ?_⟩) (fun c => ws_l ?_)
    · rw [p2_s]; omega
    · have e2 : (v + v).toInt = v.toInt + v.toInt := ii_add (by omega) (by omega)
      exact ih a (v + v) (j + 1) h0 (by rw [p2_s]; omega) (by rw [p2_s]; omega) (by omega)
theorem s_part0 (n : Nat) (hn : 70000 ≤ n) (a : Int32) (h : 2 ≤ a.toInt) : ws (f_X12_part0 n a) (fun p => ∃ i, pt a p i) := by
  unfold f_X12_part0
  exact s_part0_L n n a 1 0 h (by decide) (by have h00 : p2 0 = 1 := (by decide); omega) (by omega)
/-- of a tree of at most 2^(k+1) things the parts have at most 2^k -/
theorem pt_k {a p : Int32} {i k : Nat} (h : pt a p i) (hk : a.toInt ≤ p2 (k + 1)) : p.toInt ≤ p2 k ∧ a.toInt - p.toInt ≤ p2 k ∧ 1 ≤ p.toInt ∧ 1 ≤ a.toInt - p.toInt ∧ a.toInt - p.toInt ≤ p.toInt := by
  obtain ⟨h1, h2, h3⟩ := h
  have hi : i < k + 1 := p2_lt (by omega)
  have := p2_m (show i ≤ k by omega)
  have := p2_p i
  rw [p2_s] at h3
  omega
theorem ne1_2 {a : Int32} (h0 : 1 ≤ a.toInt) (h1 : ¬ a.toInt = (1 : Int32).toInt) : 2 ≤ a.toInt := by rw [lt1] at h1; omega
theorem s_treeMark (n : Nat) (hn : 70000 ≤ n) {σ : ms_T} (hC : rC (ms_E σ 40)) : ∀ (k d : Nat) (r f m : Int32), k < d → 0 ≤ r.toInt → r.toInt ≤ 3 → 0 ≤ f.toInt → 0 ≤ m.toInt → f.toInt + m.toInt ≤ 48 → m.toInt ≤ p2 k → ws (f_X12_treeMark n d σ r f m) (fun _ => True) := by
  intro k
  induction k with
  | zero =>
    intro d r f m hd h0 h1 h2 h3 h4 h5
    have : p2 0 = 1 := by decide
    obtain ⟨d, rfl⟩ : ∃ d', d = d' + 1 := ⟨d - 1, by omega⟩
    rw [f_X12_treeMark.eq_2]
    refine ws_e (fun c => ws_s trivial) (fun c => ws_e (fun g => ?_) (fun g => ?_))
    · have gm := il_eq g
      rw [lt1] at gm
      exact ws_b (s_entryMark hn hC _ _ h0 h1 h2 (by omega)) (fun _ _ => ws_s trivial)
    · rw [lt0] at c; rw [lt1] at g; omega
  | succ k ih =>
    intro d r f m hd h0 h1 h2 h3 h4 h5
    obtain ⟨d, rfl⟩ : ∃ d', d = d' + 1 := ⟨d - 1, by omega⟩
    rw [f_X12_treeMark.eq_2]
    refine ws_e (fun c => ws_s trivial) (fun c => ws_e (fun g => ?_) (fun g => ?_))
    · have gm := il_eq g
      rw [lt1] at gm
      exact ws_b (s_entryMark hn hC _ _ h0 h1 h2 (by omega)) (fun _ _ => ws_s trivial)
    · rw [lt0] at c
      have h2m := ne1_2 (a := m) (by omega) g
      refine ws_b (s_part0 n hn m h2m) (fun p hp => ?_)
      obtain ⟨i, hp⟩ := hp
      obtain ⟨q1, q2, q3, q4, q5⟩ := pt_k hp h5
      have e1 : (f + p).toInt = f.toInt + p.toInt := ii_add (by omega) (by omega)
      have e2 : (m - p).toInt = m.toInt - p.toInt := ii_sub (by omega) (by omega)
      refine ws_b (ih d r f p (by omega) h0 h1 h2 (by omega) (by omega) q1) (fun _ _ => ws_b (ih d r (f + p) (m - p) (by omega) h0 h1 (by omega) (by omega) (by omega) (by omega)) (fun _ _ => ws_b (s_both hC _ _) (fun _ _ => ws_s trivial)))
theorem s_tree0 (n : Nat) (hn : 70000 ≤ n) {σ : ms_T} (hC : rC (ms_E σ 40)) (r f m : Int32) (h0 : 0 ≤ r.toInt) (h1 : r.toInt ≤ 3) (h2 : 0 ≤ f.toInt) (h3 : 0 ≤ m.toInt) (h4 : f.toInt + m.toInt ≤ 48) : ws (f_X12_treeMark n 40 σ r f m) (fun _ => True) :=
  s_treeMark n hn hC 6 40 r f m (by omega) h0 h1 h2 h3 h4 (by have h06 : p2 6 = 64 := (by decide); omega)
theorem s_headOf (n : Nat) (hn : 70000 ≤ n) {σ : ms_T} (hC : rC (ms_E σ 40)) (r m : Int32) (h0 : 0 ≤ r.toInt) (h1 : r.toInt ≤ 3) (h3 : 0 ≤ m.toInt) (h4 : m.toInt ≤ 48) : ws (f_X12_headOf n σ r m) (fun _ => True) := by
  unfold f_X12_headOf
  exact ws_b (s_tree0 n hn hC r 0 m h0 h1 (by decide) h3 (by rw [lt0]; omega)) (fun _ _ => ws_s trivial)
/-! ways -/
def wg (B : Int) (σ : ms_T) (w : Nat) : Prop := ∀ q, q < w → 0 ≤ (ms_E σ 42 q).toInt ∧ 0 ≤ (ms_E σ 43 q).toInt ∧ (ms_E σ 42 q).toInt + (ms_E σ 43 q).toInt ≤ B
/-- a way of w trees within B things -/
def wy (B : Int) (σ τ : ms_T) (w : Nat) : Prop := fr [657] [42, 43] σ τ ∧ (ms_I τ 657).toInt = (w : Int) ∧ wg B τ w
theorem s_asks (n : Nat) {B : Int} {σ σ0 : ms_T} {w : Nat} (h : wy B σ0 σ w) (hw : w < 128) (a b : Int32) (h0 : 0 ≤ a.toInt) (h1 : 0 ≤ b.toInt) (h2 : a.toInt + b.toInt ≤ B) : ws (f_X12_asks n σ a b) (fun τ => wy B σ0 τ (w + 1)) := by
  obtain ⟨hf, hi, hg⟩ := h
  unfold f_X12_asks
  have ec : (ms_I σ 657).toNatClampNeg = w := cl_n hi
  have e1 : (ms_I σ 657 + 1).toInt = (w : Int) + 1 := by rw [ii_add (by rw [lt1]; omega) (by rw [lt1]; omega), lt1, hi]
  refine ws_g (by omega) (by omega) (ws_l (ws_g (by rw [mI_sE]; omega) (by rw [mI_sE]; omega) (ws_l (ws_l (ws_s ?_)))))
  refine ⟨fr_tr hf (fr_tr (fr_sE (by decide)) (fr_tr (fr_sE (by decide)) (fr_sI (by decide)))), ?_, fun q hq => ?_⟩
  · rw [mI_sI, if_pos rfl, mI_sE, mI_sE, e1]; omega
  · rw [mE_sI, mE_sI, mI_sE, ec, mE_sE, mE_sE, mE_sE, mE_sE]
    by_cases e : q = w
    · subst e
      rw [if_neg (fun x => absurd x.1 (by decide)), if_pos ⟨rfl, rfl⟩, if_pos ⟨rfl, rfl⟩]
      exact ⟨h0, h1, h2⟩
    · rw [if_neg (fun x => absurd x.1 (by decide)), if_neg (fun x => e x.2), if_neg (fun x => e x.2), if_neg (fun x => absurd x.1 (by decide))]
      exact hg q (by omega)
theorem s_waysIn (n : Nat) (hn : 70000 ≤ n) {B : Int} (hB : B ≤ 2147483647) : ∀ (k d w : Nat) (σ0 σ : ms_T) (f i m : Int32), k < d → wy B σ0 σ w → w + k ≤ 128 → 0 ≤ f.toInt → 0 ≤ i.toInt → i.toInt < m.toInt → f.toInt + m.toInt ≤ B → m.toInt ≤ p2 k → ws (f_X12_waysIn n d σ f i m) (fun τ => ∃ w', wy B σ0 τ w' ∧ w' ≤ w + k) := by
  intro k
  induction k with
  | zero =>
    intro d w σ0 σ f i m hd hw hk h0 h1 h2 h3 h4
    have : p2 0 = 1 := by decide
    obtain ⟨d, rfl⟩ : ∃ d', d = d' + 1 := ⟨d - 1, by omega⟩
    rw [f_X12_waysIn.eq_2]
    refine ws_e (fun c => ws_s ⟨w, hw, by omega⟩) (fun c => ?_)
    rw [lt1] at c
    omega
  | succ k ih =>
    intro d w σ0 σ f i m hd hw hk h0 h1 h2 h3 h4
    obtain ⟨d, rfl⟩ : ∃ d', d = d' + 1 := ⟨d - 1, by omega⟩
    rw [f_X12_waysIn.eq_2]
    refine ws_e (fun c => ws_s ⟨w, hw, by omega⟩) (fun c => ?_)
    have h2m := ne1_2 (a := m) (by omega) c
    refine ws_b (s_part0 n hn m h2m) (fun p hp => ?_)
    obtain ⟨j, hp⟩ := hp
    obtain ⟨q1, q2, q3, q4, q5⟩ := pt_k hp h4
    have e1 : (f + p).toInt = f.toInt + p.toInt := ii_add (by omega) (by omega)
    have e2 : (m - p).toInt = m.toInt - p.toInt := ii_sub (by omega) (by omega)
    refine ws_le (fun c => ?_) (fun c => ?_)
    · have e3 : (i - p).toInt = i.toInt - p.toInt := ii_sub (by omega) (by omega)
      refine ws_b (ih d w σ0 σ (f + p) (i - p) (m - p) (by omega) hw (by omega) (by omega) (by omega) (by omega) (by omega) (by omega)) (fun τ hτ => ?_)
      obtain ⟨w', hw', hl⟩ := hτ
      exact ws_b (s_asks n hw' (by omega) f p h0 (by omega) (by omega)) (fun υ hυ => ws_s ⟨w' + 1, hυ, by omega⟩)
    · refine ws_b (ih d w σ0 σ f i p (by omega) hw (by omega) h0 h1 c (by omega) q1) (fun τ hτ => ?_)
      obtain ⟨w', hw', hl⟩ := hτ
      exact ws_b (s_asks n hw' (by omega) (f + p) (m - p) (by omega) (by omega) (by omega)) (fun υ hυ => ws_s ⟨w' + 1, hυ, by omega⟩)
theorem wy_0 {B : Int} {σ : ms_T} : wy B σ (ms_sI σ 657 0) 0 := ⟨fr_sI (by decide), by rw [mI_sI, if_pos rfl]; rfl, fun q h => absurd h (Nat.not_lt_zero q)⟩
theorem s_inclusion (n : Nat) (hn : 70000 ≤ n) (σ : ms_T) (i m : Int32) (h0 : 0 ≤ i.toInt) (h1 : i.toInt < m.toInt) : ws (f_X12_inclusion n σ i m) (fun τ => ∃ w, wy m.toInt σ τ w ∧ w ≤ 31) := by
  unfold f_X12_inclusion
  have b := ib_hi m
  refine ws_l (ws_b (s_waysIn n hn b 31 40 0 σ _ 0 i m (by omega) wy_0 (by omega) (by decide) h0 h1 (by rw [lt0]; omega) (by rw [p2_31]; omega)) (fun τ hτ => ?_))
  obtain ⟨w, hw, hl⟩ := hτ
  exact ws_s ⟨w, hw, by omega⟩
theorem s_growsIn (n : Nat) (hn : 70000 ≤ n) {B : Int} (hB : B ≤ 2147483647) : ∀ (k d w : Nat) (σ0 σ : ms_T) (f i m z : Int32), k < d → wy B σ0 σ w → w + k + 1 ≤ 128 → 0 ≤ f.toInt → 1 ≤ i.toInt → i.toInt ≤ m.toInt → f.toInt + m.toInt ≤ B → m.toInt ≤ p2 k → ws (f_X12_growsIn n d σ f i m z) (fun τ => ∃ w', wy B σ0 τ w' ∧ w' ≤ w + k + 1) := by
  intro k
  induction k with
  | zero =>
    intro d w σ0 σ f i m z hd hw hk h0 h1 h2 h3 h4
    have : p2 0 = 1 := by decide
    obtain ⟨d, rfl⟩ : ∃ d', d = d' + 1 := ⟨d - 1, by omega⟩
    rw [f_X12_growsIn.eq_2]
    refine ws_e (fun c => ws_e (fun g => ?_) (fun g => ws_s ⟨w, hw, by omega⟩)) (fun c => ?_)
    · exact ws_b (s_asks n hw (by omega) f m h0 (by omega) (by omega)) (fun υ hυ => ws_s ⟨w + 1, hυ, by omega⟩)
    · omega
  | succ k ih =>
    intro d w σ0 σ f i m z hd hw hk h0 h1 h2 h3 h4
    obtain ⟨d, rfl⟩ : ∃ d', d = d' + 1 := ⟨d - 1, by omega⟩
    rw [f_X12_growsIn.eq_2]
    refine ws_e (fun c => ws_e (fun g => ?_) (fun g => ws_s ⟨w, hw, by omega⟩)) (fun c => ?_)
    · exact ws_b (s_asks n hw (by omega) f m h0 (by omega) (by omega)) (fun υ hυ => ws_s ⟨w + 1, hυ, by omega⟩)
    · refine ws_b (s_part0 n hn m (by omega)) (fun p hp => ?_)
      obtain ⟨j, hp⟩ := hp
      obtain ⟨q1, q2, q3, q4, q5⟩ := pt_k hp h4
      have e1 : (f + p).toInt = f.toInt + p.toInt := ii_add (by omega) (by omega)
      have e2 : (m - p).toInt = m.toInt - p.toInt := ii_sub (by omega) (by omega)
      refine ws_lt (fun c => ?_) (fun c => ?_)
      · have e3 : (i - p).toInt = i.toInt - p.toInt := ii_sub (by omega) (by omega)
        refine ws_b (ih d w σ0 σ (f + p) (i - p) (m - p) 0 (by omega) hw (by omega) (by omega) (by omega) (by omega) (by omega) (by omega)) (fun τ hτ => ?_)
        obtain ⟨w', hw', hl⟩ := hτ
        exact ws_b (s_asks n hw' (by omega) f p h0 (by omega) (by omega)) (fun υ hυ => ws_s ⟨w' + 1, hυ, by omega⟩)
      · refine ws_b (ih d w σ0 σ f i p z (by omega) hw (by omega) h0 h1 (by omega) (by omega) q1) (fun τ hτ => ?_)
        obtain ⟨w', hw', hl⟩ := hτ
        exact ws_b (s_asks n hw' (by omega) (f + p) (m - p) (by omega) (by omega) (by omega)) (fun υ hυ => ws_s ⟨w' + 1, hυ, by omega⟩)
theorem s_growth0 (n : Nat) (hn : 70000 ≤ n) (σ : ms_T) (i m : Int32) : ws (f_X12_growth n σ i m) (fun τ => ∃ w, wy m.toInt σ τ w ∧ w ≤ 32) := by
  unfold f_X12_growth
  have b := ib_hi m
  refine ws_l (ws_le (fun c => ws_s ⟨0, wy_0, by omega⟩) (fun c => ws_le (fun g => ws_s ⟨0, wy_0, by omega⟩) (fun g => ?_)))
  rw [lt0] at c
  refine ws_b (s_growsIn n hn b 31 40 0 σ _ 0 i m 1 (by omega) wy_0 (by omega) (by decide) (by omega) (by omega) (by rw [lt0]; omega) (by rw [p2_31]; omega)) (fun τ hτ => ?_)
  obtain ⟨w, hw, hl⟩ := hτ
  exact ws_s ⟨w, hw, by omega⟩
end JN7_10
section JN7_11
/-! ===== more of the reference's inner functions ===== -/
theorem s_is (n : Nat) (σ : ms_T) (a : Int32) : ws (f_X12_is n σ a) (fun q => fr [652, 653] [] σ q.2 ∧ bo q.1 (a = 0)) := by
  unfold f_X12_is
  refine ws_l (ws_l (ws_i (fun h => ws_s ⟨fr_tr (fr_sI (by decide)) (fr_sI (by decide)), Or.inl ⟨rfl, h⟩⟩) (fun h => ws_s ⟨fr_tr (fr_sI (by decide)) (fr_sI (by decide)), Or.inr ⟨rfl, h⟩⟩)))
theorem s_refuse (n : Nat) (σ : ms_T) (a : Int32) : ws (f_X12_refuse n σ a) (fun q => fr [652, 653] [] σ q.2 ∧ q.1 = -1) := by
  unfold f_X12_refuse
  exact ws_l (ws_s ⟨fr_sI (by decide), rfl⟩)
/-- a call that refuses, or goes on -/
theorem ws_is {n : Nat} {σ : ms_T} {w : Int32} {k : ms_T → Option (Int32 × ms_T)} {P : Int32 × ms_T → Prop} (h0 : ∀ τ, fr [652, 653] [] σ τ → P (-1, τ)) (h1 : w = 0 → ∀ τ, fr [652, 653] [] σ τ → ws (k τ) P) : ws (ms_c (f_X12_is n σ w) fun r τ => if r = 0 then some ((-1 : Int32), τ) else k τ) P :=
  ws_c (s_is n σ w) (fun r τ hr => ws_i (fun _ => ws_s (h0 τ hr.1)) (fun e => h1 (bo_1 hr.2 (fun q => e (Int32.toInt_inj.mp q))) τ hr.1))
def PK (σ : ms_T) (res : Int32 × ms_T) : Prop := RI res.2 ∧ ms_I res.2 667 = ms_I σ 667
theorem pk {wI wE : List Nat} {σ τ : ms_T} (h : RI σ) (f : fr wI wE σ τ) (k : fk wI wE = true) (r : Int32) : PK σ (r, τ) := by
  refine ⟨RI_fr h f k, f.1 667 ?_⟩
  simp only [fk, Bool.and_eq_true] at k
  simpa using k.1.1.1.2
theorem pk_is {σ τ : ms_T} (h : RI σ) (f : fr [652, 653] [] σ τ) (r : Int32) : PK σ (r, τ) := pk h f (by decide) r
theorem pk_tr {σ σ1 : ms_T} {res : Int32 × ms_T} (h : ms_I σ1 667 = ms_I σ 667) (g : PK σ1 res) : PK σ res := ⟨g.1, g.2.trans h⟩
/-- behind is(): the same cells, the same counts -/
theorem is_R {σ τ : ms_T} (h : RI σ) (f : fr [652, 653] [] σ τ) : RI τ ∧ ms_I τ 667 = ms_I σ 667 ∧ ms_E τ = ms_E σ := ⟨RI_fr h f (by decide), f.1 667 (by decide), funext fun κ => funext fun j => f.2 κ (by simp) j⟩
theorem s_hasAny_L (n : Nat) : ∀ (k : Nat) (s f m v : Int32), 0 ≤ v.toInt → v.toInt ≤ 30 → 31 - v.toInt ≤ (k : Int) → ws (f_X12_hasAny_L2 n k s f m v) (fun r => (r = 0 ∨ r = 1) ∧ (30 ≤ f.toInt → r = 0) ∧ (f = 0 → m.toInt ≤ 0 → r = 0)) := by
  intro k
  induction k with
  | zero => intro s f m v h0 h1 h2; omega
  | succ k ih =>
    intro s f m v h0 h1 h2
    have l30 : (30 : Int32).toInt = 30 := by decide
    have e1 : (v + 1).toInt = v.toInt + 1 := by rw [ii_add (by rw [lt1]; omega) (by rw [lt1]; omega), lt1]
    rw [f_X12_hasAny_L2.eq_2]
    refine ws_le (fun c => ws_s ⟨Or.inl rfl, fun _ => rfl, fun _ _ => rfl⟩) (fun c => ?_)
    have hJ : ws (f_X12_hasAny_J31 n (f_X12_hasAny_L2 n k) s f m v) (fun r => (r = 0 ∨ r = 1) ∧ (30 ≤ f.toInt → r = 0) ∧ (f = 0 → m.toInt ≤ 0 → r = 0)) := by
      unfold f_X12_hasAny_J31
      exact ws_l (ih s f m (v + 1) (by omega) (by omega) (by omega))
    refine ws_i (fun _ => ws_lt (fun _ => hJ) (fun d => ws_le (fun _ => hJ) (fun g => ws_s ⟨Or.inr rfl, fun q => by omega, fun q1 q2 => ?_⟩))) (fun _ => hJ)
    rw [q1, show v - 0 = v by simp] at g
    omega
theorem s_hasAny (n : Nat) (hn : 70000 ≤ n) (s f m : Int32) : ws (f_X12_hasAny n s f m) (fun r => (r = 0 ∨ r = 1) ∧ (30 ≤ f.toInt → r = 0) ∧ (f = 0 → m.toInt ≤ 0 → r = 0)) := by
  unfold f_X12_hasAny
  exact s_hasAny_L n n s f m 0 (by decide) (by decide) (by rw [lt0]; omega)
theorem s_bundlesA (n : Nat) (hn : 70000 ≤ n) {B : Int} (hB : B ≤ 2147483647) : ∀ (k d w : Nat) (σ0 σ : ms_T) (s f m : Int32), k < d → wy B σ0 σ w → (w : Int) + m.toInt ≤ 127 → 0 ≤ f.toInt → 1 ≤ m.toInt → f.toInt + m.toInt ≤ B → m.toInt ≤ p2 k → ws (f_X12_bundlesIn n d σ s f m) (fun τ => ∃ w', wy B σ0 τ w' ∧ (w' : Int) ≤ w + m.toInt) := by
  intro k
  induction k with
  | zero =>
    intro d w σ0 σ s f m hd hw hk h0 h1 h2 h3
    have : p2 0 = 1 := by decide
    obtain ⟨d, rfl⟩ : ∃ d', d = d' + 1 := ⟨d - 1, by omega⟩
    rw [f_X12_bundlesIn.eq_2]
    refine ws_b (s_hasAny n hn s f m) (fun r hr => ws_i (fun _ => ?_) (fun _ => ws_e (fun _ => ws_s ⟨w, hw, by omega⟩) (fun c => ?_)))
    · exact ws_b (s_asks n hw (by omega) f m h0 (by omega) (by omega)) (fun υ hυ => ws_s ⟨w + 1, hυ, by omega⟩)
    · rw [lt1] at c; omega
  | succ k ih =>
    intro d w σ0 σ s f m hd hw hk h0 h1 h2 h3
    obtain ⟨d, rfl⟩ : ∃ d', d = d' + 1 := ⟨d - 1, by omega⟩
    rw [f_X12_bundlesIn.eq_2]
    refine ws_b (s_hasAny n hn s f m) (fun r hr => ws_i (fun _ => ?_) (fun _ => ws_e (fun _ => ws_s ⟨w, hw, by omega⟩) (fun c => ?_)))
    · exact ws_b (s_asks n hw (by omega) f m h0 (by omega) (by omega)) (fun υ hυ => ws_s ⟨w + 1, hυ, by omega⟩)
    · have h2m := ne1_2 (a := m) h1 c
      refine ws_b (s_part0 n hn m h2m) (fun p hp => ?_)
      obtain ⟨j, hp⟩ := hp
      obtain ⟨q1, q2, q3, q4, q5⟩ := pt_k hp h3
      have e1 : (f + p).toInt = f.toInt + p.toInt := ii_add (by omega) (by omega)
      have e2 : (m - p).toInt = m.toInt - p.toInt := ii_sub (by omega) (by omega)
      refine ws_b (ih d w σ0 σ s f p (by omega) hw (by omega) h0 q3 (by omega) q1) (fun τ hτ => ?_)
      obtain ⟨w', hw', hl⟩ := hτ
      refine ws_b (ih d w' σ0 τ s (f + p) (m - p) (by omega) hw' (by omega) (by omega) (by omega) (by omega) (by omega)) (fun υ hυ => ?_)
      obtain ⟨w2, hw2, hl2⟩ := hυ
      exact ws_s ⟨w2, hw2, by omega⟩
theorem s_bundlesB (n : Nat) (hn : 70000 ≤ n) {B : Int} (hB : B ≤ 2147483647) : ∀ (k d : Nat) (σ0 σ : ms_T) (s m : Int32), k + 6 < d → wy B σ0 σ 0 → 1 ≤ m.toInt → m.toInt ≤ B → m.toInt ≤ p2 (k + 5) → k ≤ 26 → ws (f_X12_bundlesIn n d σ s 0 m) (fun τ => ∃ w', wy B σ0 τ w' ∧ w' ≤ 32 + k) := by
  intro k
  induction k with
  | zero =>
    intro d σ0 σ s m hd hw h1 h2 h3 hk
    have : p2 5 = 32 := by decide
    have h3' : m.toInt ≤ p2 5 := h3
    refine ws_m (s_bundlesA n hn hB 5 d 0 σ0 σ s 0 m (by omega) hw (by omega) (by decide) h1 (by rw [lt0]; omega) h3) (fun τ hτ => ?_)
    obtain ⟨w, hw, hl⟩ := hτ
    exact ⟨w, hw, by omega⟩
  | succ k ih =>
    intro d σ0 σ s m hd hw h1 h2 h3 hk
    by_cases hm : m.toInt ≤ p2 (k + 5)
    · refine ws_m (ih d σ0 σ s m (by omega) hw h1 h2 hm (by omega)) (fun τ hτ => ?_)
      obtain ⟨w, hw, hl⟩ := hτ
      exact ⟨w, hw, by omega⟩
    have h32 : p2 5 = 32 := by decide
    have hk5 := p2_m (show 5 ≤ k + 5 by omega)
    obtain ⟨d, rfl⟩ : ∃ d', d = d' + 1 := ⟨d - 1, by omega⟩
    rw [f_X12_bundlesIn.eq_2]
    refine ws_b (s_hasAny n hn s 0 m) (fun r hr => ws_i (fun _ => ?_) (fun _ => ws_e (fun _ => ws_s ⟨0, hw, by omega⟩) (fun c => ?_)))
    · exact ws_b (s_asks n hw (by omega) 0 m (by decide) (by omega) (by rw [lt0]; omega)) (fun υ hυ => ws_s ⟨0 + 1, hυ, by omega⟩)
    · have h2m := ne1_2 (a := m) h1 c
      refine ws_b (s_part0 n hn m h2m) (fun p hp => ?_)
      obtain ⟨j, hp⟩ := hp
      obtain ⟨q1, q2, q3, q4, q5⟩ := pt_k hp h3
      have hp1 : p2 (k + 5) ≤ p.toInt := by
        obtain ⟨a1, a2, a3⟩ := hp
        have : k + 5 < j + 1 := p2_lt (by omega)
        have := p2_m (show k + 5 ≤ j by omega)
        omega
      have e1 : ((0 : Int32) + p).toInt = p.toInt := by rw [ii_add (by rw [lt0]; omega) (by rw [lt0]; omega), lt0]; omega
      have e2 : (m - p).toInt = m.toInt - p.toInt := ii_sub (by omega) (by omega)
      refine ws_b (ih d σ0 σ s p (by omega) hw q3 (by omega) q1 (by omega)) (fun τ hτ => ?_)
      obtain ⟨w', hw', hl⟩ := hτ
      obtain ⟨d, rfl⟩ : ∃ d', d = d' + 1 := ⟨d - 1, by omega⟩
      have hrest : ws (f_X12_bundlesIn n (d + 1) τ s (0 + p) (m - p)) (fun υ => wy B σ0 υ (w' + 1)) := by
        rw [f_X12_bundlesIn.eq_2]
        refine ws_b (s_hasAny n hn s (0 + p) (m - p)) (fun r hr => ws_i (fun _ => ?_) (fun g => absurd (hr.2.1 (by omega)) g))
        exact ws_b (s_asks n hw' (by omega) (0 + p) (m - p) (by omega) (by omega) (by omega)) (fun υ hυ => ws_s hυ)
      exact ws_b hrest (fun υ hυ => ws_s ⟨w' + 1, hυ, by omega⟩)
theorem s_bundleOf (n : Nat) (hn : 70000 ≤ n) (σ : ms_T) (s m : Int32) (h : 1 ≤ m.toInt) : ws (f_X12_bundleOf n σ s m) (fun τ => ∃ w, wy m.toInt σ τ w ∧ w ≤ 58) := by
  unfold f_X12_bundleOf
  have b := ib_hi m
  refine ws_l (ws_b (s_bundlesB n hn b 26 40 σ _ s m (by omega) wy_0 h (Int.le_refl _) (by rw [p2_31]; omega) (by omega)) (fun τ hτ => ?_))
  obtain ⟨w, hw, hl⟩ := hτ
  exact ws_s ⟨w, hw, by omega⟩
theorem s_bundleOf0 (n : Nat) (hn : 70000 ≤ n) (σ : ms_T) (s m : Int32) (h : m.toInt ≤ 0) : ws (f_X12_bundleOf n σ s m) (fun τ => fr [657] [42, 43] σ τ ∧ (ms_I τ 657).toInt = 1) := by
  unfold f_X12_bundleOf
  refine ws_l ?_
  have h0 : ws (f_X12_bundlesIn n 40 (ms_sI σ 657 0) s 0 m) (fun τ => fr [657] [42, 43] σ τ ∧ (ms_I τ 657).toInt = 1) := by
    rw [f_X12_bundlesIn.eq_2]
    refine ws_b (s_hasAny n hn s 0 m) (fun r hr => ws_i (fun _ => ?_) (fun g => absurd (hr.2.2 rfl h) g))
    unfold f_X12_asks
    have e0 : ms_I (ms_sI σ 657 0) 657 = 0 := by rw [mI_sI, if_pos rfl]
    refine ws_b (S := fun τ => fr [657] [42, 43] σ τ ∧ (ms_I τ 657).toInt = 1) (ws_g (by rw [e0]; decide) (by rw [e0]; decide) (ws_l (ws_g (by rw [mI_sE, e0]; decide) (by rw [mI_sE, e0]; decide) (ws_l (ws_l (ws_s ?_)))))) (fun υ hυ => ws_s hυ)
    refine ⟨fr_tr (fr_sI (by decide)) (fr_tr (fr_sE (by decide)) (fr_tr (fr_sE (by decide)) (fr_sI (by decide)))), ?_⟩
    rw [mI_sI, if_pos rfl, mI_sE, mI_sE, e0]; decide
  exact ws_b h0 (fun υ hυ => ws_s hυ)
/-- a power of 2 halves -/
theorem p2_half {v : Int32} {j : Nat} (h : v.toInt = p2 (j + 1)) : (v / 2).toInt = p2 j := by
  have h1 := p2_p j
  rw [ii_div (by rw [h]; have := p2_p (j + 1); omega) (by decide), h, p2_s]
  have : (2 : Int32).toInt = 2 := rfl
  rw [this]
  omega
theorem s_peaksOf_L (n : Nat) : ∀ (k j w : Nat) (σ0 σ : ms_T) (a f v : Int32), j + 1 < k → v.toInt = p2 j → wy 48 σ0 σ w → w + j + 1 ≤ 31 → 0 ≤ a.toInt → 0 ≤ f.toInt → f.toInt + a.toInt % (2 * p2 j) ≤ 48 → ws (f_X12_peaksOf_L10 n k σ a f v) (fun τ => ∃ w', wy 48 σ0 τ w' ∧ w' ≤ 31) := by
  intro k
  induction k with
  | zero => intro j w σ0 σ a f v h0; omega
  | succ k ih =>
    intro j w σ0 σ a f v h0 hv hw hk ha hf hs
    have hp := p2_p j
    have l2 : (2 : Int32).toInt = 2 := rfl
    have hda : (a / v).toInt = a.toInt / p2 j := by rw [ii_div ha (by omega), hv]
    have hq0 : 0 ≤ a.toInt / p2 j := Int.ediv_nonneg ha (by omega)
    have hrem : ((a / v) - (a / v) / 2 * 2).toInt = (a.toInt / p2 j) % 2 := by rw [ii_rem (x := a / v) (y := 2) (by omega) (by decide), hda, l2]
    have hmm : a.toInt % (2 * p2 j) = a.toInt % p2 j + p2 j * ((a.toInt / p2 j) % 2) := by
      obtain ⟨A, hA⟩ := Int.eq_ofNat_of_zero_le ha
      have h := Nat.mod_mul (a := 2 ^ j) (b := 2) (x := A)
      unfold p2
      rw [hA, Int.mul_comm 2]
      exact_mod_cast h
    have hm0 := Int.emod_nonneg a.toInt (show p2 j ≠ 0 by omega)
    rw [f_X12_peaksOf_L10.eq_2]
    refine ws_le (fun c => by rw [lt0, hv] at c; omega) (fun c => ws_n (fun q => by have := il_eq q; rw [lt0] at this; omega) ?_)
    have hJ : ∀ (w' : Nat) (τ : ms_T) (g : Int32), wy 48 σ0 τ w' → w' + j ≤ 31 → 0 ≤ g.toInt → g.toInt + a.toInt % p2 j ≤ 48 → ws (f_X12_peaksOf_J35 n (f_X12_peaksOf_L10 n k) τ a g v) (fun τ => ∃ w', wy 48 σ0 τ w' ∧ w' ≤ 31) := by
      intro w' τ g hw' hk' hg hs'
      unfold f_X12_peaksOf_J35
      refine ws_l ?_
      cases j with
      | zero =>
        have hz : (v / 2).toInt = 0 := by
          rw [ii_div (by omega) (by decide), hv, l2]
          decide
        obtain ⟨k, rfl⟩ : ∃ k', k = k' + 1 := ⟨k - 1, by omega⟩
        rw [f_X12_peaksOf_L10.eq_2]
        exact ws_le (fun _ => ws_s ⟨w', hw', by omega⟩) (fun c => by rw [lt0] at c; omega)
      | succ j =>
        refine ih j w' σ0 τ a g (v / 2) (by omega) (p2_half hv) hw' (by omega) ha hg ?_
        rw [← p2_s]; exact hs'
    refine ws_i (fun q => ?_) (fun q => ?_)
    · have q1 := il_eq q
      rw [hrem, lt0] at q1
      rw [q1] at hmm
      exact hJ w σ f hw (by omega) hf (by omega)
    · have q1 := il_ne q
      rw [hrem, lt0] at q1
      have q2 : (a.toInt / p2 j) % 2 = 1 := by omega
      rw [q2] at hmm
      have e3 : (f + v).toInt = f.toInt + v.toInt := ii_add (by omega) (by omega)
      refine ws_b (s_asks n hw (by omega) f v hf (by omega) (by omega)) (fun υ hυ => ws_l ?_)
      exact hJ (w + 1) υ (f + v) hυ (by omega) (by omega) (by omega)
theorem s_peaksOf (n : Nat) (hn : 70000 ≤ n) (σ : ms_T) (a : Int32) (h0 : 0 ≤ a.toInt) (h1 : a.toInt ≤ 48) : ws (f_X12_peaksOf n σ a) (fun τ => ∃ w, wy 48 σ τ w ∧ w ≤ 31) := by
  unfold f_X12_peaksOf
  refine ws_l (s_peaksOf_L n n 30 0 σ _ a 0 1073741824 (by omega) (by decide) wy_0 (by omega) h0 (by decide) ?_)
  have h30 : p2 30 = 1073741824 := by decide
  have hm : a.toInt % (2 * p2 30) ≤ a.toInt := by rw [h30]; omega
  rw [lt0]
  omega
end JN7_11
section JN7_12
/-! ===== stores into the cells; marks; folds ===== -/
def rc_j (j : Nat) (v : Int32) : Prop := (j = 0 → 1 ≤ v.toInt ∧ v.toInt ≤ 4) ∧ (j = 1 → 101 ≤ v.toInt ∧ v.toInt ≤ 65521) ∧ (j = 2 → 0 ≤ v.toInt ∧ v.toInt ≤ 64) ∧ (j = 3 → 0 ≤ v.toInt ∧ v.toInt ≤ 16) ∧ (∀ r, r < 4 → j = 72 + r → 0 ≤ v.toInt ∧ v.toInt ≤ 48) ∧ (∀ w, w < 4 → j = 76 + 4 * w → 0 ≤ v.toInt ∧ v.toInt ≤ 48) ∧ (∀ i, i < 16 → j = 92 + 10 * i → 0 ≤ v.toInt ∧ v.toInt ≤ 3) ∧ (∀ i, i < 16 → j = 93 + 10 * i → 0 ≤ v.toInt ∧ v.toInt ≤ 48) ∧ (∀ q, q < 192 → j = 252 + q → 0 ≤ v.toInt ∧ v.toInt ≤ 8)
theorem rC_up {f : Nat → Int32} {j : Nat} {v : Int32} (h : rC f) (g : rc_j j v) : rC (fun i => if i = j then v else f i) := by
  obtain ⟨h1, h2, h3, h4, h5, h6, h7, h8, h9⟩ := h
  obtain ⟨g1, g2, g3, g4, g5, g6, g7, g8, g9⟩ := g
  refine ⟨?_, ?_, ?_, ?_, fun r hr => ?_, fun r hr => ?_, fun r hr => ?_, fun r hr => ?_, fun r hr => ?_⟩ <;> dsimp only <;> split
  · rename_i e; exact g1 e.symm
  · exact h1
  · rename_i e; exact g2 e.symm
  · exact h2
  · rename_i e; exact g3 e.symm
  · exact h3
  · rename_i e; exact g4 e.symm
  · exact h4
  · rename_i e; exact g5 r hr e.symm
  · exact h5 r hr
  · rename_i e; exact g6 r hr e.symm
  · exact h6 r hr
  · rename_i e; exact g7 r hr e.symm
  · exact h7 r hr
  · rename_i e; exact g8 r hr e.symm
  · exact h8 r hr
  · rename_i e; exact g9 r hr e.symm
  · exact h9 r hr
theorem mE40 {σ : ms_T} {j : Nat} {v : Int32} : ms_E (ms_sE σ 40 j v) 40 = fun i => if i = j then v else ms_E σ 40 i := by
  funext i
  rw [mE_sE]
  by_cases e : i = j
  · rw [if_pos ⟨rfl, e⟩, if_pos e]
  · rw [if_neg (fun q => e q.2), if_neg e]
theorem rC_sE {σ : ms_T} {j : Nat} {v : Int32} (h : rC (ms_E σ 40)) (g : rc_j j v) : rC (ms_E (ms_sE σ 40 j v) 40) := by
  rw [mE40]; exact rC_up h g
theorem RI_sE {σ : ms_T} {j : Nat} {v : Int32} (h : RI σ) (g : rc_j j v) : RI (ms_sE σ 40 j v) := ⟨h.1, rC_sE h.2 g⟩
/-- cells of which nothing is asked -/
theorem rc_f {j : Nat} {v : Int32} (h : (j = 4 ∨ (8 ≤ j ∧ j < 72) ∨ 444 ≤ j)) : rc_j j v :=
  ⟨fun _ => by omega, fun _ => by omega, fun _ => by omega, fun _ => by omega, fun r _ _ => by omega, fun r _ _ => by omega, fun r _ _ => by omega, fun r _ _ => by omega, fun r _ _ => by omega⟩
theorem s_fetches_L (n : Nat) (hn : 70000 ≤ n) : ∀ (k w : Nat) (σ0 σ : ms_T) (r v : Int32), rC (ms_E σ0 40) → fr [] [44] σ0 σ → (ms_I σ0 657).toInt = (w : Int) → wg 48 σ0 w → w ≤ 128 → 0 ≤ r.toInt → r.toInt ≤ 3 → 0 ≤ v.toInt → v.toInt ≤ (w : Int) → (w : Int) - v.toInt < (k : Int) → ws (f_X12_fetches_L2 n k σ r v) (fun τ => fr [] [44] σ0 τ) := by
  intro k
  induction k with
  | zero => intro w σ0 σ r v hC hf hw hg hw2 h0 h1 h2 h3 h4; omega
  | succ k ih =>
    intro w σ0 σ r v hC hf hw hg hw2 h0 h1 h2 h3 h4
    rw [f_X12_fetches_L2.eq_2]
    have eI : ms_I σ 657 = ms_I σ0 657 := hf.1 657 (by simp)
    have e42 := hf.2 42 (by simp)
    have e43 := hf.2 43 (by simp)
    have hv := ic_clamp h2
    have e1 : (v + 1).toInt = v.toInt + 1 := by rw [ii_add (by rw [lt1]; omega) (by rw [lt1]; omega), lt1]
    rw [eI]
    refine ws_le (fun c => ws_s hf) (fun c => ?_)
    have hq := hg v.toNatClampNeg (by omega)
    refine ws_g h2 (by omega) (ws_g h2 (by omega) ?_)
    rw [e42, e43]
    refine ws_b (s_tree0 n hn (rC_fr hC hf (by decide)) r _ _ h0 h1 hq.1 hq.2.1 hq.2.2) (fun t _ => ws_g h2 (by omega) (ws_l (ws_l ?_)))
    exact ih w σ0 _ r (v + 1) hC (fr_tr hf (fr_sE (by decide))) hw hg hw2 h0 h1 (by omega) (by omega) (by omega)
theorem s_fetches (n : Nat) (hn : 70000 ≤ n) {B : Int} {σ0 σ : ms_T} {w : Nat} (hC : rC (ms_E σ 40)) (hw : wy B σ0 σ w) (hB : B ≤ 48) (hw2 : w ≤ 128) (r : Int32) (h0 : 0 ≤ r.toInt) (h1 : r.toInt ≤ 3) : ws (f_X12_fetches n σ r) (fun τ => fr [] [44] σ τ) := by
  unfold f_X12_fetches
  exact s_fetches_L n hn n w σ σ r 0 hC fr_rf hw.2.1 (fun q hq => by have := hw.2.2 q hq; omega) hw2 h0 h1 (by decide) (by rw [lt0]; omega) (by rw [lt0]; omega)
theorem s_pads_L (n : Nat) : ∀ (k w : Nat) (σ0 σ : ms_T) (v : Int32), RI σ → ms_I σ 667 = ms_I σ0 667 → (ms_I σ 657).toInt = (w : Int) → w ≤ 64 → 0 ≤ v.toInt → v.toInt ≤ (w : Int) → (w : Int) - v.toInt < (k : Int) → ws (f_X12_pads_L7 n k σ v) (PK σ0) := by
  intro k
  induction k with
  | zero => intro w σ0 σ v hR hx hw hw2 h0 h1 h2; omega
  | succ k ih =>
    intro w σ0 σ v hR hx hw hw2 h0 h1 h2
    rw [f_X12_pads_L7.eq_2]
    have hv := ic_clamp h0
    have l8 : (8 : Int32).toInt = 8 := by decide
    have e1 : (v + 1).toInt = v.toInt + 1 := by rw [ii_add (by rw [lt1]; omega) (by rw [lt1]; omega), lt1]
    have e8 : ((8 : Int32) + v).toInt = 8 + v.toInt := by rw [ii_add (by omega) (by omega), l8]
    refine ws_le (fun c => ?_) (fun c => ?_)
    · refine ws_g (by decide) (by decide) (ws_l (ws_s ⟨RI_sE hR ?_, hx⟩))
      rw [c2]
      exact ⟨fun _ => by omega, fun _ => by omega, fun _ => by omega, fun _ => by omega, fun r _ _ => by omega, fun r _ _ => by omega, fun r _ _ => by omega, fun r _ _ => by omega, fun r _ _ => by omega⟩
    · refine ws_g h0 (by omega) (ws_g (by omega) (by omega) (ws_l (ws_l ?_)))
      exact ih w σ0 _ (v + 1) (RI_sE hR (rc_f (by have := cl_n (i := 8 + v) (k := 8 + v.toNatClampNeg) (by omega); omega))) hx hw hw2 (by omega) (by omega) (by omega)
theorem s_pads (n : Nat) (hn : 70000 ≤ n) {B : Int} {σ0 σ : ms_T} {w : Nat} (hR : RI σ) (hw : wy B σ0 σ w) (hB : B ≤ 48) (hw2 : w ≤ 64) (r : Int32) (h0 : 0 ≤ r.toInt) (h1 : r.toInt ≤ 3) : ws (f_X12_pads n σ r) (PK σ) := by
  unfold f_X12_pads
  refine ws_b (s_fetches n hn hR.2 hw hB (by omega) r h0 h1) (fun τ hτ => ?_)
  exact s_pads_L n n w σ τ 0 (RI_fr hR hτ (by decide)) (hτ.1 667 (by simp)) (by rw [hτ.1 657 (by simp)]; exact hw.2.1) hw2 (by decide) (by rw [lt0]; omega) (by rw [lt0]; omega)
theorem s_fromPad_L (n : Nat) : ∀ (k : Nat) (σ0 σ : ms_T) (v : Int32), fr [] [44] σ0 σ → rC (ms_E σ0 40) → 0 ≤ v.toInt → v.toInt ≤ (ms_E σ0 40 2).toInt → (ms_E σ0 40 2).toInt - v.toInt < (k : Int) → ws (f_X12_fromPad_L2 n k σ v) (fun q => fr [] [44] σ0 q.2 ∧ q.1 = ms_E σ0 40 2) := by
  intro k
  induction k with
  | zero => intro σ0 σ v hf hC h0 h1 h2; omega
  | succ k ih =>
    intro σ0 σ v hf hC h0 h1 h2
    rw [f_X12_fromPad_L2.eq_2, c2]
    have e2 : ms_E σ 40 2 = ms_E σ0 40 2 := hf.2 40 (by simp) 2
    have h64 := hC.2.2.1
    have l8 : (8 : Int32).toInt = 8 := by decide
    have e1 : (v + 1).toInt = v.toInt + 1 := by rw [ii_add (by rw [lt1]; omega) (by rw [lt1]; omega), lt1]
    have e8 : ((8 : Int32) + v).toInt = 8 + v.toInt := by rw [ii_add (by omega) (by omega), l8]
    rw [e2]
    refine ws_g (by decide) (by decide) (ws_le (fun c => ws_g (by decide) (by decide) (ws_s ⟨hf, rfl⟩)) (fun c => ?_))
    refine ws_g (by omega) (by omega) (ws_g h0 (by omega) (ws_l (ws_l ?_)))
    exact ih σ0 _ (v + 1) (fr_tr hf (fr_sE (by decide))) hC (by omega) (by omega) (by omega)
theorem s_fromPad (n : Nat) (hn : 70000 ≤ n) (σ : ms_T) (hC : rC (ms_E σ 40)) : ws (f_X12_fromPad n σ) (fun q => fr [] [44] σ q.2 ∧ q.1 = ms_E σ 40 2) := by
  unfold f_X12_fromPad
  have h := hC.2.2.1
  exact s_fromPad_L n n σ σ 0 fr_rf hC (by decide) (by rw [lt0]; omega) (by rw [lt0]; omega)
theorem s_foldsIn (n : Nat) (hn : 70000 ≤ n) : ∀ (k d w : Nat) (σ0 σ : ms_T) (t i m : Int32), k < d → rC (ms_E σ0 40) → fr [658] [] σ0 σ → (ms_I σ 658).toInt = (w : Int) → w + k ≤ 128 → 0 ≤ i.toInt → i.toInt < m.toInt → m.toInt ≤ p2 k → ws (f_X12_foldsIn n d σ t i m) (fun q => fr [658] [] σ0 q.2 ∧ ∃ w' : Nat, (ms_I q.2 658).toInt = (w' : Int) ∧ w' ≤ w + k) := by
  intro k
  induction k with
  | zero =>
    intro d w σ0 σ t i m hd hC hf hw hk h0 h1 h2
    have : p2 0 = 1 := by decide
    obtain ⟨d, rfl⟩ : ∃ d', d = d' + 1 := ⟨d - 1, by omega⟩
    rw [f_X12_foldsIn.eq_2]
    exact ws_e (fun c => ws_s ⟨hf, w, hw, by omega⟩) (fun c => by rw [lt1] at c; omega)
  | succ k ih =>
    intro d w σ0 σ t i m hd hC hf hw hk h0 h1 h2
    obtain ⟨d, rfl⟩ : ∃ d', d = d' + 1 := ⟨d - 1, by omega⟩
    rw [f_X12_foldsIn.eq_2]
    refine ws_e (fun c => ws_s ⟨hf, w, hw, by omega⟩) (fun c => ?_)
    have h2m := ne1_2 (a := m) (by omega) c
    refine ws_b (s_part0 n hn m h2m) (fun p hp => ?_)
    obtain ⟨j, hp⟩ := hp
    obtain ⟨q1, q2, q3, q4, q5⟩ := pt_k hp h2
    have bm := ib_hi m
    have bi := ib_hi i
    have e2 : (m - p).toInt = m.toInt - p.toInt := ii_sub (by omega) (by omega)
    have step : ∀ (τ : ms_T) (w' : Nat), (ms_I τ 658).toInt = (w' : Int) → w' < 128 → ms_I (ms_sI τ 658 (ms_I τ 658 + 1)) 658 = ms_I τ 658 + 1 ∧ (ms_I τ 658 + 1).toInt = (w' : Int) + 1 ∧ (ms_I τ 658 + 1 - 1).toInt = (w' : Int) := by
      intro τ w' h hl
      have e3 : (ms_I τ 658 + 1).toInt = (w' : Int) + 1 := by rw [ii_add (by rw [lt1]; omega) (by rw [lt1]; omega), lt1, h]
      refine ⟨by rw [mI_sI, if_pos rfl], e3, ?_⟩
      rw [ii_sub (by rw [lt1]; omega) (by rw [lt1]; omega), lt1, e3]
      omega
    refine ws_le (fun c => ?_) (fun c => ?_)
    · have e3 : (i - p).toInt = i.toInt - p.toInt := ii_sub (by omega) (by omega)
      refine ws_c (ih d w σ0 σ t (i - p) (m - p) (by omega) hC hf hw (by omega) (by omega) (by omega) (by omega)) (fun a τ hτ => ?_)
      obtain ⟨hf2, w', hw', hl⟩ := hτ
      obtain ⟨t1, t2, t3⟩ := step τ w' hw' (by omega)
      have hf3 : fr [658] [] σ0 (ms_sI τ 658 (ms_I τ 658 + 1)) := fr_tr hf2 (fr_sI (by decide))
      refine ws_l (ws_g (by rw [t1, t3]; omega) (by rw [t1, t3]; omega) (ws_b (s_both (rC_fr hC hf3 (by decide)) _ _) (fun _ _ => ws_s ⟨hf3, w' + 1, ?_, by omega⟩)))
      rw [t1, t2]; omega
    · refine ws_c (ih d w σ0 σ t i p (by omega) hC hf hw (by omega) h0 c q1) (fun a τ hτ => ?_)
      obtain ⟨hf2, w', hw', hl⟩ := hτ
      obtain ⟨t1, t2, t3⟩ := step τ w' hw' (by omega)
      have hf3 : fr [658] [] σ0 (ms_sI τ 658 (ms_I τ 658 + 1)) := fr_tr hf2 (fr_sI (by decide))
      refine ws_l (ws_g (by rw [t1, t3]; omega) (by rw [t1, t3]; omega) (ws_b (s_both (rC_fr hC hf3 (by decide)) _ _) (fun _ _ => ws_s ⟨hf3, w' + 1, ?_, by omega⟩)))
      rw [t1, t2]; omega
theorem s_folded (n : Nat) (hn : 70000 ≤ n) (σ : ms_T) (hC : rC (ms_E σ 40)) (t i m : Int32) (h0 : 0 ≤ i.toInt) (h1 : i.toInt < m.toInt) : ws (f_X12_folded n σ t i m) (fun q => fr [658] [] σ q.2) := by
  unfold f_X12_folded
  have b := ib_hi m
  exact ws_l (ws_c (s_foldsIn n hn 31 40 0 σ _ t i m (by omega) hC (fr_sI (by decide)) (by rw [mI_sI, if_pos rfl]; rfl) (by omega) h0 h1 (by rw [p2_31]; omega)) (fun a τ hτ => ws_s hτ.1))
theorem s_why (n : Nat) (σ : ms_T) (a b c : Int32) : ws (f_X12_why n σ a b c) (fun r => r = 0 ∨ r = 1 ∨ r = 2 ∨ r = 3) := by
  unfold f_X12_why
  refine ws_i (fun _ => ws_i (fun _ => ws_i (fun _ => ws_s ?_) (fun _ => ws_s ?_)) (fun _ => ws_s ?_)) (fun _ => ws_s ?_) <;> decide
theorem s_whyIn (n : Nat) (hn : 70000 ≤ n) (σ : ms_T) (hC : rC (ms_E σ 40)) (a t i m hd : Int32) (h0 : 0 ≤ i.toInt) (h1 : i.toInt < m.toInt) : ws (f_X12_whyIn n σ a t i m hd) (fun q => fr [657, 658] [42, 43] σ q.2) := by
  have hJ41 : ∀ (τ : ms_T) (x y z : Int32), fr [657, 658] [42, 43] σ τ → ws (f_X12_whyIn_J41 n τ x y z) (fun q => fr [657, 658] [42, 43] σ q.2) := by
    intro τ x y z h
    unfold f_X12_whyIn_J41
    exact ws_b (s_why n τ _ _ _) (fun _ _ => ws_s h)
  have hJ36 : ∀ (τ : ms_T) (x y : Int32), fr [657, 658] [42, 43] σ τ → ws (f_X12_whyIn_J36 n τ x y) (fun q => fr [657, 658] [42, 43] σ q.2) := by
    intro τ x y h
    unfold f_X12_whyIn_J36
    exact hJ41 τ _ _ _ h
  unfold f_X12_whyIn
  refine ws_b (s_inclusion n hn σ i m h0 h1) (fun τ hτ => ?_)
  obtain ⟨w, hw, hl⟩ := hτ
  have hf : fr [657, 658] [42, 43] σ τ := fr_sb hw.1 (by decide) (by decide)
  refine ws_l (ws_i (fun _ => ?_) (fun _ => hJ36 τ _ _ hf))
  refine ws_c (s_folded n hn τ (rC_fr hC hf (by decide)) t i m h0 h1) (fun b υ hυ => ?_)
  have hf2 : fr [657, 658] [42, 43] σ υ := fr_tr hf (fr_sb hυ (by decide) (by decide))
  exact ws_i (fun _ => hJ36 υ _ _ hf2) (fun _ => hJ41 υ _ _ _ hf2)
/-- what foldsGrowth changes -/
def fg (σ0 σ : ms_T) (w : Nat) : Prop := fr [658, 659, 660] [] σ0 σ ∧ (ms_I σ 658).toInt = (w : Int)
theorem s_fgJ157 (n : Nat) (rc : ms_T → Int32 → Int32 → Int32 → Int32 → Option ms_T) {σ0 σ : ms_T} {w : Nat} (h : fg σ0 σ w) (hw : w < 128) : ws (f_X12_foldsGrowth_J157 n rc σ) (fun τ => fg σ0 τ (w + 1)) := by
  unfold f_X12_foldsGrowth_J157
  refine ws_l (ws_s ⟨fr_tr h.1 (fr_sI (by decide)), ?_⟩)
  have := h.2
  rw [mI_sI, if_pos rfl, ii_add (by rw [lt1]; omega) (by rw [lt1]; omega), lt1, this]
  omega
theorem s_fgJ24 (n : Nat) (rc : ms_T → Int32 → Int32 → Int32 → Int32 → Option ms_T) {σ0 σ : ms_T} {w : Nat} (h : fg σ0 σ w) (hw : w < 128) (z x : Int32) : ws (f_X12_foldsGrowth_J24 n rc σ z x) (fun τ => ∃ w', fg σ0 τ w' ∧ w' ≤ w + 1) := by
  unfold f_X12_foldsGrowth_J24
  have h2 := h.2
  have hf : fr [658, 659, 660] [] σ0 (ms_sI (ms_sI σ 659 x) 660 (ms_I (ms_sI σ 659 x) 659)) := fr_tr h.1 (fr_tr (fr_sI (by decide)) (fr_sI (by decide)))
  have e : ms_I (ms_sI (ms_sI σ 659 x) 660 (ms_I (ms_sI σ 659 x) 659)) 658 = ms_I σ 658 := by rw [mI_sI, if_neg (by decide), mI_sI, if_neg (by decide)]
  refine ws_l (ws_l (ws_i (fun _ => ?_) (fun _ => ?_)))
  · unfold f_X12_foldsGrowth_J50
    refine ws_l (ws_s ⟨w + 1, ⟨fr_tr hf (fr_sI (by decide)), ?_⟩, by omega⟩)
    rw [mI_sI, if_pos rfl, e, ii_add (by rw [lt1]; omega) (by rw [lt1]; omega), lt1, h2]
    omega
  · unfold f_X12_foldsGrowth_J50
    refine ws_l (ws_s ⟨w, ⟨fr_tr hf (fr_sI (by decide)), ?_⟩, by omega⟩)
    rw [mI_sI, if_pos rfl, e, ii_add (by rw [lt0]; omega) (by rw [lt0]; omega), lt0, h2]
    omega
theorem s_foldsGrowth (n : Nat) (hn : 70000 ≤ n) : ∀ (k d w : Nat) (σ0 σ : ms_T) (t i m z : Int32), k < d → rC (ms_E σ0 40) → fg σ0 σ w → w + k + 1 ≤ 128 → 1 ≤ i.toInt → i.toInt ≤ m.toInt → m.toInt ≤ p2 k → ws (f_X12_foldsGrowth n d σ t i m z) (fun τ => ∃ w', fg σ0 τ w' ∧ w' ≤ w + k + 1) := by
  intro k
  induction k with
  | zero =>
    intro d w σ0 σ t i m z hd hC hf hk h0 h1 h2
    have : p2 0 = 1 := by decide
    have hw := hf.2
    obtain ⟨d, rfl⟩ : ∃ d', d = d' + 1 := ⟨d - 1, by omega⟩
    rw [f_X12_foldsGrowth.eq_2]
    refine ws_e (fun c => ws_i (fun _ => ws_g (by omega) (by omega) ?_) (fun _ => ?_)) (fun c => by omega)
    · exact ws_m (s_fgJ24 n _ hf (by omega) _ _) (fun τ hτ => by obtain ⟨w', a, b⟩ := hτ; exact ⟨w', a, by omega⟩)
    · exact ws_m (s_fgJ24 n _ hf (by omega) _ _) (fun τ hτ => by obtain ⟨w', a, b⟩ := hτ; exact ⟨w', a, by omega⟩)
  | succ k ih =>
    intro d w σ0 σ t i m z hd hC hf hk h0 h1 h2
    have hw := hf.2
    obtain ⟨d, rfl⟩ : ∃ d', d = d' + 1 := ⟨d - 1, by omega⟩
    rw [f_X12_foldsGrowth.eq_2]
    refine ws_e (fun c => ws_i (fun _ => ws_g (by omega) (by omega) ?_) (fun _ => ?_)) (fun c => ?_)
    · exact ws_m (s_fgJ24 n _ hf (by omega) _ _) (fun τ hτ => by obtain ⟨w', a, b⟩ := hτ; exact ⟨w', a, by omega⟩)
    · exact ws_m (s_fgJ24 n _ hf (by omega) _ _) (fun τ hτ => by obtain ⟨w', a, b⟩ := hτ; exact ⟨w', a, by omega⟩)
    refine ws_b (s_part0 n hn m (by omega)) (fun p hp => ?_)
    obtain ⟨j, hp⟩ := hp
    obtain ⟨q1, q2, q3, q4, q5⟩ := pt_k hp h2
    have bm := ib_hi m
    have bi := ib_hi i
    have e2 : (m - p).toInt = m.toInt - p.toInt := ii_sub (by omega) (by omega)
    refine ws_lt (fun c => ?_) (fun c => ?_)
    · have e3 : (i - p).toInt = i.toInt - p.toInt := ii_sub (by omega) (by omega)
      refine ws_b (ih d w σ0 σ t (i - p) (m - p) 0 (by omega) hC hf (by omega) (by omega) (by omega) (by omega)) (fun τ hτ => ?_)
      obtain ⟨w', hf2, hl⟩ := hτ
      have hw2 := hf2.2
      refine ws_g (by omega) (by omega) (ws_b (s_both (rC_fr hC hf2.1 (by decide)) _ _) (fun a _ => ws_l ?_))
      have hf3 : fg σ0 (ms_sI τ 659 a) w' := ⟨fr_tr hf2.1 (fr_sI (by decide)), by rw [mI_sI, if_neg (by decide)]; exact hw2⟩
      have hw3 := hf3.2
      refine ws_g (by omega) (by omega) (ws_b (s_both (rC_fr hC hf3.1 (by decide)) _ _) (fun b _ => ws_l ?_))
      have hf4 : fg σ0 (ms_sI (ms_sI τ 659 a) 660 b) w' := ⟨fr_tr hf3.1 (fr_sI (by decide)), by rw [mI_sI, if_neg (by decide)]; exact hw3⟩
      exact ws_m (s_fgJ157 n _ hf4 (by omega)) (fun υ hυ => ⟨w' + 1, hυ, by omega⟩)
    · refine ws_b (ih d w σ0 σ t i p z (by omega) hC hf (by omega) h0 (by omega) q1) (fun τ hτ => ?_)
      obtain ⟨w', hf2, hl⟩ := hτ
      have hw2 := hf2.2
      refine ws_g (by omega) (by omega) (ws_b (s_both (rC_fr hC hf2.1 (by decide)) _ _) (fun a _ => ws_l ?_))
      have hf3 : fg σ0 (ms_sI τ 660 a) w' := ⟨fr_tr hf2.1 (fr_sI (by decide)), by rw [mI_sI, if_neg (by decide)]; exact hw2⟩
      exact ws_m (s_fgJ157 n _ hf3 (by omega)) (fun υ hυ => ⟨w' + 1, hυ, by omega⟩)
theorem s_whyGrown (n : Nat) (hn : 70000 ≤ n) (σ : ms_T) (hC : rC (ms_E σ 40)) (a i o m w : Int32) (h0 : 0 ≤ i.toInt) (h1 : i.toInt ≤ m.toInt) : ws (f_X12_whyGrown n σ a i o m w) (fun q => fr [657, 658, 659, 660] [42, 43] σ q.2) := by
  have b := ib_hi m
  have hJ : ∀ τ : ms_T, fr [657, 658, 659, 660] [42, 43] σ τ → ws (f_X12_whyGrown_J39 n τ i o m w) (fun q => fr [657, 658, 659, 660] [42, 43] σ q.2) := by
    intro τ h
    unfold f_X12_whyGrown_J39
    refine ws_e (fun _ => ws_i (fun _ => ws_s h) (fun _ => ws_s h)) (fun c => ws_e (fun _ => ws_s h) (fun c0 => ws_l ?_))
    rw [lt0] at c0
    refine ws_b (s_foldsGrowth n hn 31 40 0 τ _ o i m 1 (by omega) (rC_fr hC h (by decide)) ⟨fr_sI (by decide), by rw [mI_sI, if_pos rfl]; rfl⟩ (by omega) (by omega) h1 (by rw [p2_31]; omega)) (fun υ hυ => ?_)
    obtain ⟨w', hf, -⟩ := hυ
    have h2 : fr [657, 658, 659, 660] [42, 43] σ υ := fr_tr h (fr_sb hf.1 (by decide) (by decide))
    exact ws_i (fun _ => ws_i (fun _ => ws_s h2) (fun _ => ws_s h2)) (fun _ => ws_s h2)
  unfold f_X12_whyGrown
  refine ws_b (s_growth0 n hn σ i m) (fun τ hτ => ?_)
  obtain ⟨w', hw, -⟩ := hτ
  have h : fr [657, 658, 659, 660] [42, 43] σ τ := fr_sb hw.1 (by decide) (by decide)
  exact ws_i (fun _ => ws_i (fun _ => ws_i (fun _ => hJ τ h) (fun _ => ws_s h)) (fun _ => hJ τ h)) (fun _ => ws_i (fun _ => ws_s h) (fun _ => ws_s h))
theorem s_whyByRecord (n : Nat) (hn : 70000 ≤ n) (σ : ms_T) (hC : rC (ms_E σ 40)) (r i o m w : Int32) (hr0 : 0 ≤ r.toInt) (hr1 : r.toInt ≤ 3) (h0 : 0 ≤ i.toInt) (h1 : i.toInt ≤ m.toInt) (h2 : m.toInt ≤ 48) : ws (f_X12_whyByRecord n σ r i o m w) (fun q => fr [657, 658, 659, 660] [42, 43, 44] σ q.2) := by
  unfold f_X12_whyByRecord
  refine ws_b (s_growth0 n hn σ i m) (fun τ hτ => ?_)
  obtain ⟨w', hw, hl⟩ := hτ
  have hC2 := rC_fr hC hw.1 (by decide)
  refine ws_b (s_fetches n hn hC2 hw h2 (by omega) r hr0 hr1) (fun υ hυ => ?_)
  refine ws_c (s_whyGrown n hn υ (rC_fr hC2 hυ (by decide)) _ i o m w h0 h1) (fun a φ hφ => ws_s ?_)
  exact fr_tr (fr_sb hw.1 (by decide) (by decide)) (fr_tr (fr_sb hυ (by decide) (by decide)) (fr_sb hφ (by decide) (by decide)))
end JN7_12
section JN7_13
/-! ===== public functions of the reference: tools, the simple ones ===== -/
theorem iw_add (x y : Int32) : (x + y).toInt = (x.toInt + y.toInt + 2147483648) % 4294967296 - 2147483648 := by
  rw [Int32.toInt_add]; simp only [Int.bmod]; split <;> omega
theorem iw_sub (x y : Int32) : (x - y).toInt = (x.toInt - y.toInt + 2147483648) % 4294967296 - 2147483648 := by
  rw [Int32.toInt_sub]; simp only [Int.bmod]; split <;> omega
theorem iw_mul (x y : Int32) : (x * y).toInt = (x.toInt * y.toInt + 2147483648) % 4294967296 - 2147483648 := by
  rw [Int32.toInt_mul]; simp only [Int.bmod]; split <;> omega
theorem t_m1 : (-1 : Int32).toInt = -1 := by decide
theorem t_2 : (2 : Int32).toInt = 2 := by decide
theorem t_3 : (3 : Int32).toInt = 3 := by decide
theorem t_4 : (4 : Int32).toInt = 4 := by decide
theorem t_5 : (5 : Int32).toInt = 5 := by decide
theorem t_6 : (6 : Int32).toInt = 6 := by decide
theorem t_8 : (8 : Int32).toInt = 8 := by decide
theorem t_9 : (9 : Int32).toInt = 9 := by decide
theorem t_10 : (10 : Int32).toInt = 10 := by decide
theorem t_16 : (16 : Int32).toInt = 16 := by decide
theorem t_20 : (20 : Int32).toInt = 20 := by decide
theorem t_24 : (24 : Int32).toInt = 24 := by decide
theorem t_26 : (26 : Int32).toInt = 26 := by decide
theorem t_30 : (30 : Int32).toInt = 30 := by decide
theorem t_31 : (31 : Int32).toInt = 31 := by decide
theorem t_48 : (48 : Int32).toInt = 48 := by decide
theorem t_64 : (64 : Int32).toInt = 64 := by decide
theorem t_72 : (72 : Int32).toInt = 72 := by decide
theorem t_76 : (76 : Int32).toInt = 76 := by decide
theorem t_92 : (92 : Int32).toInt = 92 := by decide
theorem t_101 : (101 : Int32).toInt = 101 := by decide
theorem t_252 : (252 : Int32).toInt = 252 := by decide
theorem t_444 : (444 : Int32).toInt = 444 := by decide
theorem t_512 : (512 : Int32).toInt = 512 := by decide
theorem t_900 : (900 : Int32).toInt = 900 := by decide
theorem t_1980 : (1980 : Int32).toInt = 1980 := by decide
theorem t_65521 : (65521 : Int32).toInt = 65521 := by decide
theorem t_99999 : (99999 : Int32).toInt = 99999 := by decide
theorem t_mil : (1000000 : Int32).toInt = 1000000 := by decide
theorem lits : (0 : Int32).toInt = 0 ∧ (1 : Int32).toInt = 1 ∧ (2 : Int32).toInt = 2 ∧ (3 : Int32).toInt = 3 ∧ (4 : Int32).toInt = 4 ∧ (5 : Int32).toInt = 5 ∧ (6 : Int32).toInt = 6 ∧ (8 : Int32).toInt = 8 ∧ (9 : Int32).toInt = 9 ∧ (10 : Int32).toInt = 10 ∧ (16 : Int32).toInt = 16 ∧ (20 : Int32).toInt = 20 ∧ (26 : Int32).toInt = 26 ∧ (30 : Int32).toInt = 30 ∧ (31 : Int32).toInt = 31 ∧ (48 : Int32).toInt = 48 ∧ (64 : Int32).toInt = 64 ∧ (512 : Int32).toInt = 512 ∧ (900 : Int32).toInt = 900 ∧ (1980 : Int32).toInt = 1980 ∧ (-1 : Int32).toInt = -1 := by decide
section P4
variable {R : Type} {Q : R → Prop} {a b : Option R}
theorem ws_bo {x : Option Int32} {P : Prop} (h : ws x (fun r => bo r P)) (h0 : ¬ P → ws a Q) (h1 : P → ws b Q) : ws (ms_b x fun r => if r = 0 then a else b) Q :=
  ws_b h (fun _ hr => ws_i (fun e => h0 (bo_0 hr e)) (fun e => h1 (bo_1 hr (fun q => e (Int32.toInt_inj.mp q)))))
theorem ws_ee {i j : Int32} (h : i = j → i.toInt = j.toInt → ws a Q) (g : ¬ i.toInt = j.toInt → ws b Q) : ws (if i = j then a else b) Q := ws_e (fun e => h e (il_eq e)) g
end P4
theorem PKr {τ : ms_T} (h : RI τ) (r : Int32) : PK τ (r, τ) := ⟨h, rfl⟩
theorem ws_isP {n : Nat} {σ : ms_T} {w : Int32} {k : ms_T → Option (Int32 × ms_T)} (hR : RI σ) (h1 : w = 0 → ∀ τ, RI τ → ms_E τ = ms_E σ → fr [652, 653] [] σ τ → ws (k τ) (PK τ)) : ws (ms_c (f_X12_is n σ w) fun r τ => if r = 0 then some ((-1 : Int32), τ) else k τ) (PK σ) :=
  ws_is (fun τ h => pk_is hR h _) (fun e τ h => by
    obtain ⟨a, b, c⟩ := is_R hR h
    exact ws_m (h1 e τ a c h) (fun res hres => pk_tr b hres))
theorem ws_is0 {n : Nat} {σ : ms_T} {w : Int32} {k : ms_T → Option (Int32 × ms_T)} (hR : RI σ) (h1 : ∀ τ, RI τ → ms_E τ = ms_E σ → fr [652, 653] [] σ τ → ws (k τ) (PK τ)) : ws (ms_c (f_X12_is n σ w) fun _ τ => k τ) (PK σ) :=
  ws_c (s_is n σ w) (fun r τ h => by
    obtain ⟨a, b, c⟩ := is_R hR h.1
    exact ws_m (h1 τ a c h.1) (fun res hres => pk_tr b hres))
theorem ws_rf {n : Nat} {σ : ms_T} {w : Int32} (hR : RI σ) : ws (ms_c (f_X12_refuse n σ w) fun r τ => some (r, τ)) (PK σ) :=
  ws_c (s_refuse n σ w) (fun _ _ h => ws_s (pk hR h.1 (by decide) _))
theorem s_trust {n : Nat} {σ : ms_T} (hC : rC (ms_E σ 40)) (a1 a2 : Int32) (h0 : 0 ≤ a1.toInt) (h1 : a1.toInt ≤ 3) (h2 : 0 ≤ a2.toInt) (h3 : a2.toInt ≤ 3) : ws (f_X12_trust n σ a1 a2) (fun r => a2 = 0 → 0 ≤ r.toInt ∧ r.toInt ≤ 48) := by
  unfold f_X12_trust
  refine ws_g (by (try simp only [iw_add, iw_sub, iw_mul, t_m1, lt0, lt1, t_2, t_3, t_4, t_5, t_6, t_8, t_9, t_10, t_16, t_20, t_24, t_26, t_30, t_31, t_48, t_64, t_72, t_76, t_92, t_101, t_252, t_444, t_512, t_900, t_1980, t_65521, t_99999, t_mil]) <;> omega) (by (try simp only [iw_add, iw_sub, iw_mul, t_m1, lt0, lt1, t_2, t_3, t_4, t_5, t_6, t_8, t_9, t_10, t_16, t_20, t_24, t_26, t_30, t_31, t_48, t_64, t_72, t_76, t_92, t_101, t_252, t_444, t_512, t_900, t_1980, t_65521, t_99999, t_mil]) <;> omega) (ws_s (fun h => ?_))
  subst h
  rw [cl_n (i := (76 : Int32) + 4 * a1 + 0) (k := 76 + 4 * a1.toInt.toNat) (by (try simp only [iw_add, iw_sub, iw_mul, t_m1, lt0, lt1, t_2, t_3, t_4, t_5, t_6, t_8, t_9, t_10, t_16, t_20, t_24, t_26, t_30, t_31, t_48, t_64, t_72, t_76, t_92, t_101, t_252, t_444, t_512, t_900, t_1980, t_65521, t_99999, t_mil]) <;> omega)]
  exact hC.2.2.2.2.2.1 a1.toInt.toNat (by omega)
theorem s_froze {n : Nat} {σ : ms_T} (hC : rC (ms_E σ 40)) (a1 a2 : Int32) (h0 : 0 ≤ a1.toInt) (h1 : a1.toInt ≤ 15) (h2 : 0 ≤ a2.toInt) (h3 : a2.toInt ≤ 128) : ws (f_X12_froze n σ a1 a2) (fun r => (a2 = 0 → 0 ≤ r.toInt ∧ r.toInt ≤ 3) ∧ (a2 = 1 → 0 ≤ r.toInt ∧ r.toInt ≤ 48)) := by
  unfold f_X12_froze
  have e1 : ((92 : Int32) + 10 * a1).toInt = 92 + 10 * a1.toInt := by (try simp only [iw_add, iw_sub, iw_mul, t_m1, lt0, lt1, t_2, t_3, t_4, t_5, t_6, t_8, t_9, t_10, t_16, t_20, t_24, t_26, t_30, t_31, t_48, t_64, t_72, t_76, t_92, t_101, t_252, t_444, t_512, t_900, t_1980, t_65521, t_99999, t_mil]) <;> omega
  have e2 : ((92 : Int32) + 10 * a1 + a2).toInt = 92 + 10 * a1.toInt + a2.toInt := by rw [iw_add, e1]; omega
  refine ws_g (by omega) (by omega) (ws_s ⟨fun h => ?_, fun h => ?_⟩)
  · subst h
    rw [cl_n (i := (92 : Int32) + 10 * a1 + 0) (k := 92 + 10 * a1.toInt.toNat) (by (try simp only [iw_add, iw_sub, iw_mul, t_m1, lt0, lt1, t_2, t_3, t_4, t_5, t_6, t_8, t_9, t_10, t_16, t_20, t_24, t_26, t_30, t_31, t_48, t_64, t_72, t_76, t_92, t_101, t_252, t_444, t_512, t_900, t_1980, t_65521, t_99999, t_mil]) <;> omega)]
    exact hC.2.2.2.2.2.2.1 a1.toInt.toNat (by omega)
  · subst h
    rw [cl_n (i := (92 : Int32) + 10 * a1 + 1) (k := 93 + 10 * a1.toInt.toNat) (by (try simp only [iw_add, iw_sub, iw_mul, t_m1, lt0, lt1, t_2, t_3, t_4, t_5, t_6, t_8, t_9, t_10, t_16, t_20, t_24, t_26, t_30, t_31, t_48, t_64, t_72, t_76, t_92, t_101, t_252, t_444, t_512, t_900, t_1980, t_65521, t_99999, t_mil]) <;> omega)]
    exact hC.2.2.2.2.2.2.2.1 a1.toInt.toNat (by omega)
theorem s_isSound (n : Nat) (hn : 70000 ≤ n) {σ : ms_T} (hC : rC (ms_E σ 40)) (a1 : Int32) (h0 : 0 ≤ a1.toInt) (h1 : a1.toInt ≤ 15) : ws (f_X12_isSound n σ a1) (fun _ => True) := by
  unfold f_X12_isSound
  refine ws_b (s_froze hC a1 0 h0 h1 (by decide) (by decide)) (fun r hr => ws_b (s_froze hC a1 1 h0 h1 (by decide) (by decide)) (fun s hs => ?_))
  have hr := hr.1 rfl
  have hs := hs.2 rfl
  exact ws_b (s_headOf n hn hC r s hr.1 hr.2 hs.1 hs.2) (fun _ _ => ws_b (s_froze hC a1 2 h0 h1 (by decide) (by decide)) (fun _ _ => ws_i (fun _ => ws_s trivial) (fun _ => ws_s trivial)))
theorem s_isWatcher (n : Nat) (a : Int32) : ws (f_X12_isWatcher n a) (fun r => bo r (0 ≤ a.toInt ∧ a.toInt ≤ 3)) := by
  unfold f_X12_isWatcher
  exact ws_b (s_isIn n a 0 3) (fun r hr => ws_z (bo_z hr) (ws_s hr))
theorem s_isThing (n : Nat) (σ : ms_T) (a b : Int32) : ws (f_X12_isThing n σ a b) (fun r => bo r (0 ≤ a.toInt ∧ a.toInt < b.toInt)) := by
  unfold f_X12_isThing
  have L := lits
  exact ws_lt (fun _ => ws_s (Or.inr ⟨rfl, by omega⟩)) (fun _ => ws_le (fun _ => ws_s (Or.inr ⟨rfl, by omega⟩)) (fun _ => ws_s (Or.inl ⟨rfl, by omega⟩)))
theorem s_noSize {n : Nat} {σ : ms_T} (hC : rC (ms_E σ 40)) (a1 a2 : Int32) : ws (f_X12_noSize n σ a1 a2) (fun r => r = 0 → 0 ≤ a1.toInt ∧ a1.toInt ≤ 3 ∧ 0 ≤ a2.toInt ∧ a2.toInt ≤ 48) := by
  unfold f_X12_noSize
  have L := lits
  have h4 := hC.1
  refine ws_le (fun _ => ws_bo (s_isRecord hC _) (fun _ => ws_s (fun h => absurd h (by decide))) (fun _ => ?_)) (fun _ => ws_s (fun h => absurd h (by decide)))
  refine ws_b (s_sizeOf hC a1 (by omega) (by omega)) (fun s hs => ws_le (fun _ => ws_s (fun _ => by omega)) (fun _ => ws_s (fun h => absurd h (by decide))))
theorem s_noEntry {n : Nat} {σ : ms_T} (hC : rC (ms_E σ 40)) (a1 a2 a3 : Int32) : ws (f_X12_noEntry n σ a1 a2 a3) (fun r => r = 0 → 0 ≤ a1.toInt ∧ a1.toInt ≤ 3 ∧ 0 ≤ a2.toInt ∧ a2.toInt < a3.toInt ∧ a3.toInt ≤ 48) := by
  unfold f_X12_noEntry f_X12_noEntry_J8 f_X12_noEntry_J38
  have L := lits
  have h4 := hC.1
  refine ws_lt (fun _ => ws_s (fun h => absurd h (by decide))) (fun _ => ws_le (fun _ => ws_bo (s_isRecord hC _) (fun _ => ws_s (fun h => absurd h (by decide))) (fun _ => ?_)) (fun _ => ws_s (fun h => absurd h (by decide))))
  refine ws_b (s_sizeOf hC a1 (by omega) (by omega)) (fun s hs => ws_lt (fun _ => ws_s (fun h => absurd h (by decide))) (fun _ => ws_lt (fun _ => ws_s (fun _ => by omega)) (fun _ => ws_s (fun h => absurd h (by decide)))))
theorem s_isHead (n : Nat) (hn : 70000 ≤ n) {σ : ms_T} (hC : rC (ms_E σ 40)) (a1 a2 a3 : Int32) (h0 : 0 ≤ a1.toInt) (h1 : a1.toInt ≤ 3) (h2 : 0 ≤ a2.toInt) : ws (f_X12_isHead n σ a1 a2 a3) (fun _ => True) := by
  unfold f_X12_isHead
  exact ws_b (s_sizeOf hC a1 h0 h1) (fun s hs => ws_lt (fun _ => ws_s trivial) (fun _ => ws_b (s_headOf n hn hC a1 a2 h0 h1 h2 (by omega)) (fun _ _ => ws_i (fun _ => ws_s trivial) (fun _ => ws_s trivial))))
theorem s_isAgreed_L (n : Nat) (hn : 70000 ≤ n) {σ : ms_T} (hC : rC (ms_E σ 40)) (a1 a2 : Int32) (h0 : 0 ≤ a1.toInt) (h1 : a1.toInt ≤ 3) (h2 : 0 ≤ a2.toInt) (h3 : a2.toInt ≤ 3) : ∀ (k : Nat) (v : Int32), 0 ≤ v.toInt → v.toInt ≤ 4 → 5 - v.toInt ≤ (k : Int) → ws (f_X12_isAgreed_L2 n σ k a1 a2 v) (fun _ => True) := by
  intro k
  induction k with
  | zero => intro v g0 g1 g2; omega
  | succ k ih =>
    intro v g0 g1 g2
    rw [f_X12_isAgreed_L2.eq_2]
    have h4 := hC.1
    have hJ : v.toInt < 4 → ws (f_X12_isAgreed_J54 n σ (f_X12_isAgreed_L2 n σ k) a1 a2 v) (fun _ => True) := by
      intro hv
      unfold f_X12_isAgreed_J54
      exact ws_l (ih (v + 1) (by (try simp only [iw_add, iw_sub, iw_mul, t_m1, lt0, lt1, t_2, t_3, t_4, t_5, t_6, t_8, t_9, t_10, t_16, t_20, t_24, t_26, t_30, t_31, t_48, t_64, t_72, t_76, t_92, t_101, t_252, t_444, t_512, t_900, t_1980, t_65521, t_99999, t_mil]) <;> omega) (by (try simp only [iw_add, iw_sub, iw_mul, t_m1, lt0, lt1, t_2, t_3, t_4, t_5, t_6, t_8, t_9, t_10, t_16, t_20, t_24, t_26, t_30, t_31, t_48, t_64, t_72, t_76, t_92, t_101, t_252, t_444, t_512, t_900, t_1980, t_65521, t_99999, t_mil]) <;> omega) (by (try simp only [iw_add, iw_sub, iw_mul, t_m1, lt0, lt1, t_2, t_3, t_4, t_5, t_6, t_8, t_9, t_10, t_16, t_20, t_24, t_26, t_30, t_31, t_48, t_64, t_72, t_76, t_92, t_101, t_252, t_444, t_512, t_900, t_1980, t_65521, t_99999, t_mil]) <;> omega))
    refine ws_g (by decide) (by decide) ?_
    rw [c0]
    refine ws_le (fun _ => ws_s trivial) (fun _ => ?_)
    refine ws_b (s_trust hC a1 0 h0 h1 (by decide) (by decide)) (fun r hr => ws_b (s_trust hC a1 1 h0 h1 (by decide) (by decide)) (fun r1 _ => ?_))
    refine ws_b (s_isHead n hn hC v r r1 g0 (by omega) (hr rfl).1) (fun _ _ => ws_i (fun _ => hJ (by omega)) (fun _ => ?_))
    refine ws_b (s_trust hC a2 0 h2 h3 (by decide) (by decide)) (fun s hs => ws_b (s_trust hC a2 1 h2 h3 (by decide) (by decide)) (fun s1 _ => ?_))
    exact ws_b (s_isHead n hn hC v s s1 g0 (by omega) (hs rfl).1) (fun _ _ => ws_i (fun _ => hJ (by omega)) (fun _ => ws_s trivial))
theorem s_isAgreed (n : Nat) (hn : 70000 ≤ n) {σ : ms_T} (hC : rC (ms_E σ 40)) (a1 a2 : Int32) (h0 : 0 ≤ a1.toInt) (h1 : a1.toInt ≤ 3) (h2 : 0 ≤ a2.toInt) (h3 : a2.toInt ≤ 3) : ws (f_X12_isAgreed n σ a1 a2) (fun _ => True) := by
  unfold f_X12_isAgreed
  exact s_isAgreed_L n hn hC a1 a2 h0 h1 h2 h3 n 0 (by decide) (by decide) (by rw [lt0]; omega)
theorem s_isTyped_L (n : Nat) {σ : ms_T} (hR : RI σ) (q : Int32) (h0 : 0 ≤ q.toInt) (h1 : q.toInt ≤ 191) : ∀ (k : Nat) (v : Int32), 0 ≤ v.toInt → v.toInt ≤ 8 → 9 - v.toInt ≤ (k : Int) → ws (f_X12_isTyped_L21 n σ k q v) (fun _ => True) := by
  intro k
  induction k with
  | zero => intro v g0 g1 g2; omega
  | succ k ih =>
    intro v g0 g1 g2
    rw [f_X12_isTyped_L21.eq_2]
    have h8 := hR.1.1
    refine ws_le (fun _ => ws_s trivial) (fun _ => ws_g (by (try simp only [iw_add, iw_sub, iw_mul, t_m1, lt0, lt1, t_2, t_3, t_4, t_5, t_6, t_8, t_9, t_10, t_16, t_20, t_24, t_26, t_30, t_31, t_48, t_64, t_72, t_76, t_92, t_101, t_252, t_444, t_512, t_900, t_1980, t_65521, t_99999, t_mil]) <;> omega) (by (try simp only [iw_add, iw_sub, iw_mul, t_m1, lt0, lt1, t_2, t_3, t_4, t_5, t_6, t_8, t_9, t_10, t_16, t_20, t_24, t_26, t_30, t_31, t_48, t_64, t_72, t_76, t_92, t_101, t_252, t_444, t_512, t_900, t_1980, t_65521, t_99999, t_mil]) <;> omega) (ws_g (by omega) (by omega) (ws_i (fun _ => ws_l ?_) (fun _ => ws_s trivial))))
    exact ih (v + 1) (by (try simp only [iw_add, iw_sub, iw_mul, t_m1, lt0, lt1, t_2, t_3, t_4, t_5, t_6, t_8, t_9, t_10, t_16, t_20, t_24, t_26, t_30, t_31, t_48, t_64, t_72, t_76, t_92, t_101, t_252, t_444, t_512, t_900, t_1980, t_65521, t_99999, t_mil]) <;> omega) (by (try simp only [iw_add, iw_sub, iw_mul, t_m1, lt0, lt1, t_2, t_3, t_4, t_5, t_6, t_8, t_9, t_10, t_16, t_20, t_24, t_26, t_30, t_31, t_48, t_64, t_72, t_76, t_92, t_101, t_252, t_444, t_512, t_900, t_1980, t_65521, t_99999, t_mil]) <;> omega) (by (try simp only [iw_add, iw_sub, iw_mul, t_m1, lt0, lt1, t_2, t_3, t_4, t_5, t_6, t_8, t_9, t_10, t_16, t_20, t_24, t_26, t_30, t_31, t_48, t_64, t_72, t_76, t_92, t_101, t_252, t_444, t_512, t_900, t_1980, t_65521, t_99999, t_mil]) <;> omega)
theorem s_isTyped (n : Nat) (hn : 70000 ≤ n) {σ : ms_T} (hR : RI σ) (q : Int32) (h0 : 0 ≤ q.toInt) (h1 : q.toInt ≤ 191) : ws (f_X12_isTyped n σ q) (fun _ => True) := by
  unfold f_X12_isTyped
  exact ws_g (by (try simp only [iw_add, iw_sub, iw_mul, t_m1, lt0, lt1, t_2, t_3, t_4, t_5, t_6, t_8, t_9, t_10, t_16, t_20, t_24, t_26, t_30, t_31, t_48, t_64, t_72, t_76, t_92, t_101, t_252, t_444, t_512, t_900, t_1980, t_65521, t_99999, t_mil]) <;> omega) (by (try simp only [iw_add, iw_sub, iw_mul, t_m1, lt0, lt1, t_2, t_3, t_4, t_5, t_6, t_8, t_9, t_10, t_16, t_20, t_24, t_26, t_30, t_31, t_48, t_64, t_72, t_76, t_92, t_101, t_252, t_444, t_512, t_900, t_1980, t_65521, t_99999, t_mil]) <;> omega) (ws_i (fun _ => s_isTyped_L n hR q h0 h1 n 0 (by decide) (by decide) (by rw [lt0]; omega)) (fun _ => ws_s trivial))
end JN7_13
section JN7_14
/-! ===== public functions of the reference, one by one ===== -/
theorem s_status (n : Nat) (hn : 70000 ≤ n) (σ : ms_T) (hR : RI σ) : ws (f_X12_status n σ) (PK σ) := by
  unfold f_X12_status
  exact ws_l (ws_s (pk hR (fr_sI (wI := [653]) (wE := []) (by decide)) (by decide) _))
theorem s_fault (n : Nat) (hn : 70000 ≤ n) (σ : ms_T) (hR : RI σ) (a1 : Int32) : ws (f_X12_fault n σ a1) (PK σ) := by
  unfold f_X12_fault
  have h := fun r => pk hR (fr_sI (wI := [653]) (wE := []) (φ := 653) (v := 0) (by decide)) (by decide) r
  exact ws_l (ws_i (fun _ => ws_s (h _)) (fun _ => ws_i (fun _ => ws_s (h _)) (fun _ => ws_s (h _))))
theorem s_heard (n : Nat) (hn : 70000 ≤ n) (σ : ms_T) (hR : RI σ) (a1 : Int32) : ws (f_X12_heard n σ a1) (PK σ) := by
  have L := lits
  have h20 := hR.1.2.2.1
  have hJ : ∀ w : Int32, (w = 0 → 0 ≤ a1.toInt ∧ a1.toInt < 20) → ws (f_X12_heard_J22 n σ a1 w) (PK σ) := by
    intro w hw
    unfold f_X12_heard_J22
    refine ws_isP hR (fun e τ hτ hE hf => ?_)
    have := hw e
    exact ws_g (by omega) (by omega) (ws_s (PKr hτ _))
  unfold f_X12_heard
  repeat' (first
    | with_reducible refine ws_bo (s_isRecord (by assumption) _) (fun _ => ?_) (fun _ => ?_)
    | with_reducible refine ws_bo (s_isMark (by assumption) _) (fun _ => ?_) (fun _ => ?_)
    | with_reducible refine ws_bo (s_isIn _ _ _ _) (fun _ => ?_) (fun _ => ?_)
    | with_reducible refine ws_bo (s_isWatcher _ _) (fun _ => ?_) (fun _ => ?_)
    | with_reducible refine ws_bo (s_isThing _ _ _ _) (fun _ => ?_) (fun _ => ?_)
    | with_reducible refine ws_b (s_noSize (by assumption) _ _) (fun _ _ => ?_)
    | with_reducible refine ws_b (s_noEntry (by assumption) _ _ _) (fun _ _ => ?_)
    | with_reducible refine ws_b (s_sizeOf (by assumption) _ (by omega) (by omega)) (fun _ _ => ?_)
    | with_reducible refine ws_lt (fun _ => ?_) (fun _ => ?_)
    | with_reducible refine ws_le (fun _ => ?_) (fun _ => ?_)
    | with_reducible refine ws_ee (fun _ _ => ?_) (fun _ => ?_)
    | with_reducible refine ws_g (by decide) (by decide) ?_
    | with_reducible refine ws_g (by omega) (by omega) ?_)
  all_goals first
    | exact hJ _ (fun h => absurd h (by decide))
    | exact hJ _ (fun _ => by omega)
    | (refine hJ _ (fun h => ?_); rename_i q; have := q h; omega)
theorem s_out (n : Nat) (hn : 70000 ≤ n) (σ : ms_T) (hR : RI σ) (a1 : Int32) : ws (f_X12_out n σ a1) (PK σ) := by
  have L := lits
  have h20 := hR.1.2.2.2
  have hJ : ∀ w : Int32, (w = 0 → 0 ≤ a1.toInt ∧ a1.toInt < 900) → ws (f_X12_out_J22 n σ a1 w) (PK σ) := by
    intro w hw
    unfold f_X12_out_J22
    refine ws_isP hR (fun e τ hτ hE hf => ?_)
    have := hw e
    exact ws_g (by omega) (by omega) (ws_s (PKr hτ _))
  unfold f_X12_out
  repeat' (first
    | with_reducible refine ws_bo (s_isRecord (by assumption) _) (fun _ => ?_) (fun _ => ?_)
    | with_reducible refine ws_bo (s_isMark (by assumption) _) (fun _ => ?_) (fun _ => ?_)
    | with_reducible refine ws_bo (s_isIn _ _ _ _) (fun _ => ?_) (fun _ => ?_)
    | with_reducible refine ws_bo (s_isWatcher _ _) (fun _ => ?_) (fun _ => ?_)
    | with_reducible refine ws_bo (s_isThing _ _ _ _) (fun _ => ?_) (fun _ => ?_)
    | with_reducible refine ws_b (s_noSize (by assumption) _ _) (fun _ _ => ?_)
    | with_reducible refine ws_b (s_noEntry (by assumption) _ _ _) (fun _ _ => ?_)
    | with_reducible refine ws_b (s_sizeOf (by assumption) _ (by omega) (by omega)) (fun _ _ => ?_)
    | with_reducible refine ws_lt (fun _ => ?_) (fun _ => ?_)
    | with_reducible refine ws_le (fun _ => ?_) (fun _ => ?_)
    | with_reducible refine ws_ee (fun _ _ => ?_) (fun _ => ?_)
    | with_reducible refine ws_g (by decide) (by decide) ?_
    | with_reducible refine ws_g (by omega) (by omega) ?_)
  all_goals first
    | exact hJ _ (fun h => absurd h (by decide))
    | exact hJ _ (fun _ => by omega)
    | (refine hJ _ (fun h => ?_); rename_i q; have := q h; omega)
theorem s_many_L (n : Nat) {τ : ms_T} (hR : RI τ) : ∀ (k : Nat) (x v : Int32), 0 ≤ v.toInt → v.toInt ≤ 4 → 5 - v.toInt ≤ (k : Int) → ws (f_X12_many_L39 n k τ x v) (PK τ) := by
  intro k
  induction k with
  | zero => intro x v g0 g1 g2; omega
  | succ k ih =>
    intro x v g0 g1 g2
    have L := lits
    rw [f_X12_many_L39.eq_2]
    refine ws_le (fun _ => ws_s (PKr hR _)) (fun _ => ws_b (s_trust hR.2 v 2 g0 (by omega) (by decide) (by decide)) (fun _ _ => ws_l (ws_l ?_)))
    exact ih _ (v + 1) (by (try simp only [iw_add, iw_sub, iw_mul, t_m1, lt0, lt1, t_2, t_3, t_4, t_5, t_6, t_8, t_9, t_10, t_16, t_20, t_24, t_26, t_30, t_31, t_48, t_64, t_72, t_76, t_92, t_101, t_252, t_444, t_512, t_900, t_1980, t_65521, t_99999, t_mil]) <;> omega) (by (try simp only [iw_add, iw_sub, iw_mul, t_m1, lt0, lt1, t_2, t_3, t_4, t_5, t_6, t_8, t_9, t_10, t_16, t_20, t_24, t_26, t_30, t_31, t_48, t_64, t_72, t_76, t_92, t_101, t_252, t_444, t_512, t_900, t_1980, t_65521, t_99999, t_mil]) <;> omega) (by (try simp only [iw_add, iw_sub, iw_mul, t_m1, lt0, lt1, t_2, t_3, t_4, t_5, t_6, t_8, t_9, t_10, t_16, t_20, t_24, t_26, t_30, t_31, t_48, t_64, t_72, t_76, t_92, t_101, t_252, t_444, t_512, t_900, t_1980, t_65521, t_99999, t_mil]) <;> omega)
theorem s_many (n : Nat) (hn : 70000 ≤ n) (σ : ms_T) (hR : RI σ) (a1 : Int32) : ws (f_X12_many n σ a1) (PK σ) := by
  have L := lits
  have hJ : ∀ w : Int32, (w = 0 → 0 ≤ a1.toInt ∧ a1.toInt ≤ 5) → ws (f_X12_many_J15 n σ a1 w) (PK σ) := by
    intro w hw
    unfold f_X12_many_J15
    refine ws_isP hR (fun e τ hτ hE hf => ?_)
    have := hw e
    exact ws_le (fun _ => s_many_L n hτ n 0 0 (by decide) (by decide) (by rw [lt0]; omega)) (fun _ => ws_g (by omega) (by omega) (ws_s (PKr hτ _)))
  unfold f_X12_many
  repeat' (first
    | with_reducible refine ws_bo (s_isRecord (by assumption) _) (fun _ => ?_) (fun _ => ?_)
    | with_reducible refine ws_bo (s_isMark (by assumption) _) (fun _ => ?_) (fun _ => ?_)
    | with_reducible refine ws_bo (s_isIn _ _ _ _) (fun _ => ?_) (fun _ => ?_)
    | with_reducible refine ws_bo (s_isWatcher _ _) (fun _ => ?_) (fun _ => ?_)
    | with_reducible refine ws_bo (s_isThing _ _ _ _) (fun _ => ?_) (fun _ => ?_)
    | with_reducible refine ws_b (s_noSize (by assumption) _ _) (fun _ _ => ?_)
    | with_reducible refine ws_b (s_noEntry (by assumption) _ _ _) (fun _ _ => ?_)
    | with_reducible refine ws_b (s_sizeOf (by assumption) _ (by omega) (by omega)) (fun _ _ => ?_)
    | with_reducible refine ws_lt (fun _ => ?_) (fun _ => ?_)
    | with_reducible refine ws_le (fun _ => ?_) (fun _ => ?_)
    | with_reducible refine ws_ee (fun _ _ => ?_) (fun _ => ?_)
    | with_reducible refine ws_g (by decide) (by decide) ?_
    | with_reducible refine ws_g (by omega) (by omega) ?_)
  all_goals first
    | exact hJ _ (fun h => absurd h (by decide))
    | exact hJ _ (fun _ => by omega)
    | (refine hJ _ (fun h => ?_); rename_i q; have := q h; omega)
theorem s_size (n : Nat) (hn : 70000 ≤ n) (σ : ms_T) (hR : RI σ) (a1 : Int32) : ws (f_X12_size n σ a1) (PK σ) := by
  have L := lits
  have hC := hR.2
  have h4 := hC.1
  have hJ : ∀ w : Int32, (w = 0 → 0 ≤ a1.toInt ∧ a1.toInt ≤ 3) → ws (f_X12_size_J14 n σ a1 w) (PK σ) := by
    intro w hw
    unfold f_X12_size_J14
    refine ws_isP hR (fun e τ hτ hE hf => ?_)
    have := hw e
    exact ws_b (s_sizeOf hτ.2 a1 (by omega) (by omega)) (fun _ _ => ws_s (PKr hτ _))
  unfold f_X12_size
  repeat' (first
    | with_reducible refine ws_bo (s_isRecord (by assumption) _) (fun _ => ?_) (fun _ => ?_)
    | with_reducible refine ws_bo (s_isMark (by assumption) _) (fun _ => ?_) (fun _ => ?_)
    | with_reducible refine ws_bo (s_isIn _ _ _ _) (fun _ => ?_) (fun _ => ?_)
    | with_reducible refine ws_bo (s_isWatcher _ _) (fun _ => ?_) (fun _ => ?_)
    | with_reducible refine ws_bo (s_isThing _ _ _ _) (fun _ => ?_) (fun _ => ?_)
    | with_reducible refine ws_b (s_noSize (by assumption) _ _) (fun _ _ => ?_)
    | with_reducible refine ws_b (s_noEntry (by assumption) _ _ _) (fun _ _ => ?_)
    | with_reducible refine ws_b (s_sizeOf (by assumption) _ (by omega) (by omega)) (fun _ _ => ?_)
    | with_reducible refine ws_lt (fun _ => ?_) (fun _ => ?_)
    | with_reducible refine ws_le (fun _ => ?_) (fun _ => ?_)
    | with_reducible refine ws_ee (fun _ _ => ?_) (fun _ => ?_)
    | with_reducible refine ws_g (by decide) (by decide) ?_
    | with_reducible refine ws_g (by omega) (by omega) ?_)
  all_goals first
    | exact hJ _ (fun h => absurd h (by decide))
    | exact hJ _ (fun _ => by omega)
    | (refine hJ _ (fun h => ?_); rename_i q; have := q h; omega)
theorem s_entry (n : Nat) (hn : 70000 ≤ n) (σ : ms_T) (hR : RI σ) (a1 a2 a3 : Int32) : ws (f_X12_entry n σ a1 a2 a3) (PK σ) := by
  have L := lits
  have hC := hR.2
  have h4 := hC.1
  have hJ : ∀ w : Int32, (w = 0 → 0 ≤ a1.toInt ∧ a1.toInt ≤ 3 ∧ 0 ≤ a2.toInt ∧ a2.toInt ≤ 47 ∧ 0 ≤ a3.toInt) → ws (f_X12_entry_J39 n σ a1 a2 a3 w) (PK σ) := by
    intro w hw
    unfold f_X12_entry_J39
    refine ws_isP hR (fun e τ hτ hE hf => ?_)
    have h := hw e
    have e1 : ((48 : Int32) * a1).toInt = 48 * a1.toInt := by (try simp only [iw_add, iw_sub, iw_mul, t_m1, lt0, lt1, t_2, t_3, t_4, t_5, t_6, t_8, t_9, t_10, t_16, t_20, t_24, t_26, t_30, t_31, t_48, t_64, t_72, t_76, t_92, t_101, t_252, t_444, t_512, t_900, t_1980, t_65521, t_99999, t_mil]) <;> omega
    have e2 : ((48 : Int32) * a1 + a2).toInt = 48 * a1.toInt + a2.toInt := by rw [iw_add, e1]; omega
    have e3 : ((252 : Int32) + (48 * a1 + a2)).toInt = 252 + 48 * a1.toInt + a2.toInt := by rw [iw_add, e2, t_252]; omega
    have e4 : ((8 : Int32) * (48 * a1 + a2)).toInt = 384 * a1.toInt + 8 * a2.toInt := by rw [iw_mul, e2, t_8]; omega
    have e5 : ((444 : Int32) + 8 * (48 * a1 + a2)).toInt = 444 + 384 * a1.toInt + 8 * a2.toInt := by rw [iw_add, e4, t_444]; omega
    have hc := hτ.2.2.2.2.2.2.2.2.2 (48 * a1.toInt + a2.toInt).toNat (by omega)
    rw [← cl_n (i := (252 : Int32) + (48 * a1 + a2)) (k := 252 + (48 * a1.toInt + a2.toInt).toNat) (by omega)] at hc
    refine ws_l (ws_le (fun g => ws_g (by omega) (by omega) (ws_le (fun _ => ws_rf hτ) (fun c => ?_))) (fun g => ws_i (fun _ => ws_g (by omega) (by omega) (ws_s (PKr hτ _))) (fun _ => ?_)))
    · have e6 : (a3 - 2).toInt = a3.toInt - 2 := by rw [iw_sub, t_2]; have := ib_hi a3; omega
      have e7 : ((444 : Int32) + 8 * (48 * a1 + a2) + a3).toInt = 444 + 384 * a1.toInt + 8 * a2.toInt + a3.toInt := by rw [iw_add, e5]; omega
      have e8 : ((444 : Int32) + 8 * (48 * a1 + a2) + a3 - 2).toInt = 442 + 384 * a1.toInt + 8 * a2.toInt + a3.toInt := by rw [iw_sub, e7, t_2]; omega
      exact ws_g (by omega) (by omega) (ws_s (PKr hτ _))
    · exact ws_b (s_entryMark hn hτ.2 a1 a2 (by omega) (by omega) (by omega) (by omega)) (fun _ _ => ws_s (PKr hτ _))
  unfold f_X12_entry
  repeat' (first
    | with_reducible refine ws_bo (s_isRecord (by assumption) _) (fun _ => ?_) (fun _ => ?_)
    | with_reducible refine ws_bo (s_isMark (by assumption) _) (fun _ => ?_) (fun _ => ?_)
    | with_reducible refine ws_bo (s_isIn _ _ _ _) (fun _ => ?_) (fun _ => ?_)
    | with_reducible refine ws_bo (s_isWatcher _ _) (fun _ => ?_) (fun _ => ?_)
    | with_reducible refine ws_bo (s_isThing _ _ _ _) (fun _ => ?_) (fun _ => ?_)
    | with_reducible refine ws_b (s_noSize (by assumption) _ _) (fun _ _ => ?_)
    | with_reducible refine ws_b (s_noEntry (by assumption) _ _ _) (fun _ _ => ?_)
    | with_reducible refine ws_b (s_sizeOf (by assumption) _ (by omega) (by omega)) (fun _ _ => ?_)
    | with_reducible refine ws_lt (fun _ => ?_) (fun _ => ?_)
    | with_reducible refine ws_le (fun _ => ?_) (fun _ => ?_)
    | with_reducible refine ws_ee (fun _ _ => ?_) (fun _ => ?_)
    | with_reducible refine ws_g (by decide) (by decide) ?_
    | with_reducible refine ws_g (by omega) (by omega) ?_)
  all_goals first
    | exact hJ _ (fun h => absurd h (by decide))
    | exact hJ _ (fun _ => by omega)
    | (refine hJ _ (fun h => ?_); rename_i q; have := q h; omega)
theorem s_head (n : Nat) (hn : 70000 ≤ n) (σ : ms_T) (hR : RI σ) (a1 a2 : Int32) : ws (f_X12_head n σ a1 a2) (PK σ) := by
  unfold f_X12_head
  refine ws_b (s_noSize hR.2 a1 a2) (fun r hr => ws_isP hR (fun e τ hτ hE hf => ?_))
  have := hr e
  exact ws_b (s_headOf n hn hτ.2 a1 a2 (by omega) (by omega) (by omega) (by omega)) (fun _ _ => ws_s (PKr hτ _))
theorem s_join (n : Nat) (hn : 70000 ≤ n) (σ : ms_T) (hR : RI σ) (a1 a2 : Int32) : ws (f_X12_join n σ a1 a2) (PK σ) := by
  have hC := hR.2
  have hJ : ∀ w : Int32, (w = 0 → (0 : Int) = 0) → ws (f_X12_join_J22 n σ a1 a2 w) (PK σ) := by
    intro w hw
    unfold f_X12_join_J22
    exact ws_isP hR (fun e τ hτ hE hf => ws_b (s_both hτ.2 a1 a2) (fun _ _ => ws_s (PKr hτ _)))
  unfold f_X12_join
  repeat' (first
    | with_reducible refine ws_bo (s_isRecord (by assumption) _) (fun _ => ?_) (fun _ => ?_)
    | with_reducible refine ws_bo (s_isMark (by assumption) _) (fun _ => ?_) (fun _ => ?_)
    | with_reducible refine ws_bo (s_isIn _ _ _ _) (fun _ => ?_) (fun _ => ?_)
    | with_reducible refine ws_bo (s_isWatcher _ _) (fun _ => ?_) (fun _ => ?_)
    | with_reducible refine ws_bo (s_isThing _ _ _ _) (fun _ => ?_) (fun _ => ?_)
    | with_reducible refine ws_b (s_noSize (by assumption) _ _) (fun _ _ => ?_)
    | with_reducible refine ws_b (s_noEntry (by assumption) _ _ _) (fun _ _ => ?_)
    | with_reducible refine ws_b (s_sizeOf (by assumption) _ (by omega) (by omega)) (fun _ _ => ?_)
    | with_reducible refine ws_lt (fun _ => ?_) (fun _ => ?_)
    | with_reducible refine ws_le (fun _ => ?_) (fun _ => ?_)
    | with_reducible refine ws_ee (fun _ _ => ?_) (fun _ => ?_)
    | with_reducible refine ws_g (by decide) (by decide) ?_
    | with_reducible refine ws_g (by omega) (by omega) ?_)
  all_goals first
    | exact hJ _ (fun h => absurd h (by decide))
    | exact hJ _ (fun _ => by omega)
    | (refine hJ _ (fun h => ?_); rename_i q; have := q h; omega)
theorem s_mark_L (n : Nat) {τ : ms_T} (hR : RI τ) : ∀ (k : Nat) (x v : Int32), 0 ≤ v.toInt → v.toInt ≤ 8 → 9 - v.toInt ≤ (k : Int) → ws (f_X12_mark_L10 n k τ x v) (PK τ) := by
  intro k
  induction k with
  | zero => intro x v g0 g1 g2; omega
  | succ k ih =>
    intro x v g0 g1 g2
    have h8 := hR.1.1
    rw [f_X12_mark_L10.eq_2]
    refine ws_le (fun _ => ws_s (PKr hR _)) (fun _ => ws_g (by omega) (by omega) (ws_b (s_mixed hR.2 _ _) (fun _ _ => ws_l ?_)))
    exact ih _ (v + 1) (by (try simp only [iw_add, iw_sub, iw_mul, t_m1, lt0, lt1, t_2, t_3, t_4, t_5, t_6, t_8, t_9, t_10, t_16, t_20, t_24, t_26, t_30, t_31, t_48, t_64, t_72, t_76, t_92, t_101, t_252, t_444, t_512, t_900, t_1980, t_65521, t_99999, t_mil]) <;> omega) (by (try simp only [iw_add, iw_sub, iw_mul, t_m1, lt0, lt1, t_2, t_3, t_4, t_5, t_6, t_8, t_9, t_10, t_16, t_20, t_24, t_26, t_30, t_31, t_48, t_64, t_72, t_76, t_92, t_101, t_252, t_444, t_512, t_900, t_1980, t_65521, t_99999, t_mil]) <;> omega) (by (try simp only [iw_add, iw_sub, iw_mul, t_m1, lt0, lt1, t_2, t_3, t_4, t_5, t_6, t_8, t_9, t_10, t_16, t_20, t_24, t_26, t_30, t_31, t_48, t_64, t_72, t_76, t_92, t_101, t_252, t_444, t_512, t_900, t_1980, t_65521, t_99999, t_mil]) <;> omega)
theorem s_mark (n : Nat) (hn : 70000 ≤ n) (σ : ms_T) (hR : RI σ) : ws (f_X12_mark n σ) (PK σ) := by
  unfold f_X12_mark
  exact ws_is0 hR (fun τ hτ _ _ => s_mark_L n hτ n 1 0 (by decide) (by decide) (by rw [lt0]; omega))
theorem s_frozen (n : Nat) (hn : 70000 ≤ n) (σ : ms_T) (hR : RI σ) (a1 a2 : Int32) : ws (f_X12_frozen n σ a1 a2) (PK σ) := by
  have L := lits
  have h16 := hR.2.2.2.2.1
  have hJ : ∀ w : Int32, (w = 0 → 0 ≤ a1.toInt ∧ a1.toInt ≤ 15 ∧ 0 ≤ a2.toInt ∧ a2.toInt ≤ 4) → ws (f_X12_frozen_J33 n σ a1 a2 w) (PK σ) := by
    intro w hw
    unfold f_X12_frozen_J33
    refine ws_isP hR (fun e τ hτ hE hf => ?_)
    have := hw e
    exact ws_le (fun _ => ws_b (s_isSound n hn hτ.2 a1 (by omega) (by omega)) (fun _ _ => ws_i (fun _ => ws_s (PKr hτ _)) (fun _ => ws_s (PKr hτ _)))) (fun _ => ws_b (s_froze hτ.2 a1 a2 (by omega) (by omega) (by omega) (by omega)) (fun _ _ => ws_s (PKr hτ _)))
  unfold f_X12_frozen
  rw [c3]
  repeat' (first
    | with_reducible refine ws_bo (s_isRecord (by assumption) _) (fun _ => ?_) (fun _ => ?_)
    | with_reducible refine ws_bo (s_isMark (by assumption) _) (fun _ => ?_) (fun _ => ?_)
    | with_reducible refine ws_bo (s_isIn _ _ _ _) (fun _ => ?_) (fun _ => ?_)
    | with_reducible refine ws_bo (s_isWatcher _ _) (fun _ => ?_) (fun _ => ?_)
    | with_reducible refine ws_bo (s_isThing _ _ _ _) (fun _ => ?_) (fun _ => ?_)
    | with_reducible refine ws_b (s_noSize (by assumption) _ _) (fun _ _ => ?_)
    | with_reducible refine ws_b (s_noEntry (by assumption) _ _ _) (fun _ _ => ?_)
    | with_reducible refine ws_b (s_sizeOf (by assumption) _ (by omega) (by omega)) (fun _ _ => ?_)
    | with_reducible refine ws_lt (fun _ => ?_) (fun _ => ?_)
    | with_reducible refine ws_le (fun _ => ?_) (fun _ => ?_)
    | with_reducible refine ws_ee (fun _ _ => ?_) (fun _ => ?_)
    | with_reducible refine ws_g (by decide) (by decide) ?_
    | with_reducible refine ws_g (by omega) (by omega) ?_)
  all_goals first
    | exact hJ _ (fun h => absurd h (by decide))
    | exact hJ _ (fun _ => by omega)
    | (refine hJ _ (fun h => ?_); rename_i q; have := q h; omega)
theorem s_watcher (n : Nat) (hn : 70000 ≤ n) (σ : ms_T) (hR : RI σ) (a1 a2 : Int32) : ws (f_X12_watcher n σ a1 a2) (PK σ) := by
  have L := lits
  have hJ : ∀ w : Int32, (w = 0 → 0 ≤ a1.toInt ∧ a1.toInt ≤ 3 ∧ 0 ≤ a2.toInt ∧ a2.toInt ≤ 3) → ws (f_X12_watcher_J26 n σ a1 a2 w) (PK σ) := by
    intro w hw
    unfold f_X12_watcher_J26
    refine ws_isP hR (fun e τ hτ hE hf => ?_)
    have := hw e
    exact ws_b (s_trust hτ.2 a1 a2 (by omega) (by omega) (by omega) (by omega)) (fun _ _ => ws_s (PKr hτ _))
  unfold f_X12_watcher
  repeat' (first
    | with_reducible refine ws_bo (s_isRecord (by assumption) _) (fun _ => ?_) (fun _ => ?_)
    | with_reducible refine ws_bo (s_isMark (by assumption) _) (fun _ => ?_) (fun _ => ?_)
    | with_reducible refine ws_bo (s_isIn _ _ _ _) (fun _ => ?_) (fun _ => ?_)
    | with_reducible refine ws_bo (s_isWatcher _ _) (fun _ => ?_) (fun _ => ?_)
    | with_reducible refine ws_bo (s_isThing _ _ _ _) (fun _ => ?_) (fun _ => ?_)
    | with_reducible refine ws_b (s_noSize (by assumption) _ _) (fun _ _ => ?_)
    | with_reducible refine ws_b (s_noEntry (by assumption) _ _ _) (fun _ _ => ?_)
    | with_reducible refine ws_b (s_sizeOf (by assumption) _ (by omega) (by omega)) (fun _ _ => ?_)
    | with_reducible refine ws_lt (fun _ => ?_) (fun _ => ?_)
    | with_reducible refine ws_le (fun _ => ?_) (fun _ => ?_)
    | with_reducible refine ws_ee (fun _ _ => ?_) (fun _ => ?_)
    | with_reducible refine ws_g (by decide) (by decide) ?_
    | with_reducible refine ws_g (by omega) (by omega) ?_)
  all_goals first
    | exact hJ _ (fun h => absurd h (by decide))
    | exact hJ _ (fun _ => by omega)
    | (refine hJ _ (fun h => ?_); rename_i q; have := q h; omega)
theorem PKs {τ υ : ms_T} (h : RI υ) (e : ms_I υ 667 = ms_I τ 667) (r : Int32) : PK τ (r, υ) := ⟨h, e⟩
theorem s_push (n : Nat) (hn : 70000 ≤ n) (σ : ms_T) (hR : RI σ) (a1 : Int32) : ws (f_X12_push n σ a1) (PK σ) := by
  have L := lits
  have hC := hR.2
  have h64 := hC.2.2.1
  have hJ : ∀ w : Int32, (w = 0 → (ms_E σ 40 2).toInt < 64) → ws (f_X12_push_J29 n σ a1 w) (PK σ) := by
    intro w hw
    unfold f_X12_push_J29
    refine ws_isP hR (fun e τ hτ hE hf => ?_)
    have := hw e
    rw [← hE] at this
    have g := hτ.2.2.2.1
    rw [c2]
    have e1 : ((8 : Int32) + ms_E τ 40 2).toInt = 8 + (ms_E τ 40 2).toInt := by (try simp only [iw_add, iw_sub, iw_mul, t_m1, lt0, lt1, t_2, t_3, t_4, t_5, t_6, t_8, t_9, t_10, t_16, t_20, t_24, t_26, t_30, t_31, t_48, t_64, t_72, t_76, t_92, t_101, t_252, t_444, t_512, t_900, t_1980, t_65521, t_99999, t_mil]) <;> omega
    have e2 : (ms_E τ 40 2 + 1).toInt = (ms_E τ 40 2).toInt + 1 := by (try simp only [iw_add, iw_sub, iw_mul, t_m1, lt0, lt1, t_2, t_3, t_4, t_5, t_6, t_8, t_9, t_10, t_16, t_20, t_24, t_26, t_30, t_31, t_48, t_64, t_72, t_76, t_92, t_101, t_252, t_444, t_512, t_900, t_1980, t_65521, t_99999, t_mil]) <;> omega
    have ec := cl_n (i := (8 : Int32) + ms_E τ 40 2) (k := 8 + (ms_E τ 40 2).toInt.toNat) (by omega)
    refine ws_g (by decide) (by decide) (ws_g (by omega) (by omega) (ws_l (ws_g (by decide) (by decide) (ws_g (by decide) (by decide) (ws_l (ws_g (by decide) (by decide) (ws_s (PKs ?_ rfl _))))))))
    rw [ec]
    refine RI_sE (RI_sE hτ (rc_f (by omega))) ?_
    rw [mE_sE, if_neg (fun q => by omega)]
    exact ⟨fun _ => by omega, fun _ => by omega, fun _ => by omega, fun _ => by omega, fun r _ _ => by omega, fun r _ _ => by omega, fun r _ _ => by omega, fun r _ _ => by omega, fun r _ _ => by omega⟩
  unfold f_X12_push
  rw [c2]
  repeat' (first
    | with_reducible refine ws_bo (s_isRecord (by assumption) _) (fun _ => ?_) (fun _ => ?_)
    | with_reducible refine ws_bo (s_isMark (by assumption) _) (fun _ => ?_) (fun _ => ?_)
    | with_reducible refine ws_bo (s_isIn _ _ _ _) (fun _ => ?_) (fun _ => ?_)
    | with_reducible refine ws_bo (s_isWatcher _ _) (fun _ => ?_) (fun _ => ?_)
    | with_reducible refine ws_bo (s_isThing _ _ _ _) (fun _ => ?_) (fun _ => ?_)
    | with_reducible refine ws_b (s_noSize (by assumption) _ _) (fun _ _ => ?_)
    | with_reducible refine ws_b (s_noEntry (by assumption) _ _ _) (fun _ _ => ?_)
    | with_reducible refine ws_b (s_sizeOf (by assumption) _ (by omega) (by omega)) (fun _ _ => ?_)
    | with_reducible refine ws_lt (fun _ => ?_) (fun _ => ?_)
    | with_reducible refine ws_le (fun _ => ?_) (fun _ => ?_)
    | with_reducible refine ws_ee (fun _ _ => ?_) (fun _ => ?_)
    | with_reducible refine ws_g (by decide) (by decide) ?_
    | with_reducible refine ws_g (by omega) (by omega) ?_)
  all_goals first
    | exact hJ _ (fun h => absurd h (by decide))
    | exact hJ _ (fun _ => by omega)
    | (refine hJ _ (fun h => ?_); rename_i q; have := q h; omega)
theorem s_poke (n : Nat) (hn : 70000 ≤ n) (σ : ms_T) (hR : RI σ) (a1 a2 : Int32) : ws (f_X12_poke n σ a1 a2) (PK σ) := by
  have L := lits
  have hC := hR.2
  have h64 := hC.2.2.1
  have hJ : ∀ w : Int32, (w = 0 → 0 ≤ a1.toInt ∧ a1.toInt < 64) → ws (f_X12_poke_J32 n σ a1 a2 w) (PK σ) := by
    intro w hw
    unfold f_X12_poke_J32
    refine ws_isP hR (fun e τ hτ hE hf => ?_)
    have := hw e
    have e1 : ((8 : Int32) + a1).toInt = 8 + a1.toInt := by (try simp only [iw_add, iw_sub, iw_mul, t_m1, lt0, lt1, t_2, t_3, t_4, t_5, t_6, t_8, t_9, t_10, t_16, t_20, t_24, t_26, t_30, t_31, t_48, t_64, t_72, t_76, t_92, t_101, t_252, t_444, t_512, t_900, t_1980, t_65521, t_99999, t_mil]) <;> omega
    have ec := cl_n (i := (8 : Int32) + a1) (k := 8 + a1.toInt.toNat) (by omega)
    refine ws_g (by omega) (by omega) (ws_l (ws_g (by omega) (by omega) (ws_l (ws_s (PKs (RI_sE hτ (rc_f ?_)) rfl _)))))
    omega
  unfold f_X12_poke
  rw [c2]
  repeat' (first
    | with_reducible refine ws_bo (s_isRecord (by assumption) _) (fun _ => ?_) (fun _ => ?_)
    | with_reducible refine ws_bo (s_isMark (by assumption) _) (fun _ => ?_) (fun _ => ?_)
    | with_reducible refine ws_bo (s_isIn _ _ _ _) (fun _ => ?_) (fun _ => ?_)
    | with_reducible refine ws_bo (s_isWatcher _ _) (fun _ => ?_) (fun _ => ?_)
    | with_reducible refine ws_bo (s_isThing _ _ _ _) (fun _ => ?_) (fun _ => ?_)
    | with_reducible refine ws_b (s_noSize (by assumption) _ _) (fun _ _ => ?_)
    | with_reducible refine ws_b (s_noEntry (by assumption) _ _ _) (fun _ _ => ?_)
    | with_reducible refine ws_b (s_sizeOf (by assumption) _ (by omega) (by omega)) (fun _ _ => ?_)
    | with_reducible refine ws_lt (fun _ => ?_) (fun _ => ?_)
    | with_reducible refine ws_le (fun _ => ?_) (fun _ => ?_)
    | with_reducible refine ws_ee (fun _ _ => ?_) (fun _ => ?_)
    | with_reducible refine ws_g (by decide) (by decide) ?_
    | with_reducible refine ws_g (by omega) (by omega) ?_)
  all_goals first
    | exact hJ _ (fun h => absurd h (by decide))
    | exact hJ _ (fun _ => by omega)
    | (refine hJ _ (fun h => ?_); rename_i q; have := q h; omega)
theorem s_pad (n : Nat) (hn : 70000 ≤ n) (σ : ms_T) (hR : RI σ) (a1 : Int32) : ws (f_X12_pad n σ a1) (PK σ) := by
  have L := lits
  have h64 := hR.2.2.2.1
  have hJ : ∀ w : Int32, (w = 0 → 0 ≤ a1.toInt ∧ a1.toInt < 64) → ws (f_X12_pad_J24 n σ a1 w) (PK σ) := by
    intro w hw
    unfold f_X12_pad_J24
    refine ws_isP hR (fun e τ hτ hE hf => ?_)
    have := hw e
    have e1 : ((8 : Int32) + a1).toInt = 8 + a1.toInt := by (try simp only [iw_add, iw_sub, iw_mul, t_m1, lt0, lt1, t_2, t_3, t_4, t_5, t_6, t_8, t_9, t_10, t_16, t_20, t_24, t_26, t_30, t_31, t_48, t_64, t_72, t_76, t_92, t_101, t_252, t_444, t_512, t_900, t_1980, t_65521, t_99999, t_mil]) <;> omega
    exact ws_g (by omega) (by omega) (ws_s (PKr hτ _))
  unfold f_X12_pad
  rw [c2]
  repeat' (first
    | with_reducible refine ws_bo (s_isRecord (by assumption) _) (fun _ => ?_) (fun _ => ?_)
    | with_reducible refine ws_bo (s_isMark (by assumption) _) (fun _ => ?_) (fun _ => ?_)
    | with_reducible refine ws_bo (s_isIn _ _ _ _) (fun _ => ?_) (fun _ => ?_)
    | with_reducible refine ws_bo (s_isWatcher _ _) (fun _ => ?_) (fun _ => ?_)
    | with_reducible refine ws_bo (s_isThing _ _ _ _) (fun _ => ?_) (fun _ => ?_)
    | with_reducible refine ws_b (s_noSize (by assumption) _ _) (fun _ _ => ?_)
    | with_reducible refine ws_b (s_noEntry (by assumption) _ _ _) (fun _ _ => ?_)
    | with_reducible refine ws_b (s_sizeOf (by assumption) _ (by omega) (by omega)) (fun _ _ => ?_)
    | with_reducible refine ws_lt (fun _ => ?_) (fun _ => ?_)
    | with_reducible refine ws_le (fun _ => ?_) (fun _ => ?_)
    | with_reducible refine ws_ee (fun _ _ => ?_) (fun _ => ?_)
    | with_reducible refine ws_g (by decide) (by decide) ?_
    | with_reducible refine ws_g (by omega) (by omega) ?_)
  all_goals first
    | exact hJ _ (fun h => absurd h (by decide))
    | exact hJ _ (fun _ => by omega)
    | (refine hJ _ (fun h => ?_); rename_i q; have := q h; omega)
theorem s_cut (n : Nat) (hn : 70000 ≤ n) (σ : ms_T) (hR : RI σ) (a1 : Int32) : ws (f_X12_cut n σ a1) (PK σ) := by
  have L := lits
  have h64 := hR.2.2.2.1
  have hJ : ∀ w : Int32, (w = 0 → 0 ≤ a1.toInt ∧ a1.toInt ≤ 64) → ws (f_X12_cut_J24 n σ a1 w) (PK σ) := by
    intro w hw
    unfold f_X12_cut_J24
    refine ws_isP hR (fun e τ hτ hE hf => ?_)
    have := hw e
    refine ws_g (by decide) (by decide) (ws_l (ws_s (PKs (RI_sE hτ ?_) rfl _)))
    rw [c2]
    exact ⟨fun _ => by omega, fun _ => by omega, fun _ => by omega, fun _ => by omega, fun r _ _ => by omega, fun r _ _ => by omega, fun r _ _ => by omega, fun r _ _ => by omega, fun r _ _ => by omega⟩
  unfold f_X12_cut
  rw [c2]
  repeat' (first
    | with_reducible refine ws_bo (s_isRecord (by assumption) _) (fun _ => ?_) (fun _ => ?_)
    | with_reducible refine ws_bo (s_isMark (by assumption) _) (fun _ => ?_) (fun _ => ?_)
    | with_reducible refine ws_bo (s_isIn _ _ _ _) (fun _ => ?_) (fun _ => ?_)
    | with_reducible refine ws_bo (s_isWatcher _ _) (fun _ => ?_) (fun _ => ?_)
    | with_reducible refine ws_bo (s_isThing _ _ _ _) (fun _ => ?_) (fun _ => ?_)
    | with_reducible refine ws_b (s_noSize (by assumption) _ _) (fun _ _ => ?_)
    | with_reducible refine ws_b (s_noEntry (by assumption) _ _ _) (fun _ _ => ?_)
    | with_reducible refine ws_b (s_sizeOf (by assumption) _ (by omega) (by omega)) (fun _ _ => ?_)
    | with_reducible refine ws_lt (fun _ => ?_) (fun _ => ?_)
    | with_reducible refine ws_le (fun _ => ?_) (fun _ => ?_)
    | with_reducible refine ws_ee (fun _ _ => ?_) (fun _ => ?_)
    | with_reducible refine ws_g (by decide) (by decide) ?_
    | with_reducible refine ws_g (by omega) (by omega) ?_)
  all_goals first
    | exact hJ _ (fun h => absurd h (by decide))
    | exact hJ _ (fun _ => by omega)
    | (refine hJ _ (fun h => ?_); rename_i q; have := q h; omega)
theorem s_spoil (n : Nat) (hn : 70000 ≤ n) (σ : ms_T) (hR : RI σ) (a1 a2 a3 a4 : Int32) : ws (f_X12_spoil n σ a1 a2 a3 a4) (PK σ) := by
  have L := lits
  have hC := hR.2
  have h4 := hC.1
  have hJ : ∀ w : Int32, (w = 0 → 0 ≤ a1.toInt ∧ a1.toInt ≤ 3 ∧ 0 ≤ a2.toInt ∧ a2.toInt ≤ 47 ∧ 0 ≤ a3.toInt ∧ a3.toInt ≤ 7) → ws (f_X12_spoil_J69 n σ a1 a2 a3 a4 w) (PK σ) := by
    intro w hw
    unfold f_X12_spoil_J69
    refine ws_isP hR (fun e τ hτ hE hf => ?_)
    have h := hw e
    have e1 : ((48 : Int32) * a1).toInt = 48 * a1.toInt := by (try simp only [iw_add, iw_sub, iw_mul, t_m1, lt0, lt1, t_2, t_3, t_4, t_5, t_6, t_8, t_9, t_10, t_16, t_20, t_24, t_26, t_30, t_31, t_48, t_64, t_72, t_76, t_92, t_101, t_252, t_444, t_512, t_900, t_1980, t_65521, t_99999, t_mil]) <;> omega
    have e2 : ((48 : Int32) * a1 + a2).toInt = 48 * a1.toInt + a2.toInt := by rw [iw_add, e1]; omega
    have e4 : ((8 : Int32) * (48 * a1 + a2)).toInt = 384 * a1.toInt + 8 * a2.toInt := by rw [iw_mul, e2, t_8]; omega
    have e5 : ((444 : Int32) + 8 * (48 * a1 + a2)).toInt = 444 + 384 * a1.toInt + 8 * a2.toInt := by rw [iw_add, e4, t_444]; omega
    have e6 : ((444 : Int32) + 8 * (48 * a1 + a2) + a3).toInt = 444 + 384 * a1.toInt + 8 * a2.toInt + a3.toInt := by rw [iw_add, e5]; omega
    have ec := cl_n (i := (444 : Int32) + 8 * (48 * a1 + a2) + a3) (k := (444 + 384 * a1.toInt + 8 * a2.toInt + a3.toInt).toNat) (by omega)
    refine ws_l (ws_g (by omega) (by omega) (ws_l (ws_i (fun _ => ws_rf hτ) (fun _ => ws_g (by omega) (by omega) (ws_l (ws_g (by decide) (by decide) (ws_g (by decide) (by decide) (ws_l (ws_s (PKs ?_ rfl _))))))))))
    exact RI_sE (RI_sE hτ (rc_f (by omega))) (rc_f (by decide))
  unfold f_X12_spoil
  refine ws_lt (fun _ => ?_) (fun _ => ws_lt (fun _ => ?_) (fun _ => ws_bo (s_isIn _ _ _ _) (fun _ => ?_) (fun _ => ws_bo (s_isRecord hC _) (fun _ => ?_) (fun _ => ws_b (s_sizeOf hC a1 (by omega) (by omega)) (fun r hr => ws_le (fun _ => ?_) (fun _ => ?_))))))
  · exact hJ _ (fun h => absurd h (by decide))
  · exact hJ _ (fun h => absurd h (by decide))
  · exact hJ _ (fun h => absurd h (by decide))
  · exact hJ _ (fun h => absurd h (by decide))
  · exact hJ _ (fun h => absurd h (by decide))
  · have e1 : ((48 : Int32) * a1).toInt = 48 * a1.toInt := by (try simp only [iw_add, iw_sub, iw_mul, t_m1, lt0, lt1, t_2, t_3, t_4, t_5, t_6, t_8, t_9, t_10, t_16, t_20, t_24, t_26, t_30, t_31, t_48, t_64, t_72, t_76, t_92, t_101, t_252, t_444, t_512, t_900, t_1980, t_65521, t_99999, t_mil]) <;> omega
    have e3 : ((252 : Int32) + 48 * a1).toInt = 252 + 48 * a1.toInt := by rw [iw_add, e1, t_252]; omega
    have e4 : ((252 : Int32) + 48 * a1 + a2).toInt = 252 + 48 * a1.toInt + a2.toInt := by rw [iw_add, e3]; omega
    have hc := hC.2.2.2.2.2.2.2.2 (48 * a1.toInt + a2.toInt).toNat (by omega)
    rw [← cl_n (i := (252 : Int32) + 48 * a1 + a2) (k := 252 + (48 * a1.toInt + a2.toInt).toNat) (by omega)] at hc
    exact ws_g (by omega) (by omega) (ws_lt (fun _ => hJ _ (fun _ => by omega)) (fun _ => hJ _ (fun h => absurd h (by decide))))
end JN7_14
section JN7_15
/-! ===== public functions of the reference: ways, marks, watchers ===== -/
theorem pk2 {wI wE : List Nat} {σ τ : ms_T} {res : Int32 × ms_T} (h : RI σ) (f : fr wI wE σ τ) (k : fk wI wE = true) (g : PK τ res) : PK σ res := pk_tr (pk h f k 0).2 g
theorem ws_pk {wI wE : List Nat} {σ τ : ms_T} {o : Option (Int32 × ms_T)} (h : RI σ) (f : fr wI wE σ τ) (k : fk wI wE = true) (g : ws o (PK τ)) : ws o (PK σ) := ws_m g (fun _ hr => pk2 h f k hr)
theorem s_include (n : Nat) (hn : 70000 ≤ n) (σ : ms_T) (hR : RI σ) (a1 a2 a3 : Int32) : ws (f_X12_include n σ a1 a2 a3) (PK σ) := by
  unfold f_X12_include
  refine ws_b (s_noEntry hR.2 a1 a2 a3) (fun r hr => ws_isP hR (fun e τ hτ hE hf => ?_))
  have := hr e
  refine ws_b (s_inclusion n hn τ a2 a3 (by omega) (by omega)) (fun υ hυ => ?_)
  obtain ⟨w, hw, hl⟩ := hυ
  refine ws_pk hτ hw.1 (by decide) (ws_c (s_pads n hn (RI_fr hτ hw.1 (by decide)) hw (by omega) (by omega) a1 (by omega) (by omega)) (fun a ρ hρ => ws_s hρ))
theorem s_grow (n : Nat) (hn : 70000 ≤ n) (σ : ms_T) (hR : RI σ) (a1 a2 a3 : Int32) : ws (f_X12_grow n σ a1 a2 a3) (PK σ) := by
  have L := lits
  have hC := hR.2
  have hJ : ∀ w : Int32, (w = 0 → 0 ≤ a1.toInt ∧ a1.toInt ≤ 3 ∧ a3.toInt ≤ 48) → ws (f_X12_grow_J20 n σ a1 a2 a3 w) (PK σ) := by
    intro w hw
    unfold f_X12_grow_J20
    refine ws_isP hR (fun e τ hτ hE hf => ?_)
    have := hw e
    refine ws_b (s_growth0 n hn τ a2 a3) (fun υ hυ => ?_)
    obtain ⟨w, hw, hl⟩ := hυ
    exact ws_pk hτ hw.1 (by decide) (ws_c (s_pads n hn (RI_fr hτ hw.1 (by decide)) hw (by omega) (by omega) a1 (by omega) (by omega)) (fun a ρ hρ => ws_s hρ))
  unfold f_X12_grow
  repeat' (first
    | with_reducible refine ws_bo (s_isRecord (by assumption) _) (fun _ => ?_) (fun _ => ?_)
    | with_reducible refine ws_bo (s_isMark (by assumption) _) (fun _ => ?_) (fun _ => ?_)
    | with_reducible refine ws_bo (s_isIn _ _ _ _) (fun _ => ?_) (fun _ => ?_)
    | with_reducible refine ws_bo (s_isWatcher _ _) (fun _ => ?_) (fun _ => ?_)
    | with_reducible refine ws_bo (s_isThing _ _ _ _) (fun _ => ?_) (fun _ => ?_)
    | with_reducible refine ws_b (s_noSize (by assumption) _ _) (fun _ _ => ?_)
    | with_reducible refine ws_b (s_noEntry (by assumption) _ _ _) (fun _ _ => ?_)
    | with_reducible refine ws_b (s_sizeOf (by assumption) _ (by omega) (by omega)) (fun _ _ => ?_)
    | with_reducible refine ws_lt (fun _ => ?_) (fun _ => ?_)
    | with_reducible refine ws_le (fun _ => ?_) (fun _ => ?_)
    | with_reducible refine ws_ee (fun _ _ => ?_) (fun _ => ?_)
    | with_reducible refine ws_g (by decide) (by decide) ?_
    | with_reducible refine ws_g (by omega) (by omega) ?_)
  all_goals first
    | exact hJ _ (fun h => absurd h (by decide))
    | exact hJ _ (fun _ => by omega)
    | (refine hJ _ (fun h => ?_); rename_i q; have := q h; omega)
theorem s_peaks (n : Nat) (hn : 70000 ≤ n) (σ : ms_T) (hR : RI σ) (a1 a2 : Int32) : ws (f_X12_peaks n σ a1 a2) (PK σ) := by
  unfold f_X12_peaks
  refine ws_b (s_noSize hR.2 a1 a2) (fun r hr => ws_isP hR (fun e τ hτ hE hf => ?_))
  have := hr e
  refine ws_b (s_peaksOf n hn τ a2 (by omega) (by omega)) (fun υ hυ => ?_)
  obtain ⟨w, hw, hl⟩ := hυ
  exact ws_pk hτ hw.1 (by decide) (ws_c (s_pads n hn (RI_fr hτ hw.1 (by decide)) hw (by omega) (by omega) a1 (by omega) (by omega)) (fun a ρ hρ => ws_s hρ))
theorem s_checks (n : Nat) (hn : 70000 ≤ n) (σ : ms_T) (hR : RI σ) (a1 a2 a3 a4 : Int32) : ws (f_X12_checks n σ a1 a2 a3 a4) (PK σ) := by
  have L := lits
  have hC := hR.2
  have hJ : ∀ w : Int32, (w = 0 → 0 ≤ a2.toInt ∧ a2.toInt < a3.toInt) → ws (f_X12_checks_J32 n σ a1 a2 a3 a4 w) (PK σ) := by
    intro w hw
    unfold f_X12_checks_J32
    refine ws_isP hR (fun e τ hτ hE hf => ?_)
    have := hw e
    refine ws_c (s_fromPad n hn τ hτ.2) (fun a υ hυ => ?_)
    have hυR := RI_fr hτ hυ.1 (by decide)
    exact ws_pk hτ hυ.1 (by decide) (ws_c (s_whyIn n hn υ hυR.2 _ _ a2 a3 _ (by omega) (by omega)) (fun b ρ hρ => ws_s (pk hυR hρ (by decide) _)))
  unfold f_X12_checks
  repeat' (first
    | with_reducible refine ws_bo (s_isRecord (by assumption) _) (fun _ => ?_) (fun _ => ?_)
    | with_reducible refine ws_bo (s_isMark (by assumption) _) (fun _ => ?_) (fun _ => ?_)
    | with_reducible refine ws_bo (s_isIn _ _ _ _) (fun _ => ?_) (fun _ => ?_)
    | with_reducible refine ws_bo (s_isWatcher _ _) (fun _ => ?_) (fun _ => ?_)
    | with_reducible refine ws_bo (s_isThing _ _ _ _) (fun _ => ?_) (fun _ => ?_)
    | with_reducible refine ws_b (s_noSize (by assumption) _ _) (fun _ _ => ?_)
    | with_reducible refine ws_b (s_noEntry (by assumption) _ _ _) (fun _ _ => ?_)
    | with_reducible refine ws_b (s_sizeOf (by assumption) _ (by omega) (by omega)) (fun _ _ => ?_)
    | with_reducible refine ws_lt (fun _ => ?_) (fun _ => ?_)
    | with_reducible refine ws_le (fun _ => ?_) (fun _ => ?_)
    | with_reducible refine ws_ee (fun _ _ => ?_) (fun _ => ?_)
    | with_reducible refine ws_g (by decide) (by decide) ?_
    | with_reducible refine ws_g (by omega) (by omega) ?_)
  all_goals first
    | exact hJ _ (fun h => absurd h (by decide))
    | exact hJ _ (fun _ => by omega)
    | (refine hJ _ (fun h => ?_); rename_i q; have := q h; omega)
theorem s_growth_ (n : Nat) (hn : 70000 ≤ n) (σ : ms_T) (hR : RI σ) (a1 a2 a3 a4 : Int32) : ws (f_X12_growth_ n σ a1 a2 a3 a4) (PK σ) := by
  have L := lits
  have hC := hR.2
  have hJ : ∀ w : Int32, (w = 0 → 0 ≤ a1.toInt ∧ a1.toInt ≤ a3.toInt) → ws (f_X12_growth__J32 n σ a1 a2 a3 a4 w) (PK σ) := by
    intro w hw
    unfold f_X12_growth__J32
    refine ws_isP hR (fun e τ hτ hE hf => ?_)
    have := hw e
    refine ws_c (s_fromPad n hn τ hτ.2) (fun a υ hυ => ?_)
    have hυR := RI_fr hτ hυ.1 (by decide)
    exact ws_pk hτ hυ.1 (by decide) (ws_c (s_whyGrown n hn υ hυR.2 _ a1 _ a3 _ (by omega) (by omega)) (fun b ρ hρ => ws_s (pk hυR hρ (by decide) _)))
  unfold f_X12_growth_
  repeat' (first
    | with_reducible refine ws_bo (s_isRecord (by assumption) _) (fun _ => ?_) (fun _ => ?_)
    | with_reducible refine ws_bo (s_isMark (by assumption) _) (fun _ => ?_) (fun _ => ?_)
    | with_reducible refine ws_bo (s_isIn _ _ _ _) (fun _ => ?_) (fun _ => ?_)
    | with_reducible refine ws_bo (s_isWatcher _ _) (fun _ => ?_) (fun _ => ?_)
    | with_reducible refine ws_bo (s_isThing _ _ _ _) (fun _ => ?_) (fun _ => ?_)
    | with_reducible refine ws_b (s_noSize (by assumption) _ _) (fun _ _ => ?_)
    | with_reducible refine ws_b (s_noEntry (by assumption) _ _ _) (fun _ _ => ?_)
    | with_reducible refine ws_b (s_sizeOf (by assumption) _ (by omega) (by omega)) (fun _ _ => ?_)
    | with_reducible refine ws_lt (fun _ => ?_) (fun _ => ?_)
    | with_reducible refine ws_le (fun _ => ?_) (fun _ => ?_)
    | with_reducible refine ws_ee (fun _ _ => ?_) (fun _ => ?_)
    | with_reducible refine ws_g (by decide) (by decide) ?_
    | with_reducible refine ws_g (by omega) (by omega) ?_)
  all_goals first
    | exact hJ _ (fun h => absurd h (by decide))
    | exact hJ _ (fun _ => by omega)
    | (refine hJ _ (fun h => ?_); rename_i q; have := q h; omega)
theorem s_steps (n : Nat) (hn : 70000 ≤ n) (σ : ms_T) (hR : RI σ) (a1 a2 : Int32) : ws (f_X12_steps n σ a1 a2) (PK σ) := by
  have L := lits
  have hJ : ∀ w : Int32, (w = 0 → 0 ≤ a1.toInt ∧ a1.toInt < a2.toInt) → ws (f_X12_steps_J15 n σ a1 a2 w) (PK σ) := by
    intro w hw
    unfold f_X12_steps_J15
    refine ws_isP hR (fun e τ hτ hE hf => ?_)
    have := hw e
    refine ws_b (s_inclusion n hn τ a1 a2 (by omega) (by omega)) (fun υ hυ => ?_)
    obtain ⟨w, hw, hl⟩ := hυ
    exact ws_s (pk hτ hw.1 (by decide) _)
  unfold f_X12_steps
  repeat' (first
    | with_reducible refine ws_bo (s_isRecord (by assumption) _) (fun _ => ?_) (fun _ => ?_)
    | with_reducible refine ws_bo (s_isMark (by assumption) _) (fun _ => ?_) (fun _ => ?_)
    | with_reducible refine ws_bo (s_isIn _ _ _ _) (fun _ => ?_) (fun _ => ?_)
    | with_reducible refine ws_bo (s_isWatcher _ _) (fun _ => ?_) (fun _ => ?_)
    | with_reducible refine ws_bo (s_isThing _ _ _ _) (fun _ => ?_) (fun _ => ?_)
    | with_reducible refine ws_b (s_noSize (by assumption) _ _) (fun _ _ => ?_)
    | with_reducible refine ws_b (s_noEntry (by assumption) _ _ _) (fun _ _ => ?_)
    | with_reducible refine ws_b (s_sizeOf (by assumption) _ (by omega) (by omega)) (fun _ _ => ?_)
    | with_reducible refine ws_lt (fun _ => ?_) (fun _ => ?_)
    | with_reducible refine ws_le (fun _ => ?_) (fun _ => ?_)
    | with_reducible refine ws_ee (fun _ _ => ?_) (fun _ => ?_)
    | with_reducible refine ws_g (by decide) (by decide) ?_
    | with_reducible refine ws_g (by omega) (by omega) ?_)
  all_goals first
    | exact hJ _ (fun h => absurd h (by decide))
    | exact hJ _ (fun _ => by omega)
    | (refine hJ _ (fun h => ?_); rename_i q; have := q h; omega)
theorem s_climbs (n : Nat) (hn : 70000 ≤ n) (σ : ms_T) (hR : RI σ) (a1 a2 : Int32) : ws (f_X12_climbs n σ a1 a2) (PK σ) := by
  have L := lits
  have hJ : ∀ w : Int32, (w = 0 → (0 : Int) = 0) → ws (f_X12_climbs_J15 n σ a1 a2 w) (PK σ) := by
    intro w hw
    unfold f_X12_climbs_J15
    refine ws_isP hR (fun e τ hτ hE hf => ?_)
    refine ws_b (s_growth0 n hn τ a1 a2) (fun υ hυ => ?_)
    obtain ⟨w, hw, hl⟩ := hυ
    exact ws_s (pk hτ hw.1 (by decide) _)
  unfold f_X12_climbs
  repeat' (first
    | with_reducible refine ws_bo (s_isRecord (by assumption) _) (fun _ => ?_) (fun _ => ?_)
    | with_reducible refine ws_bo (s_isMark (by assumption) _) (fun _ => ?_) (fun _ => ?_)
    | with_reducible refine ws_bo (s_isIn _ _ _ _) (fun _ => ?_) (fun _ => ?_)
    | with_reducible refine ws_bo (s_isWatcher _ _) (fun _ => ?_) (fun _ => ?_)
    | with_reducible refine ws_bo (s_isThing _ _ _ _) (fun _ => ?_) (fun _ => ?_)
    | with_reducible refine ws_b (s_noSize (by assumption) _ _) (fun _ _ => ?_)
    | with_reducible refine ws_b (s_noEntry (by assumption) _ _ _) (fun _ _ => ?_)
    | with_reducible refine ws_b (s_sizeOf (by assumption) _ (by omega) (by omega)) (fun _ _ => ?_)
    | with_reducible refine ws_lt (fun _ => ?_) (fun _ => ?_)
    | with_reducible refine ws_le (fun _ => ?_) (fun _ => ?_)
    | with_reducible refine ws_ee (fun _ _ => ?_) (fun _ => ?_)
    | with_reducible refine ws_g (by decide) (by decide) ?_
    | with_reducible refine ws_g (by omega) (by omega) ?_)
  all_goals first
    | exact hJ _ (fun h => absurd h (by decide))
    | exact hJ _ (fun _ => by omega)
    | (refine hJ _ (fun h => ?_); rename_i q; have := q h; omega)
theorem s_agree (n : Nat) (hn : 70000 ≤ n) (σ : ms_T) (hR : RI σ) (a1 a2 : Int32) : ws (f_X12_agree n σ a1 a2) (PK σ) := by
  have hJ : ∀ w : Int32, (w = 0 → 0 ≤ a1.toInt ∧ a1.toInt ≤ 3 ∧ 0 ≤ a2.toInt ∧ a2.toInt ≤ 3) → ws (f_X12_agree_J20 n σ a1 a2 w) (PK σ) := by
    intro w hw
    unfold f_X12_agree_J20
    refine ws_isP hR (fun e τ hτ hE hf => ?_)
    have := hw e
    exact ws_b (s_isAgreed n hn hτ.2 a1 a2 (by omega) (by omega) (by omega) (by omega)) (fun _ _ => ws_i (fun _ => ws_s (PKr hτ _)) (fun _ => ws_s (PKr hτ _)))
  unfold f_X12_agree
  repeat' (first
    | with_reducible refine ws_bo (s_isRecord (by assumption) _) (fun _ => ?_) (fun _ => ?_)
    | with_reducible refine ws_bo (s_isMark (by assumption) _) (fun _ => ?_) (fun _ => ?_)
    | with_reducible refine ws_bo (s_isIn _ _ _ _) (fun _ => ?_) (fun _ => ?_)
    | with_reducible refine ws_bo (s_isWatcher _ _) (fun _ => ?_) (fun _ => ?_)
    | with_reducible refine ws_bo (s_isThing _ _ _ _) (fun _ => ?_) (fun _ => ?_)
    | with_reducible refine ws_b (s_noSize (by assumption) _ _) (fun _ _ => ?_)
    | with_reducible refine ws_b (s_noEntry (by assumption) _ _ _) (fun _ _ => ?_)
    | with_reducible refine ws_b (s_sizeOf (by assumption) _ (by omega) (by omega)) (fun _ _ => ?_)
    | with_reducible refine ws_lt (fun _ => ?_) (fun _ => ?_)
    | with_reducible refine ws_le (fun _ => ?_) (fun _ => ?_)
    | with_reducible refine ws_ee (fun _ _ => ?_) (fun _ => ?_)
    | with_reducible refine ws_g (by decide) (by decide) ?_
    | with_reducible refine ws_g (by omega) (by omega) ?_)
  all_goals first
    | exact hJ _ (fun h => absurd h (by decide))
    | exact hJ _ (fun _ => by omega)
    | (refine hJ _ (fun h => ?_); rename_i q; have := q h; omega)
theorem s_where_L (n : Nat) (hn : 70000 ≤ n) {τ : ms_T} (hR : RI τ) (a1 a2 : Int32) (h0 : 0 ≤ a1.toInt) (h1 : a1.toInt ≤ 3) : ∀ (k : Nat) (x y v : Int32), 0 ≤ v.toInt → v.toInt ≤ 48 → 49 - v.toInt ≤ (k : Int) → ws (f_X12_where_L43 n k τ a1 a2 x y v) (PK τ) := by
  intro k
  induction k with
  | zero => intro x y v g0 g1 g2; omega
  | succ k ih =>
    intro x y v g0 g1 g2
    rw [f_X12_where_L43.eq_2]
    have e1 : ((48 : Int32) * a1).toInt = 48 * a1.toInt := by (try simp only [iw_add, iw_sub, iw_mul, t_m1, lt0, lt1, t_2, t_3, t_4, t_5, t_6, t_8, t_9, t_10, t_16, t_20, t_24, t_26, t_30, t_31, t_48, t_64, t_72, t_76, t_92, t_101, t_252, t_444, t_512, t_900, t_1980, t_65521, t_99999, t_mil]) <;> omega
    have e2 : ((48 : Int32) * a1 + v).toInt = 48 * a1.toInt + v.toInt := by rw [iw_add, e1]; omega
    have hJ : v.toInt < 48 → ∀ x y, ws (f_X12_where_J87 n (f_X12_where_L43 n k) τ a1 a2 x y v) (PK τ) := by
      intro hv x y
      unfold f_X12_where_J87
      exact ws_l (ih x y (v + 1) (by (try simp only [iw_add, iw_sub, iw_mul, t_m1, lt0, lt1, t_2, t_3, t_4, t_5, t_6, t_8, t_9, t_10, t_16, t_20, t_24, t_26, t_30, t_31, t_48, t_64, t_72, t_76, t_92, t_101, t_252, t_444, t_512, t_900, t_1980, t_65521, t_99999, t_mil]) <;> omega) (by (try simp only [iw_add, iw_sub, iw_mul, t_m1, lt0, lt1, t_2, t_3, t_4, t_5, t_6, t_8, t_9, t_10, t_16, t_20, t_24, t_26, t_30, t_31, t_48, t_64, t_72, t_76, t_92, t_101, t_252, t_444, t_512, t_900, t_1980, t_65521, t_99999, t_mil]) <;> omega) (by (try simp only [iw_add, iw_sub, iw_mul, t_m1, lt0, lt1, t_2, t_3, t_4, t_5, t_6, t_8, t_9, t_10, t_16, t_20, t_24, t_26, t_30, t_31, t_48, t_64, t_72, t_76, t_92, t_101, t_252, t_444, t_512, t_900, t_1980, t_65521, t_99999, t_mil]) <;> omega))
    refine ws_b (s_sizeOf hR.2 a1 h0 h1) (fun s hs => ws_le (fun _ => ws_i (fun _ => ws_s (PKr hR _)) (fun _ => ws_i (fun _ => ws_s (PKr hR _)) (fun _ => ws_rf hR))) (fun _ => ?_))
    exact ws_b (s_isTyped n hn hR _ (by omega) (by omega)) (fun _ _ => ws_i (fun _ => hJ (by omega) _ _) (fun _ => ws_l (ws_i (fun _ => hJ (by omega) _ _) (fun _ => hJ (by omega) _ _))))
theorem s_where (n : Nat) (hn : 70000 ≤ n) (σ : ms_T) (hR : RI σ) (a1 a2 : Int32) : ws (f_X12_where n σ a1 a2) (PK σ) := by
  have hC := hR.2
  have h4 := hC.1
  have hJ : ∀ w : Int32, (w = 0 → 0 ≤ a1.toInt ∧ a1.toInt ≤ 3) → ws (f_X12_where_J27 n σ a1 a2 w) (PK σ) := by
    intro w hw
    unfold f_X12_where_J27
    refine ws_isP hR (fun e τ hτ hE hf => ?_)
    have := hw e
    exact s_where_L n hn hτ a1 a2 (by omega) (by omega) n 0 (-1) 0 (by decide) (by decide) (by rw [lt0]; omega)
  unfold f_X12_where
  repeat' (first
    | with_reducible refine ws_bo (s_isRecord (by assumption) _) (fun _ => ?_) (fun _ => ?_)
    | with_reducible refine ws_bo (s_isMark (by assumption) _) (fun _ => ?_) (fun _ => ?_)
    | with_reducible refine ws_bo (s_isIn _ _ _ _) (fun _ => ?_) (fun _ => ?_)
    | with_reducible refine ws_bo (s_isWatcher _ _) (fun _ => ?_) (fun _ => ?_)
    | with_reducible refine ws_bo (s_isThing _ _ _ _) (fun _ => ?_) (fun _ => ?_)
    | with_reducible refine ws_b (s_noSize (by assumption) _ _) (fun _ _ => ?_)
    | with_reducible refine ws_b (s_noEntry (by assumption) _ _ _) (fun _ _ => ?_)
    | with_reducible refine ws_b (s_sizeOf (by assumption) _ (by omega) (by omega)) (fun _ _ => ?_)
    | with_reducible refine ws_lt (fun _ => ?_) (fun _ => ?_)
    | with_reducible refine ws_le (fun _ => ?_) (fun _ => ?_)
    | with_reducible refine ws_ee (fun _ _ => ?_) (fun _ => ?_)
    | with_reducible refine ws_g (by decide) (by decide) ?_
    | with_reducible refine ws_g (by omega) (by omega) ?_)
  all_goals first
    | exact hJ _ (fun h => absurd h (by decide))
    | exact hJ _ (fun _ => by omega)
    | (refine hJ _ (fun h => ?_); rename_i q; have := q h; omega)
theorem s_proves (n : Nat) (hn : 70000 ≤ n) (σ : ms_T) (hR : RI σ) (a1 a2 : Int32) : ws (f_X12_proves n σ a1 a2) (PK σ) := by
  have L := lits
  have hC := hR.2
  have h16 := hC.2.2.2.1
  have hJ : ∀ w : Int32, (w = 0 → 0 ≤ a1.toInt ∧ a1.toInt ≤ 15 ∧ 0 ≤ a2.toInt ∧ a2.toInt ≤ 15 ∧ ∀ r s, f_X12_froze n σ a1 1 = some r → f_X12_froze n σ a2 1 = some s → r.toInt ≤ s.toInt) → ws (f_X12_proves_J57 n σ a1 a2 w) (PK σ) := by
    intro w hw
    unfold f_X12_proves_J57
    refine ws_isP hR (fun e τ hτ hE hf => ?_)
    obtain ⟨q1, q2, q3, q4, q5⟩ := hw e
    have hfz : ∀ x y, f_X12_froze n τ x y = f_X12_froze n σ x y := by
      intro x y
      unfold f_X12_froze
      rw [hE]
    rw [← hfz, ← hfz] at q5
    refine ws_b (s_froze hτ.2 a2 0 (by omega) (by omega) (by decide) (by decide)) (fun r0 h0 => ?_)
    obtain ⟨r1, e1, h1⟩ := s_froze (n := n) hτ.2 a1 1 (by omega) (by omega) (by decide) (by decide)
    obtain ⟨r2, e2, h2⟩ := s_froze (n := n) hτ.2 a2 1 (by omega) (by omega) (by decide) (by decide)
    have q6 := q5 r1 r2 e1 e2
    refine ws_b (S := fun r => r = r1) ⟨r1, e1, rfl⟩ (fun _ g1 => ?_)
    subst g1
    refine ws_b (s_froze hτ.2 a1 2 (by omega) (by omega) (by decide) (by decide)) (fun r3 _ => ?_)
    refine ws_b (S := fun r => r = r2) ⟨r2, e2, rfl⟩ (fun _ g2 => ?_)
    subst g2
    refine ws_b (s_froze hτ.2 a2 2 (by omega) (by omega) (by decide) (by decide)) (fun r4 _ => ?_)
    have k0 := h0.1 rfl
    have k1 := h1.2 rfl
    have k2 := h2.2 rfl
    exact ws_c (s_whyByRecord n hn τ hτ.2 r0 _ r3 _ r4 (by omega) (by omega) (by omega) (by omega) (by omega)) (fun b ρ hρ => ws_s (pk hτ hρ (by decide) _))
  unfold f_X12_proves
  rw [c3]
  refine ws_lt (fun _ => hJ _ (fun h => absurd h (by decide))) (fun _ => ws_le (fun _ => ws_g (by decide) (by decide) (ws_le (fun _ => hJ _ (fun h => absurd h (by decide))) (fun _ => ws_g (by decide) (by decide) (ws_lt (fun _ => ?_) (fun _ => hJ _ (fun h => absurd h (by decide))))))) (fun _ => hJ _ (fun h => absurd h (by decide))))
  obtain ⟨r1, e1, h1⟩ := s_froze (n := n) hC a1 1 (by omega) (by omega) (by decide) (by decide)
  obtain ⟨r2, e2, h2⟩ := s_froze (n := n) hC a2 1 (by omega) (by omega) (by decide) (by decide)
  refine ws_b (S := fun r => r = r1) ⟨r1, e1, rfl⟩ (fun _ g1 => ?_)
  subst g1
  refine ws_b (S := fun r => r = r2) ⟨r2, e2, rfl⟩ (fun _ g2 => ?_)
  subst g2
  refine ws_le (fun c => hJ _ (fun _ => ⟨by omega, by omega, by omega, by omega, fun r s hr hs => ?_⟩)) (fun _ => hJ _ (fun h => absurd h (by decide)))
  rw [e1] at hr
  rw [e2] at hs
  cases hr
  cases hs
  exact c
theorem s_longest_L (n : Nat) (hn : 70000 ≤ n) (a1 a2 : Int32) (h1 : a1.toInt ≤ 512) : ∀ (k : Nat) (τ : ms_T) (x y z v : Int32), RI τ → 0 ≤ v.toInt → v.toInt ≤ 512 → 513 - v.toInt ≤ (k : Int) → ws (f_X12_longest_L45 n k τ a1 a2 x y z v) (PK τ) := by
  intro k
  induction k with
  | zero => intro τ x y z v hR g0 g1 g2; omega
  | succ k ih =>
    intro τ x y z v hR g0 g1 g2
    rw [f_X12_longest_L45.eq_2]
    have hJ : v.toInt < 512 → ∀ ρ x y z, RI ρ → ws (f_X12_longest_J82 n (f_X12_longest_L45 n k) ρ a1 a2 x y v z) (PK ρ) := by
      intro hv ρ x y z hρ
      unfold f_X12_longest_J82 f_X12_longest_J100
      refine ws_i (fun _ => ws_l ?_) (fun _ => ws_l ?_)
      · exact ih _ _ _ _ (v + 1) hρ (by (try simp only [iw_add, iw_sub, iw_mul, t_m1, lt0, lt1, t_2, t_3, t_4, t_5, t_6, t_8, t_9, t_10, t_16, t_20, t_24, t_26, t_30, t_31, t_48, t_64, t_72, t_76, t_92, t_101, t_252, t_444, t_512, t_900, t_1980, t_65521, t_99999, t_mil]) <;> omega) (by (try simp only [iw_add, iw_sub, iw_mul, t_m1, lt0, lt1, t_2, t_3, t_4, t_5, t_6, t_8, t_9, t_10, t_16, t_20, t_24, t_26, t_30, t_31, t_48, t_64, t_72, t_76, t_92, t_101, t_252, t_444, t_512, t_900, t_1980, t_65521, t_99999, t_mil]) <;> omega) (by (try simp only [iw_add, iw_sub, iw_mul, t_m1, lt0, lt1, t_2, t_3, t_4, t_5, t_6, t_8, t_9, t_10, t_16, t_20, t_24, t_26, t_30, t_31, t_48, t_64, t_72, t_76, t_92, t_101, t_252, t_444, t_512, t_900, t_1980, t_65521, t_99999, t_mil]) <;> omega)
      · exact ih _ _ _ _ (v + 1) hρ (by (try simp only [iw_add, iw_sub, iw_mul, t_m1, lt0, lt1, t_2, t_3, t_4, t_5, t_6, t_8, t_9, t_10, t_16, t_20, t_24, t_26, t_30, t_31, t_48, t_64, t_72, t_76, t_92, t_101, t_252, t_444, t_512, t_900, t_1980, t_65521, t_99999, t_mil]) <;> omega) (by (try simp only [iw_add, iw_sub, iw_mul, t_m1, lt0, lt1, t_2, t_3, t_4, t_5, t_6, t_8, t_9, t_10, t_16, t_20, t_24, t_26, t_30, t_31, t_48, t_64, t_72, t_76, t_92, t_101, t_252, t_444, t_512, t_900, t_1980, t_65521, t_99999, t_mil]) <;> omega) (by (try simp only [iw_add, iw_sub, iw_mul, t_m1, lt0, lt1, t_2, t_3, t_4, t_5, t_6, t_8, t_9, t_10, t_16, t_20, t_24, t_26, t_30, t_31, t_48, t_64, t_72, t_76, t_92, t_101, t_252, t_444, t_512, t_900, t_1980, t_65521, t_99999, t_mil]) <;> omega)
    refine ws_le (fun _ => ws_i (fun _ => ws_s (PKr hR _)) (fun _ => ws_i (fun _ => ws_s (PKr hR _)) (fun _ => ws_s (PKr hR _)))) (fun _ => ?_)
    refine ws_b (s_inclusion n hn τ v a1 (by omega) (by omega)) (fun υ hυ => ?_)
    obtain ⟨w, hw, hl⟩ := hυ
    have hυR := RI_fr hR hw.1 (by decide)
    exact ws_pk hR hw.1 (by decide) (ws_l (ws_i (fun _ => hJ (by omega) _ _ _ _ hυR) (fun _ => hJ (by omega) _ _ _ _ hυR)))
theorem s_longest (n : Nat) (hn : 70000 ≤ n) (σ : ms_T) (hR : RI σ) (a1 a2 : Int32) : ws (f_X12_longest n σ a1 a2) (PK σ) := by
  have L := lits
  have hJ : ∀ w : Int32, (w = 0 → a1.toInt ≤ 512) → ws (f_X12_longest_J26 n σ a1 a2 w) (PK σ) := by
    intro w hw
    unfold f_X12_longest_J26
    refine ws_isP hR (fun e τ hτ hE hf => ?_)
    exact s_longest_L n hn a1 a2 (hw e) n τ _ _ _ 0 hτ (by decide) (by decide) (by rw [lt0]; omega)
  unfold f_X12_longest
  repeat' (first
    | with_reducible refine ws_bo (s_isRecord (by assumption) _) (fun _ => ?_) (fun _ => ?_)
    | with_reducible refine ws_bo (s_isMark (by assumption) _) (fun _ => ?_) (fun _ => ?_)
    | with_reducible refine ws_bo (s_isIn _ _ _ _) (fun _ => ?_) (fun _ => ?_)
    | with_reducible refine ws_bo (s_isWatcher _ _) (fun _ => ?_) (fun _ => ?_)
    | with_reducible refine ws_bo (s_isThing _ _ _ _) (fun _ => ?_) (fun _ => ?_)
    | with_reducible refine ws_b (s_noSize (by assumption) _ _) (fun _ _ => ?_)
    | with_reducible refine ws_b (s_noEntry (by assumption) _ _ _) (fun _ _ => ?_)
    | with_reducible refine ws_b (s_sizeOf (by assumption) _ (by omega) (by omega)) (fun _ _ => ?_)
    | with_reducible refine ws_lt (fun _ => ?_) (fun _ => ?_)
    | with_reducible refine ws_le (fun _ => ?_) (fun _ => ?_)
    | with_reducible refine ws_ee (fun _ _ => ?_) (fun _ => ?_)
    | with_reducible refine ws_g (by decide) (by decide) ?_
    | with_reducible refine ws_g (by omega) (by omega) ?_)
  all_goals first
    | exact hJ _ (fun h => absurd h (by decide))
    | exact hJ _ (fun _ => by omega)
    | (refine hJ _ (fun h => ?_); rename_i q; have := q h; omega)
theorem s_wayAt (n : Nat) {σ : ms_T} (hR : RI σ) {w : Nat} (hw : (ms_I σ 657).toInt = (w : Int)) (hl : w ≤ 128) (a1 a2 : Int32) (h0 : 0 ≤ a1.toInt) : ws (f_X12_wayAt n σ a1 a2) (PK σ) := by
  unfold f_X12_wayAt
  exact ws_lt (fun _ => ws_i (fun _ => ws_g h0 (by omega) (ws_s (PKr hR _))) (fun _ => ws_g h0 (by omega) (ws_s (PKr hR _)))) (fun _ => ws_rf hR)
theorem s_span (n : Nat) (hn : 70000 ≤ n) (σ : ms_T) (hR : RI σ) (a1 a2 a3 a4 : Int32) : ws (f_X12_span n σ a1 a2 a3 a4) (PK σ) := by
  have L := lits
  have hJ : ∀ w : Int32, (w = 0 → 0 ≤ a1.toInt ∧ a1.toInt < a2.toInt ∧ 0 ≤ a3.toInt) → ws (f_X12_span_J29 n σ a1 a2 a3 a4 w) (PK σ) := by
    intro w hw
    unfold f_X12_span_J29
    refine ws_isP hR (fun e τ hτ hE hf => ?_)
    have := hw e
    refine ws_b (s_inclusion n hn τ a1 a2 (by omega) (by omega)) (fun υ hυ => ?_)
    obtain ⟨w, hw, hl⟩ := hυ
    exact ws_pk hτ hw.1 (by decide) (ws_c (s_wayAt n (RI_fr hτ hw.1 (by decide)) hw.2.1 (by omega) a3 a4 (by omega)) (fun a ρ hρ => ws_s hρ))
  unfold f_X12_span
  repeat' (first
    | with_reducible refine ws_bo (s_isRecord (by assumption) _) (fun _ => ?_) (fun _ => ?_)
    | with_reducible refine ws_bo (s_isMark (by assumption) _) (fun _ => ?_) (fun _ => ?_)
    | with_reducible refine ws_bo (s_isIn _ _ _ _) (fun _ => ?_) (fun _ => ?_)
    | with_reducible refine ws_bo (s_isWatcher _ _) (fun _ => ?_) (fun _ => ?_)
    | with_reducible refine ws_bo (s_isThing _ _ _ _) (fun _ => ?_) (fun _ => ?_)
    | with_reducible refine ws_b (s_noSize (by assumption) _ _) (fun _ _ => ?_)
    | with_reducible refine ws_b (s_noEntry (by assumption) _ _ _) (fun _ _ => ?_)
    | with_reducible refine ws_b (s_sizeOf (by assumption) _ (by omega) (by omega)) (fun _ _ => ?_)
    | with_reducible refine ws_lt (fun _ => ?_) (fun _ => ?_)
    | with_reducible refine ws_le (fun _ => ?_) (fun _ => ?_)
    | with_reducible refine ws_ee (fun _ _ => ?_) (fun _ => ?_)
    | with_reducible refine ws_g (by decide) (by decide) ?_
    | with_reducible refine ws_g (by omega) (by omega) ?_)
  all_goals first
    | exact hJ _ (fun h => absurd h (by decide))
    | exact hJ _ (fun _ => by omega)
    | (refine hJ _ (fun h => ?_); rename_i q; have := q h; omega)
theorem s_rise (n : Nat) (hn : 70000 ≤ n) (σ : ms_T) (hR : RI σ) (a1 a2 a3 a4 : Int32) : ws (f_X12_rise n σ a1 a2 a3 a4) (PK σ) := by
  have L := lits
  have hJ : ∀ w : Int32, (w = 0 → 0 ≤ a3.toInt) → ws (f_X12_rise_J29 n σ a1 a2 a3 a4 w) (PK σ) := by
    intro w hw
    unfold f_X12_rise_J29
    refine ws_isP hR (fun e τ hτ hE hf => ?_)
    have := hw e
    refine ws_b (s_growth0 n hn τ a1 a2) (fun υ hυ => ?_)
    obtain ⟨w, hw, hl⟩ := hυ
    exact ws_pk hτ hw.1 (by decide) (ws_c (s_wayAt n (RI_fr hτ hw.1 (by decide)) hw.2.1 (by omega) a3 a4 (by omega)) (fun a ρ hρ => ws_s hρ))
  unfold f_X12_rise
  repeat' (first
    | with_reducible refine ws_bo (s_isRecord (by assumption) _) (fun _ => ?_) (fun _ => ?_)
    | with_reducible refine ws_bo (s_isMark (by assumption) _) (fun _ => ?_) (fun _ => ?_)
    | with_reducible refine ws_bo (s_isIn _ _ _ _) (fun _ => ?_) (fun _ => ?_)
    | with_reducible refine ws_bo (s_isWatcher _ _) (fun _ => ?_) (fun _ => ?_)
    | with_reducible refine ws_bo (s_isThing _ _ _ _) (fun _ => ?_) (fun _ => ?_)
    | with_reducible refine ws_b (s_noSize (by assumption) _ _) (fun _ _ => ?_)
    | with_reducible refine ws_b (s_noEntry (by assumption) _ _ _) (fun _ _ => ?_)
    | with_reducible refine ws_b (s_sizeOf (by assumption) _ (by omega) (by omega)) (fun _ _ => ?_)
    | with_reducible refine ws_lt (fun _ => ?_) (fun _ => ?_)
    | with_reducible refine ws_le (fun _ => ?_) (fun _ => ?_)
    | with_reducible refine ws_ee (fun _ _ => ?_) (fun _ => ?_)
    | with_reducible refine ws_g (by decide) (by decide) ?_
    | with_reducible refine ws_g (by omega) (by omega) ?_)
  all_goals first
    | exact hJ _ (fun h => absurd h (by decide))
    | exact hJ _ (fun _ => by omega)
    | (refine hJ _ (fun h => ?_); rename_i q; have := q h; omega)
theorem s_trusted_L (n : Nat) {τ : ms_T} (hR : RI τ) (a1 a2 : Int32) : ∀ (k : Nat) (x v : Int32), 0 ≤ v.toInt → v.toInt ≤ 4 → 5 - v.toInt ≤ (k : Int) → ws (f_X12_trusted_L31 n k τ a1 a2 x v) (PK τ) := by
  intro k
  induction k with
  | zero => intro x v g0 g1 g2; omega
  | succ k ih =>
    intro x v g0 g1 g2
    have L := lits
    rw [f_X12_trusted_L31.eq_2]
    have hJ : v.toInt < 4 → ∀ x y, ws (f_X12_trusted_J65 n (f_X12_trusted_L31 n k) τ a1 a2 v x y) (PK τ) := by
      intro hv x y
      unfold f_X12_trusted_J65
      exact ws_l (ws_l (ih _ (v + 1) (by (try simp only [iw_add, iw_sub, iw_mul, t_m1, lt0, lt1, t_2, t_3, t_4, t_5, t_6, t_8, t_9, t_10, t_16, t_20, t_24, t_26, t_30, t_31, t_48, t_64, t_72, t_76, t_92, t_101, t_252, t_444, t_512, t_900, t_1980, t_65521, t_99999, t_mil]) <;> omega) (by (try simp only [iw_add, iw_sub, iw_mul, t_m1, lt0, lt1, t_2, t_3, t_4, t_5, t_6, t_8, t_9, t_10, t_16, t_20, t_24, t_26, t_30, t_31, t_48, t_64, t_72, t_76, t_92, t_101, t_252, t_444, t_512, t_900, t_1980, t_65521, t_99999, t_mil]) <;> omega) (by (try simp only [iw_add, iw_sub, iw_mul, t_m1, lt0, lt1, t_2, t_3, t_4, t_5, t_6, t_8, t_9, t_10, t_16, t_20, t_24, t_26, t_30, t_31, t_48, t_64, t_72, t_76, t_92, t_101, t_252, t_444, t_512, t_900, t_1980, t_65521, t_99999, t_mil]) <;> omega)))
    exact ws_le (fun _ => ws_s (PKr hR _)) (fun _ => ws_b (s_trust hR.2 v 0 g0 (by omega) (by decide) (by decide)) (fun _ _ => ws_i (fun _ => ws_b (s_trust hR.2 v 1 g0 (by omega) (by decide) (by decide)) (fun _ _ => ws_i (fun _ => hJ (by omega) _ _) (fun _ => hJ (by omega) _ _))) (fun _ => hJ (by omega) _ _)))
theorem s_trusted (n : Nat) (hn : 70000 ≤ n) (σ : ms_T) (hR : RI σ) (a1 a2 : Int32) : ws (f_X12_trusted n σ a1 a2) (PK σ) := by
  have hC := hR.2
  have hJ : ∀ w : Int32, (w = 0 → (0 : Int) = 0) → ws (f_X12_trusted_J18 n σ a1 a2 w) (PK σ) := by
    intro w hw
    unfold f_X12_trusted_J18
    exact ws_isP hR (fun e τ hτ hE hf => s_trusted_L n hτ a1 a2 n 0 0 (by decide) (by decide) (by rw [lt0]; omega))
  unfold f_X12_trusted
  repeat' (first
    | with_reducible refine ws_bo (s_isRecord (by assumption) _) (fun _ => ?_) (fun _ => ?_)
    | with_reducible refine ws_bo (s_isMark (by assumption) _) (fun _ => ?_) (fun _ => ?_)
    | with_reducible refine ws_bo (s_isIn _ _ _ _) (fun _ => ?_) (fun _ => ?_)
    | with_reducible refine ws_bo (s_isWatcher _ _) (fun _ => ?_) (fun _ => ?_)
    | with_reducible refine ws_bo (s_isThing _ _ _ _) (fun _ => ?_) (fun _ => ?_)
    | with_reducible refine ws_b (s_noSize (by assumption) _ _) (fun _ _ => ?_)
    | with_reducible refine ws_b (s_noEntry (by assumption) _ _ _) (fun _ _ => ?_)
    | with_reducible refine ws_b (s_sizeOf (by assumption) _ (by omega) (by omega)) (fun _ _ => ?_)
    | with_reducible refine ws_lt (fun _ => ?_) (fun _ => ?_)
    | with_reducible refine ws_le (fun _ => ?_) (fun _ => ?_)
    | with_reducible refine ws_ee (fun _ _ => ?_) (fun _ => ?_)
    | with_reducible refine ws_g (by decide) (by decide) ?_
    | with_reducible refine ws_g (by omega) (by omega) ?_)
  all_goals first
    | exact hJ _ (fun h => absurd h (by decide))
    | exact hJ _ (fun _ => by omega)
    | (refine hJ _ (fun h => ?_); rename_i q; have := q h; omega)
theorem s_who_L (n : Nat) (hn : 70000 ≤ n) {τ : ms_T} (hR : RI τ) (a1 a2 : Int32) (h1 : 0 ≤ a1.toInt) : ∀ (k : Nat) (x v : Int32), 0 ≤ v.toInt → v.toInt ≤ 4 → 5 - v.toInt ≤ (k : Int) → ws (f_X12_who_L31 n k τ a1 a2 x v) (PK τ) := by
  intro k
  induction k with
  | zero => intro x v g0 g1 g2; omega
  | succ k ih =>
    intro x v g0 g1 g2
    have L := lits
    have h4 := hR.2.1
    rw [f_X12_who_L31.eq_2, c0]
    have hJ : v.toInt < 4 → ∀ x y, ws (f_X12_who_J62 n (f_X12_who_L31 n k) τ a1 a2 v x y) (PK τ) := by
      intro hv x y
      unfold f_X12_who_J62
      exact ws_l (ws_l (ih _ (v + 1) (by (try simp only [iw_add, iw_sub, iw_mul, t_m1, lt0, lt1, t_2, t_3, t_4, t_5, t_6, t_8, t_9, t_10, t_16, t_20, t_24, t_26, t_30, t_31, t_48, t_64, t_72, t_76, t_92, t_101, t_252, t_444, t_512, t_900, t_1980, t_65521, t_99999, t_mil]) <;> omega) (by (try simp only [iw_add, iw_sub, iw_mul, t_m1, lt0, lt1, t_2, t_3, t_4, t_5, t_6, t_8, t_9, t_10, t_16, t_20, t_24, t_26, t_30, t_31, t_48, t_64, t_72, t_76, t_92, t_101, t_252, t_444, t_512, t_900, t_1980, t_65521, t_99999, t_mil]) <;> omega) (by (try simp only [iw_add, iw_sub, iw_mul, t_m1, lt0, lt1, t_2, t_3, t_4, t_5, t_6, t_8, t_9, t_10, t_16, t_20, t_24, t_26, t_30, t_31, t_48, t_64, t_72, t_76, t_92, t_101, t_252, t_444, t_512, t_900, t_1980, t_65521, t_99999, t_mil]) <;> omega)))
    exact ws_g (by decide) (by decide) (ws_le (fun _ => ws_s (PKr hR _)) (fun _ => ws_b (s_isHead n hn hR.2 v a1 a2 g0 (by omega) h1) (fun _ _ => ws_i (fun _ => hJ (by omega) _ _) (fun _ => hJ (by omega) _ _))))
theorem s_who (n : Nat) (hn : 70000 ≤ n) (σ : ms_T) (hR : RI σ) (a1 a2 : Int32) : ws (f_X12_who n σ a1 a2) (PK σ) := by
  have L := lits
  have hC := hR.2
  have hJ : ∀ w : Int32, (w = 0 → 0 ≤ a1.toInt) → ws (f_X12_who_J18 n σ a1 a2 w) (PK σ) := by
    intro w hw
    unfold f_X12_who_J18
    exact ws_isP hR (fun e τ hτ hE hf => s_who_L n hn hτ a1 a2 (hw e) n 0 0 (by decide) (by decide) (by rw [lt0]; omega))
  unfold f_X12_who
  repeat' (first
    | with_reducible refine ws_bo (s_isRecord (by assumption) _) (fun _ => ?_) (fun _ => ?_)
    | with_reducible refine ws_bo (s_isMark (by assumption) _) (fun _ => ?_) (fun _ => ?_)
    | with_reducible refine ws_bo (s_isIn _ _ _ _) (fun _ => ?_) (fun _ => ?_)
    | with_reducible refine ws_bo (s_isWatcher _ _) (fun _ => ?_) (fun _ => ?_)
    | with_reducible refine ws_bo (s_isThing _ _ _ _) (fun _ => ?_) (fun _ => ?_)
    | with_reducible refine ws_b (s_noSize (by assumption) _ _) (fun _ _ => ?_)
    | with_reducible refine ws_b (s_noEntry (by assumption) _ _ _) (fun _ _ => ?_)
    | with_reducible refine ws_b (s_sizeOf (by assumption) _ (by omega) (by omega)) (fun _ _ => ?_)
    | with_reducible refine ws_lt (fun _ => ?_) (fun _ => ?_)
    | with_reducible refine ws_le (fun _ => ?_) (fun _ => ?_)
    | with_reducible refine ws_ee (fun _ _ => ?_) (fun _ => ?_)
    | with_reducible refine ws_g (by decide) (by decide) ?_
    | with_reducible refine ws_g (by omega) (by omega) ?_)
  all_goals first
    | exact hJ _ (fun h => absurd h (by decide))
    | exact hJ _ (fun _ => by omega)
    | (refine hJ _ (fun h => ?_); rename_i q; have := q h; omega)
end JN7_15
section JN7_16
/-! ===== bundles, bits, trees, loops over what was frozen ===== -/
theorem and1 (x : Int32) : x &&& 1 = 0 ∨ x &&& 1 = 1 := by
  have h : (x &&& 1).toBitVec.toNat = x.toBitVec.toNat % 2 := by
    show (x.toBitVec &&& (1#32)).toNat = _
    rw [BitVec.toNat_and]; exact Nat.and_one_is_mod _
  have h2 := Nat.mod_lt x.toBitVec.toNat (show 2 > 0 by decide)
  rcases (show x.toBitVec.toNat % 2 = 0 ∨ x.toBitVec.toNat % 2 = 1 by omega) with e | e
  · left
    have q : (x &&& 1).toBitVec = (0 : Int32).toBitVec := BitVec.eq_of_toNat_eq (by rw [h, e]; rfl)
    exact Int32.toInt_inj.mp (congrArg BitVec.toInt q)
  · right
    have q : (x &&& 1).toBitVec = (1 : Int32).toBitVec := BitVec.eq_of_toNat_eq (by rw [h, e]; rfl)
    exact Int32.toInt_inj.mp (congrArg BitVec.toInt q)
theorem and63 (x : Int32) : 0 ≤ (x &&& 63).toInt ∧ (x &&& 63).toInt ≤ 63 := by
  have h : (x &&& 63).toBitVec.toNat ≤ 63 := by
    show (x.toBitVec &&& (63#32)).toNat ≤ _
    rw [BitVec.toNat_and]; exact Nat.and_le_right
  have e : (x &&& 63).toInt = (x &&& 63).toBitVec.toInt := rfl
  rw [e, BitVec.toInt_eq_toNat_cond]
  split <;> omega
theorem s_bitCount (n : Nat) (a : Int32) : ws (f_J6_bitCount_0f7a4 n a) (fun r => 0 ≤ r.toInt ∧ r.toInt ≤ 63) := by
  unfold f_J6_bitCount_0f7a4
  exact ws_l (ws_l (ws_l (ws_l (ws_l (ws_s (and63 _))))))
theorem s_bundleOfZ (n : Nat) (hn : 70000 ≤ n) (σ : ms_T) (s m : Int32) (h0 : 0 ≤ m.toInt) (h1 : m.toInt ≤ 48) : ws (f_X12_bundleOf n σ s m) (fun τ => ∃ w, wy 48 σ τ w ∧ w ≤ 58) := by
  by_cases hm : 1 ≤ m.toInt
  · refine ws_m (s_bundleOf n hn σ s m hm) (fun τ hτ => ?_)
    obtain ⟨w, hw, hl⟩ := hτ
    exact ⟨w, ⟨hw.1, hw.2.1, fun q hq => by have := hw.2.2 q hq; omega⟩, hl⟩
  · unfold f_X12_bundleOf
    refine ws_l ?_
    have h : ws (f_X12_bundlesIn n 40 (ms_sI σ 657 0) s 0 m) (fun τ => wy 48 σ τ 1) := by
      rw [f_X12_bundlesIn.eq_2]
      refine ws_b (s_hasAny n hn s 0 m) (fun r hr => ws_i (fun _ => ?_) (fun g => absurd (hr.2.2 rfl (by omega)) g))
      exact ws_b (s_asks n wy_0 (by omega) 0 m (by decide) h0 (by rw [lt0]; omega)) (fun υ hυ => ws_s hυ)
    exact ws_b h (fun υ hυ => ws_s ⟨1, hυ, by omega⟩)
theorem s_isBeyond_L (n : Nat) (s m : Int32) : ∀ (k : Nat) (v : Int32), 0 ≤ v.toInt → v.toInt ≤ 31 → 32 - v.toInt ≤ (k : Int) → ws (f_X12_isBeyond_L2 n k s m v) (fun r => r = 0 → ∀ u : Int32, v.toInt ≤ u.toInt → u.toInt < 31 → ((s >>> (u &&& 31)) &&& 1) = 1 → u.toInt < m.toInt) := by
  intro k
  induction k with
  | zero => intro v g0 g1 g2; omega
  | succ k ih =>
    intro v g0 g1 g2
    have L := lits
    rw [f_X12_isBeyond_L2.eq_2]
    have hJ : v.toInt < 31 → (((s >>> (v &&& 31)) &&& 1) = 1 → v.toInt < m.toInt) → ws (f_X12_isBeyond_J30 n (f_X12_isBeyond_L2 n k) s m v) (fun r => r = 0 → ∀ u : Int32, v.toInt ≤ u.toInt → u.toInt < 31 → ((s >>> (u &&& 31)) &&& 1) = 1 → u.toInt < m.toInt) := by
      intro hv hb
      unfold f_X12_isBeyond_J30
      have e1 : (v + 1).toInt = v.toInt + 1 := by (try simp only [iw_add, iw_sub, iw_mul, t_m1, lt0, lt1, t_2, t_3, t_4, t_5, t_6, t_8, t_9, t_10, t_16, t_20, t_24, t_26, t_30, t_31, t_48, t_64, t_72, t_76, t_92, t_101, t_252, t_444, t_512, t_900, t_1980, t_65521, t_99999, t_mil]) <;> omega
      refine ws_l (ws_m (ih (v + 1) (by omega) (by omega) (by omega)) (fun r hr e u h1 h2 h3 => ?_))
      by_cases hu : u.toInt = v.toInt
      · rw [Int32.toInt_inj.mp hu] at h3 ⊢
        exact hb h3
      · exact hr e u (by omega) h2 h3
    refine ws_le (fun _ => ws_s (fun _ u h1 h2 => by omega)) (fun _ => ws_i (fun b => ws_le (fun _ => ws_s (fun h => absurd h (by decide))) (fun c => ws_lt (fun _ => hJ (by omega) (fun _ => c)) (fun _ => ws_s (fun h => absurd h (by decide))))) (fun b => hJ (by omega) (fun h => absurd h b)))
theorem s_isBeyond (n : Nat) (hn : 70000 ≤ n) (s m : Int32) : ws (f_X12_isBeyond n s m) (fun r => r = 0 → ∀ u : Int32, 0 ≤ u.toInt → u.toInt < 31 → ((s >>> (u &&& 31)) &&& 1) = 1 → u.toInt < m.toInt) := by
  unfold f_X12_isBeyond
  exact s_isBeyond_L n s m n 0 (by decide) (by decide) (by rw [lt0]; omega)
theorem s_bundle (n : Nat) (hn : 70000 ≤ n) (σ : ms_T) (hR : RI σ) (a1 a2 a3 : Int32) : ws (f_X12_bundle n σ a1 a2 a3) (PK σ) := by
  have L := lits
  have hC := hR.2
  have hJ : ∀ w : Int32, (w = 0 → 0 ≤ a1.toInt ∧ a1.toInt ≤ 3 ∧ 0 ≤ a3.toInt ∧ a3.toInt ≤ 48) → ws (f_X12_bundle_J19 n σ a1 a2 a3 w) (PK σ) := by
    intro w hw
    unfold f_X12_bundle_J19
    refine ws_isP hR (fun e τ hτ hE hf => ?_)
    have := hw e
    refine ws_b (s_isBeyond n hn a2 a3) (fun _ _ => ws_i (fun _ => ws_b (s_bundleOfZ n hn τ a2 a3 (by omega) (by omega)) (fun υ hυ => ?_)) (fun _ => ws_rf hτ))
    obtain ⟨w, hw, hl⟩ := hυ
    exact ws_pk hτ hw.1 (by decide) (ws_c (s_pads n hn (RI_fr hτ hw.1 (by decide)) hw (by omega) (by omega) a1 (by omega) (by omega)) (fun a ρ hρ => ws_s hρ))
  unfold f_X12_bundle
  repeat' (first
    | with_reducible refine ws_bo (s_isRecord (by assumption) _) (fun _ => ?_) (fun _ => ?_)
    | with_reducible refine ws_bo (s_isMark (by assumption) _) (fun _ => ?_) (fun _ => ?_)
    | with_reducible refine ws_bo (s_isIn _ _ _ _) (fun _ => ?_) (fun _ => ?_)
    | with_reducible refine ws_bo (s_isWatcher _ _) (fun _ => ?_) (fun _ => ?_)
    | with_reducible refine ws_bo (s_isThing _ _ _ _) (fun _ => ?_) (fun _ => ?_)
    | with_reducible refine ws_b (s_noSize (by assumption) _ _) (fun _ _ => ?_)
    | with_reducible refine ws_b (s_noEntry (by assumption) _ _ _) (fun _ _ => ?_)
    | with_reducible refine ws_b (s_sizeOf (by assumption) _ (by omega) (by omega)) (fun _ _ => ?_)
    | with_reducible refine ws_lt (fun _ => ?_) (fun _ => ?_)
    | with_reducible refine ws_le (fun _ => ?_) (fun _ => ?_)
    | with_reducible refine ws_ee (fun _ _ => ?_) (fun _ => ?_)
    | with_reducible refine ws_g (by decide) (by decide) ?_
    | with_reducible refine ws_g (by omega) (by omega) ?_)
  all_goals first
    | exact hJ _ (fun h => absurd h (by decide))
    | exact hJ _ (fun _ => by omega)
    | (refine hJ _ (fun h => ?_); rename_i q; have := q h; omega)
theorem s_saves_L (n : Nat) (hn : 70000 ≤ n) (a1 a2 : Int32) (hb : ∀ u : Int32, 0 ≤ u.toInt → u.toInt < 31 → ((a1 >>> (u &&& 31)) &&& 1) = 1 → u.toInt < a2.toInt) : ∀ (k : Nat) (τ : ms_T) (x v : Int32), RI τ → 0 ≤ v.toInt → v.toInt ≤ 30 → 31 - v.toInt ≤ (k : Int) → ws (f_X12_saves_L31 n k τ a1 a2 x v) (PK τ) := by
  intro k
  induction k with
  | zero => intro τ x v hR g0 g1 g2; omega
  | succ k ih =>
    intro τ x v hR g0 g1 g2
    have L := lits
    rw [f_X12_saves_L31.eq_2]
    have hJ : v.toInt < 30 → ∀ ρ x, RI ρ → ws (f_X12_saves_J64 n (f_X12_saves_L31 n k) ρ a1 a2 x v) (PK ρ) := by
      intro hv ρ x hρ
      unfold f_X12_saves_J64
      exact ws_l (ih _ _ (v + 1) hρ (by (try simp only [iw_add, iw_sub, iw_mul, t_m1, lt0, lt1, t_2, t_3, t_4, t_5, t_6, t_8, t_9, t_10, t_16, t_20, t_24, t_26, t_30, t_31, t_48, t_64, t_72, t_76, t_92, t_101, t_252, t_444, t_512, t_900, t_1980, t_65521, t_99999, t_mil]) <;> omega) (by (try simp only [iw_add, iw_sub, iw_mul, t_m1, lt0, lt1, t_2, t_3, t_4, t_5, t_6, t_8, t_9, t_10, t_16, t_20, t_24, t_26, t_30, t_31, t_48, t_64, t_72, t_76, t_92, t_101, t_252, t_444, t_512, t_900, t_1980, t_65521, t_99999, t_mil]) <;> omega) (by (try simp only [iw_add, iw_sub, iw_mul, t_m1, lt0, lt1, t_2, t_3, t_4, t_5, t_6, t_8, t_9, t_10, t_16, t_20, t_24, t_26, t_30, t_31, t_48, t_64, t_72, t_76, t_92, t_101, t_252, t_444, t_512, t_900, t_1980, t_65521, t_99999, t_mil]) <;> omega))
    refine ws_le (fun _ => ?_) (fun _ => ws_i (fun _ => hJ (by omega) _ _ hR) (fun b => ?_))
    · by_cases hm : 1 ≤ a2.toInt
      · refine ws_b (s_bundleOf n hn τ a1 a2 hm) (fun υ hυ => ?_)
        obtain ⟨w, hw, hl⟩ := hυ
        exact ws_s (pk hR hw.1 (by decide) _)
      · exact ws_b (s_bundleOf0 n hn τ a1 a2 (by omega)) (fun υ hυ => ws_s (pk hR hυ.1 (by decide) _))
    · have hv := hb v g0 (by omega) ((and1 _).resolve_left b)
      refine ws_b (s_inclusion n hn τ v a2 g0 hv) (fun υ hυ => ?_)
      obtain ⟨w, hw, hl⟩ := hυ
      exact ws_pk hR hw.1 (by decide) (ws_l (hJ (by omega) _ _ (RI_fr hR hw.1 (by decide))))
theorem s_saves (n : Nat) (hn : 70000 ≤ n) (σ : ms_T) (hR : RI σ) (a1 a2 : Int32) : ws (f_X12_saves n σ a1 a2) (PK σ) := by
  have hJ : ∀ w : Int32, (w = 0 → ∀ u : Int32, 0 ≤ u.toInt → u.toInt < 31 → ((a1 >>> (u &&& 31)) &&& 1) = 1 → u.toInt < a2.toInt) → ws (f_X12_saves_J18 n σ a1 a2 w) (PK σ) := by
    intro w hw
    unfold f_X12_saves_J18
    exact ws_isP hR (fun e τ hτ hE hf => s_saves_L n hn a1 a2 (hw e) n τ 0 0 hτ (by decide) (by decide) (by rw [lt0]; omega))
  unfold f_X12_saves
  exact ws_i (fun _ => hJ _ (fun h => absurd h (by decide))) (fun _ => ws_b (s_isBeyond n hn a1 a2) (fun r hr => ws_i (fun e => hJ _ (fun _ => hr e)) (fun _ => hJ _ (fun h => absurd h (by decide)))))
theorem s_split_L (n : Nat) (hn : 70000 ≤ n) {τ : ms_T} (hR : RI τ) (a1 : Int32) : ∀ (k : Nat) (x y v : Int32), 0 ≤ v.toInt → v.toInt ≤ 4 → 5 - v.toInt ≤ (k : Int) → ws (f_X12_split_L30 n k τ a1 x y v) (PK τ) := by
  intro k
  induction k with
  | zero => intro x y v g0 g1 g2; omega
  | succ k ih =>
    intro x y v g0 g1 g2
    have L := lits
    have e1 : v.toInt < 4 → (v + 1).toInt = v.toInt + 1 := fun h => (by (try simp only [iw_add, iw_sub, iw_mul, t_m1, lt0, lt1, t_2, t_3, t_4, t_5, t_6, t_8, t_9, t_10, t_16, t_20, t_24, t_26, t_30, t_31, t_48, t_64, t_72, t_76, t_92, t_101, t_252, t_444, t_512, t_900, t_1980, t_65521, t_99999, t_mil]) <;> omega)
    have h42 : ∀ (j : Nat) (x y u : Int32), v.toInt < 4 → 0 ≤ u.toInt → u.toInt ≤ 4 → 5 - u.toInt ≤ (j : Int) → ws (f_X12_split_L42 n (f_X12_split_L30 n k) j τ a1 x y v u) (PK τ) := by
      intro j
      induction j with
      | zero => intro x y u hv q0 q1 q2; omega
      | succ j ih2 =>
        intro x y u hv q0 q1 q2
        have f1 := e1 hv
        rw [f_X12_split_L42.eq_2]
        have hJ : u.toInt < 4 → ∀ x y, ws (f_X12_split_J82 n (f_X12_split_L30 n k) (f_X12_split_L42 n (f_X12_split_L30 n k) j) τ a1 x y v u) (PK τ) := by
          intro hu x y
          unfold f_X12_split_J82
          exact ws_l (ih2 x y (u + 1) hv (by (try simp only [iw_add, iw_sub, iw_mul, t_m1, lt0, lt1, t_2, t_3, t_4, t_5, t_6, t_8, t_9, t_10, t_16, t_20, t_24, t_26, t_30, t_31, t_48, t_64, t_72, t_76, t_92, t_101, t_252, t_444, t_512, t_900, t_1980, t_65521, t_99999, t_mil]) <;> omega) (by (try simp only [iw_add, iw_sub, iw_mul, t_m1, lt0, lt1, t_2, t_3, t_4, t_5, t_6, t_8, t_9, t_10, t_16, t_20, t_24, t_26, t_30, t_31, t_48, t_64, t_72, t_76, t_92, t_101, t_252, t_444, t_512, t_900, t_1980, t_65521, t_99999, t_mil]) <;> omega) (by (try simp only [iw_add, iw_sub, iw_mul, t_m1, lt0, lt1, t_2, t_3, t_4, t_5, t_6, t_8, t_9, t_10, t_16, t_20, t_24, t_26, t_30, t_31, t_48, t_64, t_72, t_76, t_92, t_101, t_252, t_444, t_512, t_900, t_1980, t_65521, t_99999, t_mil]) <;> omega))
        refine ws_le (fun _ => ws_l (ih _ _ (v + 1) (by omega) (by omega) (by omega))) (fun _ => ?_)
        exact ws_b (s_isAgreed n hn hR.2 v u g0 (by omega) q0 (by omega)) (fun _ _ => ws_i (fun _ => ws_l (ws_i (fun _ => hJ (by omega) _ _) (fun _ => hJ (by omega) _ _))) (fun _ => hJ (by omega) _ _))
    rw [f_X12_split_L30.eq_2]
    refine ws_le (fun _ => ws_i (fun _ => ws_s (PKr hR _)) (fun _ => ws_i (fun _ => ws_s (PKr hR _)) (fun _ => ws_rf hR))) (fun _ => ws_l ?_)
    have f1 := e1 (by omega)
    exact h42 n x y (v + 1) (by omega) (by omega) (by omega) (by omega)
theorem s_split (n : Nat) (hn : 70000 ≤ n) (σ : ms_T) (hR : RI σ) (a1 : Int32) : ws (f_X12_split n σ a1) (PK σ) := by
  have hJ : ∀ w : Int32, (w = 0 → (0 : Int) = 0) → ws (f_X12_split_J15 n σ a1 w) (PK σ) := by
    intro w hw
    unfold f_X12_split_J15
    exact ws_isP hR (fun e τ hτ hE hf => s_split_L n hn hτ a1 n 0 (-1) 0 (by decide) (by decide) (by rw [lt0]; omega))
  unfold f_X12_split
  repeat' (first
    | with_reducible refine ws_bo (s_isRecord (by assumption) _) (fun _ => ?_) (fun _ => ?_)
    | with_reducible refine ws_bo (s_isMark (by assumption) _) (fun _ => ?_) (fun _ => ?_)
    | with_reducible refine ws_bo (s_isIn _ _ _ _) (fun _ => ?_) (fun _ => ?_)
    | with_reducible refine ws_bo (s_isWatcher _ _) (fun _ => ?_) (fun _ => ?_)
    | with_reducible refine ws_bo (s_isThing _ _ _ _) (fun _ => ?_) (fun _ => ?_)
    | with_reducible refine ws_b (s_noSize (by assumption) _ _) (fun _ _ => ?_)
    | with_reducible refine ws_b (s_noEntry (by assumption) _ _ _) (fun _ _ => ?_)
    | with_reducible refine ws_b (s_sizeOf (by assumption) _ (by omega) (by omega)) (fun _ _ => ?_)
    | with_reducible refine ws_lt (fun _ => ?_) (fun _ => ?_)
    | with_reducible refine ws_le (fun _ => ?_) (fun _ => ?_)
    | with_reducible refine ws_ee (fun _ _ => ?_) (fun _ => ?_)
    | with_reducible refine ws_g (by decide) (by decide) ?_
    | with_reducible refine ws_g (by omega) (by omega) ?_)
  all_goals first
    | exact hJ _ (fun h => absurd h (by decide))
    | exact hJ _ (fun _ => by omega)
    | (refine hJ _ (fun h => ?_); rename_i q; have := q h; omega)
theorem s_sick_L (n : Nat) {τ : ms_T} (hR : RI τ) (a1 : Int32) (h0 : 0 ≤ a1.toInt) (h1 : a1.toInt ≤ 15) {w : Nat} (hw : (ms_I τ 657).toInt = (w : Int)) (hl : w ≤ 31) : ∀ (k : Nat) (x v : Int32), 0 ≤ v.toInt → v.toInt ≤ 31 → 32 - v.toInt ≤ (k : Int) → ws (f_X12_sick_L56 n k τ a1 x v) (PK τ) := by
  intro k
  induction k with
  | zero => intro x v g0 g1 g2; omega
  | succ k ih =>
    intro x v g0 g1 g2
    rw [f_X12_sick_L56.eq_2]
    have hJ : v.toInt < 31 → ∀ x y, ws (f_X12_sick_J89 n (f_X12_sick_L56 n k) τ a1 v x y) (PK τ) := by
      intro hv x y
      unfold f_X12_sick_J89
      exact ws_l (ws_l (ih _ (v + 1) (by (try simp only [iw_add, iw_sub, iw_mul, t_m1, lt0, lt1, t_2, t_3, t_4, t_5, t_6, t_8, t_9, t_10, t_16, t_20, t_24, t_26, t_30, t_31, t_48, t_64, t_72, t_76, t_92, t_101, t_252, t_444, t_512, t_900, t_1980, t_65521, t_99999, t_mil]) <;> omega) (by (try simp only [iw_add, iw_sub, iw_mul, t_m1, lt0, lt1, t_2, t_3, t_4, t_5, t_6, t_8, t_9, t_10, t_16, t_20, t_24, t_26, t_30, t_31, t_48, t_64, t_72, t_76, t_92, t_101, t_252, t_444, t_512, t_900, t_1980, t_65521, t_99999, t_mil]) <;> omega) (by (try simp only [iw_add, iw_sub, iw_mul, t_m1, lt0, lt1, t_2, t_3, t_4, t_5, t_6, t_8, t_9, t_10, t_16, t_20, t_24, t_26, t_30, t_31, t_48, t_64, t_72, t_76, t_92, t_101, t_252, t_444, t_512, t_900, t_1980, t_65521, t_99999, t_mil]) <;> omega)))
    refine ws_le (fun _ => ws_s (PKr hR _)) (fun _ => ws_g g0 (by omega) ?_)
    have e1 : ((4 : Int32) + v).toInt = 4 + v.toInt := by (try simp only [iw_add, iw_sub, iw_mul, t_m1, lt0, lt1, t_2, t_3, t_4, t_5, t_6, t_8, t_9, t_10, t_16, t_20, t_24, t_26, t_30, t_31, t_48, t_64, t_72, t_76, t_92, t_101, t_252, t_444, t_512, t_900, t_1980, t_65521, t_99999, t_mil]) <;> omega
    exact ws_b (s_froze hR.2 a1 _ h0 h1 (by omega) (by omega)) (fun _ _ => ws_i (fun _ => hJ (by omega) _ _) (fun _ => hJ (by omega) _ _))
theorem s_sick (n : Nat) (hn : 70000 ≤ n) (σ : ms_T) (hR : RI σ) (a1 : Int32) : ws (f_X12_sick n σ a1) (PK σ) := by
  have L := lits
  have h16 := hR.2.2.2.2.1
  have hJ : ∀ w : Int32, (w = 0 → 0 ≤ a1.toInt ∧ a1.toInt ≤ 15) → ws (f_X12_sick_J24 n σ a1 w) (PK σ) := by
    intro w hw
    unfold f_X12_sick_J24
    refine ws_isP hR (fun e τ hτ hE hf => ?_)
    have := hw e
    refine ws_b (s_froze hτ.2 a1 1 (by omega) (by omega) (by decide) (by decide)) (fun r hr => ?_)
    have k1 := hr.2 rfl
    refine ws_b (s_peaksOf n hn τ r (by omega) (by omega)) (fun υ hυ => ?_)
    obtain ⟨w, hw, hl⟩ := hυ
    have hυR := RI_fr hτ hw.1 (by decide)
    refine ws_pk hτ hw.1 (by decide) (ws_b (s_froze hυR.2 a1 0 (by omega) (by omega) (by decide) (by decide)) (fun q hq => ?_))
    have k2 := hq.1 rfl
    refine ws_b (s_fetches n hn hυR.2 hw (by omega) (by omega) q (by omega) (by omega)) (fun ρ hρ => ?_)
    have hρR := RI_fr hυR hρ (by decide)
    exact ws_pk hυR hρ (by decide) (s_sick_L n hρR a1 (by omega) (by omega) (w := w) (by rw [hρ.1 657 (by simp)]; exact hw.2.1) hl n 0 0 (by decide) (by decide) (by rw [lt0]; omega))
  unfold f_X12_sick
  rw [c3]
  repeat' (first
    | with_reducible refine ws_bo (s_isRecord (by assumption) _) (fun _ => ?_) (fun _ => ?_)
    | with_reducible refine ws_bo (s_isMark (by assumption) _) (fun _ => ?_) (fun _ => ?_)
    | with_reducible refine ws_bo (s_isIn _ _ _ _) (fun _ => ?_) (fun _ => ?_)
    | with_reducible refine ws_bo (s_isWatcher _ _) (fun _ => ?_) (fun _ => ?_)
    | with_reducible refine ws_bo (s_isThing _ _ _ _) (fun _ => ?_) (fun _ => ?_)
    | with_reducible refine ws_b (s_noSize (by assumption) _ _) (fun _ _ => ?_)
    | with_reducible refine ws_b (s_noEntry (by assumption) _ _ _) (fun _ _ => ?_)
    | with_reducible refine ws_b (s_sizeOf (by assumption) _ (by omega) (by omega)) (fun _ _ => ?_)
    | with_reducible refine ws_lt (fun _ => ?_) (fun _ => ?_)
    | with_reducible refine ws_le (fun _ => ?_) (fun _ => ?_)
    | with_reducible refine ws_ee (fun _ _ => ?_) (fun _ => ?_)
    | with_reducible refine ws_g (by decide) (by decide) ?_
    | with_reducible refine ws_g (by omega) (by omega) ?_)
  all_goals first
    | exact hJ _ (fun h => absurd h (by decide))
    | exact hJ _ (fun _ => by omega)
    | (refine hJ _ (fun h => ?_); rename_i q; have := q h; omega)
theorem s_weak_L (n : Nat) (hn : 70000 ≤ n) (a2 a3 a4 a5 a6 : Int32) (h0 : 0 ≤ a2.toInt) (h1 : a2.toInt < a3.toInt) : ∀ (k : Nat) (τ : ms_T) (x y v : Int32), RI τ → -1 ≤ v.toInt → v.toInt + 1 < (k : Int) → ws (f_X12_weak_L73 n k τ a2 a3 a4 a5 a6 x y v) (PK τ) := by
  intro k
  induction k with
  | zero => intro τ x y v hR g0 g1; omega
  | succ k ih =>
    intro τ x y v hR g0 g1
    have L := lits
    rw [f_X12_weak_L73.eq_2]
    have hJ : 0 ≤ v.toInt → ∀ ρ x y, RI ρ → ws (f_X12_weak_J108 n (f_X12_weak_L73 n k) ρ a2 a3 a4 a5 a6 x y v) (PK ρ) := by
      intro hv ρ x y hρ
      have b := ib_hi v
      unfold f_X12_weak_J108
      refine ws_l ?_
      generalize hu : v + (-1) = u
      have e1 : u.toInt = v.toInt - 1 := by rw [← hu, iw_add, t_m1]; omega
      clear hu L hn
      exact ih _ _ _ _ hρ (by omega) (by omega)
    refine ws_lt (fun _ => ws_i (fun _ => ws_s (PKr hR _)) (fun _ => ws_i (fun _ => ws_s (PKr hR _)) (fun _ => ws_rf hR))) (fun _ => ws_i (fun _ => hJ (by omega) _ _ _ hR) (fun _ => ?_))
    refine ws_c (s_folded n hn τ hR.2 v a2 a3 h0 h1) (fun a ρ hρ => ?_)
    have hρR := RI_fr hR hρ (by decide)
    exact ws_pk hR hρ (by decide) (ws_i (fun _ => ws_l (hJ (by omega) _ _ _ hρR)) (fun _ => hJ (by omega) _ _ _ hρR))
theorem s_weak (n : Nat) (hn : 70000 ≤ n) (σ : ms_T) (hR : RI σ) (a1 a2 a3 a4 : Int32) : ws (f_X12_weak n σ a1 a2 a3 a4) (PK σ) := by
  have hC := hR.2
  have hJ : ∀ w : Int32, (w = 0 → 0 ≤ a1.toInt ∧ a1.toInt ≤ 3 ∧ 0 ≤ a2.toInt ∧ a2.toInt < a3.toInt ∧ a3.toInt ≤ 48) → ws (f_X12_weak_J22 n σ a1 a2 a3 a4 w) (PK σ) := by
    intro w hw
    unfold f_X12_weak_J22
    refine ws_isP hR (fun e τ hτ hE hf => ?_)
    have := hw e
    refine ws_b (s_inclusion n hn τ a2 a3 (by omega) (by omega)) (fun υ hυ => ?_)
    obtain ⟨w, hw, hl⟩ := hυ
    have hυR := RI_fr hτ hw.1 (by decide)
    refine ws_pk hτ hw.1 (by decide) (ws_b (s_fetches n hn hυR.2 hw (by omega) (by omega) a1 (by omega) (by omega)) (fun ρ hρ => ?_))
    have hρR := RI_fr hυR hρ (by decide)
    have h1 := hρR.2.2.1
    refine ws_pk hυR hρ (by decide) (ws_b (s_entryMark hn hρR.2 a1 a2 (by omega) (by omega) (by omega) (by omega)) (fun _ _ => ws_b (s_headOf n hn hρR.2 a1 a3 (by omega) (by omega) (by omega) (by omega)) (fun _ _ => ws_g (by decide) (by decide) (ws_l ?_))))
    rw [c1]
    have e1 : (ms_E ρ 40 1 - 1).toInt = (ms_E ρ 40 1).toInt - 1 := by (try simp only [iw_add, iw_sub, iw_mul, t_m1, lt0, lt1, t_2, t_3, t_4, t_5, t_6, t_8, t_9, t_10, t_16, t_20, t_24, t_26, t_30, t_31, t_48, t_64, t_72, t_76, t_92, t_101, t_252, t_444, t_512, t_900, t_1980, t_65521, t_99999, t_mil]) <;> omega
    exact s_weak_L n hn a2 a3 a4 _ _ (by omega) (by omega) n ρ _ _ _ hρR (by omega) (by omega)
  unfold f_X12_weak
  repeat' (first
    | with_reducible refine ws_bo (s_isRecord (by assumption) _) (fun _ => ?_) (fun _ => ?_)
    | with_reducible refine ws_bo (s_isMark (by assumption) _) (fun _ => ?_) (fun _ => ?_)
    | with_reducible refine ws_bo (s_isIn _ _ _ _) (fun _ => ?_) (fun _ => ?_)
    | with_reducible refine ws_bo (s_isWatcher _ _) (fun _ => ?_) (fun _ => ?_)
    | with_reducible refine ws_bo (s_isThing _ _ _ _) (fun _ => ?_) (fun _ => ?_)
    | with_reducible refine ws_b (s_noSize (by assumption) _ _) (fun _ _ => ?_)
    | with_reducible refine ws_b (s_noEntry (by assumption) _ _ _) (fun _ _ => ?_)
    | with_reducible refine ws_b (s_sizeOf (by assumption) _ (by omega) (by omega)) (fun _ _ => ?_)
    | with_reducible refine ws_lt (fun _ => ?_) (fun _ => ?_)
    | with_reducible refine ws_le (fun _ => ?_) (fun _ => ?_)
    | with_reducible refine ws_ee (fun _ _ => ?_) (fun _ => ?_)
    | with_reducible refine ws_g (by decide) (by decide) ?_
    | with_reducible refine ws_g (by omega) (by omega) ?_)
  all_goals first
    | exact hJ _ (fun h => absurd h (by decide))
    | exact hJ _ (fun _ => by omega)
    | (refine hJ _ (fun h => ?_); rename_i q; have := q h; omega)
end JN7_16
section JN7_17
/-! ===== bundles folded, trees sought, steps ===== -/
/-- what foldsBundle changes -/
def fb (σ0 σ : ms_T) (w s : Nat) : Prop := fr [658, 661] [] σ0 σ ∧ (ms_I σ 658).toInt = (w : Int) ∧ (ms_I σ 661).toInt = (s : Int)
theorem fb_w {σ0 σ : ms_T} {w s : Nat} (h : fb σ0 σ w s) (hw : w < 128) : fb σ0 (ms_sI σ 658 (ms_I σ 658 + 1)) (w + 1) s ∧ (ms_I (ms_sI σ 658 (ms_I σ 658 + 1)) 658 - 1).toInt = (w : Int) := by
  obtain ⟨h1, h2, h3⟩ := h
  have e1 : (ms_I σ 658 + 1).toInt = (w : Int) + 1 := by rw [iw_add, lt1]; omega
  have e2 : ms_I (ms_sI σ 658 (ms_I σ 658 + 1)) 658 = ms_I σ 658 + 1 := by rw [mI_sI, if_pos rfl]
  refine ⟨⟨fr_tr h1 (fr_sI (by decide)), by rw [e2, e1]; omega, by rw [mI_sI, if_neg (by decide)]; exact h3⟩, ?_⟩
  rw [e2, iw_sub, lt1, e1]; omega
theorem fb_s {σ0 σ : ms_T} {w s : Nat} (h : fb σ0 σ w s) (hs : s < 128) : fb σ0 (ms_sI σ 661 (ms_I σ 661 + 1)) w (s + 1) ∧ (ms_I (ms_sI σ 661 (ms_I σ 661 + 1)) 661 - 1).toInt = (s : Int) := by
  obtain ⟨h1, h2, h3⟩ := h
  have e1 : (ms_I σ 661 + 1).toInt = (s : Int) + 1 := by rw [iw_add, lt1]; omega
  have e2 : ms_I (ms_sI σ 661 (ms_I σ 661 + 1)) 661 = ms_I σ 661 + 1 := by rw [mI_sI, if_pos rfl]
  refine ⟨⟨fr_tr h1 (fr_sI (by decide)), by rw [mI_sI, if_neg (by decide)]; exact h2, by rw [e2, e1]; omega⟩, ?_⟩
  rw [e2, iw_sub, lt1, e1]; omega
theorem s_fbOut (n : Nat) {σ0 σ : ms_T} {w s : Nat} (h : fb σ0 σ w s) (hw : w < 128) : ws (ms_l (ms_sI σ 658 (ms_I σ 658 + 1)) fun τ => ms_g (ms_I τ 658 - 1) 128 <| some ((ms_E τ 44 ((ms_I τ 658 - 1)).toNatClampNeg), τ)) (fun q => fb σ0 q.2 (w + 1) s) := by
  obtain ⟨h1, h2⟩ := fb_w h hw
  exact ws_l (ws_g (by omega) (by omega) (ws_s h1))
theorem s_fbIn (n : Nat) {σ0 σ : ms_T} {w s : Nat} (h : fb σ0 σ w s) (hs : s < 128) : ws (ms_l (ms_sI σ 661 (ms_I σ 661 + 1)) fun τ => ms_g (ms_I τ 661 - 1) 128 <| some ((ms_E τ 44 ((ms_I τ 661 - 1)).toNatClampNeg), τ)) (fun q => fb σ0 q.2 w (s + 1)) := by
  obtain ⟨h1, h2⟩ := fb_s h hs
  exact ws_l (ws_g (by omega) (by omega) (ws_s h1))
theorem s_foldsA (n : Nat) (hn : 70000 ≤ n) : ∀ (k d w s : Nat) (σ0 σ : ms_T) (b f m : Int32), k < d → rC (ms_E σ0 40) → fb σ0 σ w s → (w : Int) + m.toInt ≤ 127 → (s : Int) + m.toInt ≤ 127 → 0 ≤ f.toInt → 1 ≤ m.toInt → f.toInt + m.toInt ≤ 2147483647 → m.toInt ≤ p2 k → ws (f_X12_foldsBundle n d σ b f m) (fun q => ∃ w' s', fb σ0 q.2 w' s' ∧ (w' : Int) ≤ w + m.toInt ∧ (s' : Int) ≤ s + m.toInt) := by
  intro k
  induction k with
  | zero =>
    intro d w s σ0 σ b f m hd hC hf hw hs h0 h1 h2 h3
    have : p2 0 = 1 := by decide
    obtain ⟨d, rfl⟩ : ∃ d', d = d' + 1 := ⟨d - 1, by omega⟩
    rw [f_X12_foldsBundle.eq_2]
    refine ws_b (s_hasAny n hn b f m) (fun r hr => ws_i (fun _ => ?_) (fun _ => ws_e (fun _ => ?_) (fun c => ?_)))
    · exact ws_m (s_fbOut n hf (by omega)) (fun q hq => ⟨w + 1, s, hq, by omega, by omega⟩)
    · exact ws_m (s_fbIn n hf (by omega)) (fun q hq => ⟨w, s + 1, hq, by omega, by omega⟩)
    · rw [lt1] at c; omega
  | succ k ih =>
    intro d w s σ0 σ b f m hd hC hf hw hs h0 h1 h2 h3
    obtain ⟨d, rfl⟩ : ∃ d', d = d' + 1 := ⟨d - 1, by omega⟩
    rw [f_X12_foldsBundle.eq_2]
    refine ws_b (s_hasAny n hn b f m) (fun r hr => ws_i (fun _ => ?_) (fun _ => ws_e (fun _ => ?_) (fun c => ?_)))
    · exact ws_m (s_fbOut n hf (by omega)) (fun q hq => ⟨w + 1, s, hq, by omega, by omega⟩)
    · exact ws_m (s_fbIn n hf (by omega)) (fun q hq => ⟨w, s + 1, hq, by omega, by omega⟩)
    · have h2m := ne1_2 (a := m) h1 c
      refine ws_b (s_part0 n hn m h2m) (fun p hp => ?_)
      obtain ⟨j, hp⟩ := hp
      obtain ⟨q1, q2, q3, q4, q5⟩ := pt_k hp h3
      have e1 : (f + p).toInt = f.toInt + p.toInt := ii_add (by omega) (by omega)
      have e2 : (m - p).toInt = m.toInt - p.toInt := ii_sub (by omega) (by omega)
      refine ws_c (ih d w s σ0 σ b f p (by omega) hC hf (by omega) (by omega) h0 q3 (by omega) q1) (fun x τ hτ => ?_)
      obtain ⟨w', s', hf', hl, hl'⟩ := hτ
      refine ws_c (ih d w' s' σ0 τ b (f + p) (m - p) (by omega) hC hf' (by omega) (by omega) (by omega) (by omega) (by omega) (by omega)) (fun y υ hυ => ?_)
      obtain ⟨w2, s2, hf2, hl2, hl3⟩ := hυ
      exact ws_b (s_both (rC_fr hC hf2.1 (by decide)) _ _) (fun _ _ => ws_s ⟨w2, s2, hf2, by omega, by omega⟩)
theorem s_foldsB (n : Nat) (hn : 70000 ≤ n) : ∀ (k d w : Nat) (σ0 σ : ms_T) (b m : Int32), k + 6 < d → rC (ms_E σ0 40) → fb σ0 σ w 0 → w ≤ 63 → 1 ≤ m.toInt → m.toInt ≤ p2 (k + 5) → k ≤ 26 → ws (f_X12_foldsBundle n d σ b 0 m) (fun q => ∃ w' s', fb σ0 q.2 w' s' ∧ w' ≤ w + 32 + k ∧ s' ≤ 32) := by
  intro k
  induction k with
  | zero =>
    intro d w σ0 σ b m hd hC hf hw h1 h3 hk
    have : p2 5 = 32 := by decide
    have h3' : m.toInt ≤ p2 5 := h3
    refine ws_m (s_foldsA n hn 5 d w 0 σ0 σ b 0 m (by omega) hC hf (by omega) (by omega) (by decide) h1 (by rw [lt0]; omega) h3) (fun q hq => ?_)
    obtain ⟨w', s', h, h4, h5⟩ := hq
    exact ⟨w', s', h, by omega, by omega⟩
  | succ k ih =>
    intro d w σ0 σ b m hd hC hf hw h1 h3 hk
    by_cases hm : m.toInt ≤ p2 (k + 5)
    · refine ws_m (ih d w σ0 σ b m (by omega) hC hf hw h1 hm (by omega)) (fun q hq => ?_)
      obtain ⟨w', s', h, h4, h5⟩ := hq
      exact ⟨w', s', h, by omega, by omega⟩
    have h32 : p2 5 = 32 := by decide
    have hk5 := p2_m (show 5 ≤ k + 5 by omega)
    have bm := ib_hi m
    obtain ⟨d, rfl⟩ : ∃ d', d = d' + 1 := ⟨d - 1, by omega⟩
    rw [f_X12_foldsBundle.eq_2]
    refine ws_b (s_hasAny n hn b 0 m) (fun r hr => ws_i (fun _ => ?_) (fun _ => ws_e (fun _ => ?_) (fun c => ?_)))
    · exact ws_m (s_fbOut n hf (by omega)) (fun q hq => ⟨w + 1, 0, hq, by omega, by omega⟩)
    · exact ws_m (s_fbIn n hf (by omega)) (fun q hq => ⟨w, 0 + 1, hq, by omega, by omega⟩)
    · have h2m := ne1_2 (a := m) h1 c
      refine ws_b (s_part0 n hn m h2m) (fun p hp => ?_)
      obtain ⟨j, hp⟩ := hp
      obtain ⟨q1, q2, q3, q4, q5⟩ := pt_k hp h3
      have hp1 : p2 (k + 5) ≤ p.toInt := by
        obtain ⟨a1, a2, a3⟩ := hp
        have : k + 5 < j + 1 := p2_lt (by omega)
        have := p2_m (show k + 5 ≤ j by omega)
        omega
      have e1 : ((0 : Int32) + p).toInt = p.toInt := by rw [ii_add (by rw [lt0]; omega) (by rw [lt0]; omega), lt0]; omega
      have e2 : (m - p).toInt = m.toInt - p.toInt := ii_sub (by omega) (by omega)
      refine ws_c (ih d w σ0 σ b p (by omega) hC hf hw q3 q1 (by omega)) (fun x τ hτ => ?_)
      obtain ⟨w', s', hf', hl, hl'⟩ := hτ
      obtain ⟨d, rfl⟩ : ∃ d', d = d' + 1 := ⟨d - 1, by omega⟩
      have hrest : ws (f_X12_foldsBundle n (d + 1) τ b (0 + p) (m - p)) (fun q => fb σ0 q.2 (w' + 1) s') := by
        rw [f_X12_foldsBundle.eq_2]
        refine ws_b (s_hasAny n hn b (0 + p) (m - p)) (fun r hr => ws_i (fun _ => ?_) (fun g => absurd (hr.2.1 (by omega)) g))
        exact s_fbOut n hf' (by omega)
      refine ws_c hrest (fun y υ hυ => ?_)
      exact ws_b (s_both (rC_fr hC hυ.1 (by decide)) _ _) (fun _ _ => ws_s ⟨w' + 1, s', hυ, by omega, by omega⟩)
theorem s_bundled (n : Nat) (hn : 70000 ≤ n) (σ : ms_T) (hR : RI σ) (a1 a2 a3 : Int32) : ws (f_X12_bundled n σ a1 a2 a3) (PK σ) := by
  have L := lits
  have hJ : ∀ w : Int32, (w = 0 → 0 ≤ a2.toInt) → ws (f_X12_bundled_J30 n σ a1 a2 a3 w) (PK σ) := by
    intro w hw
    unfold f_X12_bundled_J30
    refine ws_isP hR (fun e τ hτ hE hf => ?_)
    have h0 := hw e
    have hB : ws (f_X12_bundleOf n τ a1 a2) (fun υ => fr [657] [42, 43] τ υ) := by
      by_cases hm : 1 ≤ a2.toInt
      · refine ws_m (s_bundleOf n hn τ a1 a2 hm) (fun υ hυ => ?_)
        obtain ⟨w, hw, hl⟩ := hυ
        exact hw.1
      · exact ws_m (s_bundleOf0 n hn τ a1 a2 (by omega)) (fun υ hυ => hυ.1)
    refine ws_b hB (fun υ hυ => ?_)
    have hυR := RI_fr hτ hυ (by decide)
    refine ws_pk hτ hυ (by decide) (ws_b (s_bitCount n a1) (fun c hc => ws_l (ws_c (s_fromPad n hn υ hυR.2) (fun g ρ hρ => ?_))))
    have hρR := RI_fr hυR hρ.1 (by decide)
    refine ws_pk hυR hρ.1 (by decide) (ws_l (ws_l ?_))
    have hg : fr [658, 661] [] ρ (ms_sI (ms_sI ρ 658 c) 661 0) := fr_tr (fr_sI (by decide)) (fr_sI (by decide))
    have hJ4 : ∀ φ x y z, fr [658, 661] [] ρ φ → ws (f_X12_bundled_J104 n φ x y z) (PK ρ) := by
      intro φ x y z h
      unfold f_X12_bundled_J104
      exact ws_b (s_why n φ _ _ _) (fun _ _ => ws_s (pk hρR h (by decide) _))
    refine ws_i (fun _ => ?_) (fun _ => hJ4 _ _ _ _ hg)
    have hfold : ws (f_X12_foldsBundle n 40 (ms_sI (ms_sI ρ 658 c) 661 0) a1 0 a2) (fun q => fr [658, 661] [] ρ q.2) := by
      have hfb : fb ρ (ms_sI (ms_sI ρ 658 c) 661 0) c.toInt.toNat 0 := ⟨hg, by rw [mI_sI, if_neg (by decide), mI_sI, if_pos rfl]; omega, by rw [mI_sI, if_pos rfl]; rfl⟩
      by_cases hm : 1 ≤ a2.toInt
      · have b := ib_hi a2
        refine ws_m (s_foldsB n hn 26 40 _ ρ _ a1 a2 (by omega) hρR.2 hfb (by omega) hm (by rw [p2_31]; omega) (by omega)) (fun q hq => ?_)
        obtain ⟨w', s', h, -, -⟩ := hq
        exact h.1
      · rw [f_X12_foldsBundle.eq_2]
        refine ws_b (s_hasAny n hn a1 0 a2) (fun r hr => ws_i (fun _ => ?_) (fun g => absurd (hr.2.2 rfl (by omega)) g))
        exact ws_m (s_fbOut n hfb (by omega)) (fun q hq => hq.1)
    exact ws_c hfold (fun x φ hφ => ws_i (fun _ => hJ4 _ _ _ _ hφ) (fun _ => hJ4 _ _ _ _ hφ))
  unfold f_X12_bundled
  refine ws_lt (fun _ => hJ _ (fun h => absurd h (by decide))) (fun _ => ws_le (fun _ => hJ _ (fun h => absurd h (by decide))) (fun _ => ws_b (s_isBeyond n hn a1 a2) (fun _ _ => ws_i (fun _ => ws_bo (s_isMark hR.2 _) (fun _ => hJ _ (fun h => absurd h (by decide))) (fun _ => hJ _ (fun _ => by omega))) (fun _ => hJ _ (fun h => absurd h (by decide))))))
/-! fold -/
theorem s_fold_L (n : Nat) {τ : ms_T} (hR : RI τ) : ∀ (k : Nat) (x v : Int32), -1 ≤ v.toInt → v.toInt ≤ 62 → v.toInt + 1 < (k : Int) → ws (f_X12_fold_L43 n k τ x v) (PK τ) := by
  intro k
  induction k with
  | zero => intro x v g0 g1 g2; omega
  | succ k ih =>
    intro x v g0 g1 g2
    have l0 := lt0
    rw [f_X12_fold_L43.eq_2]
    refine ws_lt (fun _ => ws_s (PKr hR _)) (fun _ => ?_)
    have e8 : ((8 : Int32) + v).toInt = 8 + v.toInt := by (try simp only [iw_add, iw_sub, iw_mul, t_m1, lt0, lt1, t_2, t_3, t_4, t_5, t_6, t_8, t_9, t_10, t_16, t_20, t_24, t_26, t_30, t_31, t_48, t_64, t_72, t_76, t_92, t_101, t_252, t_444, t_512, t_900, t_1980, t_65521, t_99999, t_mil]) <;> omega
    refine ws_g (by omega) (by omega) (ws_b (s_both hR.2 _ _) (fun _ _ => ws_l ?_))
    generalize hu : v + (-1) = u
    have e1 : u.toInt = v.toInt - 1 := by rw [← hu, iw_add, t_m1]; omega
    clear hu
    exact ih _ u (by omega) (by omega) (by omega)
theorem s_fold (n : Nat) (hn : 70000 ≤ n) (σ : ms_T) (hR : RI σ) : ws (f_X12_fold n σ) (PK σ) := by
  unfold f_X12_fold
  refine ws_is0 hR (fun τ hτ _ _ => ?_)
  have h64 := hτ.2.2.2.1
  rw [c2]
  refine ws_g (by decide) (by decide) (ws_e (fun _ => ws_s (PKr hτ _)) (fun c => ?_))
  rw [lt0] at c
  have e8 : ((8 : Int32) + ms_E τ 40 2).toInt = 8 + (ms_E τ 40 2).toInt := by (try simp only [iw_add, iw_sub, iw_mul, t_m1, lt0, lt1, t_2, t_3, t_4, t_5, t_6, t_8, t_9, t_10, t_16, t_20, t_24, t_26, t_30, t_31, t_48, t_64, t_72, t_76, t_92, t_101, t_252, t_444, t_512, t_900, t_1980, t_65521, t_99999, t_mil]) <;> omega
  have e9 : ((8 : Int32) + ms_E τ 40 2 - 1).toInt = 7 + (ms_E τ 40 2).toInt := by rw [iw_sub, e8, lt1]; omega
  have e10 : (ms_E τ 40 2 - 2).toInt = (ms_E τ 40 2).toInt - 2 := by rw [iw_sub, t_2]; omega
  exact ws_g (by decide) (by decide) (ws_g (by omega) (by omega) (ws_l (ws_g (by decide) (by decide) (ws_l (s_fold_L n hτ n _ _ (by omega) (by omega) (by omega))))))
/-! part -/
theorem s_part_L (n : Nat) (hn : 70000 ≤ n) {τ : ms_T} (hR : RI τ) (a1 a2 a3 : Int32) (h0 : 0 ≤ a1.toInt) (h1 : a1.toInt ≤ 3) (h2 : 0 ≤ a2.toInt) (h3 : a2.toInt ≤ 3) : ∀ (k : Nat) (m f x : Int32), 0 ≤ f.toInt → 0 ≤ m.toInt → f.toInt + m.toInt ≤ 48 → m.toInt < (k : Int) → ws (f_X12_part_L123 n k τ a1 a2 a3 m f x) (PK τ) := by
  intro k
  induction k with
  | zero => intro m f x g0 g1 g2 g3; omega
  | succ k ih =>
    intro m f x g0 g1 g2 g3
    have l1 := lt1
    rw [f_X12_part_L123.eq_2]
    refine ws_le (fun _ => ws_i (fun _ => ws_s (PKr hR _)) (fun _ => ws_s (PKr hR _))) (fun _ => ?_)
    refine ws_b (s_part0 n hn m (by omega)) (fun p hp => ?_)
    obtain ⟨j, hp1, hp2, hp3⟩ := hp
    have hj := p2_p j
    rw [p2_s] at hp3
    have e1 : (f + p).toInt = f.toInt + p.toInt := ii_add (by omega) (by omega)
    have e2 : (m - p).toInt = m.toInt - p.toInt := ii_sub (by omega) (by omega)
    have e0 : f + 0 = f := by simp
    have hJ : ∀ w, ws (f_X12_part_J165 n (f_X12_part_L123 n k) τ a1 a2 a3 m f (x + 1) p w) (PK τ) := by
      intro w
      unfold f_X12_part_J165 f_X12_part_J180 f_X12_part_J198
      refine ws_i (fun e => ws_l (ws_i (fun _ => ?_) (fun g => absurd e g))) (fun e => ws_l (ws_i (fun g => absurd g e) (fun _ => ?_)))
      · rw [e0]
        exact ih p f (x + 1) g0 (by omega) (by omega) (by omega)
      · exact ih (m - p) (f + p) (x + 1) (by omega) (by omega) (by omega) (by omega)
    exact ws_l (ws_b (s_tree0 n hn hR.2 a1 f p h0 h1 g0 (by omega) (by omega)) (fun _ _ => ws_b (s_tree0 n hn hR.2 a2 f p h2 h3 g0 (by omega) (by omega)) (fun _ _ => ws_i (fun _ => hJ _) (fun _ => hJ _))))
theorem s_part (n : Nat) (hn : 70000 ≤ n) (σ : ms_T) (hR : RI σ) (a1 a2 a3 : Int32) : ws (f_X12_part n σ a1 a2 a3) (PK σ) := by
  have hC := hR.2
  have h4 := hC.1
  have hJ : ∀ w : Int32, (w = 0 → 0 ≤ a1.toInt ∧ a1.toInt ≤ 3 ∧ 0 ≤ a2.toInt ∧ a2.toInt ≤ 3) → ws (f_X12_part_J35 n σ a1 a2 a3 w) (PK σ) := by
    intro w hw
    unfold f_X12_part_J35
    refine ws_isP hR (fun e τ hτ hE hf => ?_)
    have := hw e
    have hJ6 : ∀ m : Int32, 0 ≤ m.toInt → m.toInt ≤ 48 → ws (f_X12_part_J69 n τ a1 a2 a3 m) (PK τ) := by
      intro m h0 h1
      unfold f_X12_part_J69
      refine ws_b (s_headOf n hn hτ.2 a1 m (by omega) (by omega) h0 h1) (fun _ _ => ws_b (s_headOf n hn hτ.2 a2 m (by omega) (by omega) h0 h1) (fun _ _ => ws_i (fun _ => ws_i (fun _ => ws_s (PKr hτ _)) (fun _ => ?_)) (fun _ => ?_)))
      · exact ws_b (s_sizeOf hτ.2 a1 (by omega) (by omega)) (fun _ _ => ws_b (s_sizeOf hτ.2 a2 (by omega) (by omega)) (fun _ _ => ws_i (fun _ => ws_s (PKr hτ _)) (fun _ => ws_s (PKr hτ _))))
      · exact s_part_L n hn hτ a1 a2 a3 (by omega) (by omega) (by omega) (by omega) n m 0 0 (by decide) h0 (by rw [lt0]; omega) (by omega)
    exact ws_b (s_sizeOf hτ.2 a1 (by omega) (by omega)) (fun _ _ => ws_b (s_sizeOf hτ.2 a2 (by omega) (by omega)) (fun _ _ => ws_i (fun _ => ws_b (s_sizeOf hτ.2 a2 (by omega) (by omega)) (fun _ h => hJ6 _ h.2.1 h.2.2)) (fun _ => ws_b (s_sizeOf hτ.2 a1 (by omega) (by omega)) (fun _ h => hJ6 _ h.2.1 h.2.2))))
  unfold f_X12_part
  repeat' (first
    | with_reducible refine ws_bo (s_isRecord (by assumption) _) (fun _ => ?_) (fun _ => ?_)
    | with_reducible refine ws_bo (s_isMark (by assumption) _) (fun _ => ?_) (fun _ => ?_)
    | with_reducible refine ws_bo (s_isIn _ _ _ _) (fun _ => ?_) (fun _ => ?_)
    | with_reducible refine ws_bo (s_isWatcher _ _) (fun _ => ?_) (fun _ => ?_)
    | with_reducible refine ws_bo (s_isThing _ _ _ _) (fun _ => ?_) (fun _ => ?_)
    | with_reducible refine ws_b (s_noSize (by assumption) _ _) (fun _ _ => ?_)
    | with_reducible refine ws_b (s_noEntry (by assumption) _ _ _) (fun _ _ => ?_)
    | with_reducible refine ws_b (s_sizeOf (by assumption) _ (by omega) (by omega)) (fun _ _ => ?_)
    | with_reducible refine ws_lt (fun _ => ?_) (fun _ => ?_)
    | with_reducible refine ws_le (fun _ => ?_) (fun _ => ?_)
    | with_reducible refine ws_ee (fun _ _ => ?_) (fun _ => ?_)
    | with_reducible refine ws_g (by decide) (by decide) ?_
    | with_reducible refine ws_g (by omega) (by omega) ?_)
  all_goals first
    | exact hJ _ (fun h => absurd h (by decide))
    | exact hJ _ (fun _ => by omega)
    | (refine hJ _ (fun h => ?_); rename_i q; have := q h; omega)
end JN7_17
section JN7_18
/-! ===== blame, tree, what was asked before, steps ===== -/
theorem s_blame_M (n : Nat) (hn : 70000 ≤ n) {τ : ms_T} (hR : RI τ) (a1 a2 a3 a4 : Int32) : ∀ (k : Nat) (x v : Int32), 0 ≤ v.toInt → v.toInt ≤ 16 → 17 - v.toInt ≤ (k : Int) → ws (f_X12_blame_L127 n k τ a1 a2 a3 a4 x v) (PK τ) := by
  intro k
  induction k with
  | zero => intro x v g0 g1 g2; omega
  | succ k ih =>
    intro x v g0 g1 g2
    have h16 := hR.2.2.2.2.1
    rw [f_X12_blame_L127.eq_2, c3]
    have hJ : v.toInt < 16 → ∀ x, ws (f_X12_blame_J190 n (f_X12_blame_L127 n k) τ a1 a2 a3 a4 x v) (PK τ) := by
      intro hv x
      unfold f_X12_blame_J190
      exact ws_l (ih _ (v + 1) (by (try simp only [iw_add, iw_sub, iw_mul, t_m1, lt0, lt1, t_2, t_3, t_4, t_5, t_6, t_8, t_9, t_10, t_16, t_20, t_24, t_26, t_30, t_31, t_48, t_64, t_72, t_76, t_92, t_101, t_252, t_444, t_512, t_900, t_1980, t_65521, t_99999, t_mil]) <;> omega) (by (try simp only [iw_add, iw_sub, iw_mul, t_m1, lt0, lt1, t_2, t_3, t_4, t_5, t_6, t_8, t_9, t_10, t_16, t_20, t_24, t_26, t_30, t_31, t_48, t_64, t_72, t_76, t_92, t_101, t_252, t_444, t_512, t_900, t_1980, t_65521, t_99999, t_mil]) <;> omega) (by (try simp only [iw_add, iw_sub, iw_mul, t_m1, lt0, lt1, t_2, t_3, t_4, t_5, t_6, t_8, t_9, t_10, t_16, t_20, t_24, t_26, t_30, t_31, t_48, t_64, t_72, t_76, t_92, t_101, t_252, t_444, t_512, t_900, t_1980, t_65521, t_99999, t_mil]) <;> omega))
    refine ws_g (by decide) (by decide) (ws_le (fun _ => ws_i (fun _ => ws_s (PKr hR _)) (fun _ => ws_i (fun _ => ws_s (PKr hR _)) (fun _ => ws_s (PKr hR _)))) (fun _ => ?_))
    have f1 := fun (x : Int32) (h : 0 ≤ x.toInt) (h' : x.toInt ≤ 128) => s_froze (n := n) hR.2 v x g0 (by omega) h h'
    refine ws_b (f1 0 (by decide) (by decide)) (fun _ _ => ws_i (fun _ => ?_) (fun _ => hJ (by omega) _))
    refine ws_b (s_isSound n hn hR.2 v g0 (by omega)) (fun _ _ => ws_i (fun _ => hJ (by omega) _) (fun _ => ?_))
    exact ws_b (f1 1 (by decide) (by decide)) (fun _ _ => ws_i (fun _ => hJ (by omega) _) (fun _ => ws_b (f1 1 (by decide) (by decide)) (fun _ _ => ws_i (fun _ => hJ (by omega) _) (fun _ => ws_b (f1 1 (by decide) (by decide)) (fun _ _ => hJ (by omega) _)))))
theorem s_blame_L (n : Nat) (hn : 70000 ≤ n) {τ : ms_T} (hR : RI τ) (a1 a2 : Int32) : ∀ (k : Nat) (x y v : Int32), 0 ≤ v.toInt → v.toInt ≤ 16 → 17 - v.toInt ≤ (k : Int) → ws (f_X12_blame_L43 n k τ a1 a2 x y v) (PK τ) := by
  intro k
  induction k with
  | zero => intro x y v g0 g1 g2; omega
  | succ k ih =>
    intro x y v g0 g1 g2
    have h16 := hR.2.2.2.2.1
    rw [f_X12_blame_L43.eq_2, c3]
    have hJ : v.toInt < 16 → ∀ x y, ws (f_X12_blame_J107 n (f_X12_blame_L43 n k) τ a1 a2 x y v) (PK τ) := by
      intro hv x y
      unfold f_X12_blame_J107
      exact ws_l (ih _ _ (v + 1) (by (try simp only [iw_add, iw_sub, iw_mul, t_m1, lt0, lt1, t_2, t_3, t_4, t_5, t_6, t_8, t_9, t_10, t_16, t_20, t_24, t_26, t_30, t_31, t_48, t_64, t_72, t_76, t_92, t_101, t_252, t_444, t_512, t_900, t_1980, t_65521, t_99999, t_mil]) <;> omega) (by (try simp only [iw_add, iw_sub, iw_mul, t_m1, lt0, lt1, t_2, t_3, t_4, t_5, t_6, t_8, t_9, t_10, t_16, t_20, t_24, t_26, t_30, t_31, t_48, t_64, t_72, t_76, t_92, t_101, t_252, t_444, t_512, t_900, t_1980, t_65521, t_99999, t_mil]) <;> omega) (by (try simp only [iw_add, iw_sub, iw_mul, t_m1, lt0, lt1, t_2, t_3, t_4, t_5, t_6, t_8, t_9, t_10, t_16, t_20, t_24, t_26, t_30, t_31, t_48, t_64, t_72, t_76, t_92, t_101, t_252, t_444, t_512, t_900, t_1980, t_65521, t_99999, t_mil]) <;> omega))
    have hM : ∀ x y w, ws (f_X12_blame_J122 n τ a1 a2 x y w) (PK τ) := by
      intro x y w
      unfold f_X12_blame_J122
      exact s_blame_M n hn hR a1 a2 x y n w 0 (by decide) (by decide) (by rw [lt0]; omega)
    refine ws_g (by decide) (by decide) (ws_le (fun _ => ws_i (fun _ => hM _ _ _) (fun _ => hM _ _ _)) (fun _ => ?_))
    have f1 := fun (x : Int32) (h : 0 ≤ x.toInt) (h' : x.toInt ≤ 128) => s_froze (n := n) hR.2 v x g0 (by omega) h h'
    have hJ9 : ∀ y, ws (f_X12_blame_J95 n (f_X12_blame_L43 n k) τ a1 a2 y v) (PK τ) := by
      intro y
      unfold f_X12_blame_J95
      exact ws_b (f1 1 (by decide) (by decide)) (fun _ _ => hJ (by omega) _ _)
    refine ws_b (f1 0 (by decide) (by decide)) (fun _ _ => ws_i (fun _ => ?_) (fun _ => hJ (by omega) _ _))
    refine ws_b (s_isSound n hn hR.2 v g0 (by omega)) (fun _ _ => ws_i (fun _ => ?_) (fun _ => hJ (by omega) _ _))
    exact ws_l (ws_i (fun _ => hJ9 _) (fun _ => ws_b (f1 1 (by decide) (by decide)) (fun _ _ => ws_i (fun _ => hJ (by omega) _ _) (fun _ => hJ9 _))))
theorem s_blame (n : Nat) (hn : 70000 ≤ n) (σ : ms_T) (hR : RI σ) (a1 a2 : Int32) : ws (f_X12_blame n σ a1 a2) (PK σ) := by
  have hC := hR.2
  have hJ : ∀ w : Int32, (w = 0 → (0 : Int) = 0) → ws (f_X12_blame_J27 n σ a1 a2 w) (PK σ) := by
    intro w hw
    unfold f_X12_blame_J27
    exact ws_isP hR (fun e τ hτ hE hf => s_blame_L n hn hτ a1 a2 n (-1) 0 0 (by decide) (by decide) (by rw [lt0]; omega))
  unfold f_X12_blame
  repeat' (first
    | with_reducible refine ws_bo (s_isRecord (by assumption) _) (fun _ => ?_) (fun _ => ?_)
    | with_reducible refine ws_bo (s_isMark (by assumption) _) (fun _ => ?_) (fun _ => ?_)
    | with_reducible refine ws_bo (s_isIn _ _ _ _) (fun _ => ?_) (fun _ => ?_)
    | with_reducible refine ws_bo (s_isWatcher _ _) (fun _ => ?_) (fun _ => ?_)
    | with_reducible refine ws_bo (s_isThing _ _ _ _) (fun _ => ?_) (fun _ => ?_)
    | with_reducible refine ws_b (s_noSize (by assumption) _ _) (fun _ _ => ?_)
    | with_reducible refine ws_b (s_noEntry (by assumption) _ _ _) (fun _ _ => ?_)
    | with_reducible refine ws_b (s_sizeOf (by assumption) _ (by omega) (by omega)) (fun _ _ => ?_)
    | with_reducible refine ws_lt (fun _ => ?_) (fun _ => ?_)
    | with_reducible refine ws_le (fun _ => ?_) (fun _ => ?_)
    | with_reducible refine ws_ee (fun _ _ => ?_) (fun _ => ?_)
    | with_reducible refine ws_g (by decide) (by decide) ?_
    | with_reducible refine ws_g (by omega) (by omega) ?_)
  all_goals first
    | exact hJ _ (fun h => absurd h (by decide))
    | exact hJ _ (fun _ => by omega)
    | (refine hJ _ (fun h => ?_); rename_i q; have := q h; omega)
/-- what seeks changes -/
def sk (σ0 σ : ms_T) : Prop := fr [683, 684, 685] [] σ0 σ ∧ (0 ≤ (ms_I σ 683).toInt ∨ (0 ≤ (ms_I σ 684).toInt ∧ 0 ≤ (ms_I σ 685).toInt ∧ (ms_I σ 684).toInt + (ms_I σ 685).toInt ≤ 48))
theorem s_seeksJ (n : Nat) (hn : 70000 ≤ n) (rc : ms_T → Int32 → Int32 → Option ms_T) {σ0 σ : ms_T} {k : Nat} (f m : Int32) (hf : fr [683, 684, 685] [] σ0 σ) (h3 : 0 ≤ (ms_I σ 683).toInt) (hv : (ms_I σ 683).toInt = 0 → 0 ≤ (ms_I σ 684).toInt ∧ 0 ≤ (ms_I σ 685).toInt ∧ (ms_I σ 684).toInt + (ms_I σ 685).toInt ≤ 48) (h0 : 0 ≤ f.toInt) (h1 : 1 ≤ m.toInt) (h2 : f.toInt + m.toInt ≤ 48) (hk : m.toInt ≤ p2 k) (hr : 2 ≤ m.toInt → ∃ k', k = k' + 1 ∧ ∀ (τ : ms_T) (g p : Int32), sk σ0 τ → 0 ≤ g.toInt → 0 ≤ p.toInt → g.toInt + p.toInt ≤ 48 → p.toInt ≤ p2 k' → ws (rc τ g p) (sk σ0)) : ws (f_X12_seeks_J29 n rc σ f m) (sk σ0) := by
  unfold f_X12_seeks_J29
  have e1 : (ms_I σ 683 - 1).toInt = (ms_I σ 683).toInt - 1 := by
    have := ib_hi (ms_I σ 683)
    rw [iw_sub, lt1]; omega
  have hs : sk σ0 (ms_sI σ 683 (ms_I σ 683 - 1)) := by
    refine ⟨fr_tr hf (fr_sI (by decide)), ?_⟩
    rw [mI_sI, if_pos rfl, mI_sI, if_neg (by decide), mI_sI, if_neg (by decide), e1]
    rcases Int.lt_or_le 0 (ms_I σ 683).toInt with q | q
    · exact Or.inl (by omega)
    · exact Or.inr (hv (by omega))
  refine ws_l (ws_e (fun _ => ws_s hs) (fun c => ?_))
  have h2m := ne1_2 h1 c
  obtain ⟨k', hk', hrec⟩ := hr h2m
  subst hk'
  refine ws_b (s_part0 n hn m h2m) (fun p hp => ?_)
  obtain ⟨j, hp⟩ := hp
  obtain ⟨q1, q2, q3, q4, q5⟩ := pt_k hp hk
  have e3 : (f + p).toInt = f.toInt + p.toInt := ii_add (by omega) (by omega)
  have e4 : (m - p).toInt = m.toInt - p.toInt := ii_sub (by omega) (by omega)
  exact ws_b (hrec _ f p hs h0 (by omega) (by omega) q1) (fun τ hτ => ws_b (hrec τ (f + p) (m - p) hτ (by omega) (by omega) (by omega) (by omega)) (fun υ hυ => ws_s hυ))
theorem s_seeks (n : Nat) (hn : 70000 ≤ n) : ∀ (k d : Nat) (σ0 σ : ms_T) (f m : Int32), k < d → sk σ0 σ → 0 ≤ f.toInt → 0 ≤ m.toInt → f.toInt + m.toInt ≤ 48 → m.toInt ≤ p2 k → ws (f_X12_seeks n d σ f m) (sk σ0) := by
  intro k
  induction k with
  | zero =>
    intro d σ0 σ f m hd hs h0 h1 h2 h3
    have : p2 0 = 1 := by decide
    have l0 := lt0
    obtain ⟨d, rfl⟩ : ∃ d', d = d' + 1 := ⟨d - 1, by omega⟩
    rw [f_X12_seeks.eq_2]
    refine ws_e (fun _ => ws_s hs) (fun c => ws_le (fun c1 => ws_e (fun c2 => ws_l (ws_l ?_)) (fun c2 => ?_)) (fun _ => ws_s hs))
    · refine s_seeksJ n hn _ f m (k := 0) (fr_tr hs.1 (fr_tr (fr_sI (by decide)) (fr_sI (by decide)))) ?_ (fun _ => ?_) h0 (by omega) h2 h3 (fun h => by omega)
      · rw [mI_sI, if_neg (by decide), mI_sI, if_neg (by decide)]; omega
      · rw [mI_sI, if_neg (by decide), mI_sI, if_pos rfl, mI_sI, if_pos rfl]; omega
    · exact s_seeksJ n hn _ f m (k := 0) hs.1 (by omega) (fun q => by omega) h0 (by omega) h2 h3 (fun h => by omega)
  | succ k ih =>
    intro d σ0 σ f m hd hs h0 h1 h2 h3
    have l0 := lt0
    obtain ⟨d, rfl⟩ : ∃ d', d = d' + 1 := ⟨d - 1, by omega⟩
    rw [f_X12_seeks.eq_2]
    refine ws_e (fun _ => ws_s hs) (fun c => ws_le (fun c1 => ws_e (fun c2 => ws_l (ws_l ?_)) (fun c2 => ?_)) (fun _ => ws_s hs))
    · refine s_seeksJ n hn _ f m (k := k + 1) (fr_tr hs.1 (fr_tr (fr_sI (by decide)) (fr_sI (by decide)))) ?_ (fun _ => ?_) h0 (by omega) h2 h3 (fun h => ⟨k, rfl, fun τ g p hτ p0 p1 p2 p3 => ih d σ0 τ g p (by omega) hτ p0 p1 p2 p3⟩)
      · rw [mI_sI, if_neg (by decide), mI_sI, if_neg (by decide)]; omega
      · rw [mI_sI, if_neg (by decide), mI_sI, if_pos rfl, mI_sI, if_pos rfl]; omega
    · exact s_seeksJ n hn _ f m (k := k + 1) hs.1 (by omega) (fun q => by omega) h0 (by omega) h2 h3 (fun h => ⟨k, rfl, fun τ g p hτ p0 p1 p2 p3 => ih d σ0 τ g p (by omega) hτ p0 p1 p2 p3⟩)
theorem s_tree (n : Nat) (hn : 70000 ≤ n) (σ : ms_T) (hR : RI σ) (a1 a2 a3 a4 : Int32) : ws (f_X12_tree n σ a1 a2 a3 a4) (PK σ) := by
  have L := lits
  have hC := hR.2
  have hJ : ∀ w : Int32, (w = 0 → 0 ≤ a3.toInt ∧ 0 ≤ a1.toInt ∧ a1.toInt ≤ 3 ∧ 0 ≤ a2.toInt ∧ a2.toInt ≤ 48) → ws (f_X12_tree_J25 n σ a1 a2 a3 a4 w) (PK σ) := by
    intro w hw
    unfold f_X12_tree_J25
    refine ws_isP hR (fun e τ hτ hE hf => ?_)
    have := hw e
    have hs : sk τ (ms_sI τ 683 a3) := ⟨fr_sI (by decide), Or.inl (by rw [mI_sI, if_pos rfl]; omega)⟩
    refine ws_l (ws_b (s_seeks n hn 6 40 τ _ 0 a2 (by omega) hs (by decide) (by omega) (by rw [lt0]; omega) (by have : p2 6 = 64 := (by decide); omega)) (fun υ hυ => ?_))
    have hυR := RI_fr hτ hυ.1 (by decide)
    refine ws_pk hτ hυ.1 (by decide) (ws_lt (fun c => ws_i (fun _ => ws_s (PKr hυR _)) (fun _ => ws_i (fun _ => ws_s (PKr hυR _)) (fun _ => ?_))) (fun _ => ws_rf hυR))
    have hv := hυ.2.resolve_left (by omega)
    exact ws_b (s_tree0 n hn hυR.2 a1 _ _ (by omega) (by omega) (by omega) (by omega) (by omega)) (fun _ _ => ws_s (PKr hυR _))
  unfold f_X12_tree
  repeat' (first
    | with_reducible refine ws_bo (s_isRecord (by assumption) _) (fun _ => ?_) (fun _ => ?_)
    | with_reducible refine ws_bo (s_isMark (by assumption) _) (fun _ => ?_) (fun _ => ?_)
    | with_reducible refine ws_bo (s_isIn _ _ _ _) (fun _ => ?_) (fun _ => ?_)
    | with_reducible refine ws_bo (s_isWatcher _ _) (fun _ => ?_) (fun _ => ?_)
    | with_reducible refine ws_bo (s_isThing _ _ _ _) (fun _ => ?_) (fun _ => ?_)
    | with_reducible refine ws_b (s_noSize (by assumption) _ _) (fun _ _ => ?_)
    | with_reducible refine ws_b (s_noEntry (by assumption) _ _ _) (fun _ _ => ?_)
    | with_reducible refine ws_b (s_sizeOf (by assumption) _ (by omega) (by omega)) (fun _ _ => ?_)
    | with_reducible refine ws_lt (fun _ => ?_) (fun _ => ?_)
    | with_reducible refine ws_le (fun _ => ?_) (fun _ => ?_)
    | with_reducible refine ws_ee (fun _ _ => ?_) (fun _ => ?_)
    | with_reducible refine ws_g (by decide) (by decide) ?_
    | with_reducible refine ws_g (by omega) (by omega) ?_)
  all_goals first
    | exact hJ _ (fun h => absurd h (by decide))
    | exact hJ _ (fun _ => by omega)
    | (refine hJ _ (fun h => ?_); rename_i q; have := q h; omega)
/-! had, notes, kept -/
theorem s_had_L (n : Nat) {σ : ms_T} (h0 : (ms_I σ 695).toInt ≤ 256) (a b : Int32) : ∀ (k : Nat) (v : Int32), 0 ≤ v.toInt → v.toInt ≤ 256 → 257 - v.toInt ≤ (k : Int) → ws (f_X12_had_L2 n σ k a b v) (fun _ => True) := by
  intro k
  induction k with
  | zero => intro v g0 g1 g2; omega
  | succ k ih =>
    intro v g0 g1 g2
    rw [f_X12_had_L2.eq_2]
    have hJ : v.toInt < 256 → ws (f_X12_had_J32 n σ (f_X12_had_L2 n σ k) a b v) (fun _ => True) := by
      intro hv
      unfold f_X12_had_J32
      exact ws_l (ih (v + 1) (by (try simp only [iw_add, iw_sub, iw_mul, t_m1, lt0, lt1, t_2, t_3, t_4, t_5, t_6, t_8, t_9, t_10, t_16, t_20, t_24, t_26, t_30, t_31, t_48, t_64, t_72, t_76, t_92, t_101, t_252, t_444, t_512, t_900, t_1980, t_65521, t_99999, t_mil]) <;> omega) (by (try simp only [iw_add, iw_sub, iw_mul, t_m1, lt0, lt1, t_2, t_3, t_4, t_5, t_6, t_8, t_9, t_10, t_16, t_20, t_24, t_26, t_30, t_31, t_48, t_64, t_72, t_76, t_92, t_101, t_252, t_444, t_512, t_900, t_1980, t_65521, t_99999, t_mil]) <;> omega) (by (try simp only [iw_add, iw_sub, iw_mul, t_m1, lt0, lt1, t_2, t_3, t_4, t_5, t_6, t_8, t_9, t_10, t_16, t_20, t_24, t_26, t_30, t_31, t_48, t_64, t_72, t_76, t_92, t_101, t_252, t_444, t_512, t_900, t_1980, t_65521, t_99999, t_mil]) <;> omega))
    exact ws_le (fun _ => ws_s trivial) (fun _ => ws_g g0 (by omega) (ws_i (fun _ => ws_g g0 (by omega) (ws_i (fun _ => ws_s trivial) (fun _ => hJ (by omega)))) (fun _ => hJ (by omega))))
theorem s_had (n : Nat) (hn : 70000 ≤ n) {σ : ms_T} (h0 : (ms_I σ 695).toInt ≤ 256) (a b : Int32) : ws (f_X12_had n σ a b) (fun _ => True) := by
  unfold f_X12_had
  exact s_had_L n h0 a b n 0 (by decide) (by decide) (by rw [lt0]; omega)
theorem s_notes_L (n : Nat) (hn : 70000 ≤ n) {w c : Nat} (hw : w ≤ 128) (hc : c + w ≤ 256) : ∀ (k : Nat) (σ0 σ : ms_T) (v : Int32), fr [695] [57, 58] σ0 σ → (ms_I σ0 657).toInt = (w : Int) → 0 ≤ (ms_I σ 695).toInt → (ms_I σ 695).toInt ≤ (c : Int) + v.toInt → 0 ≤ v.toInt → v.toInt ≤ (w : Int) → (w : Int) - v.toInt < (k : Int) → ws (f_X12_notes_L2 n k σ v) (fun τ => fr [695] [57, 58] σ0 τ ∧ 0 ≤ (ms_I τ 695).toInt ∧ (ms_I τ 695).toInt ≤ (c : Int) + w) := by
  intro k
  induction k with
  | zero => intro σ0 σ v hf hi g0 g1 g2 g3 g4; omega
  | succ k ih =>
    intro σ0 σ v hf hi g0 g1 g2 g3 g4
    rw [f_X12_notes_L2.eq_2]
    have eI : ms_I σ 657 = ms_I σ0 657 := hf.1 657 (by decide)
    rw [eI]
    refine ws_le (fun _ => ws_s ⟨hf, g0, by omega⟩) (fun _ => ?_)
    have ev : (v + 1).toInt = v.toInt + 1 := by (try simp only [iw_add, iw_sub, iw_mul, t_m1, lt0, lt1, t_2, t_3, t_4, t_5, t_6, t_8, t_9, t_10, t_16, t_20, t_24, t_26, t_30, t_31, t_48, t_64, t_72, t_76, t_92, t_101, t_252, t_444, t_512, t_900, t_1980, t_65521, t_99999, t_mil]) <;> omega
    have e1 : (ms_I σ 695 + 1).toInt = (ms_I σ 695).toInt + 1 := by rw [iw_add, lt1]; omega
    refine ws_g g2 (by omega) (ws_g g2 (by omega) (ws_b (s_had n hn (by omega) _ _) (fun _ _ => ws_i (fun _ => ?_) (fun _ => ?_))))
    · refine ws_g g2 (by omega) (ws_g g0 (by omega) (ws_l (ws_g g2 (by omega) (ws_g (by rw [mI_sE]; omega) (by rw [mI_sE]; omega) (ws_l (ws_l ?_))))))
      unfold f_X12_notes_J72
      refine ws_l (ih σ0 _ (v + 1) (fr_tr hf (fr_tr (fr_sE (by decide)) (fr_tr (fr_sE (by decide)) (fr_sI (by decide))))) hi ?_ ?_ (by omega) (by omega) (by omega))
      · rw [mI_sI, if_pos rfl, mI_sE, mI_sE, e1]; omega
      · rw [mI_sI, if_pos rfl, mI_sE, mI_sE, e1]; omega
    · unfold f_X12_notes_J72
      exact ws_l (ih σ0 _ (v + 1) hf hi g0 (by omega) (by omega) (by omega) (by omega))
theorem s_notes (n : Nat) (hn : 70000 ≤ n) {w c : Nat} (hw : w ≤ 128) (hc : c + w ≤ 256) {σ : ms_T} (hi : (ms_I σ 657).toInt = (w : Int)) (h0 : 0 ≤ (ms_I σ 695).toInt) (h1 : (ms_I σ 695).toInt ≤ (c : Int)) : ws (f_X12_notes n σ) (fun τ => fr [695] [57, 58] σ τ ∧ 0 ≤ (ms_I τ 695).toInt ∧ (ms_I τ 695).toInt ≤ (c : Int) + w) := by
  unfold f_X12_notes
  exact s_notes_L n hn hw hc n σ σ 0 fr_rf hi h0 (by rw [lt0]; omega) (by decide) (by rw [lt0]; omega) (by rw [lt0]; omega)
theorem s_kept_L (n : Nat) (hn : 70000 ≤ n) {τ : ms_T} (hR : RI τ) {w : Nat} (hw : (ms_I τ 657).toInt = (w : Int)) (hl : w ≤ 128) (h9 : (ms_I τ 695).toInt ≤ 256) : ∀ (k : Nat) (x v : Int32), 0 ≤ v.toInt → v.toInt ≤ 128 → 129 - v.toInt ≤ (k : Int) → ws (f_X12_kept_L55 n k τ x v) (PK τ) := by
  intro k
  induction k with
  | zero => intro x v g0 g1 g2; omega
  | succ k ih =>
    intro x v g0 g1 g2
    rw [f_X12_kept_L55.eq_2]
    have hJ : v.toInt < 128 → ∀ x y, ws (f_X12_kept_J92 n (f_X12_kept_L55 n k) τ v x y) (PK τ) := by
      intro hv x y
      unfold f_X12_kept_J92
      exact ws_l (ws_l (ih _ (v + 1) (by (try simp only [iw_add, iw_sub, iw_mul, t_m1, lt0, lt1, t_2, t_3, t_4, t_5, t_6, t_8, t_9, t_10, t_16, t_20, t_24, t_26, t_30, t_31, t_48, t_64, t_72, t_76, t_92, t_101, t_252, t_444, t_512, t_900, t_1980, t_65521, t_99999, t_mil]) <;> omega) (by (try simp only [iw_add, iw_sub, iw_mul, t_m1, lt0, lt1, t_2, t_3, t_4, t_5, t_6, t_8, t_9, t_10, t_16, t_20, t_24, t_26, t_30, t_31, t_48, t_64, t_72, t_76, t_92, t_101, t_252, t_444, t_512, t_900, t_1980, t_65521, t_99999, t_mil]) <;> omega) (by (try simp only [iw_add, iw_sub, iw_mul, t_m1, lt0, lt1, t_2, t_3, t_4, t_5, t_6, t_8, t_9, t_10, t_16, t_20, t_24, t_26, t_30, t_31, t_48, t_64, t_72, t_76, t_92, t_101, t_252, t_444, t_512, t_900, t_1980, t_65521, t_99999, t_mil]) <;> omega)))
    exact ws_le (fun _ => ws_s (PKr hR _)) (fun _ => ws_g g0 (by omega) (ws_g g0 (by omega) (ws_b (s_had n hn h9 _ _) (fun _ _ => ws_i (fun _ => hJ (by omega) _ _) (fun _ => hJ (by omega) _ _)))))
theorem s_kept (n : Nat) (hn : 70000 ≤ n) (σ : ms_T) (hR : RI σ) (a1 a2 a3 : Int32) : ws (f_X12_kept n σ a1 a2 a3) (PK σ) := by
  have L := lits
  have hJ : ∀ w : Int32, (w = 0 → 0 ≤ a1.toInt ∧ a1.toInt < a2.toInt ∧ a2.toInt ≤ a3.toInt) → ws (f_X12_kept_J20 n σ a1 a2 a3 w) (PK σ) := by
    intro w hw
    unfold f_X12_kept_J20
    refine ws_isP hR (fun e τ hτ hE hf => ?_)
    have := hw e
    have hf0 : fr [695] [57, 58] τ (ms_sI τ 695 0) := fr_sI (by decide)
    have hR0 := RI_fr hτ hf0 (by decide)
    refine ws_pk hτ hf0 (by decide) (ws_l (ws_b (s_inclusion n hn _ a1 a2 (by omega) (by omega)) (fun υ hυ => ?_)))
    obtain ⟨w, hw, hl⟩ := hυ
    have hR1 := RI_fr hR0 hw.1 (by decide)
    have e9 : ms_I υ 695 = 0 := by rw [hw.1.1 695 (by decide), mI_sI, if_pos rfl]
    refine ws_pk hR0 hw.1 (by decide) (ws_b (s_notes n hn (w := w) (c := 0) (by omega) (by omega) hw.2.1 (by rw [e9]; decide) (by rw [e9]; decide)) (fun ρ hρ => ?_))
    have hR2 := RI_fr hR1 hρ.1 (by decide)
    refine ws_pk hR1 hρ.1 (by decide) (ws_b (s_inclusion n hn _ a1 a3 (by omega) (by omega)) (fun φ hφ => ?_))
    obtain ⟨u, hu, hm⟩ := hφ
    refine ws_pk hR2 hu.1 (by decide) (s_kept_L n hn (RI_fr hR2 hu.1 (by decide)) hu.2.1 (by omega) (by rw [hu.1.1 695 (by decide)]; omega) n 0 0 (by decide) (by decide) (by rw [lt0]; omega))
  unfold f_X12_kept
  repeat' (first
    | with_reducible refine ws_bo (s_isRecord (by assumption) _) (fun _ => ?_) (fun _ => ?_)
    | with_reducible refine ws_bo (s_isMark (by assumption) _) (fun _ => ?_) (fun _ => ?_)
    | with_reducible refine ws_bo (s_isIn _ _ _ _) (fun _ => ?_) (fun _ => ?_)
    | with_reducible refine ws_bo (s_isWatcher _ _) (fun _ => ?_) (fun _ => ?_)
    | with_reducible refine ws_bo (s_isThing _ _ _ _) (fun _ => ?_) (fun _ => ?_)
    | with_reducible refine ws_b (s_noSize (by assumption) _ _) (fun _ _ => ?_)
    | with_reducible refine ws_b (s_noEntry (by assumption) _ _ _) (fun _ _ => ?_)
    | with_reducible refine ws_b (s_sizeOf (by assumption) _ (by omega) (by omega)) (fun _ _ => ?_)
    | with_reducible refine ws_lt (fun _ => ?_) (fun _ => ?_)
    | with_reducible refine ws_le (fun _ => ?_) (fun _ => ?_)
    | with_reducible refine ws_ee (fun _ _ => ?_) (fun _ => ?_)
    | with_reducible refine ws_g (by decide) (by decide) ?_
    | with_reducible refine ws_g (by omega) (by omega) ?_)
  all_goals first
    | exact hJ _ (fun h => absurd h (by decide))
    | exact hJ _ (fun _ => by omega)
    | (refine hJ _ (fun h => ?_); rename_i q; have := q h; omega)
end JN7_18
section JN7_19
/-! ===== steps: clash, forge, trace; chains ===== -/
/-- what stepsIn changes -/
def sp (σ0 σ : ms_T) (w : Nat) : Prop := fr [689] [51, 52, 53] σ0 σ ∧ (ms_I σ 689).toInt = (w : Int)
theorem s_spJ102 (n : Nat) (rc : ms_T → Int32 → Int32 → Int32 → Option (Int32 × ms_T)) {σ0 σ : ms_T} {w : Nat} (hC : rC (ms_E σ0 40)) (h : sp σ0 σ w) (hw : w < 64) (x : Int32) : ws (f_X12_stepsIn_J102 n rc σ x (ms_I σ 689)) (fun q => sp σ0 q.2 (w + 1)) := by
  obtain ⟨hf, hi⟩ := h
  unfold f_X12_stepsIn_J102
  have e1 : (ms_I σ 689 + 1).toInt = (w : Int) + 1 := by rw [iw_add, lt1]; omega
  have e2 : (ms_I σ 689 + 1 - 1).toInt = (w : Int) := by rw [iw_sub, lt1, e1]; omega
  have hf1 : fr [689] [51, 52, 53] σ0 (ms_sE σ 52 (ms_I σ 689).toNatClampNeg x) := fr_tr hf (fr_sE (by decide))
  refine ws_g (by omega) (by omega) (ws_l (ws_g (by rw [mI_sE]; omega) (by rw [mI_sE]; omega) (ws_g (by rw [mI_sE]; omega) (by rw [mI_sE]; omega) (ws_b (s_both (rC_fr hC hf1 (by decide)) _ _) (fun y _ => ws_g (by rw [mI_sE]; omega) (by rw [mI_sE]; omega) (ws_l (ws_l ?_)))))))
  refine ws_g ?_ ?_ (ws_s ⟨fr_tr hf1 (fr_tr (fr_sE (by decide)) (fr_sI (by decide))), ?_⟩)
  · rw [mI_sI, if_pos rfl, mI_sE, mI_sE]; omega
  · rw [mI_sI, if_pos rfl, mI_sE, mI_sE]; omega
  · show (ms_I (ms_sI _ 689 _) 689).toInt = _
    rw [mI_sI, if_pos rfl, mI_sE, mI_sE, e1]; omega
theorem s_spJ43 (n : Nat) (rc : ms_T → Int32 → Int32 → Int32 → Option (Int32 × ms_T)) {σ0 σ : ms_T} {w : Nat} (hC : rC (ms_E σ0 40)) (h : sp σ0 σ w) (hw : w < 64) (a b x : Int32) : ws (f_X12_stepsIn_J43 n rc σ a b x) (fun q => sp σ0 q.2 (w + 1)) := by
  have hi := h.2
  have hJ : ∀ y z, ws (f_X12_stepsIn_J73 n rc σ a b y z (ms_I σ 689)) (fun q => sp σ0 q.2 (w + 1)) := by
    intro y z
    unfold f_X12_stepsIn_J73
    have h2 : sp σ0 (ms_sE σ 51 (ms_I σ 689).toNatClampNeg z) w := ⟨fr_tr h.1 (fr_sE (by decide)), hi⟩
    have h3 := h2.2
    exact ws_g (by omega) (by omega) (ws_l (ws_i (fun _ => s_spJ102 n rc hC h2 hw _) (fun _ => ws_g (by omega) (by omega) (s_spJ102 n rc hC h2 hw _))))
  unfold f_X12_stepsIn_J43
  exact ws_i (fun _ => ws_g (by omega) (by omega) (hJ _ _)) (fun _ => hJ _ _)
theorem s_stepsIn (n : Nat) (hn : 70000 ≤ n) : ∀ (k d w : Nat) (σ0 σ : ms_T) (x i m : Int32), k < d → rC (ms_E σ0 40) → sp σ0 σ w → w + k ≤ 63 → 0 ≤ i.toInt → i.toInt < m.toInt → m.toInt ≤ p2 k → ws (f_X12_stepsIn n d σ x i m) (fun q => ∃ w', sp σ0 q.2 w' ∧ w' ≤ w + k) := by
  intro k
  induction k with
  | zero =>
    intro d w σ0 σ x i m hd hC hs hk h0 h1 h2
    have : p2 0 = 1 := by decide
    obtain ⟨d, rfl⟩ : ∃ d', d = d' + 1 := ⟨d - 1, by omega⟩
    rw [f_X12_stepsIn.eq_2]
    exact ws_e (fun c => ws_s ⟨w, hs, by omega⟩) (fun c => by rw [lt1] at c; omega)
  | succ k ih =>
    intro d w σ0 σ x i m hd hC hs hk h0 h1 h2
    obtain ⟨d, rfl⟩ : ∃ d', d = d' + 1 := ⟨d - 1, by omega⟩
    rw [f_X12_stepsIn.eq_2]
    refine ws_e (fun c => ws_s ⟨w, hs, by omega⟩) (fun c => ?_)
    have h2m := ne1_2 (a := m) (by omega) c
    refine ws_b (s_part0 n hn m h2m) (fun p hp => ?_)
    obtain ⟨j, hp⟩ := hp
    obtain ⟨q1, q2, q3, q4, q5⟩ := pt_k hp h2
    have bm := ib_hi m
    have bi := ib_hi i
    have e2 : (m - p).toInt = m.toInt - p.toInt := ii_sub (by omega) (by omega)
    refine ws_le (fun c => ?_) (fun c => ?_)
    · have e3 : (i - p).toInt = i.toInt - p.toInt := ii_sub (by omega) (by omega)
      refine ws_c (ih d w σ0 σ x (i - p) (m - p) (by omega) hC hs (by omega) (by omega) (by omega) (by omega)) (fun a τ hτ => ?_)
      obtain ⟨w', hw', hl⟩ := hτ
      exact ws_m (s_spJ43 n _ hC hw' (by omega) _ _ _) (fun q hq => ⟨w' + 1, hq, by omega⟩)
    · refine ws_c (ih d w σ0 σ x i p (by omega) hC hs (by omega) h0 c q1) (fun a τ hτ => ?_)
      obtain ⟨w', hw', hl⟩ := hτ
      exact ws_m (s_spJ43 n _ hC hw' (by omega) _ _ _) (fun q hq => ⟨w' + 1, hq, by omega⟩)
theorem s_steps0 (n : Nat) (hn : 70000 ≤ n) {τ : ms_T} (hR : RI τ) (x i m : Int32) (h0 : 0 ≤ i.toInt) (h1 : i.toInt < m.toInt) : ws (f_X12_stepsIn n 40 (ms_sI τ 689 0) x i m) (fun q => ∃ w', sp τ q.2 w' ∧ w' ≤ 31) := by
  have b := ib_hi m
  refine ws_m (s_stepsIn n hn 31 40 0 τ _ x i m (by omega) hR.2 ⟨fr_sI (by decide), by rw [mI_sI, if_pos rfl]; rfl⟩ (by omega) h0 h1 (by rw [p2_31]; omega)) (fun q hq => ?_)
  obtain ⟨w', h, hl⟩ := hq
  exact ⟨w', h, by omega⟩
theorem s_trace_L (n : Nat) (hn : 70000 ≤ n) (a1 a2 a3 a4 : Int32) {w : Nat} (hl : w ≤ 31) (h0 : 0 ≤ a2.toInt) (h1 : a2.toInt < a3.toInt) (h2 : 0 ≤ a4.toInt) (h3 : a4.toInt ≤ (w : Int)) : ∀ (k : Nat) (τ : ms_T) (v : Int32), RI τ → (ms_I τ 657).toInt = (w : Int) → 0 ≤ v.toInt → v.toInt ≤ 64 → 65 - v.toInt ≤ (k : Int) → ws (f_X12_trace_L72 n k τ a1 a2 a3 a4 v) (PK τ) := by
  intro k
  induction k with
  | zero => intro τ v hR hw g0 g1 g2; omega
  | succ k ih =>
    intro τ v hR hw g0 g1 g2
    have l0 := lt0
    rw [f_X12_trace_L72.eq_2]
    refine ws_le (fun _ => ws_l (ws_c (s_steps0 n hn hR a1 a2 a3 h0 h1) (fun x υ hυ => ?_))) (fun _ => ?_)
    · obtain ⟨w', hw', hl'⟩ := hυ
      have hp := fun r => pk hR hw'.1 (by decide) r
      refine ws_e (fun _ => ws_s (hp _)) (fun c => ?_)
      have e1 : (a4 - 1).toInt = a4.toInt - 1 := by (try simp only [iw_add, iw_sub, iw_mul, t_m1, lt0, lt1, t_2, t_3, t_4, t_5, t_6, t_8, t_9, t_10, t_16, t_20, t_24, t_26, t_30, t_31, t_48, t_64, t_72, t_76, t_92, t_101, t_252, t_444, t_512, t_900, t_1980, t_65521, t_99999, t_mil]) <;> omega
      exact ws_g (by omega) (by omega) (ws_s (hp _))
    · have hf : fr [] [44] τ (ms_sE τ 44 v.toNatClampNeg 0) := fr_sE (by decide)
      exact ws_g g0 (by omega) (ws_pk hR hf (by decide) (ws_l (ws_l (ih _ (v + 1) (RI_fr hR hf (by decide)) hw (by (try simp only [iw_add, iw_sub, iw_mul, t_m1, lt0, lt1, t_2, t_3, t_4, t_5, t_6, t_8, t_9, t_10, t_16, t_20, t_24, t_26, t_30, t_31, t_48, t_64, t_72, t_76, t_92, t_101, t_252, t_444, t_512, t_900, t_1980, t_65521, t_99999, t_mil]) <;> omega) (by (try simp only [iw_add, iw_sub, iw_mul, t_m1, lt0, lt1, t_2, t_3, t_4, t_5, t_6, t_8, t_9, t_10, t_16, t_20, t_24, t_26, t_30, t_31, t_48, t_64, t_72, t_76, t_92, t_101, t_252, t_444, t_512, t_900, t_1980, t_65521, t_99999, t_mil]) <;> omega) (by (try simp only [iw_add, iw_sub, iw_mul, t_m1, lt0, lt1, t_2, t_3, t_4, t_5, t_6, t_8, t_9, t_10, t_16, t_20, t_24, t_26, t_30, t_31, t_48, t_64, t_72, t_76, t_92, t_101, t_252, t_444, t_512, t_900, t_1980, t_65521, t_99999, t_mil]) <;> omega)))))
theorem s_trace (n : Nat) (hn : 70000 ≤ n) (σ : ms_T) (hR : RI σ) (a1 a2 a3 a4 : Int32) : ws (f_X12_trace n σ a1 a2 a3 a4) (PK σ) := by
  have L := lits
  have hC := hR.2
  have hJ : ∀ w : Int32, (w = 0 → 0 ≤ a2.toInt ∧ a2.toInt < a3.toInt ∧ 0 ≤ a4.toInt) → ws (f_X12_trace_J28 n σ a1 a2 a3 a4 w) (PK σ) := by
    intro w hw
    unfold f_X12_trace_J28 f_X12_trace_J60
    refine ws_isP hR (fun e τ hτ hE hf => ?_)
    have := hw e
    refine ws_b (s_inclusion n hn τ a2 a3 (by omega) (by omega)) (fun υ hυ => ?_)
    obtain ⟨w, hw, hl⟩ := hυ
    have hυR := RI_fr hτ hw.1 (by decide)
    have hi := hw.2.1
    refine ws_pk hτ hw.1 (by decide) (ws_lt (fun _ => ws_rf hυR) (fun _ => ws_c (s_fromPad n hn υ hυR.2) (fun a ρ hρ => ?_)))
    have hρR := RI_fr hυR hρ.1 (by decide)
    refine ws_pk hυR hρ.1 (by decide) (ws_i (fun _ => ws_c (s_fromPad n hn ρ hρR.2) (fun b φ hφ => ?_)) (fun _ => ws_rf hρR))
    have hφR := RI_fr hρR hφ.1 (by decide)
    have hb := hφ.2
    have h64 : 0 ≤ (ms_E ρ 40 2).toInt ∧ (ms_E ρ 40 2).toInt ≤ 64 := hρR.2.2.2.1
    have hb2 : b = ms_E ρ 40 2 := hb
    have hi2 : (ms_I φ 657).toInt = (w : Int) := by rw [hφ.1.1 657 (by decide), hρ.1.1 657 (by decide)]; exact hi
    exact ws_pk hρR hφ.1 (by decide) (s_trace_L n hn a1 a2 a3 a4 hl (by omega) (by omega) (by omega) (by omega) n φ b hφR hi2 (by rw [hb2]; omega) (by rw [hb2]; omega) (by rw [hb2]; omega))
  unfold f_X12_trace
  repeat' (first
    | with_reducible refine ws_bo (s_isRecord (by assumption) _) (fun _ => ?_) (fun _ => ?_)
    | with_reducible refine ws_bo (s_isMark (by assumption) _) (fun _ => ?_) (fun _ => ?_)
    | with_reducible refine ws_bo (s_isIn _ _ _ _) (fun _ => ?_) (fun _ => ?_)
    | with_reducible refine ws_bo (s_isWatcher _ _) (fun _ => ?_) (fun _ => ?_)
    | with_reducible refine ws_bo (s_isThing _ _ _ _) (fun _ => ?_) (fun _ => ?_)
    | with_reducible refine ws_b (s_noSize (by assumption) _ _) (fun _ _ => ?_)
    | with_reducible refine ws_b (s_noEntry (by assumption) _ _ _) (fun _ _ => ?_)
    | with_reducible refine ws_b (s_sizeOf (by assumption) _ (by omega) (by omega)) (fun _ _ => ?_)
    | with_reducible refine ws_lt (fun _ => ?_) (fun _ => ?_)
    | with_reducible refine ws_le (fun _ => ?_) (fun _ => ?_)
    | with_reducible refine ws_ee (fun _ _ => ?_) (fun _ => ?_)
    | with_reducible refine ws_g (by decide) (by decide) ?_
    | with_reducible refine ws_g (by omega) (by omega) ?_)
  all_goals first
    | exact hJ _ (fun h => absurd h (by decide))
    | exact hJ _ (fun _ => by omega)
    | (refine hJ _ (fun h => ?_); rename_i q; have := q h; omega)
theorem s_forge_L (n : Nat) (hn : 70000 ≤ n) (a1 a2 a3 a4 a5 : Int32) (h0 : 0 ≤ a2.toInt) (h1 : a2.toInt < a3.toInt) (h2 : 0 ≤ a5.toInt) (h3 : a5.toInt < 128) : ∀ (k : Nat) (τ : ms_T) (v : Int32), RI τ → 0 ≤ v.toInt → v.toInt ≤ 65521 → 65522 - v.toInt ≤ (k : Int) → ws (f_X12_forge_L80 n k τ a1 a2 a3 a4 a5 v) (PK τ) := by
  intro k
  induction k with
  | zero => intro τ v hR g0 g1 g2; omega
  | succ k ih =>
    intro τ v hR g0 g1 g2
    have hm := hR.2.2.1
    rw [f_X12_forge_L80.eq_2, c1]
    refine ws_g (by decide) (by decide) (ws_le (fun _ => ws_rf hR) (fun _ => ?_))
    have hf : fr [] [44] τ (ms_sE τ 44 a5.toNatClampNeg v) := fr_sE (by decide)
    have hR1 := RI_fr hR hf (by decide)
    refine ws_g h2 (by omega) (ws_pk hR hf (by decide) (ws_l (ws_c (s_folded n hn _ hR1.2 a1 a2 a3 h0 h1) (fun x ρ hρ => ?_))))
    have hρR := RI_fr hR1 hρ (by decide)
    exact ws_pk hR1 hρ (by decide) (ws_i (fun _ => ws_s (PKr hρR _)) (fun _ => ws_l (ih ρ (v + 1) hρR (by (try simp only [iw_add, iw_sub, iw_mul, t_m1, lt0, lt1, t_2, t_3, t_4, t_5, t_6, t_8, t_9, t_10, t_16, t_20, t_24, t_26, t_30, t_31, t_48, t_64, t_72, t_76, t_92, t_101, t_252, t_444, t_512, t_900, t_1980, t_65521, t_99999, t_mil]) <;> omega) (by (try simp only [iw_add, iw_sub, iw_mul, t_m1, lt0, lt1, t_2, t_3, t_4, t_5, t_6, t_8, t_9, t_10, t_16, t_20, t_24, t_26, t_30, t_31, t_48, t_64, t_72, t_76, t_92, t_101, t_252, t_444, t_512, t_900, t_1980, t_65521, t_99999, t_mil]) <;> omega) (by (try simp only [iw_add, iw_sub, iw_mul, t_m1, lt0, lt1, t_2, t_3, t_4, t_5, t_6, t_8, t_9, t_10, t_16, t_20, t_24, t_26, t_30, t_31, t_48, t_64, t_72, t_76, t_92, t_101, t_252, t_444, t_512, t_900, t_1980, t_65521, t_99999, t_mil]) <;> omega))))
theorem s_forge (n : Nat) (hn : 70000 ≤ n) (σ : ms_T) (hR : RI σ) (a1 a2 a3 a4 a5 : Int32) : ws (f_X12_forge n σ a1 a2 a3 a4 a5) (PK σ) := by
  have L := lits
  have hC := hR.2
  have hJ : ∀ w : Int32, (w = 0 → 0 ≤ a2.toInt ∧ a2.toInt < a3.toInt ∧ 0 ≤ a5.toInt) → ws (f_X12_forge_J37 n σ a1 a2 a3 a4 a5 w) (PK σ) := by
    intro w hw
    unfold f_X12_forge_J37 f_X12_forge_J71
    refine ws_isP hR (fun e τ hτ hE hf => ?_)
    have := hw e
    refine ws_b (s_inclusion n hn τ a2 a3 (by omega) (by omega)) (fun υ hυ => ?_)
    obtain ⟨w, hw, hl⟩ := hυ
    have hυR := RI_fr hτ hw.1 (by decide)
    have hi := hw.2.1
    refine ws_pk hτ hw.1 (by decide) (ws_c (s_fromPad n hn υ hυR.2) (fun a ρ hρ => ?_))
    have hρR := RI_fr hυR hρ.1 (by decide)
    have hi2 : (ms_I ρ 657).toInt = (w : Int) := by rw [hρ.1.1 657 (by decide)]; exact hi
    refine ws_pk hυR hρ.1 (by decide) (ws_i (fun _ => ws_lt (fun _ => ?_) (fun _ => ws_rf hρR)) (fun _ => ws_rf hρR))
    exact s_forge_L n hn a1 a2 a3 a4 a5 (by omega) (by omega) (by omega) (by omega) n ρ 0 hρR (by decide) (by decide) (by rw [lt0]; omega)
  unfold f_X12_forge
  repeat' (first
    | with_reducible refine ws_bo (s_isRecord (by assumption) _) (fun _ => ?_) (fun _ => ?_)
    | with_reducible refine ws_bo (s_isMark (by assumption) _) (fun _ => ?_) (fun _ => ?_)
    | with_reducible refine ws_bo (s_isIn _ _ _ _) (fun _ => ?_) (fun _ => ?_)
    | with_reducible refine ws_bo (s_isWatcher _ _) (fun _ => ?_) (fun _ => ?_)
    | with_reducible refine ws_bo (s_isThing _ _ _ _) (fun _ => ?_) (fun _ => ?_)
    | with_reducible refine ws_b (s_noSize (by assumption) _ _) (fun _ _ => ?_)
    | with_reducible refine ws_b (s_noEntry (by assumption) _ _ _) (fun _ _ => ?_)
    | with_reducible refine ws_b (s_sizeOf (by assumption) _ (by omega) (by omega)) (fun _ _ => ?_)
    | with_reducible refine ws_lt (fun _ => ?_) (fun _ => ?_)
    | with_reducible refine ws_le (fun _ => ?_) (fun _ => ?_)
    | with_reducible refine ws_ee (fun _ _ => ?_) (fun _ => ?_)
    | with_reducible refine ws_g (by decide) (by decide) ?_
    | with_reducible refine ws_g (by omega) (by omega) ?_)
  all_goals first
    | exact hJ _ (fun h => absurd h (by decide))
    | exact hJ _ (fun _ => by omega)
    | (refine hJ _ (fun h => ?_); rename_i q; have := q h; omega)
theorem s_clash_M (n : Nat) {τ : ms_T} (hR : RI τ) (a5 : Int32) {w : Nat} (hw : (ms_I τ 689).toInt = (w : Int)) (hl : w ≤ 31) : ∀ (k : Nat) (v : Int32), 0 ≤ v.toInt → v.toInt ≤ 31 → 32 - v.toInt ≤ (k : Int) → ws (f_X12_clash_L172 n k τ a5 v) (PK τ) := by
  intro k
  induction k with
  | zero => intro v g0 g1 g2; omega
  | succ k ih =>
    intro v g0 g1 g2
    rw [f_X12_clash_L172.eq_2]
    have hJ : v.toInt < 31 → ws (f_X12_clash_J301 n (f_X12_clash_L172 n k) τ a5 v) (PK τ) := by
      intro hv
      unfold f_X12_clash_J301
      exact ws_l (ih (v + 1) (by (try simp only [iw_add, iw_sub, iw_mul, t_m1, lt0, lt1, t_2, t_3, t_4, t_5, t_6, t_8, t_9, t_10, t_16, t_20, t_24, t_26, t_30, t_31, t_48, t_64, t_72, t_76, t_92, t_101, t_252, t_444, t_512, t_900, t_1980, t_65521, t_99999, t_mil]) <;> omega) (by (try simp only [iw_add, iw_sub, iw_mul, t_m1, lt0, lt1, t_2, t_3, t_4, t_5, t_6, t_8, t_9, t_10, t_16, t_20, t_24, t_26, t_30, t_31, t_48, t_64, t_72, t_76, t_92, t_101, t_252, t_444, t_512, t_900, t_1980, t_65521, t_99999, t_mil]) <;> omega) (by (try simp only [iw_add, iw_sub, iw_mul, t_m1, lt0, lt1, t_2, t_3, t_4, t_5, t_6, t_8, t_9, t_10, t_16, t_20, t_24, t_26, t_30, t_31, t_48, t_64, t_72, t_76, t_92, t_101, t_252, t_444, t_512, t_900, t_1980, t_65521, t_99999, t_mil]) <;> omega))
    have hK : ws (f_X12_clash_J235 n τ a5 v) (PK τ) := by
      unfold f_X12_clash_J235
      exact ws_i (fun _ => ws_s (PKr hR _)) (fun _ => ws_i (fun _ => ws_g g0 (by omega) (ws_s (PKr hR _))) (fun _ => ws_i (fun _ => ws_g g0 (by omega) (ws_s (PKr hR _))) (fun _ => ws_i (fun _ => ws_g g0 (by omega) (ws_s (PKr hR _))) (fun _ => ws_g g0 (by omega) (ws_s (PKr hR _))))))
    exact ws_le (fun _ => ws_rf hR) (fun _ => ws_g g0 (by omega) (ws_g g0 (by omega) (ws_i (fun _ => ws_g g0 (by omega) (ws_g g0 (by omega) (ws_i (fun _ => ws_g g0 (by omega) (ws_g g0 (by omega) (ws_i (fun _ => hJ (by omega)) (fun _ => hK)))) (fun _ => hK)))) (fun _ => hJ (by omega)))))
theorem s_clash_L (n : Nat) (hn : 70000 ≤ n) (a1 a2 a3 a5 : Int32) (h0 : 0 ≤ a1.toInt) (h1 : a1.toInt ≤ 3) (h2 : 0 ≤ a2.toInt) (h3 : a2.toInt < a3.toInt) (h4 : a3.toInt ≤ 48) {w : Nat} (hl : w ≤ 31) : ∀ (k : Nat) (τ : ms_T) (v : Int32), RI τ → (ms_I τ 689).toInt = (w : Int) → 0 ≤ v.toInt → v.toInt ≤ 31 → 32 - v.toInt ≤ (k : Int) → ws (f_X12_clash_L83 n k τ a1 a2 a3 a5 v) (PK τ) := by
  intro k
  induction k with
  | zero => intro τ v hR hw g0 g1 g2; omega
  | succ k ih =>
    intro τ v hR hw g0 g1 g2
    rw [f_X12_clash_L83.eq_2]
    refine ws_le (fun _ => ?_) (fun _ => ?_)
    · refine ws_b (s_inclusion n hn τ a2 a3 h2 h3) (fun υ hυ => ?_)
      obtain ⟨u, hu, hm⟩ := hυ
      have hυR := RI_fr hR hu.1 (by decide)
      refine ws_pk hR hu.1 (by decide) (ws_b (s_fetches n hn hυR.2 hu (by omega) (by omega) a1 h0 h1) (fun ρ hρ => ?_))
      have hρR := RI_fr hυR hρ (by decide)
      have hf0 : fr [689] [] ρ (ms_sI ρ 689 0) := fr_sI (by decide)
      have hR0 := RI_fr hρR hf0 (by decide)
      refine ws_pk hυR hρ (by decide) (ws_l (ws_b (s_entryMark hn hR0.2 a1 a2 h0 h1 h2 (by omega)) (fun x _ => ws_c (s_steps0 n hn hρR x a2 a3 h2 h3) (fun y φ hφ => ?_))))
      obtain ⟨w', hw', hl'⟩ := hφ
      exact ws_pk hρR hw'.1 (by decide) (s_clash_M n (RI_fr hρR hw'.1 (by decide)) a5 hw'.2 hl' n 0 (by decide) (by decide) (by rw [lt0]; omega))
    · refine ws_g g0 (by omega) (ws_g g0 (by omega) (ws_l (ws_g g0 (by omega) (ws_g g0 (by omega) (ws_l (ws_g g0 (by omega) (ws_g g0 (by omega) (ws_l (ws_l ?_)))))))))
      generalize hρ : ms_sE (ms_sE (ms_sE τ 54 v.toNatClampNeg (ms_E τ 51 v.toNatClampNeg)) 55 v.toNatClampNeg _) 56 v.toNatClampNeg _ = ρ
      have hf : fr [] [54, 55, 56] τ ρ := by rw [← hρ]; exact fr_tr (fr_sE (by decide)) (fr_tr (fr_sE (by decide)) (fr_sE (by decide)))
      exact ws_pk hR hf (by decide) (ih ρ (v + 1) (RI_fr hR hf (by decide)) (by rw [hf.1 689 (by simp)]; exact hw) (by (try simp only [iw_add, iw_sub, iw_mul, t_m1, lt0, lt1, t_2, t_3, t_4, t_5, t_6, t_8, t_9, t_10, t_16, t_20, t_24, t_26, t_30, t_31, t_48, t_64, t_72, t_76, t_92, t_101, t_252, t_444, t_512, t_900, t_1980, t_65521, t_99999, t_mil]) <;> omega) (by (try simp only [iw_add, iw_sub, iw_mul, t_m1, lt0, lt1, t_2, t_3, t_4, t_5, t_6, t_8, t_9, t_10, t_16, t_20, t_24, t_26, t_30, t_31, t_48, t_64, t_72, t_76, t_92, t_101, t_252, t_444, t_512, t_900, t_1980, t_65521, t_99999, t_mil]) <;> omega) (by (try simp only [iw_add, iw_sub, iw_mul, t_m1, lt0, lt1, t_2, t_3, t_4, t_5, t_6, t_8, t_9, t_10, t_16, t_20, t_24, t_26, t_30, t_31, t_48, t_64, t_72, t_76, t_92, t_101, t_252, t_444, t_512, t_900, t_1980, t_65521, t_99999, t_mil]) <;> omega))
theorem s_clash (n : Nat) (hn : 70000 ≤ n) (σ : ms_T) (hR : RI σ) (a1 a2 a3 a4 a5 : Int32) : ws (f_X12_clash n σ a1 a2 a3 a4 a5) (PK σ) := by
  have L := lits
  have hC := hR.2
  have hJ : ∀ w : Int32, (w = 0 → 0 ≤ a1.toInt ∧ a1.toInt ≤ 3 ∧ 0 ≤ a2.toInt ∧ a2.toInt < a3.toInt ∧ a3.toInt ≤ 48) → ws (f_X12_clash_J31 n σ a1 a2 a3 a4 a5 w) (PK σ) := by
    intro w hw
    unfold f_X12_clash_J31
    refine ws_isP hR (fun e τ hτ hE hf => ?_)
    have := hw e
    refine ws_c (s_fromPad n hn τ hτ.2) (fun a υ hυ => ?_)
    have hυR := RI_fr hτ hυ.1 (by decide)
    refine ws_pk hτ hυ.1 (by decide) (ws_b (s_headOf n hn hυR.2 a1 a3 (by omega) (by omega) (by omega) (by omega)) (fun x _ => ws_c (s_whyIn n hn υ hυR.2 a a4 a2 a3 x (by omega) (by omega)) (fun b ρ hρ => ?_)))
    have hρR := RI_fr hυR hρ (by decide)
    refine ws_pk hυR hρ (by decide) (ws_i (fun _ => ws_l (ws_c (s_steps0 n hn hρR a4 a2 a3 (by omega) (by omega)) (fun y φ hφ => ?_))) (fun _ => ws_rf hρR))
    obtain ⟨w', hw', hl'⟩ := hφ
    exact ws_pk hρR hw'.1 (by decide) (s_clash_L n hn a1 a2 a3 a5 (by omega) (by omega) (by omega) (by omega) (by omega) hl' n φ 0 (RI_fr hρR hw'.1 (by decide)) hw'.2 (by decide) (by decide) (by rw [lt0]; omega))
  unfold f_X12_clash
  repeat' (first
    | with_reducible refine ws_bo (s_isRecord (by assumption) _) (fun _ => ?_) (fun _ => ?_)
    | with_reducible refine ws_bo (s_isMark (by assumption) _) (fun _ => ?_) (fun _ => ?_)
    | with_reducible refine ws_bo (s_isIn _ _ _ _) (fun _ => ?_) (fun _ => ?_)
    | with_reducible refine ws_bo (s_isWatcher _ _) (fun _ => ?_) (fun _ => ?_)
    | with_reducible refine ws_bo (s_isThing _ _ _ _) (fun _ => ?_) (fun _ => ?_)
    | with_reducible refine ws_b (s_noSize (by assumption) _ _) (fun _ _ => ?_)
    | with_reducible refine ws_b (s_noEntry (by assumption) _ _ _) (fun _ _ => ?_)
    | with_reducible refine ws_b (s_sizeOf (by assumption) _ (by omega) (by omega)) (fun _ _ => ?_)
    | with_reducible refine ws_lt (fun _ => ?_) (fun _ => ?_)
    | with_reducible refine ws_le (fun _ => ?_) (fun _ => ?_)
    | with_reducible refine ws_ee (fun _ _ => ?_) (fun _ => ?_)
    | with_reducible refine ws_g (by decide) (by decide) ?_
    | with_reducible refine ws_g (by omega) (by omega) ?_)
  all_goals first
    | exact hJ _ (fun h => absurd h (by decide))
    | exact hJ _ (fun _ => by omega)
    | (refine hJ _ (fun h => ?_); rename_i q; have := q h; omega)
/-! chains -/
theorem s_growth7 (n : Nat) (hn : 70000 ≤ n) (σ : ms_T) (i m : Int32) (hm : m.toInt ≤ 48) : ws (f_X12_growth n σ i m) (fun τ => ∃ w, wy m.toInt σ τ w ∧ w ≤ 7) := by
  unfold f_X12_growth
  have b := ib_hi m
  refine ws_l (ws_le (fun c => ws_s ⟨0, wy_0, by omega⟩) (fun c => ws_le (fun g => ws_s ⟨0, wy_0, by omega⟩) (fun g => ?_)))
  rw [lt0] at c
  refine ws_b (s_growsIn n hn b 6 40 0 σ _ 0 i m 1 (by omega) wy_0 (by omega) (by decide) (by omega) (by omega) (by rw [lt0]; omega) (by have : p2 6 = 64 := (by decide); omega)) (fun τ hτ => ?_)
  obtain ⟨w, hw, hl⟩ := hτ
  exact ws_s ⟨w, hw, by omega⟩
def ct (g : Nat → Int) (v : Int) : Nat → Nat
  | 0 => 0
  | k + 1 => ct g v k + (if v < g k then 1 else 0)
theorem ct_le (g : Nat → Int) (v : Int) : ∀ k, ct g v k ≤ k := by
  intro k
  induction k with
  | zero => exact Nat.le_refl _
  | succ k ih => unfold ct; split <;> omega
theorem ct_mono (g : Nat → Int) {v u : Int} (h : v ≤ u) : ∀ k, ct g u k ≤ ct g v k := by
  intro k
  induction k with
  | zero => exact Nat.le_refl _
  | succ k ih =>
    unfold ct
    by_cases q : u < g k
    · rw [if_pos q, if_pos (by omega)]; omega
    · rw [if_neg q]; omega
theorem ct_lt (g : Nat → Int) {v u : Int} (h : v < u) : ∀ k j, j < k → g j = u → ct g u k < ct g v k := by
  intro k
  induction k with
  | zero => intro j hj; omega
  | succ k ih =>
    intro j hj hg
    unfold ct
    by_cases e : j = k
    · subst e
      have := ct_mono g (show v ≤ u by omega) j
      rw [if_neg (by omega), if_pos (by omega)]; omega
    · have := ih j (by omega) hg
      by_cases q : u < g k
      · rw [if_pos q, if_pos (by omega)]; omega
      · rw [if_neg q]; omega
/-- the size of what was frozen as the j-th -/
def fz (σ : ms_T) (j : Nat) : Int := (ms_E σ 40 (93 + 10 * j)).toInt
def sab (σ : ms_T) (v r : Int32) : Prop := r = -1 ∨ (v.toInt < r.toInt ∧ 0 ≤ r.toInt ∧ r.toInt ≤ 48 ∧ ∃ j, j < 16 ∧ fz σ j = r.toInt)
theorem s_sizeAbove_L (n : Nat) {σ : ms_T} (hC : rC (ms_E σ 40)) (a u : Int32) : ∀ (k : Nat) (x v : Int32), sab σ u x → 0 ≤ v.toInt → v.toInt ≤ 16 → 17 - v.toInt ≤ (k : Int) → ws (f_X12_sizeAbove_L5 n σ k a u x v) (sab σ u) := by
  intro k
  induction k with
  | zero => intro x v hx g0 g1 g2; omega
  | succ k ih =>
    intro x v hx g0 g1 g2
    have h16 := hC.2.2.2.1
    rw [f_X12_sizeAbove_L5.eq_2, c3]
    have hJ : v.toInt < 16 → ∀ x, sab σ u x → ws (f_X12_sizeAbove_J61 n σ (f_X12_sizeAbove_L5 n σ k) a u x v) (sab σ u) := by
      intro hv x hx
      unfold f_X12_sizeAbove_J61
      exact ws_l (ih _ (v + 1) hx (by (try simp only [iw_add, iw_sub, iw_mul, t_m1, lt0, lt1, t_2, t_3, t_4, t_5, t_6, t_8, t_9, t_10, t_16, t_20, t_24, t_26, t_30, t_31, t_48, t_64, t_72, t_76, t_92, t_101, t_252, t_444, t_512, t_900, t_1980, t_65521, t_99999, t_mil]) <;> omega) (by (try simp only [iw_add, iw_sub, iw_mul, t_m1, lt0, lt1, t_2, t_3, t_4, t_5, t_6, t_8, t_9, t_10, t_16, t_20, t_24, t_26, t_30, t_31, t_48, t_64, t_72, t_76, t_92, t_101, t_252, t_444, t_512, t_900, t_1980, t_65521, t_99999, t_mil]) <;> omega) (by (try simp only [iw_add, iw_sub, iw_mul, t_m1, lt0, lt1, t_2, t_3, t_4, t_5, t_6, t_8, t_9, t_10, t_16, t_20, t_24, t_26, t_30, t_31, t_48, t_64, t_72, t_76, t_92, t_101, t_252, t_444, t_512, t_900, t_1980, t_65521, t_99999, t_mil]) <;> omega))
    refine ws_g (by decide) (by decide) (ws_le (fun _ => ws_s hx) (fun _ => ?_))
    have f1 : ws (f_X12_froze n σ v 1) (fun r => r = ms_E σ 40 (93 + 10 * v.toInt.toNat)) := by
      unfold f_X12_froze
      have e1 : ((92 : Int32) + 10 * v).toInt = 92 + 10 * v.toInt := by (try simp only [iw_add, iw_sub, iw_mul, t_m1, lt0, lt1, t_2, t_3, t_4, t_5, t_6, t_8, t_9, t_10, t_16, t_20, t_24, t_26, t_30, t_31, t_48, t_64, t_72, t_76, t_92, t_101, t_252, t_444, t_512, t_900, t_1980, t_65521, t_99999, t_mil]) <;> omega
      have e2 : ((92 : Int32) + 10 * v + 1).toInt = 93 + 10 * v.toInt := by rw [iw_add, e1, lt1]; omega
      refine ws_g (by omega) (by omega) (ws_s ?_)
      rw [cl_n (i := (92 : Int32) + 10 * v + 1) (k := 93 + 10 * v.toInt.toNat) (by omega)]
    have hz := hC.2.2.2.2.2.2.2.1 v.toInt.toNat (by omega)
    have hJ5 : u.toInt < (ms_E σ 40 (93 + 10 * v.toInt.toNat)).toInt → ws (f_X12_sizeAbove_J53 n σ (f_X12_sizeAbove_L5 n σ k) a u v) (sab σ u) := by
      intro hu
      unfold f_X12_sizeAbove_J53
      refine ws_b f1 (fun r hr => hJ (by omega) r (Or.inr ?_))
      rw [hr]
      exact ⟨hu, hz.1, hz.2, v.toInt.toNat, by omega, rfl⟩
    refine ws_b (s_froze hC v 0 g0 (by omega) (by decide) (by decide)) (fun _ _ => ws_i (fun _ => ?_) (fun _ => hJ (by omega) _ hx))
    refine ws_b f1 (fun r hr => ws_le (fun _ => hJ (by omega) _ hx) (fun hu => ?_))
    rw [hr] at hu
    exact ws_i (fun _ => hJ5 hu) (fun _ => ws_b f1 (fun s hs => ws_i (fun _ => hJ (by omega) _ hx) (fun _ => hJ5 hu)))
theorem s_sizeAbove (n : Nat) (hn : 70000 ≤ n) {σ : ms_T} (hC : rC (ms_E σ 40)) (a u : Int32) : ws (f_X12_sizeAbove n σ a u) (sab σ u) := by
  unfold f_X12_sizeAbove
  exact s_sizeAbove_L n hC a u n (-1) 0 (Or.inl rfl) (by decide) (by decide) (by rw [lt0]; omega)
theorem s_chain_L (n : Nat) (hn : 70000 ≤ n) (a1 a2 : Int32) : ∀ (k M : Nat) (τ : ms_T) (x y u v : Int32), RI τ → 0 ≤ (ms_I τ 695).toInt → (v.toInt < 0 ∨ (v.toInt ≤ 48 ∧ M = ct (fz τ) v.toInt 16 ∧ (ms_I τ 695).toInt + 8 * (M + 1) ≤ 136 ∧ M + 1 < k)) → 1 ≤ k → ws (f_X12_chain_L56 n k τ a1 a2 x y u v) (PK τ) := by
  intro k
  induction k with
  | zero => intro M τ x y u v hR h0 hv hk; omega
  | succ k ih =>
    intro M τ x y u v hR h0 hv hk
    have l0 := lt0
    rw [f_X12_chain_L56.eq_2]
    refine ws_lt (fun _ => ws_i (fun _ => ws_s (PKr hR _)) (fun _ => ws_i (fun _ => ws_s (PKr hR _)) (fun _ => ws_s (PKr hR _)))) (fun hv0 => ?_)
    obtain ⟨v1, hM, hc, hk1⟩ := hv.resolve_left (by omega)
    have hJ : ∀ (ρ : ms_T) (w : Nat) (x y : Int32), fr [657] [42, 43] τ ρ → (ms_I ρ 657).toInt = (w : Int) → w ≤ 7 → ws (f_X12_chain_J82 n (f_X12_chain_L56 n k) ρ a1 a2 x y v) (PK τ) := by
      intro ρ w x y hf hw hl
      unfold f_X12_chain_J82
      have hρR := RI_fr hR hf (by decide)
      have e9 : ms_I ρ 695 = ms_I τ 695 := hf.1 695 (by decide)
      refine ws_pk hR hf (by decide) (ws_l (ws_b (s_notes n hn (w := w) (c := (ms_I τ 695).toInt.toNat) (by omega) (by omega) hw (by rw [e9]; omega) (by rw [e9]; omega)) (fun φ hφ => ?_)))
      have hφR := RI_fr hρR hφ.1 (by decide)
      have h1 := hφ.2
      refine ws_pk hρR hφ.1 (by decide) (ws_b (s_sizeAbove n hn hφR.2 a1 v) (fun r hr => ?_))
      rcases hr with hr | ⟨r1, r2, r3, j, r4, r5⟩
      · exact ih 0 φ _ _ _ r hφR h1.1 (Or.inl (by rw [hr]; decide)) (by omega)
      · have ez : fz φ = fz τ := by
          funext i
          show (ms_E φ 40 _).toInt = (ms_E τ 40 _).toInt
          rw [hφ.1.2 40 (by decide), hf.2 40 (by decide)]
        have hlt := ct_lt (fz φ) r1 16 j r4 r5
        rw [ez] at hlt
        refine ih (ct (fz φ) r.toInt 16) φ _ _ _ r hφR h1.1 (Or.inr ⟨r3, rfl, ?_, ?_⟩) (by omega)
        · rw [ez]; omega
        · rw [ez]; omega
    refine ws_l (ws_l (ws_i (fun _ => hJ _ 0 _ _ (fr_sI (by decide)) (by rw [mI_sI, if_pos rfl]; rfl) (by omega)) (fun _ => ?_)))
    refine ws_b (s_growth7 n hn _ u v v1) (fun ρ hρ => ?_)
    obtain ⟨w, hw, hl⟩ := hρ
    exact hJ ρ w _ _ (fr_tr (fr_sI (by decide)) hw.1) hw.2.1 hl
theorem s_chain (n : Nat) (hn : 70000 ≤ n) (σ : ms_T) (hR : RI σ) (a1 a2 : Int32) : ws (f_X12_chain n σ a1 a2) (PK σ) := by
  have hC := hR.2
  have hJ : ∀ w : Int32, (w = 0 → (0 : Int) = 0) → ws (f_X12_chain_J27 n σ a1 a2 w) (PK σ) := by
    intro w hw
    unfold f_X12_chain_J27
    refine ws_isP hR (fun e τ hτ hE hf => ?_)
    have hf0 : fr [695] [] τ (ms_sI τ 695 0) := fr_sI (by decide)
    have hR0 := RI_fr hτ hf0 (by decide)
    have e9 : ms_I (ms_sI τ 695 0) 695 = 0 := by rw [mI_sI, if_pos rfl]
    refine ws_pk hτ hf0 (by decide) (ws_l (ws_b (s_sizeAbove n hn hR0.2 a1 (-1)) (fun r hr => ?_)))
    have hct := ct_le (fz (ms_sI τ 695 0)) r.toInt 16
    refine s_chain_L n hn a1 a2 n (ct (fz (ms_sI τ 695 0)) r.toInt 16) _ 0 0 (-1) r hR0 (by rw [e9]; decide) ?_ (by omega)
    rcases hr with hr | ⟨r1, r2, r3, j, r4, r5⟩
    · exact Or.inl (by rw [hr]; decide)
    · exact Or.inr ⟨r3, rfl, by rw [e9, lt0]; omega, by omega⟩
  unfold f_X12_chain
  repeat' (first
    | with_reducible refine ws_bo (s_isRecord (by assumption) _) (fun _ => ?_) (fun _ => ?_)
    | with_reducible refine ws_bo (s_isMark (by assumption) _) (fun _ => ?_) (fun _ => ?_)
    | with_reducible refine ws_bo (s_isIn _ _ _ _) (fun _ => ?_) (fun _ => ?_)
    | with_reducible refine ws_bo (s_isWatcher _ _) (fun _ => ?_) (fun _ => ?_)
    | with_reducible refine ws_bo (s_isThing _ _ _ _) (fun _ => ?_) (fun _ => ?_)
    | with_reducible refine ws_b (s_noSize (by assumption) _ _) (fun _ _ => ?_)
    | with_reducible refine ws_b (s_noEntry (by assumption) _ _ _) (fun _ _ => ?_)
    | with_reducible refine ws_b (s_sizeOf (by assumption) _ (by omega) (by omega)) (fun _ _ => ?_)
    | with_reducible refine ws_lt (fun _ => ?_) (fun _ => ?_)
    | with_reducible refine ws_le (fun _ => ?_) (fun _ => ?_)
    | with_reducible refine ws_ee (fun _ _ => ?_) (fun _ => ?_)
    | with_reducible refine ws_g (by decide) (by decide) ?_
    | with_reducible refine ws_g (by omega) (by omega) ?_)
  all_goals first
    | exact hJ _ (fun h => absurd h (by decide))
    | exact hJ _ (fun _ => by omega)
    | (refine hJ _ (fun h => ?_); rename_i q; have := q h; omega)
end JN7_19
section JN7_20
/-! ===== what stores: type, add, fork, freeze, show, meet, feed ===== -/
theorem RI_664 {τ : ms_T} {v : Int32} (h : RI τ) (h0 : 0 ≤ v.toInt) (h1 : v.toInt ≤ 8) : RI (ms_sI τ 664 v) :=
  ⟨⟨by rw [mI_sI, if_pos rfl]; exact ⟨h0, h1⟩, by rw [mI_sI, if_neg (by decide)]; exact h.1.2.1, by rw [mI_sI, if_neg (by decide)]; exact h.1.2.2.1, by rw [mI_sI, if_neg (by decide)]; exact h.1.2.2.2⟩, h.2⟩
theorem s_type_C (n : Nat) (m : Int32) (h0 : 0 ≤ m.toInt) (h1 : m.toInt ≤ 8) : ∀ (k : Nat) (τ : ms_T) (v : Int32), RI τ → 0 ≤ v.toInt → v.toInt ≤ 8 → 9 - v.toInt ≤ (k : Int) → ws (f_X12_type_L102 n k τ m v) (PK τ) := by
  intro k
  induction k with
  | zero => intro τ v hR g0 g1 g2; omega
  | succ k ih =>
    intro τ v hR g0 g1 g2
    rw [f_X12_type_L102.eq_2]
    refine ws_le (fun _ => ws_l (ws_s (PKs (RI_664 hR h0 h1) (by rw [mI_sI, if_neg (by decide)]) _))) (fun _ => ?_)
    have hf : fr [] [45] τ (ms_sE τ 45 v.toNatClampNeg (ms_E τ 46 v.toNatClampNeg)) := fr_sE (by decide)
    exact ws_g g0 (by omega) (ws_g g0 (by omega) (ws_pk hR hf (by decide) (ws_l (ws_l (ih _ (v + 1) (RI_fr hR hf (by decide)) (by (try simp only [iw_add, iw_sub, iw_mul, t_m1, lt0, lt1, t_2, t_3, t_4, t_5, t_6, t_8, t_9, t_10, t_16, t_20, t_24, t_26, t_30, t_31, t_48, t_64, t_72, t_76, t_92, t_101, t_252, t_444, t_512, t_900, t_1980, t_65521, t_99999, t_mil]) <;> omega) (by (try simp only [iw_add, iw_sub, iw_mul, t_m1, lt0, lt1, t_2, t_3, t_4, t_5, t_6, t_8, t_9, t_10, t_16, t_20, t_24, t_26, t_30, t_31, t_48, t_64, t_72, t_76, t_92, t_101, t_252, t_444, t_512, t_900, t_1980, t_65521, t_99999, t_mil]) <;> omega) (by (try simp only [iw_add, iw_sub, iw_mul, t_m1, lt0, lt1, t_2, t_3, t_4, t_5, t_6, t_8, t_9, t_10, t_16, t_20, t_24, t_26, t_30, t_31, t_48, t_64, t_72, t_76, t_92, t_101, t_252, t_444, t_512, t_900, t_1980, t_65521, t_99999, t_mil]) <;> omega))))))
theorem s_type_L (n : Nat) (hn : 70000 ≤ n) (a1 a2 : Int32) : ∀ (k : Nat) (τ : ms_T) (x y v : Int32), RI τ → 0 ≤ x.toInt → x.toInt ≤ v.toInt → v.toInt ≤ 8 → 9 - v.toInt ≤ (k : Int) → ws (f_X12_type_L13 n k τ a1 a2 x y v) (PK τ) := by
  intro k
  induction k with
  | zero => intro τ x y v hR g0 g1 g2 g3; omega
  | succ k ih =>
    intro τ x y v hR g0 g1 g2 g3
    have L := lits
    rw [f_X12_type_L13.eq_2]
    have h9 : ws (f_X12_type_J99 n τ x) (PK τ) := by
      unfold f_X12_type_J99
      exact s_type_C n x g0 (by omega) n τ 0 hR (by decide) (by decide) (by rw [lt0]; omega)
    have hJ : v.toInt < 8 → ∀ w, ws (f_X12_type_J37 n (f_X12_type_L13 n k) τ a1 a2 x v w) (PK τ) := by
      intro hv w
      have h69 : ∀ (l u : Int32), ws (f_X12_type_J69 n (f_X12_type_L13 n k) τ a1 a2 x v l u) (PK τ) := by
        intro l u
        unfold f_X12_type_J69 f_X12_type_J91
        have hf : fr [] [46] τ (ms_sE τ 46 v.toNatClampNeg l) := fr_sE (by decide)
        have hR1 := RI_fr hR hf (by decide)
        refine ws_g (by omega) (by omega) (ws_pk hR hf (by decide) (ws_l (ws_i (fun _ => ws_l (ws_l ?_)) (fun _ => ws_l (ws_l ?_)))))
        · exact ih _ (x + 0) _ (v + 1) hR1 (by (try simp only [iw_add, iw_sub, iw_mul, t_m1, lt0, lt1, t_2, t_3, t_4, t_5, t_6, t_8, t_9, t_10, t_16, t_20, t_24, t_26, t_30, t_31, t_48, t_64, t_72, t_76, t_92, t_101, t_252, t_444, t_512, t_900, t_1980, t_65521, t_99999, t_mil]) <;> omega) (by (try simp only [iw_add, iw_sub, iw_mul, t_m1, lt0, lt1, t_2, t_3, t_4, t_5, t_6, t_8, t_9, t_10, t_16, t_20, t_24, t_26, t_30, t_31, t_48, t_64, t_72, t_76, t_92, t_101, t_252, t_444, t_512, t_900, t_1980, t_65521, t_99999, t_mil]) <;> omega) (by (try simp only [iw_add, iw_sub, iw_mul, t_m1, lt0, lt1, t_2, t_3, t_4, t_5, t_6, t_8, t_9, t_10, t_16, t_20, t_24, t_26, t_30, t_31, t_48, t_64, t_72, t_76, t_92, t_101, t_252, t_444, t_512, t_900, t_1980, t_65521, t_99999, t_mil]) <;> omega) (by (try simp only [iw_add, iw_sub, iw_mul, t_m1, lt0, lt1, t_2, t_3, t_4, t_5, t_6, t_8, t_9, t_10, t_16, t_20, t_24, t_26, t_30, t_31, t_48, t_64, t_72, t_76, t_92, t_101, t_252, t_444, t_512, t_900, t_1980, t_65521, t_99999, t_mil]) <;> omega)
        · exact ih _ (x + 1) _ (v + 1) hR1 (by (try simp only [iw_add, iw_sub, iw_mul, t_m1, lt0, lt1, t_2, t_3, t_4, t_5, t_6, t_8, t_9, t_10, t_16, t_20, t_24, t_26, t_30, t_31, t_48, t_64, t_72, t_76, t_92, t_101, t_252, t_444, t_512, t_900, t_1980, t_65521, t_99999, t_mil]) <;> omega) (by (try simp only [iw_add, iw_sub, iw_mul, t_m1, lt0, lt1, t_2, t_3, t_4, t_5, t_6, t_8, t_9, t_10, t_16, t_20, t_24, t_26, t_30, t_31, t_48, t_64, t_72, t_76, t_92, t_101, t_252, t_444, t_512, t_900, t_1980, t_65521, t_99999, t_mil]) <;> omega) (by (try simp only [iw_add, iw_sub, iw_mul, t_m1, lt0, lt1, t_2, t_3, t_4, t_5, t_6, t_8, t_9, t_10, t_16, t_20, t_24, t_26, t_30, t_31, t_48, t_64, t_72, t_76, t_92, t_101, t_252, t_444, t_512, t_900, t_1980, t_65521, t_99999, t_mil]) <;> omega) (by (try simp only [iw_add, iw_sub, iw_mul, t_m1, lt0, lt1, t_2, t_3, t_4, t_5, t_6, t_8, t_9, t_10, t_16, t_20, t_24, t_26, t_30, t_31, t_48, t_64, t_72, t_76, t_92, t_101, t_252, t_444, t_512, t_900, t_1980, t_65521, t_99999, t_mil]) <;> omega)
      unfold f_X12_type_J37
      exact ws_ln (fun l _ => ws_i (fun _ => ws_i (fun _ => h69 _ _) (fun _ => h69 _ _)) (fun _ => ws_s (PKr hR _)))
    exact ws_le (fun _ => h9) (fun _ => ws_i (fun _ => h9) (fun _ => ws_i (fun _ => hJ (by omega) _) (fun _ => hJ (by omega) _)))
theorem s_type (n : Nat) (hn : 70000 ≤ n) (σ : ms_T) (hR : RI σ) (a1 a2 : Int32) : ws (f_X12_type n σ a1 a2) (PK σ) := by
  unfold f_X12_type
  have hf : fr [653] [] σ (ms_sI σ 653 0) := fr_sI (by decide)
  exact ws_pk hR hf (by decide) (ws_l (s_type_L n hn a1 a2 n _ 0 1 0 (RI_fr hR hf (by decide)) (by decide) (by decide) (by decide) (by rw [lt0]; omega)))
theorem s_hand_L (n : Nat) : ∀ (k : Nat) (σ0 σ : ms_T) (v : Int32), fr [] [46] σ0 σ → (ms_I σ0 664).toInt ≤ 8 → 0 ≤ v.toInt → v.toInt ≤ 8 → 9 - v.toInt ≤ (k : Int) → ws (f_X12_hand_L2 n k σ v) (fun τ => fr [665] [46] σ0 τ ∧ ms_I τ 665 = ms_I σ0 664) := by
  intro k
  induction k with
  | zero => intro σ0 σ v hf h8 g0 g1 g2; omega
  | succ k ih =>
    intro σ0 σ v hf h8 g0 g1 g2
    rw [f_X12_hand_L2.eq_2]
    have e4 : ms_I σ 664 = ms_I σ0 664 := hf.1 664 (by simp)
    rw [e4]
    refine ws_le (fun _ => ws_l (ws_s ⟨fr_tr (fr_sb hf (by decide) (by decide)) (fr_sI (by decide)), by rw [mI_sI, if_pos rfl]⟩)) (fun _ => ?_)
    exact ws_g g0 (by omega) (ws_g g0 (by omega) (ws_l (ws_l (ih σ0 _ (v + 1) (fr_tr hf (fr_sE (by decide))) h8 (by (try simp only [iw_add, iw_sub, iw_mul, t_m1, lt0, lt1, t_2, t_3, t_4, t_5, t_6, t_8, t_9, t_10, t_16, t_20, t_24, t_26, t_30, t_31, t_48, t_64, t_72, t_76, t_92, t_101, t_252, t_444, t_512, t_900, t_1980, t_65521, t_99999, t_mil]) <;> omega) (by (try simp only [iw_add, iw_sub, iw_mul, t_m1, lt0, lt1, t_2, t_3, t_4, t_5, t_6, t_8, t_9, t_10, t_16, t_20, t_24, t_26, t_30, t_31, t_48, t_64, t_72, t_76, t_92, t_101, t_252, t_444, t_512, t_900, t_1980, t_65521, t_99999, t_mil]) <;> omega) (by (try simp only [iw_add, iw_sub, iw_mul, t_m1, lt0, lt1, t_2, t_3, t_4, t_5, t_6, t_8, t_9, t_10, t_16, t_20, t_24, t_26, t_30, t_31, t_48, t_64, t_72, t_76, t_92, t_101, t_252, t_444, t_512, t_900, t_1980, t_65521, t_99999, t_mil]) <;> omega)))))
theorem s_hand (n : Nat) (hn : 70000 ≤ n) (σ : ms_T) (h : (ms_I σ 664).toInt ≤ 8) : ws (f_X12_hand n σ) (fun τ => fr [665] [46] σ τ ∧ ms_I τ 665 = ms_I σ 664) := by
  unfold f_X12_hand
  exact s_hand_L n n σ σ 0 fr_rf h (by decide) (by decide) (by rw [lt0]; omega)
/-- what stores into the cells leaves -/
def st (wI wE : List Nat) (σ : ms_T) (q : Int32 × ms_T) : Prop := fr wI wE σ q.2 ∧ rC (ms_E q.2 40)
theorem s_adds_L (n : Nat) (a q : Int32) (h0 : 0 ≤ a.toInt) (h1 : a.toInt ≤ 3) (h2 : 0 ≤ q.toInt) (h3 : q.toInt ≤ 191) : ∀ (k : Nat) (σ0 σ : ms_T) (v : Int32), fr [652, 653] [40] σ0 σ → rC (ms_E σ 40) → (ms_E σ 40 (72 + a.toInt.toNat)).toInt ≤ 47 → (ms_I σ0 665).toInt ≤ 8 → 0 ≤ v.toInt → v.toInt ≤ 8 → 9 - v.toInt ≤ (k : Int) → ws (f_X12_adds_L43 n k σ a q v) (st [652, 653] [40] σ0) := by
  intro k
  induction k with
  | zero => intro σ0 σ v hf hC hz h8 g0 g1 g2; omega
  | succ k ih =>
    intro σ0 σ v hf hC hz h8 g0 g1 g2
    rw [f_X12_adds_L43.eq_2]
    have e5 : ms_I σ 665 = ms_I σ0 665 := hf.1 665 (by decide)
    rw [e5]
    have e7 : ((72 : Int32) + a).toInt = 72 + a.toInt := by (try simp only [iw_add, iw_sub, iw_mul, t_m1, lt0, lt1, t_2, t_3, t_4, t_5, t_6, t_8, t_9, t_10, t_16, t_20, t_24, t_26, t_30, t_31, t_48, t_64, t_72, t_76, t_92, t_101, t_252, t_444, t_512, t_900, t_1980, t_65521, t_99999, t_mil]) <;> omega
    have ec := cl_n (i := (72 : Int32) + a) (k := 72 + a.toInt.toNat) (by omega)
    have hr := hC.2.2.2.2.1 a.toInt.toNat (by omega)
    refine ws_le (fun _ => ?_) (fun _ => ?_)
    · have e8 : (ms_E σ 40 (72 + a.toInt.toNat) + 1).toInt = (ms_E σ 40 (72 + a.toInt.toNat)).toInt + 1 := by rw [iw_add, lt1]; omega
      refine ws_ln (fun x hx => ?_)
      subst hx
      refine ws_g (by omega) (by omega) (ws_g (by omega) (by omega) ?_)
      rw [ec, c4]
      have hC1 : rC (ms_E (ms_sE σ 40 (72 + a.toInt.toNat) (ms_E σ 40 (72 + a.toInt.toNat) + 1)) 40) := rC_sE hC ⟨fun _ => by omega, fun _ => by omega, fun _ => by omega, fun _ => by omega, fun _ _ _ => by omega, fun _ _ _ => by omega, fun _ _ _ => by omega, fun _ _ _ => by omega, fun _ _ _ => by omega⟩
      refine ws_l (ws_g (by decide) (by decide) (ws_g (by decide) (by decide) (ws_l ?_)))
      have hC2 := rC_sE (j := 4) (v := ms_E (ms_sE σ 40 (72 + a.toInt.toNat) (ms_E σ 40 (72 + a.toInt.toNat) + 1)) 40 4 + 1) hC1 (rc_f (by omega))
      exact ws_b (s_sizeOf hC2 a h0 h1) (fun _ _ => ws_s ⟨fr_tr hf (fr_tr (fr_sE (by decide)) (fr_sE (by decide))), hC2⟩)
    · have e8 : ((8 : Int32) * q).toInt = 8 * q.toInt := by (try simp only [iw_add, iw_sub, iw_mul, t_m1, lt0, lt1, t_2, t_3, t_4, t_5, t_6, t_8, t_9, t_10, t_16, t_20, t_24, t_26, t_30, t_31, t_48, t_64, t_72, t_76, t_92, t_101, t_252, t_444, t_512, t_900, t_1980, t_65521, t_99999, t_mil]) <;> omega
      have e9 : ((444 : Int32) + 8 * q).toInt = 444 + 8 * q.toInt := by rw [iw_add, e8, t_444]; omega
      have e10 : ((444 : Int32) + 8 * q + v).toInt = 444 + 8 * q.toInt + v.toInt := by rw [iw_add, e9]; omega
      have ec2 := cl_n (i := (444 : Int32) + 8 * q + v) (k := (444 + 8 * q.toInt + v.toInt).toNat) (by omega)
      refine ws_g g0 (by omega) (ws_g (by omega) (by omega) ?_)
      rw [ec2]
      refine ws_l (ws_l (ih σ0 _ (v + 1) (fr_tr hf (fr_sE (by decide))) (rC_sE hC (rc_f (by omega))) ?_ h8 (by (try simp only [iw_add, iw_sub, iw_mul, t_m1, lt0, lt1, t_2, t_3, t_4, t_5, t_6, t_8, t_9, t_10, t_16, t_20, t_24, t_26, t_30, t_31, t_48, t_64, t_72, t_76, t_92, t_101, t_252, t_444, t_512, t_900, t_1980, t_65521, t_99999, t_mil]) <;> omega) (by (try simp only [iw_add, iw_sub, iw_mul, t_m1, lt0, lt1, t_2, t_3, t_4, t_5, t_6, t_8, t_9, t_10, t_16, t_20, t_24, t_26, t_30, t_31, t_48, t_64, t_72, t_76, t_92, t_101, t_252, t_444, t_512, t_900, t_1980, t_65521, t_99999, t_mil]) <;> omega) (by (try simp only [iw_add, iw_sub, iw_mul, t_m1, lt0, lt1, t_2, t_3, t_4, t_5, t_6, t_8, t_9, t_10, t_16, t_20, t_24, t_26, t_30, t_31, t_48, t_64, t_72, t_76, t_92, t_101, t_252, t_444, t_512, t_900, t_1980, t_65521, t_99999, t_mil]) <;> omega)))
      rw [mE_sE, if_neg (fun e => by omega)]
      exact hz
theorem s_adds (n : Nat) (hn : 70000 ≤ n) (σ : ms_T) (hC : rC (ms_E σ 40)) (h50 : 0 ≤ (ms_I σ 665).toInt) (h58 : (ms_I σ 665).toInt ≤ 8) (a : Int32) (h0 : 0 ≤ a.toInt) (h1 : a.toInt ≤ 3) : ws (f_X12_adds n σ a) (st [652, 653] [40] σ) := by
  unfold f_X12_adds
  refine ws_b (s_sizeOf hC a h0 h1) (fun r hr => ws_e (fun _ => ws_c (s_refuse n σ _) (fun x τ h => ws_s ⟨fr_sb h.1 (by decide) (by decide), rC_fr hC h.1 (by decide)⟩)) (fun c => ws_b (s_sizeOf hC a h0 h1) (fun s hs => ?_)))
  rw [t_48, hr.1, ← hs.1] at c
  have e1 : ((48 : Int32) * a).toInt = 48 * a.toInt := by (try simp only [iw_add, iw_sub, iw_mul, t_m1, lt0, lt1, t_2, t_3, t_4, t_5, t_6, t_8, t_9, t_10, t_16, t_20, t_24, t_26, t_30, t_31, t_48, t_64, t_72, t_76, t_92, t_101, t_252, t_444, t_512, t_900, t_1980, t_65521, t_99999, t_mil]) <;> omega
  have e2 : ((48 : Int32) * a + s).toInt = 48 * a.toInt + s.toInt := by rw [iw_add, e1]; omega
  have e3 : ((252 : Int32) + (48 * a + s)).toInt = 252 + 48 * a.toInt + s.toInt := by rw [iw_add, e2, t_252]; omega
  have ec := cl_n (i := (252 : Int32) + (48 * a + s)) (k := (252 + 48 * a.toInt + s.toInt).toNat) (by omega)
  refine ws_ln (fun x hx => ?_)
  subst hx
  refine ws_g (by omega) (by omega) ?_
  rw [ec]
  refine ws_l (s_adds_L n a _ h0 h1 (by omega) (by omega) n σ _ 0 (fr_sE (by decide)) (rC_sE hC ⟨fun _ => by omega, fun _ => by omega, fun _ => by omega, fun _ => by omega, fun _ _ _ => by omega, fun _ _ _ => by omega, fun _ _ _ => by omega, fun _ _ _ => by omega, fun _ _ _ => by omega⟩) ?_ h58 (by decide) (by decide) (by rw [lt0]; omega))
  rw [mE_sE, if_neg (fun e => by omega), ← hs.1]
  omega
theorem RI_st {wI wE : List Nat} {σ τ : ms_T} (h : RI σ) (f : fr wI wE σ τ) (k : fk wI [] = true) (hC : rC (ms_E τ 40)) : RI τ := by
  simp only [fk, Bool.and_eq_true] at k
  obtain ⟨⟨⟨⟨k1, k2⟩, k3⟩, k4⟩, k5⟩ := k
  have e1 := f.1 664 (by simpa using k1)
  have e2 := f.1 667 (by simpa using k2)
  have e3 := f.1 682 (by simpa using k3)
  have e4 := f.1 697 (by simpa using k4)
  refine ⟨?_, hC⟩
  unfold rI
  rw [e1, e2, e3, e4]
  exact h.1
theorem pk_st {wI wE : List Nat} {σ : ms_T} {q : Int32 × ms_T} (h : RI σ) (f : st wI wE σ q) (k : fk wI [] = true) : PK σ q := by
  refine ⟨RI_st h f.1 k f.2, f.1.1 667 ?_⟩
  simp only [fk, Bool.and_eq_true] at k
  simpa using k.1.1.1.2
theorem s_add (n : Nat) (hn : 70000 ≤ n) (σ : ms_T) (hR : RI σ) (a1 : Int32) : ws (f_X12_add n σ a1) (PK σ) := by
  have L := lits
  have hC := hR.2
  have h4 := hC.1
  have hJ : ∀ w : Int32, (w = 0 → 0 ≤ a1.toInt ∧ a1.toInt ≤ 3) → ws (f_X12_add_J14 n σ a1 w) (PK σ) := by
    intro w hw
    unfold f_X12_add_J14
    refine ws_isP hR (fun e τ hτ hE hf => ?_)
    have := hw e
    have h8 := hτ.1.1
    refine ws_b (s_hand n hn τ h8.2) (fun υ hυ => ?_)
    have hυR := RI_fr hτ hυ.1 (by decide)
    exact ws_pk hτ hυ.1 (by decide) (ws_c (s_adds n hn υ hυR.2 (by rw [hυ.2]; omega) (by rw [hυ.2]; omega) a1 (by omega) (by omega)) (fun x ρ hρ => ws_s (pk_st hυR hρ (by decide))))
  unfold f_X12_add
  repeat' (first
    | with_reducible refine ws_bo (s_isRecord (by assumption) _) (fun _ => ?_) (fun _ => ?_)
    | with_reducible refine ws_bo (s_isMark (by assumption) _) (fun _ => ?_) (fun _ => ?_)
    | with_reducible refine ws_bo (s_isIn _ _ _ _) (fun _ => ?_) (fun _ => ?_)
    | with_reducible refine ws_bo (s_isWatcher _ _) (fun _ => ?_) (fun _ => ?_)
    | with_reducible refine ws_bo (s_isThing _ _ _ _) (fun _ => ?_) (fun _ => ?_)
    | with_reducible refine ws_b (s_noSize (by assumption) _ _) (fun _ _ => ?_)
    | with_reducible refine ws_b (s_noEntry (by assumption) _ _ _) (fun _ _ => ?_)
    | with_reducible refine ws_b (s_sizeOf (by assumption) _ (by omega) (by omega)) (fun _ _ => ?_)
    | with_reducible refine ws_lt (fun _ => ?_) (fun _ => ?_)
    | with_reducible refine ws_le (fun _ => ?_) (fun _ => ?_)
    | with_reducible refine ws_ee (fun _ _ => ?_) (fun _ => ?_)
    | with_reducible refine ws_g (by decide) (by decide) ?_
    | with_reducible refine ws_g (by omega) (by omega) ?_)
  all_goals first
    | exact hJ _ (fun h => absurd h (by decide))
    | exact hJ _ (fun _ => by omega)
    | (refine hJ _ (fun h => ?_); rename_i q; have := q h; omega)
/-! forks -/
theorem s_forks_L (n : Nat) (hn : 70000 ≤ n) (a m x : Int32) (h0 : 0 ≤ a.toInt) (h1 : a.toInt ≤ 3) (h2 : 0 ≤ m.toInt) (h3 : m.toInt ≤ 48) (h4 : 0 ≤ x.toInt) (h5 : x.toInt ≤ 3) : ∀ (k : Nat) (σ0 σ : ms_T) (v : Int32), fr [652, 653] [40] σ0 σ → rC (ms_E σ 40) → (ms_E σ 40 0).toInt ≤ 3 → 0 ≤ v.toInt → v.toInt ≤ 48 → 49 - v.toInt ≤ (k : Int) → ws (f_X12_forks_L41 n k σ a m x v) (fun q => st [652, 653] [40] σ0 q ∧ q.1 = x) := by
  intro k
  induction k with
  | zero => intro σ0 σ v hf hC hz g0 g1 g2; omega
  | succ k ih =>
    intro σ0 σ v hf hC hz g0 g1 g2
    have hL : v.toInt < 48 → ∀ (j : Nat) (τ : ms_T) (u : Int32), fr [652, 653] [40] σ0 τ → rC (ms_E τ 40) → (ms_E τ 40 0).toInt ≤ 3 → 0 ≤ u.toInt → u.toInt ≤ 8 → 9 - u.toInt ≤ (j : Int) → ws (f_X12_forks_L82 n (f_X12_forks_L41 n k) j τ a m x v u) (fun q => st [652, 653] [40] σ0 q ∧ q.1 = x) := by
      intro hv j
      induction j with
      | zero => intro τ u f1 f2 f3 p0 p1 p2; omega
      | succ j ih2 =>
        intro τ u f1 f2 f3 p0 p1 p2
        have t8 := t_8
        rw [f_X12_forks_L82.eq_2]
        have ea : ∀ y : Int32, 0 ≤ y.toInt → y.toInt ≤ 3 → u.toInt ≤ 7 → ((444 : Int32) + 8 * (48 * y + v) + u).toInt = 444 + 384 * y.toInt + 8 * v.toInt + u.toInt := by
          intro y y0 y1 u7
          have e1 : ((48 : Int32) * y).toInt = 48 * y.toInt := by (try simp only [iw_add, iw_sub, iw_mul, t_m1, lt0, lt1, t_2, t_3, t_4, t_5, t_6, t_8, t_9, t_10, t_16, t_20, t_24, t_26, t_30, t_31, t_48, t_64, t_72, t_76, t_92, t_101, t_252, t_444, t_512, t_900, t_1980, t_65521, t_99999, t_mil]) <;> omega
          have e2 : ((48 : Int32) * y + v).toInt = 48 * y.toInt + v.toInt := by rw [iw_add, e1]; omega
          have e4 : ((8 : Int32) * (48 * y + v)).toInt = 384 * y.toInt + 8 * v.toInt := by rw [iw_mul, e2, t_8]; omega
          have e5 : ((444 : Int32) + 8 * (48 * y + v)).toInt = 444 + 384 * y.toInt + 8 * v.toInt := by rw [iw_add, e4, t_444]; omega
          rw [iw_add, e5]; omega
        refine ws_le (fun _ => ws_l (ih σ0 τ (v + 1) f1 f2 f3 (by (try simp only [iw_add, iw_sub, iw_mul, t_m1, lt0, lt1, t_2, t_3, t_4, t_5, t_6, t_8, t_9, t_10, t_16, t_20, t_24, t_26, t_30, t_31, t_48, t_64, t_72, t_76, t_92, t_101, t_252, t_444, t_512, t_900, t_1980, t_65521, t_99999, t_mil]) <;> omega) (by (try simp only [iw_add, iw_sub, iw_mul, t_m1, lt0, lt1, t_2, t_3, t_4, t_5, t_6, t_8, t_9, t_10, t_16, t_20, t_24, t_26, t_30, t_31, t_48, t_64, t_72, t_76, t_92, t_101, t_252, t_444, t_512, t_900, t_1980, t_65521, t_99999, t_mil]) <;> omega) (by (try simp only [iw_add, iw_sub, iw_mul, t_m1, lt0, lt1, t_2, t_3, t_4, t_5, t_6, t_8, t_9, t_10, t_16, t_20, t_24, t_26, t_30, t_31, t_48, t_64, t_72, t_76, t_92, t_101, t_252, t_444, t_512, t_900, t_1980, t_65521, t_99999, t_mil]) <;> omega))) (fun _ => ?_)
        have q1 := ea a h0 h1 (by omega)
        have q2 := ea x h4 h5 (by omega)
        have ec := cl_n (i := (444 : Int32) + 8 * (48 * x + v) + u) (k := (444 + 384 * x.toInt + 8 * v.toInt + u.toInt).toNat) (by omega)
        refine ws_g (by omega) (by omega) (ws_g (by omega) (by omega) ?_)
        rw [ec]
        refine ws_l (ws_l (ih2 _ (u + 1) (fr_tr f1 (fr_sE (by decide))) (rC_sE f2 (rc_f (by omega))) ?_ (by (try simp only [iw_add, iw_sub, iw_mul, t_m1, lt0, lt1, t_2, t_3, t_4, t_5, t_6, t_8, t_9, t_10, t_16, t_20, t_24, t_26, t_30, t_31, t_48, t_64, t_72, t_76, t_92, t_101, t_252, t_444, t_512, t_900, t_1980, t_65521, t_99999, t_mil]) <;> omega) (by (try simp only [iw_add, iw_sub, iw_mul, t_m1, lt0, lt1, t_2, t_3, t_4, t_5, t_6, t_8, t_9, t_10, t_16, t_20, t_24, t_26, t_30, t_31, t_48, t_64, t_72, t_76, t_92, t_101, t_252, t_444, t_512, t_900, t_1980, t_65521, t_99999, t_mil]) <;> omega) (by (try simp only [iw_add, iw_sub, iw_mul, t_m1, lt0, lt1, t_2, t_3, t_4, t_5, t_6, t_8, t_9, t_10, t_16, t_20, t_24, t_26, t_30, t_31, t_48, t_64, t_72, t_76, t_92, t_101, t_252, t_444, t_512, t_900, t_1980, t_65521, t_99999, t_mil]) <;> omega)))
        rw [mE_sE, if_neg (fun e => by omega)]
        exact f3
    rw [f_X12_forks_L41.eq_2]
    have hc0 := hC.1
    refine ws_le (fun _ => ?_) (fun _ => ?_)
    · have e7 : ((72 : Int32) + x).toInt = 72 + x.toInt := by (try simp only [iw_add, iw_sub, iw_mul, t_m1, lt0, lt1, t_2, t_3, t_4, t_5, t_6, t_8, t_9, t_10, t_16, t_20, t_24, t_26, t_30, t_31, t_48, t_64, t_72, t_76, t_92, t_101, t_252, t_444, t_512, t_900, t_1980, t_65521, t_99999, t_mil]) <;> omega
      have ec := cl_n (i := (72 : Int32) + x) (k := 72 + x.toInt.toNat) (by omega)
      refine ws_g (by omega) (by omega) ?_
      rw [ec, c0, c4]
      have hC1 : rC (ms_E (ms_sE σ 40 (72 + x.toInt.toNat) m) 40) := rC_sE hC ⟨fun _ => by omega, fun _ => by omega, fun _ => by omega, fun _ => by omega, fun _ _ _ => by omega, fun _ _ _ => by omega, fun _ _ _ => by omega, fun _ _ _ => by omega, fun _ _ _ => by omega⟩
      have e0 : ms_E (ms_sE σ 40 (72 + x.toInt.toNat) m) 40 0 = ms_E σ 40 0 := by rw [mE_sE, if_neg (fun e => by omega)]
      have e1 : (ms_E σ 40 0 + 1).toInt = (ms_E σ 40 0).toInt + 1 := by (try simp only [iw_add, iw_sub, iw_mul, t_m1, lt0, lt1, t_2, t_3, t_4, t_5, t_6, t_8, t_9, t_10, t_16, t_20, t_24, t_26, t_30, t_31, t_48, t_64, t_72, t_76, t_92, t_101, t_252, t_444, t_512, t_900, t_1980, t_65521, t_99999, t_mil]) <;> omega
      refine ws_l (ws_g (by decide) (by decide) (ws_g (by decide) (by decide) (ws_l (ws_g (by decide) (by decide) (ws_g (by decide) (by decide) (ws_l (ws_s ?_)))))))
      refine ⟨⟨fr_tr hf (fr_tr (fr_sE (by decide)) (fr_tr (fr_sE (by decide)) (fr_sE (by decide)))), rC_sE (rC_sE hC1 ?_) (rc_f (by omega))⟩, rfl⟩
      rw [e0]
      exact ⟨fun _ => by omega, fun _ => by omega, fun _ => by omega, fun _ => by omega, fun _ _ _ => by omega, fun _ _ _ => by omega, fun _ _ _ => by omega, fun _ _ _ => by omega, fun _ _ _ => by omega⟩
    · have ea : ∀ y : Int32, 0 ≤ y.toInt → y.toInt ≤ 3 → ((252 : Int32) + 48 * y + v).toInt = 252 + 48 * y.toInt + v.toInt := by
        intro y y0 y1
        have e1 : ((48 : Int32) * y).toInt = 48 * y.toInt := by (try simp only [iw_add, iw_sub, iw_mul, t_m1, lt0, lt1, t_2, t_3, t_4, t_5, t_6, t_8, t_9, t_10, t_16, t_20, t_24, t_26, t_30, t_31, t_48, t_64, t_72, t_76, t_92, t_101, t_252, t_444, t_512, t_900, t_1980, t_65521, t_99999, t_mil]) <;> omega
        have e2 : ((252 : Int32) + 48 * y).toInt = 252 + 48 * y.toInt := by rw [iw_add, e1, t_252]; omega
        rw [iw_add, e2]; omega
      have q1 := ea a h0 h1
      have q2 := ea x h4 h5
      have hv := hC.2.2.2.2.2.2.2.2 (48 * a.toInt + v.toInt).toNat (by omega)
      rw [← cl_n (i := (252 : Int32) + 48 * a + v) (k := 252 + (48 * a.toInt + v.toInt).toNat) (by omega)] at hv
      have ec := cl_n (i := (252 : Int32) + 48 * x + v) (k := (252 + 48 * x.toInt + v.toInt).toNat) (by omega)
      refine ws_g (by omega) (by omega) (ws_g (by omega) (by omega) ?_)
      rw [ec]
      refine ws_l (hL (by omega) n _ 0 (fr_tr hf (fr_sE (by decide))) (rC_sE hC ⟨fun _ => by omega, fun _ => by omega, fun _ => by omega, fun _ => by omega, fun _ _ _ => by omega, fun _ _ _ => by omega, fun _ _ _ => by omega, fun _ _ _ => by omega, fun _ _ _ => by omega⟩) ?_ (by decide) (by decide) (by rw [lt0]; omega))
      rw [mE_sE, if_neg (fun e => by omega)]
      exact hz
theorem s_forks (n : Nat) (hn : 70000 ≤ n) (σ : ms_T) (hC : rC (ms_E σ 40)) (a m : Int32) (h0 : 0 ≤ a.toInt) (h1 : a.toInt ≤ 3) (h2 : 0 ≤ m.toInt) : ws (f_X12_forks n σ a m) (fun q => st [652, 653] [40] σ q ∧ ((ms_E σ 40 0).toInt ≤ 3 → m.toInt ≤ (ms_E σ 40 (72 + a.toInt.toNat)).toInt → 0 ≤ q.1.toInt ∧ q.1.toInt ≤ 3)) := by
  unfold f_X12_forks
  rw [c0]
  have hc0 := hC.1
  have t4 := t_4
  refine ws_b (s_sizeOf hC a h0 h1) (fun r hr => ws_le (fun c => ws_g (by decide) (by decide) (ws_e (fun e => ?_) (fun e => ws_g (by decide) (by decide) (ws_l ?_)))) (fun c => ?_))
  · have := il_eq e
    exact ws_c (s_refuse n σ _) (fun x τ h => ws_s ⟨⟨fr_sb h.1 (by decide) (by decide), rC_fr hC h.1 (by decide)⟩, fun q => by omega⟩)
  · refine ws_m (s_forks_L n hn a m (ms_E σ 40 0) h0 h1 h2 (by omega) (by omega) (by omega) n σ σ 0 fr_rf hC (by omega) (by decide) (by decide) (by rw [lt0]; omega)) (fun q hq => ⟨hq.1, fun _ _ => ?_⟩)
    rw [hq.2]
    omega
  · exact ws_c (s_refuse n σ _) (fun x τ h => ws_s ⟨⟨fr_sb h.1 (by decide) (by decide), rC_fr hC h.1 (by decide)⟩, fun _ q => by rw [← hr.1] at q; omega⟩)
theorem s_fork (n : Nat) (hn : 70000 ≤ n) (σ : ms_T) (hR : RI σ) (a1 a2 : Int32) : ws (f_X12_fork n σ a1 a2) (PK σ) := by
  have L := lits
  have hC := hR.2
  have h4 := hC.1
  have hJ : ∀ w : Int32, (w = 0 → 0 ≤ a1.toInt ∧ a1.toInt ≤ 3 ∧ 0 ≤ a2.toInt) → ws (f_X12_fork_J22 n σ a1 a2 w) (PK σ) := by
    intro w hw
    unfold f_X12_fork_J22
    refine ws_isP hR (fun e τ hτ hE hf => ?_)
    have := hw e
    exact ws_c (s_forks n hn τ hτ.2 a1 a2 (by omega) (by omega) (by omega)) (fun x ρ hρ => ws_s (pk_st hτ hρ.1 (by decide)))
  unfold f_X12_fork
  repeat' (first
    | with_reducible refine ws_bo (s_isRecord (by assumption) _) (fun _ => ?_) (fun _ => ?_)
    | with_reducible refine ws_bo (s_isMark (by assumption) _) (fun _ => ?_) (fun _ => ?_)
    | with_reducible refine ws_bo (s_isIn _ _ _ _) (fun _ => ?_) (fun _ => ?_)
    | with_reducible refine ws_bo (s_isWatcher _ _) (fun _ => ?_) (fun _ => ?_)
    | with_reducible refine ws_bo (s_isThing _ _ _ _) (fun _ => ?_) (fun _ => ?_)
    | with_reducible refine ws_b (s_noSize (by assumption) _ _) (fun _ _ => ?_)
    | with_reducible refine ws_b (s_noEntry (by assumption) _ _ _) (fun _ _ => ?_)
    | with_reducible refine ws_b (s_sizeOf (by assumption) _ (by omega) (by omega)) (fun _ _ => ?_)
    | with_reducible refine ws_lt (fun _ => ?_) (fun _ => ?_)
    | with_reducible refine ws_le (fun _ => ?_) (fun _ => ?_)
    | with_reducible refine ws_ee (fun _ _ => ?_) (fun _ => ?_)
    | with_reducible refine ws_g (by decide) (by decide) ?_
    | with_reducible refine ws_g (by omega) (by omega) ?_)
  all_goals first
    | exact hJ _ (fun h => absurd h (by decide))
    | exact hJ _ (fun _ => by omega)
    | (refine hJ _ (fun h => ?_); rename_i q; have := q h; omega)
end JN7_20
section JN7_21
/-! ===== freeze, show, meet, feed ===== -/
theorem s_peaks6_L (n : Nat) : ∀ (k j w : Nat) (σ0 σ : ms_T) (a f v : Int32), j + 1 < k → v.toInt = p2 j → wy 48 σ0 σ w → (6 ≤ j → w = 0) → (j ≤ 5 → w + j + 1 ≤ 6) → 0 ≤ a.toInt → a.toInt ≤ 48 → j ≤ 30 → 0 ≤ f.toInt → f.toInt + a.toInt % (2 * p2 j) ≤ 48 → ws (f_X12_peaksOf_L10 n k σ a f v) (fun τ => ∃ w', wy 48 σ0 τ w' ∧ w' ≤ 6) := by
  intro k
  induction k with
  | zero => intro j w σ0 σ a f v h0; omega
  | succ k ih =>
    intro j w σ0 σ a f v h0 hv hw hk6 hk5 ha ha2 hj30 hf hs
    have hp := p2_p j
    have l2 : (2 : Int32).toInt = 2 := rfl
    have hda : (a / v).toInt = a.toInt / p2 j := by rw [ii_div ha (by omega), hv]
    have hq0 : 0 ≤ a.toInt / p2 j := Int.ediv_nonneg ha (by omega)
    have hrem : ((a / v) - (a / v) / 2 * 2).toInt = (a.toInt / p2 j) % 2 := by rw [ii_rem (x := a / v) (y := 2) (by omega) (by decide), hda, l2]
    have hmm : a.toInt % (2 * p2 j) = a.toInt % p2 j + p2 j * ((a.toInt / p2 j) % 2) := by
      obtain ⟨A, hA⟩ := Int.eq_ofNat_of_zero_le ha
      have h := Nat.mod_mul (a := 2 ^ j) (b := 2) (x := A)
      unfold p2
      rw [hA, Int.mul_comm 2]
      exact_mod_cast h
    have hm0 := Int.emod_nonneg a.toInt (show p2 j ≠ 0 by omega)
    rw [f_X12_peaksOf_L10.eq_2]
    refine ws_le (fun c => by rw [lt0, hv] at c; omega) (fun c => ws_n (fun q => by have := il_eq q; rw [lt0] at this; omega) ?_)
    have hJ : ∀ (w' : Nat) (τ : ms_T) (g : Int32), wy 48 σ0 τ w' → (7 ≤ j → w' = 0) → (j ≤ 6 → w' + j ≤ 6) → 0 ≤ g.toInt → g.toInt + a.toInt % p2 j ≤ 48 → ws (f_X12_peaksOf_J35 n (f_X12_peaksOf_L10 n k) τ a g v) (fun τ => ∃ w', wy 48 σ0 τ w' ∧ w' ≤ 6) := by
      intro w' τ g hw' hk' hk'' hg hs'
      unfold f_X12_peaksOf_J35
      refine ws_l ?_
      cases j with
      | zero =>
        have hz : (v / 2).toInt = 0 := by
          rw [ii_div (by omega) (by decide), hv, l2]
          decide
        obtain ⟨k, rfl⟩ : ∃ k', k = k' + 1 := ⟨k - 1, by omega⟩
        rw [f_X12_peaksOf_L10.eq_2]
        exact ws_le (fun _ => ws_s ⟨w', hw', by omega⟩) (fun c => by rw [lt0] at c; omega)
      | succ j =>
        refine ih j w' σ0 τ a g (v / 2) (by omega) (p2_half hv) hw' (fun _ => hk' (by omega)) (fun _ => by omega) ha ha2 (by omega) hg ?_
        rw [← p2_s]; exact hs'
    refine ws_i (fun q => ?_) (fun q => ?_)
    · have q1 := il_eq q
      rw [hrem, lt0] at q1
      rw [q1] at hmm
      exact hJ w σ f hw (fun _ => hk6 (by omega)) (fun _ => by omega) hf (by omega)
    · have q1 := il_ne q
      rw [hrem, lt0] at q1
      have q2 : (a.toInt / p2 j) % 2 = 1 := by omega
      rw [q2] at hmm
      have hj6 : j ≤ 5 := by
        rcases Nat.lt_or_ge 5 j with h | h
        · have h64 : p2 6 = 64 := by decide
          have := p2_m (show 6 ≤ j by omega)
          rw [Int.ediv_eq_zero_of_lt ha (by omega)] at q2
          omega
        · exact h
      have := hk5 hj6
      have e3 : (f + v).toInt = f.toInt + v.toInt := ii_add (by omega) (by omega)
      refine ws_b (s_asks n hw (by omega) f v hf (by omega) (by omega)) (fun υ hυ => ws_l ?_)
      exact hJ (w + 1) υ (f + v) hυ (fun _ => by omega) (fun _ => by omega) (by omega) (by omega)
theorem s_peaks6 (n : Nat) (hn : 70000 ≤ n) (σ : ms_T) (a : Int32) (h0 : 0 ≤ a.toInt) (h1 : a.toInt ≤ 48) : ws (f_X12_peaksOf n σ a) (fun τ => ∃ w, wy 48 σ τ w ∧ w ≤ 6) := by
  unfold f_X12_peaksOf
  refine ws_l (s_peaks6_L n n 30 0 σ _ a 0 1073741824 (by omega) (by decide) wy_0 (fun _ => rfl) (fun _ => by omega) h0 h1 (by omega) (by decide) ?_)
  have h30 : p2 30 = 1073741824 := by decide
  have hm : a.toInt % (2 * p2 30) ≤ a.toInt := by rw [h30]; omega
  rw [lt0]
  omega
def stF (σ : ms_T) (q : Int32 × ms_T) : Prop := st [652, 653, 657, 658, 659, 660] [40, 42, 43, 44] σ q
theorem s_freezes_L (n : Nat) (x : Int32) (c w : Nat) (hc : c ≤ 15) (hx : x.toInt = 92 + 10 * (c : Int)) (hw6 : w ≤ 6) : ∀ (k : Nat) (σ0 σ : ms_T) (v : Int32), fr [652, 653, 657, 658, 659, 660] [40, 42, 43, 44] σ0 σ → rC (ms_E σ 40) → (ms_E σ 40 3).toInt = (c : Int) → (ms_I σ 657).toInt = (w : Int) → 0 ≤ v.toInt → v.toInt ≤ 6 → 7 - v.toInt ≤ (k : Int) → ws (f_X12_freezes_L98 n k σ x v) (stF σ0) := by
  intro k
  induction k with
  | zero => intro σ0 σ v hf hC hz hw g0 g1 g2; omega
  | succ k ih =>
    intro σ0 σ v hf hC hz hw g0 g1 g2
    rw [f_X12_freezes_L98.eq_2, c3, c4]
    refine ws_le (fun _ => ?_) (fun _ => ?_)
    · have e1 : (ms_E σ 40 3 + 1).toInt = (c : Int) + 1 := by rw [iw_add, lt1]; omega
      refine ws_g (by decide) (by decide) (ws_g (by decide) (by decide) (ws_l (ws_g (by decide) (by decide) (ws_g (by decide) (by decide) (ws_l (ws_g (by decide) (by decide) (ws_s ?_)))))))
      exact ⟨fr_tr hf (fr_tr (fr_sE (by decide)) (fr_sE (by decide))), rC_sE (rC_sE hC ⟨fun _ => by omega, fun _ => by omega, fun _ => by omega, fun _ => by omega, fun _ _ _ => by omega, fun _ _ _ => by omega, fun _ _ _ => by omega, fun _ _ _ => by omega, fun _ _ _ => by omega⟩) (rc_f (by omega))⟩
    · have e1 : (x + 4).toInt = 96 + 10 * (c : Int) := by rw [iw_add, hx, t_4]; omega
      have e2 : (x + 4 + v).toInt = 96 + 10 * (c : Int) + v.toInt := by rw [iw_add, e1]; omega
      have ec := cl_n (i := x + 4 + v) (k := 96 + 10 * c + v.toInt.toNat) (by omega)
      refine ws_g g0 (by omega) (ws_g (by omega) (by omega) ?_)
      rw [ec]
      refine ws_l (ws_l (ih σ0 _ (v + 1) (fr_tr hf (fr_sE (by decide))) (rC_sE hC ⟨fun _ => by omega, fun _ => by omega, fun _ => by omega, fun _ => by omega, fun _ _ _ => by omega, fun _ _ _ => by omega, fun _ _ _ => by omega, fun _ _ _ => by omega, fun _ _ _ => by omega⟩) ?_ hw (by (try simp only [iw_add, iw_sub, iw_mul, t_m1, lt0, lt1, t_2, t_3, t_4, t_5, t_6, t_8, t_9, t_10, t_16, t_20, t_24, t_26, t_30, t_31, t_48, t_64, t_72, t_76, t_92, t_101, t_252, t_444, t_512, t_900, t_1980, t_65521, t_99999, t_mil]) <;> omega) (by (try simp only [iw_add, iw_sub, iw_mul, t_m1, lt0, lt1, t_2, t_3, t_4, t_5, t_6, t_8, t_9, t_10, t_16, t_20, t_24, t_26, t_30, t_31, t_48, t_64, t_72, t_76, t_92, t_101, t_252, t_444, t_512, t_900, t_1980, t_65521, t_99999, t_mil]) <;> omega) (by (try simp only [iw_add, iw_sub, iw_mul, t_m1, lt0, lt1, t_2, t_3, t_4, t_5, t_6, t_8, t_9, t_10, t_16, t_20, t_24, t_26, t_30, t_31, t_48, t_64, t_72, t_76, t_92, t_101, t_252, t_444, t_512, t_900, t_1980, t_65521, t_99999, t_mil]) <;> omega)))
      rw [mE_sE, if_neg (fun e => by omega)]
      exact hz
theorem s_freezes (n : Nat) (hn : 70000 ≤ n) (σ : ms_T) (hC : rC (ms_E σ 40)) (a : Int32) (h0 : 0 ≤ a.toInt) (h1 : a.toInt ≤ 3) : ws (f_X12_freezes n σ a) (stF σ) := by
  unfold f_X12_freezes
  rw [c3, c4]
  have h16 := hC.2.2.2.1
  have t16 := t_16
  refine ws_g (by decide) (by decide) (ws_e (fun _ => ws_c (s_refuse n σ _) (fun x τ h => ws_s ⟨fr_sb h.1 (by decide) (by decide), rC_fr hC h.1 (by decide)⟩)) (fun c => ws_g (by decide) (by decide) ?_))
  obtain ⟨C, hC3⟩ : ∃ C : Nat, (ms_E σ 40 3).toInt = (C : Int) := ⟨(ms_E σ 40 3).toInt.toNat, by omega⟩
  have e1 : ((10 : Int32) * ms_E σ 40 3).toInt = 10 * (C : Int) := by rw [iw_mul, t_10, hC3]; omega
  have e2 : ((92 : Int32) + 10 * ms_E σ 40 3).toInt = 92 + 10 * (C : Int) := by rw [iw_add, e1, t_92]; omega
  refine ws_l ?_
  generalize (92 : Int32) + 10 * ms_E σ 40 3 = x at e2 ⊢
  have hCl : C ≤ 15 := by omega
  have x1 : (x + 1).toInt = 93 + 10 * (C : Int) := by rw [iw_add, e2, lt1]; omega
  have x2 : (x + 2).toInt = 94 + 10 * (C : Int) := by rw [iw_add, e2, t_2]; omega
  have x3 : (x + 3).toInt = 95 + 10 * (C : Int) := by rw [iw_add, e2, t_3]; omega
  rw [cl_n (i := x) (k := 92 + 10 * C) (by omega), cl_n (i := x + 1) (k := 93 + 10 * C) (by omega), cl_n (i := x + 2) (k := 94 + 10 * C) (by omega), cl_n (i := x + 3) (k := 95 + 10 * C) (by omega)]
  refine ws_g (by omega) (by omega) (ws_ln (fun σ1 hs1 => ?_))
  have hC1 : rC (ms_E σ1 40) := by rw [hs1]; exact rC_sE hC ⟨fun _ => by omega, fun _ => by omega, fun _ => by omega, fun _ => by omega, fun _ _ _ => by omega, fun _ _ _ => by omega, fun _ _ _ => by omega, fun _ _ _ => by omega, fun _ _ _ => by omega⟩
  have f1 : fr [652, 653, 657, 658, 659, 660] [40, 42, 43, 44] σ σ1 := by rw [hs1]; exact fr_sE (by decide)
  have z1 : ms_E σ1 40 3 = ms_E σ 40 3 := by rw [hs1, mE_sE, if_neg (fun e => by omega)]
  refine ws_b (s_sizeOf hC1 a h0 h1) (fun r hr => ws_g (by omega) (by omega) (ws_ln (fun σ2 hs2 => ?_)))
  have hC2 : rC (ms_E σ2 40) := by rw [hs2]; exact rC_sE hC1 ⟨fun _ => by omega, fun _ => by omega, fun _ => by omega, fun _ => by omega, fun _ _ _ => by omega, fun _ _ _ => by omega, fun _ _ _ => by omega, fun _ _ _ => by omega, fun _ _ _ => by omega⟩
  have f2 : fr [652, 653, 657, 658, 659, 660] [40, 42, 43, 44] σ σ2 := by rw [hs2]; exact fr_tr f1 (fr_sE (by decide))
  have z2 : ms_E σ2 40 3 = ms_E σ 40 3 := by rw [hs2, mE_sE, if_neg (fun e => by omega), z1]
  refine ws_b (s_sizeOf hC2 a h0 h1) (fun r2 hr2 => ws_b (s_headOf n hn hC2 a r2 h0 h1 hr2.2.1 hr2.2.2) (fun hd _ => ws_g (by omega) (by omega) (ws_ln (fun σ3 hs3 => ?_))))
  have hC3' : rC (ms_E σ3 40) := by rw [hs3]; exact rC_sE hC2 ⟨fun _ => by omega, fun _ => by omega, fun _ => by omega, fun _ => by omega, fun _ _ _ => by omega, fun _ _ _ => by omega, fun _ _ _ => by omega, fun _ _ _ => by omega, fun _ _ _ => by omega⟩
  have f3 : fr [652, 653, 657, 658, 659, 660] [40, 42, 43, 44] σ σ3 := by rw [hs3]; exact fr_tr f2 (fr_sE (by decide))
  have z3 : ms_E σ3 40 3 = ms_E σ 40 3 := by rw [hs3, mE_sE, if_neg (fun e => by omega), z2]
  refine ws_g (by decide) (by decide) (ws_g (by omega) (by omega) (ws_ln (fun σ4 hs4 => ?_)))
  have hC4 : rC (ms_E σ4 40) := by rw [hs4]; exact rC_sE hC3' ⟨fun _ => by omega, fun _ => by omega, fun _ => by omega, fun _ => by omega, fun _ _ _ => by omega, fun _ _ _ => by omega, fun _ _ _ => by omega, fun _ _ _ => by omega, fun _ _ _ => by omega⟩
  have f4 : fr [652, 653, 657, 658, 659, 660] [40, 42, 43, 44] σ σ4 := by rw [hs4]; exact fr_tr f3 (fr_sE (by decide))
  have z4 : ms_E σ4 40 3 = ms_E σ 40 3 := by rw [hs4, mE_sE, if_neg (fun e => by omega), z3]
  refine ws_b (s_sizeOf hC4 a h0 h1) (fun r3 hr3 => ws_b (s_peaks6 n hn σ4 r3 hr3.2.1 hr3.2.2) (fun σ5 h5 => ?_))
  obtain ⟨w, hw, hl⟩ := h5
  have hC5 := rC_fr hC4 hw.1 (by decide)
  refine ws_b (s_fetches n hn hC5 hw (by omega) (by omega) a h0 h1) (fun σ6 h6 => ?_)
  have hC6 := rC_fr hC5 h6 (by decide)
  have f6 : fr [652, 653, 657, 658, 659, 660] [40, 42, 43, 44] σ σ6 := fr_tr f4 (fr_tr (fr_sb hw.1 (by decide) (by decide)) (fr_sb h6 (by decide) (by decide)))
  have z6 : (ms_E σ6 40 3).toInt = (C : Int) := by rw [h6.2 40 (by decide), hw.1.2 40 (by decide), z4, hC3]
  exact s_freezes_L n x C w hCl e2 hl n σ σ6 0 f6 hC6 z6 (by rw [h6.1 657 (by simp)]; exact hw.2.1) (by decide) (by decide) (by rw [lt0]; omega)
theorem s_freeze (n : Nat) (hn : 70000 ≤ n) (σ : ms_T) (hR : RI σ) (a1 : Int32) : ws (f_X12_freeze n σ a1) (PK σ) := by
  have L := lits
  have hC := hR.2
  have h4 := hC.1
  have hJ : ∀ w : Int32, (w = 0 → 0 ≤ a1.toInt ∧ a1.toInt ≤ 3) → ws (f_X12_freeze_J14 n σ a1 w) (PK σ) := by
    intro w hw
    unfold f_X12_freeze_J14
    refine ws_isP hR (fun e τ hτ hE hf => ?_)
    have := hw e
    exact ws_c (s_freezes n hn τ hτ.2 a1 (by omega) (by omega)) (fun x ρ hρ => ws_s (pk_st hτ hρ (by decide)))
  unfold f_X12_freeze
  repeat' (first
    | with_reducible refine ws_bo (s_isRecord (by assumption) _) (fun _ => ?_) (fun _ => ?_)
    | with_reducible refine ws_bo (s_isMark (by assumption) _) (fun _ => ?_) (fun _ => ?_)
    | with_reducible refine ws_bo (s_isIn _ _ _ _) (fun _ => ?_) (fun _ => ?_)
    | with_reducible refine ws_bo (s_isWatcher _ _) (fun _ => ?_) (fun _ => ?_)
    | with_reducible refine ws_bo (s_isThing _ _ _ _) (fun _ => ?_) (fun _ => ?_)
    | with_reducible refine ws_b (s_noSize (by assumption) _ _) (fun _ _ => ?_)
    | with_reducible refine ws_b (s_noEntry (by assumption) _ _ _) (fun _ _ => ?_)
    | with_reducible refine ws_b (s_sizeOf (by assumption) _ (by omega) (by omega)) (fun _ _ => ?_)
    | with_reducible refine ws_lt (fun _ => ?_) (fun _ => ?_)
    | with_reducible refine ws_le (fun _ => ?_) (fun _ => ?_)
    | with_reducible refine ws_ee (fun _ _ => ?_) (fun _ => ?_)
    | with_reducible refine ws_g (by decide) (by decide) ?_
    | with_reducible refine ws_g (by omega) (by omega) ?_)
  all_goals first
    | exact hJ _ (fun h => absurd h (by decide))
    | exact hJ _ (fun _ => by omega)
    | (refine hJ _ (fun h => ?_); rename_i q; have := q h; omega)
theorem s_trusts (n : Nat) {σ : ms_T} (hC : rC (ms_E σ 40)) (a m h : Int32) (h0 : 0 ≤ a.toInt) (h1 : a.toInt ≤ 3) (h2 : 0 ≤ m.toInt) (h3 : m.toInt ≤ 48) : ws (f_X12_trusts n σ a m h) (fun τ => fr [] [40] σ τ ∧ rC (ms_E τ 40)) := by
  unfold f_X12_trusts
  have e1 : ((76 : Int32) + 4 * a).toInt = 76 + 4 * a.toInt := by (try simp only [iw_add, iw_sub, iw_mul, t_m1, lt0, lt1, t_2, t_3, t_4, t_5, t_6, t_8, t_9, t_10, t_16, t_20, t_24, t_26, t_30, t_31, t_48, t_64, t_72, t_76, t_92, t_101, t_252, t_444, t_512, t_900, t_1980, t_65521, t_99999, t_mil]) <;> omega
  have e2 : ((76 : Int32) + 4 * a + 1).toInt = 77 + 4 * a.toInt := by rw [iw_add, e1, lt1]; omega
  rw [cl_n (i := (76 : Int32) + 4 * a) (k := 76 + 4 * a.toInt.toNat) (by omega), cl_n (i := (76 : Int32) + 4 * a + 1) (k := 77 + 4 * a.toInt.toNat) (by omega)]
  refine ws_g (by omega) (by omega) (ws_l (ws_g (by omega) (by omega) (ws_l (ws_s ⟨fr_tr (fr_sE (by decide)) (fr_sE (by decide)), rC_sE (rC_sE hC ⟨fun _ => by omega, fun _ => by omega, fun _ => by omega, fun _ => by omega, fun _ _ _ => by omega, fun _ _ _ => by omega, fun _ _ _ => by omega, fun _ _ _ => by omega, fun _ _ _ => by omega⟩) ⟨fun _ => by omega, fun _ => by omega, fun _ => by omega, fun _ => by omega, fun _ _ _ => by omega, fun _ _ _ => by omega, fun _ _ _ => by omega, fun _ _ _ => by omega, fun _ _ _ => by omega⟩⟩))))
theorem s_shows (n : Nat) (hn : 70000 ≤ n) (σ : ms_T) (hC : rC (ms_E σ 40)) (a1 a2 a3 : Int32) (h0 : 0 ≤ a1.toInt) (h1 : a1.toInt ≤ 3) (h2 : 0 ≤ a2.toInt) (h3 : a2.toInt ≤ 3) (h4 : 0 ≤ a3.toInt) (h5 : a3.toInt ≤ 48) : ws (f_X12_shows n σ a1 a2 a3) (stF σ) := by
  have e1 : ((76 : Int32) + 4 * a1).toInt = 76 + 4 * a1.toInt := by (try simp only [iw_add, iw_sub, iw_mul, t_m1, lt0, lt1, t_2, t_3, t_4, t_5, t_6, t_8, t_9, t_10, t_16, t_20, t_24, t_26, t_30, t_31, t_48, t_64, t_72, t_76, t_92, t_101, t_252, t_444, t_512, t_900, t_1980, t_65521, t_99999, t_mil]) <;> omega
  have e2 : ((76 : Int32) + 4 * a1 + 2).toInt = 78 + 4 * a1.toInt := by rw [iw_add, e1, t_2]; omega
  have e3 : ((76 : Int32) + 4 * a1 + 3).toInt = 79 + 4 * a1.toInt := by rw [iw_add, e1, t_3]; omega
  have q2 := cl_n (i := (76 : Int32) + 4 * a1 + 2) (k := 78 + 4 * a1.toInt.toNat) (by omega)
  have q3 := cl_n (i := (76 : Int32) + 4 * a1 + 3) (k := 79 + 4 * a1.toInt.toNat) (by omega)
  have hJ1 : ∀ (τ : ms_T) (x : Int32), fr [652, 653, 657, 658, 659, 660] [40, 42, 43, 44] σ τ → rC (ms_E τ 40) → ws (f_X12_shows_J117 n τ a1 x) (stF σ) := by
    intro τ x hf hc
    unfold f_X12_shows_J117
    refine ws_l (ws_g (by omega) (by omega) (ws_g (by omega) (by omega) (ws_l (ws_g (by decide) (by decide) (ws_g (by decide) (by decide) (ws_l (ws_s ?_)))))))
    rw [q3, c4]
    exact ⟨fr_tr hf (fr_tr (fr_sE (by decide)) (fr_sE (by decide))), rC_sE (rC_sE hc ⟨fun _ => by omega, fun _ => by omega, fun _ => by omega, fun _ => by omega, fun _ _ _ => by omega, fun _ _ _ => by omega, fun _ _ _ => by omega, fun _ _ _ => by omega, fun _ _ _ => by omega⟩) (rc_f (by omega))⟩
  have hJ2 : ∀ (τ : ms_T) (x : Int32), fr [652, 653, 657, 658, 659, 660] [40, 42, 43, 44] σ τ → rC (ms_E τ 40) → ws (f_X12_shows_J92 n τ a1 x) (stF σ) := by
    intro τ x hf hc
    unfold f_X12_shows_J92
    refine ws_i (fun _ => hJ1 τ x hf hc) (fun _ => ws_i (fun _ => hJ1 τ x hf hc) (fun _ => ws_g (by omega) (by omega) (ws_l ?_)))
    rw [q2]
    exact hJ1 _ x (fr_tr hf (fr_sE (by decide))) (rC_sE hc ⟨fun _ => by omega, fun _ => by omega, fun _ => by omega, fun _ => by omega, fun _ _ _ => by omega, fun _ _ _ => by omega, fun _ _ _ => by omega, fun _ _ _ => by omega, fun _ _ _ => by omega⟩)
  have hJ3 : ∀ (τ : ms_T) (x y z : Int32), fr [652, 653, 657, 658, 659, 660] [40, 42, 43, 44] σ τ → rC (ms_E τ 40) → ws (f_X12_shows_J71 n τ a1 a3 x y z) (stF σ) := by
    intro τ x y z hf hc
    unfold f_X12_shows_J71
    exact ws_i (fun _ => ws_i (fun _ => hJ2 τ _ hf hc) (fun _ => ws_b (s_trusts n hc a1 a3 y h0 h1 h4 h5) (fun υ hυ => hJ2 υ _ (fr_tr hf (fr_sb hυ.1 (by decide) (by decide))) hυ.2))) (fun _ => hJ2 τ _ hf hc)
  unfold f_X12_shows
  refine ws_b (s_trust hC a1 0 h0 h1 (by decide) (by decide)) (fun r hr => ws_b (s_headOf n hn hC a2 a3 h2 h3 h4 h5) (fun hd _ => ?_))
  have hr0 := hr rfl
  refine ws_le (fun c => ?_) (fun c => ws_b (s_sizeOf hC a2 h2 h3) (fun s hs => ws_le (fun g => ?_) (fun _ => hJ3 σ _ _ _ fr_rf hC)))
  · refine ws_b (s_trust hC a1 1 h0 h1 (by decide) (by decide)) (fun t _ => ws_c (s_whyByRecord n hn σ hC a2 r t a3 hd h2 h3 (by omega) c h5) (fun x τ hτ => ?_))
    exact hJ3 τ _ _ _ (fr_sb hτ (by decide) (by decide)) (rC_fr hC hτ (by decide))
  · refine ws_b (s_trust hC a1 1 h0 h1 (by decide) (by decide)) (fun t _ => ws_c (s_whyByRecord n hn σ hC a2 a3 hd r t h2 h3 h4 (by omega) (by omega)) (fun x τ hτ => ?_))
    exact hJ3 τ _ _ _ (fr_sb hτ (by decide) (by decide)) (rC_fr hC hτ (by decide))
theorem s_show (n : Nat) (hn : 70000 ≤ n) (σ : ms_T) (hR : RI σ) (a1 a2 a3 : Int32) : ws (f_X12_show n σ a1 a2 a3) (PK σ) := by
  have L := lits
  have hC := hR.2
  have h4 := hC.1
  have hJ : ∀ w : Int32, (w = 0 → 0 ≤ a1.toInt ∧ a1.toInt ≤ 3 ∧ 0 ≤ a2.toInt ∧ a2.toInt ≤ 3 ∧ 0 ≤ a3.toInt ∧ a3.toInt ≤ 48) → ws (f_X12_show_J42 n σ a1 a2 a3 w) (PK σ) := by
    intro w hw
    unfold f_X12_show_J42
    refine ws_isP hR (fun e τ hτ hE hf => ?_)
    have := hw e
    exact ws_c (s_shows n hn τ hτ.2 a1 a2 a3 (by omega) (by omega) (by omega) (by omega) (by omega) (by omega)) (fun x ρ hρ => ws_s (pk_st hτ hρ (by decide)))
  unfold f_X12_show
  repeat' (first
    | with_reducible refine ws_bo (s_isRecord (by assumption) _) (fun _ => ?_) (fun _ => ?_)
    | with_reducible refine ws_bo (s_isMark (by assumption) _) (fun _ => ?_) (fun _ => ?_)
    | with_reducible refine ws_bo (s_isIn _ _ _ _) (fun _ => ?_) (fun _ => ?_)
    | with_reducible refine ws_bo (s_isWatcher _ _) (fun _ => ?_) (fun _ => ?_)
    | with_reducible refine ws_bo (s_isThing _ _ _ _) (fun _ => ?_) (fun _ => ?_)
    | with_reducible refine ws_b (s_noSize (by assumption) _ _) (fun _ _ => ?_)
    | with_reducible refine ws_b (s_noEntry (by assumption) _ _ _) (fun _ _ => ?_)
    | with_reducible refine ws_b (s_sizeOf (by assumption) _ (by omega) (by omega)) (fun _ _ => ?_)
    | with_reducible refine ws_lt (fun _ => ?_) (fun _ => ?_)
    | with_reducible refine ws_le (fun _ => ?_) (fun _ => ?_)
    | with_reducible refine ws_ee (fun _ _ => ?_) (fun _ => ?_)
    | with_reducible refine ws_g (by decide) (by decide) ?_
    | with_reducible refine ws_g (by omega) (by omega) ?_)
  all_goals first
    | exact hJ _ (fun h => absurd h (by decide))
    | exact hJ _ (fun _ => by omega)
    | (refine hJ _ (fun h => ?_); rename_i q; have := q h; omega)
theorem s_meet (n : Nat) (hn : 70000 ≤ n) (σ : ms_T) (hR : RI σ) (a1 a2 a3 : Int32) : ws (f_X12_meet n σ a1 a2 a3) (PK σ) := by
  have L := lits
  have hC := hR.2
  have h4 := hC.1
  have hJ : ∀ w : Int32, (w = 0 → 0 ≤ a1.toInt ∧ a1.toInt ≤ 3 ∧ 0 ≤ a2.toInt ∧ a2.toInt ≤ 3 ∧ 0 ≤ a3.toInt ∧ a3.toInt ≤ 3) → ws (f_X12_meet_J28 n σ a1 a2 a3 w) (PK σ) := by
    intro w hw
    unfold f_X12_meet_J28
    refine ws_isP hR (fun e τ hτ hE hf => ?_)
    have H := hw e
    have hCτ := hτ.2
    have ea : ∀ y : Int32, 0 ≤ y.toInt → y.toInt ≤ 3 → ((76 : Int32) + 4 * y + 2).toInt = 78 + 4 * y.toInt := by
      intro y y0 y1
      have e1 : ((76 : Int32) + 4 * y).toInt = 76 + 4 * y.toInt := by (try simp only [iw_add, iw_sub, iw_mul, t_m1, lt0, lt1, t_2, t_3, t_4, t_5, t_6, t_8, t_9, t_10, t_16, t_20, t_24, t_26, t_30, t_31, t_48, t_64, t_72, t_76, t_92, t_101, t_252, t_444, t_512, t_900, t_1980, t_65521, t_99999, t_mil]) <;> omega
      rw [iw_add, e1, t_2]; omega
    have j196 : ∀ (ρ : ms_T) (x : Int32), fr [652, 653, 657, 658, 659, 660] [40, 42, 43, 44] τ ρ → rC (ms_E ρ 40) → ws (f_X12_meet_J196 n ρ x) (PK τ) := by
      intro ρ x hf hc
      unfold f_X12_meet_J196
      refine ws_g (by decide) (by decide) (ws_g (by decide) (by decide) (ws_l (ws_s (pk_st hτ (wI := [652, 653, 657, 658, 659, 660]) (wE := [40, 42, 43, 44]) ⟨fr_tr hf (fr_sE (by decide)), ?_⟩ (by decide)))))
      rw [c4]
      exact rC_sE hc (rc_f (by omega))
    have j155 : ∀ (ρ : ms_T) (x y z : Int32), 0 ≤ x.toInt → x.toInt ≤ 3 → 0 ≤ y.toInt → y.toInt ≤ 3 → fr [652, 653, 657, 658, 659, 660] [40, 42, 43, 44] τ ρ → rC (ms_E ρ 40) → ws (f_X12_meet_J155 n ρ x y z) (PK τ) := by
      intro ρ x y z x0 x1 y0 y1 hf hc
      have q1 := ea x x0 x1
      have q2 := ea y y0 y1
      unfold f_X12_meet_J155
      refine ws_i (fun _ => j196 ρ _ hf hc) (fun _ => ws_i (fun _ => j196 ρ _ hf hc) (fun _ => ws_g (by omega) (by omega) (ws_l (ws_g (by omega) (by omega) (ws_l ?_)))))
      rw [cl_n (i := (76 : Int32) + 4 * x + 2) (k := 78 + 4 * x.toInt.toNat) (by omega), cl_n (i := (76 : Int32) + 4 * y + 2) (k := 78 + 4 * y.toInt.toNat) (by omega)]
      exact j196 _ _ (fr_tr hf (fr_tr (fr_sE (by decide)) (fr_sE (by decide)))) (rC_sE (rC_sE hc ⟨fun _ => by omega, fun _ => by omega, fun _ => by omega, fun _ => by omega, fun _ _ _ => by omega, fun _ _ _ => by omega, fun _ _ _ => by omega, fun _ _ _ => by omega, fun _ _ _ => by omega⟩) ⟨fun _ => by omega, fun _ => by omega, fun _ => by omega, fun _ => by omega, fun _ _ _ => by omega, fun _ _ _ => by omega, fun _ _ _ => by omega, fun _ _ _ => by omega, fun _ _ _ => by omega⟩)
    have j133 : ∀ (ρ : ms_T) (x y m z : Int32), 0 ≤ x.toInt → x.toInt ≤ 3 → 0 ≤ y.toInt → y.toInt ≤ 3 → 0 ≤ m.toInt → m.toInt ≤ 48 → fr [652, 653, 657, 658, 659, 660] [40, 42, 43, 44] τ ρ → rC (ms_E ρ 40) → ws (f_X12_meet_J133 n ρ x y m z) (PK τ) := by
      intro ρ x y m z x0 x1 y0 y1 m0 m1 hf hc
      unfold f_X12_meet_J133
      exact ws_i (fun _ => ws_b (s_trust hc y 1 y0 y1 (by decide) (by decide)) (fun t _ => ws_b (s_trusts n hc x m t x0 x1 m0 m1) (fun υ hυ => j155 υ _ _ _ x0 x1 y0 y1 (fr_tr hf (fr_sb hυ.1 (by decide) (by decide))) hυ.2))) (fun _ => j155 ρ _ _ _ x0 x1 y0 y1 hf hc)
    have j80 : ∀ (x y : Int32), 0 ≤ x.toInt → x.toInt ≤ 3 → 0 ≤ y.toInt → y.toInt ≤ 3 → (∀ r s, f_X12_trust n τ x 0 = some r → f_X12_trust n τ y 0 = some s → r.toInt ≤ s.toInt) → ws (f_X12_meet_J80 n τ a3 x y) (PK τ) := by
      intro x y x0 x1 y0 y1 hle
      unfold f_X12_meet_J80
      obtain ⟨r, er, hr⟩ := s_trust (n := n) hCτ x 0 x0 x1 (by decide) (by decide)
      obtain ⟨s, es, hs⟩ := s_trust (n := n) hCτ y 0 y0 y1 (by decide) (by decide)
      have hrs := hle r s er es
      have hr0 := hr rfl
      have hs0 := hs rfl
      refine ws_b (S := fun q => q = s) ⟨s, es, rfl⟩ (fun _ g1 => ?_)
      subst g1
      refine ws_b (s_sizeOf hCτ a3 (by omega) (by omega)) (fun z hz => ws_le (fun c => ?_) (fun _ => j133 τ _ _ _ _ x0 x1 y0 y1 hs0.1 hs0.2 fr_rf hCτ))
      refine ws_b (S := fun q => q = r) ⟨r, er, rfl⟩ (fun _ g2 => ?_)
      subst g2
      refine ws_b (s_trust hCτ x 1 x0 x1 (by decide) (by decide)) (fun t _ => ws_b (s_trust hCτ y 1 y0 y1 (by decide) (by decide)) (fun u _ => ?_))
      refine ws_c (s_whyByRecord n hn τ hCτ a3 _ t _ u (by omega) (by omega) hr0.1 hrs hs0.2) (fun p ρ hρ => ?_)
      exact j133 ρ _ _ _ _ x0 x1 y0 y1 hs0.1 hs0.2 (fr_sb hρ (by decide) (by decide)) (rC_fr hCτ hρ (by decide))
    obtain ⟨r, er, hr⟩ := s_trust (n := n) hCτ a1 0 (by omega) (by omega) (by decide) (by decide)
    obtain ⟨s, es, hs⟩ := s_trust (n := n) hCτ a2 0 (by omega) (by omega) (by decide) (by decide)
    refine ws_b (S := fun q => q = r) ⟨r, er, rfl⟩ (fun _ g1 => ws_b (S := fun q => q = s) ⟨s, es, rfl⟩ (fun _ g2 => ?_))
    subst g1
    subst g2
    refine ws_lt (fun c => ?_) (fun c => ?_)
    · unfold f_X12_meet_J56 f_X12_meet_J68
      refine ws_i (fun _ => ws_i (fun _ => j80 a2 a1 (by omega) (by omega) (by omega) (by omega) (fun p q hp hq => ?_)) (fun g => absurd rfl g)) (fun g => absurd rfl g)
      rw [es] at hp; rw [er] at hq; cases hp; cases hq; omega
    · unfold f_X12_meet_J56 f_X12_meet_J68
      refine ws_i (fun g => absurd g (by decide)) (fun _ => ws_i (fun g => absurd g (by decide)) (fun _ => j80 a1 a2 (by omega) (by omega) (by omega) (by omega) (fun p q hp hq => ?_)))
      rw [er] at hp; rw [es] at hq; cases hp; cases hq; omega
  unfold f_X12_meet
  repeat' (first
    | with_reducible refine ws_bo (s_isRecord (by assumption) _) (fun _ => ?_) (fun _ => ?_)
    | with_reducible refine ws_bo (s_isMark (by assumption) _) (fun _ => ?_) (fun _ => ?_)
    | with_reducible refine ws_bo (s_isIn _ _ _ _) (fun _ => ?_) (fun _ => ?_)
    | with_reducible refine ws_bo (s_isWatcher _ _) (fun _ => ?_) (fun _ => ?_)
    | with_reducible refine ws_bo (s_isThing _ _ _ _) (fun _ => ?_) (fun _ => ?_)
    | with_reducible refine ws_b (s_noSize (by assumption) _ _) (fun _ _ => ?_)
    | with_reducible refine ws_b (s_noEntry (by assumption) _ _ _) (fun _ _ => ?_)
    | with_reducible refine ws_b (s_sizeOf (by assumption) _ (by omega) (by omega)) (fun _ _ => ?_)
    | with_reducible refine ws_lt (fun _ => ?_) (fun _ => ?_)
    | with_reducible refine ws_le (fun _ => ?_) (fun _ => ?_)
    | with_reducible refine ws_ee (fun _ _ => ?_) (fun _ => ?_)
    | with_reducible refine ws_g (by decide) (by decide) ?_
    | with_reducible refine ws_g (by omega) (by omega) ?_)
  all_goals first
    | exact hJ _ (fun h => absurd h (by decide))
    | exact hJ _ (fun _ => by omega)
    | (refine hJ _ (fun h => ?_); rename_i q; have := q h; omega)
theorem s_puts_L (n : Nat) (a : Int32) : ∀ (j k c : Nat) (σ0 σ : ms_T) (v : Int32), v.toInt = 8 * (j : Int) - 8 → j < k → fr [667, 653] [47] σ0 σ → (ms_I σ 667).toInt = (c : Int) → c + j ≤ 900 → ws (f_X12_puts_L3 n k σ a v) (fun τ => fr [667, 653] [47] σ0 τ ∧ (ms_I τ 667).toInt = ((c + j : Nat) : Int)) := by
  intro j
  induction j with
  | zero =>
    intro k c σ0 σ v hv hk hf hc hl
    obtain ⟨k, rfl⟩ : ∃ k', k = k' + 1 := ⟨k - 1, by omega⟩
    rw [f_X12_puts_L3.eq_2]
    exact ws_lt (fun _ => ws_s ⟨hf, hc⟩) (fun c => by rw [lt0] at c; omega)
  | succ j ih =>
    intro k c σ0 σ v hv hk hf hc hl
    obtain ⟨k, rfl⟩ : ∃ k', k = k' + 1 := ⟨k - 1, by omega⟩
    rw [f_X12_puts_L3.eq_2]
    have l0 := lt0
    have m8 : (-8 : Int32).toInt = -8 := by decide
    refine ws_lt (fun _ => by omega) (fun _ => ws_g (by omega) (by omega) (ws_l (ws_l (ws_l ?_))))
    generalize hu : v + (-8) = u
    have e1 : u.toInt = v.toInt - 8 := by
      have := ib_hi v
      rw [← hu, iw_add, m8]; omega
    clear hu
    have e2 : (ms_I σ 667 + 1).toInt = (c : Int) + 1 := by rw [iw_add, lt1]; omega
    refine ws_m (ih k (c + 1) σ0 _ u (by omega) (by omega) (fr_tr hf (fr_tr (fr_sE (by decide)) (fr_sI (by decide)))) (by rw [mI_sI, if_pos rfl, mI_sE, e2]; omega) (by omega)) (fun τ hτ => ⟨hτ.1, by rw [hτ.2]; omega⟩)
theorem s_puts (n : Nat) (hn : 70000 ≤ n) (a : Int32) {c : Nat} {σ0 σ : ms_T} (hf : fr [667, 653] [47] σ0 σ) (hc : (ms_I σ 667).toInt = (c : Int)) (hl : c + 4 ≤ 900) : ws (f_X12_puts n σ a) (fun τ => fr [667, 653] [47] σ0 τ ∧ (ms_I τ 667).toInt = ((c + 4 : Nat) : Int)) := by
  unfold f_X12_puts
  exact s_puts_L n a 4 n c σ0 σ 24 (by decide) (by omega) hf hc hl
theorem RI_667 {wE : List Nat} {σ τ : ms_T} (h : RI σ) (f : fr [667, 653] wE σ τ) (k : 40 ∉ wE) (h0 : 0 ≤ (ms_I τ 667).toInt) (h1 : (ms_I τ 667).toInt ≤ 900) : RI τ := by
  refine ⟨⟨?_, ⟨h0, h1⟩, ?_, ?_⟩, rC_fr h.2 f k⟩
  · rw [f.1 664 (by decide)]; exact h.1.1
  · rw [f.1 682 (by decide)]; exact h.1.2.2.1
  · rw [f.1 697 (by decide)]; exact h.1.2.2.2
theorem s_feed (n : Nat) (hn : 70000 ≤ n) (σ : ms_T) (hR : RI σ) (a1 a2 a3 a4 a5 : Int32) : ws (f_X12_feed n σ a1 a2 a3 a4 a5) (fun res => RI res.2 ∧ fd_M σ res) := by
  unfold f_X12_feed
  have h9 := hR.1.2.1
  have t9 := t_900
  obtain ⟨c, hc⟩ : ∃ c : Nat, (ms_I σ 667).toInt = (c : Int) := ⟨(ms_I σ 667).toInt.toNat, by omega⟩
  have e0 : ms_I (ms_sI σ 653 0) 667 = ms_I σ 667 := by rw [mI_sI, if_neg (by decide)]
  have f0 : fr [667, 653] [47] σ (ms_sI σ 653 0) := fr_sI (by decide)
  have e20 : (ms_I σ 667 + 20).toInt = (c : Int) + 20 := by rw [iw_add, t_20, hc]; omega
  refine ws_l ?_
  rw [e0]
  refine ws_le (fun g => ?_) (fun g => ws_s ⟨RI_667 hR f0 (by decide) (by rw [e0]; omega) (by rw [e0]; omega), Or.inl ⟨by omega, rfl, e0⟩⟩)
  refine ws_b (s_puts n hn a1 f0 (c := c) (by rw [e0]; exact hc) (by omega)) (fun t1 h1 => ?_)
  refine ws_b (s_puts n hn a2 h1.1 h1.2 (by omega)) (fun t2 h2 => ?_)
  refine ws_b (s_puts n hn a3 h2.1 h2.2 (by omega)) (fun t3 h3 => ?_)
  refine ws_b (s_puts n hn a4 h3.1 h3.2 (by omega)) (fun t4 h4 => ?_)
  refine ws_b (s_puts n hn a5 h4.1 h4.2 (by omega)) (fun t5 h5 => ?_)
  have h6 := h5.2
  have hRI : RI t5 := RI_667 hR h5.1 (by decide) (by omega) (by omega)
  refine ws_s ⟨hRI, Or.inr ⟨by omega, rfl, ?_⟩⟩
  show (ms_I t5 667).toInt = _
  omega
end JN7_21
section JN7_22
/-! ===== tell ===== -/
def p10 (i : Nat) : Int := ((10 ^ i : Nat) : Int)
theorem p10_s (i : Nat) : p10 (i + 1) = 10 * p10 i := by unfold p10; rw [Nat.pow_succ]; omega
theorem p10_p (i : Nat) : 1 ≤ p10 i := by
  have := Nat.one_le_pow i 10 (by decide)
  unfold p10; omega
theorem p10_m {i j : Nat} (h : i ≤ j) : p10 i ≤ p10 j := by
  have := Nat.pow_le_pow_right (n := 10) (by decide) h
  unfold p10; omega
/-- what telling changes -/
def tl (σ0 σ : ms_T) (c : Nat) : Prop := fr [657, 697] [42, 43, 44, 59] σ0 σ ∧ (ms_I σ 697).toInt = (c : Int)
theorem s_tells (n : Nat) {σ0 σ : ms_T} {c : Nat} (h : tl σ0 σ c) (hc : c < 900) (x : Int32) : ws (f_X12_tells n σ x) (fun τ => tl σ0 τ (c + 1) ∧ ms_I τ 657 = ms_I σ 657) := by
  obtain ⟨hf, hi⟩ := h
  unfold f_X12_tells
  have e1 : (ms_I σ 697 + 1).toInt = (c : Int) + 1 := by rw [iw_add, lt1]; omega
  refine ws_g (by omega) (by omega) (ws_l (ws_l (ws_s ⟨⟨fr_tr hf (fr_tr (fr_sE (by decide)) (fr_sI (by decide))), ?_⟩, ?_⟩)))
  · rw [mI_sI, if_pos rfl, mI_sE, e1]; omega
  · rw [mI_sI, if_neg (by decide), mI_sE]
theorem s_tn18 (n : Nat) (a : Int32) : ∀ (i k c : Nat) (σ0 σ : ms_T) (v : Int32), v.toInt = p10 i → i + 1 < k → tl σ0 σ c → c + i + 1 ≤ 900 → ws (f_X12_tellsNumber_L18 n k σ a v) (fun τ => tl σ0 τ (c + i + 1) ∧ ms_I τ 657 = ms_I σ 657) := by
  intro i
  induction i with
  | zero =>
    intro k c σ0 σ v hv hk ht hc
    have hp : p10 0 = 1 := by decide
    obtain ⟨k, rfl⟩ : ∃ k', k = k' + 1 := ⟨k - 1, by omega⟩
    rw [f_X12_tellsNumber_L18.eq_2]
    refine ws_le (fun g => by rw [lt0] at g; omega) (fun _ => ws_n (fun q => by have := il_eq q; rw [lt0] at this; omega) (ws_b (s_tells n ht (by omega) _) (fun τ hτ => ws_l ?_)))
    obtain ⟨k, rfl⟩ : ∃ k', k = k' + 1 := ⟨k - 1, by omega⟩
    have e1 : (v / 10).toInt = 0 := by rw [ii_div (by omega) (by decide), hv, hp, t_10]; decide
    rw [f_X12_tellsNumber_L18.eq_2]
    exact ws_le (fun _ => ws_s hτ) (fun g => by rw [lt0] at g; omega)
  | succ i ih =>
    intro k c σ0 σ v hv hk ht hc
    have hp := p10_p i
    rw [p10_s] at hv
    obtain ⟨k, rfl⟩ : ∃ k', k = k' + 1 := ⟨k - 1, by omega⟩
    rw [f_X12_tellsNumber_L18.eq_2]
    refine ws_le (fun g => by rw [lt0] at g; omega) (fun _ => ws_n (fun q => by have := il_eq q; rw [lt0] at this; omega) (ws_b (s_tells n ht (by omega) _) (fun τ hτ => ws_l ?_)))
    have e1 : (v / 10).toInt = p10 i := by rw [ii_div (by omega) (by decide), hv, t_10]; omega
    refine ws_m (ih k (c + 1) σ0 τ (v / 10) e1 (by omega) hτ.1 (by omega)) (fun υ hυ => ⟨?_, hυ.2.trans hτ.2⟩)
    rw [show c + (i + 1) + 1 = c + 1 + i + 1 by omega]
    exact hυ.1
theorem s_tn2 (n : Nat) (hn : 70000 ≤ n) (a : Int32) : ∀ (k i c : Nat) (σ0 σ : ms_T) (v : Int32), v.toInt = p10 i → i ≤ 9 → (i = 0 ∨ 0 ≤ a.toInt) → 10 < k + i → tl σ0 σ c → c + 10 ≤ 900 → ws (f_X12_tellsNumber_L2 n k σ a v) (fun τ => (∃ c', tl σ0 τ c' ∧ c' ≤ c + 10) ∧ ms_I τ 657 = ms_I σ 657) := by
  intro k
  induction k with
  | zero => intro i c σ0 σ v hv hi ha hk ht hc; omega
  | succ k ih =>
    intro i c σ0 σ v hv hi ha hk ht hc
    have hp := p10_p i
    rw [f_X12_tellsNumber_L2.eq_2]
    have ba := ib_hi a
    refine ws_n (fun q => by have := il_eq q; rw [lt0] at this; omega) (ws_le (fun _ => ?_) (fun g => ws_l ?_))
    · exact ws_m (s_tn18 n a i n c σ0 σ v hv (by omega) ht (by omega)) (fun τ hτ => ⟨⟨_, hτ.1, by omega⟩, hτ.2⟩)
    · rw [t_9] at g
      have ha0 : 0 ≤ a.toInt := by
        rcases ha with e | e
        · subst e
          have h1 : p10 0 = 1 := by decide
          have ev : v = 1 := Int32.toInt_inj.mp (by rw [hv, h1, lt1])
          have ed : (a / v).toInt = a.toInt := by
            have e2 : (a / v).toInt = (a.toInt.tdiv v.toInt).bmod (2 ^ 32) := Int32.toInt_div a v
            have := ib_lo a
            rw [e2, ev, lt1, Int.tdiv_one]
            rw [Int.bmod_eq_of_le] <;> omega
          omega
        · exact e
      have ed : (a / v).toInt = a.toInt / p10 i := by rw [ii_div ha0 (by omega), hv]
      have hge : 10 * p10 i ≤ a.toInt := by
        have h1 := Int.emod_nonneg a.toInt (show p10 i ≠ 0 by omega)
        have h2 := Int.emod_add_mul_ediv a.toInt (p10 i)
        have h3 : p10 i * 10 ≤ p10 i * (a.toInt / p10 i) := Int.mul_le_mul_of_nonneg_left (by omega) (by omega)
        omega
      have hi9 : i + 1 ≤ 9 := by
        rcases Nat.lt_or_ge 8 i with h | h
        · have h9 : p10 9 = 1000000000 := by decide
          have := p10_m (show 9 ≤ i by omega)
          omega
        · omega
      have em : (v * 10).toInt = p10 (i + 1) := by rw [ii_mul (by rw [t_10]; omega) (by rw [t_10]; omega), t_10, hv, p10_s]; omega
      exact ih (i + 1) c σ0 σ (v * 10) em hi9 (Or.inr ha0) (by omega) ht hc
theorem s_tellsNumber (n : Nat) (hn : 70000 ≤ n) (a : Int32) {c : Nat} {σ0 σ : ms_T} (ht : tl σ0 σ c) (hc : c + 10 ≤ 900) : ws (f_X12_tellsNumber n σ a) (fun τ => (∃ c', tl σ0 τ c' ∧ c' ≤ c + 10) ∧ ms_I τ 657 = ms_I σ 657) := by
  unfold f_X12_tellsNumber
  exact s_tn2 n hn a n 0 c σ0 σ 1 (by decide) (by omega) (Or.inl rfl) (by omega) ht hc
theorem s_says_L (n : Nat) (hn : 70000 ≤ n) (i : Nat) (h8 : (hp_len i).toInt ≤ 20) (a : Int32) : ∀ (k c : Nat) (σ0 σ : ms_T) (v : Int32), 0 ≤ v.toInt → v.toInt ≤ 20 → 21 - v.toInt ≤ (k : Int) → tl σ0 σ c → (c : Int) - v.toInt + 31 ≤ 900 → ws (f_X12_says_L15 n i k σ a v) (fun τ => ∃ c' : Nat, tl σ0 τ c' ∧ (c' : Int) ≤ (c : Int) - v.toInt + 31) := by
  intro k
  induction k with
  | zero => intro c σ0 σ v g0 g1 g2; omega
  | succ k ih =>
    intro c σ0 σ v g0 g1 g2 ht hc
    rw [f_X12_says_L15.eq_2]
    refine ws_le (fun _ => ?_) (fun g => ws_q g0 g ?_)
    · refine ws_b (s_tells n ht (by omega) _) (fun τ hτ => ws_b (s_tellsNumber n hn a hτ.1 (by omega)) (fun υ hυ => ?_))
      obtain ⟨⟨c', h1, h2⟩, -⟩ := hυ
      exact ws_s ⟨c', h1, by omega⟩
    · have e1 : (v + 1).toInt = v.toInt + 1 := by (try simp only [iw_add, iw_sub, iw_mul, t_m1, lt0, lt1, t_2, t_3, t_4, t_5, t_6, t_8, t_9, t_10, t_16, t_20, t_24, t_26, t_30, t_31, t_48, t_64, t_72, t_76, t_92, t_101, t_252, t_444, t_512, t_900, t_1980, t_65521, t_99999, t_mil]) <;> omega
      refine ws_b (s_tells n ht (by omega) _) (fun τ hτ => ws_l (ws_m (ih (c + 1) σ0 τ (v + 1) (by omega) (by omega) (by omega) hτ.1 (by omega)) (fun υ hυ => ?_)))
      obtain ⟨c', h1, h2⟩ := hυ
      exact ⟨c', h1, by omega⟩
theorem s_says (n : Nat) (hn : 70000 ≤ n) (i : Nat) (h8 : (hp_len i).toInt ≤ 20) (a : Int32) {c : Nat} {σ0 σ : ms_T} (ht : tl σ0 σ c) (hc : c + 32 ≤ 900) : ws (f_X12_says n σ i a) (fun τ => ∃ c', tl σ0 τ c' ∧ c' ≤ c + 32) := by
  unfold f_X12_says f_X12_says_J13
  refine ws_i (fun _ => ?_) (fun _ => ws_b (s_tells n ht (by omega) _) (fun τ hτ => ?_))
  · refine ws_m (s_says_L n hn i h8 a n c σ0 σ 0 (by decide) (by decide) (by rw [lt0]; omega) ht (by rw [lt0]; omega)) (fun υ hυ => ?_)
    obtain ⟨c', h1, h2⟩ := hυ
    rw [lt0] at h2
    exact ⟨c', h1, by omega⟩
  · refine ws_m (s_says_L n hn i h8 a n (c + 1) σ0 τ 0 (by decide) (by decide) (by rw [lt0]; omega) hτ.1 (by rw [lt0]; omega)) (fun υ hυ => ?_)
    obtain ⟨c', h1, h2⟩ := hυ
    rw [lt0] at h2
    exact ⟨c', h1, by omega⟩
theorem RI_697 {σ τ : ms_T} {c : Nat} (h : RI σ) (t : tl σ τ c) (hc : c ≤ 900) : RI τ ∧ ms_I τ 667 = ms_I σ 667 := by
  obtain ⟨f, hi⟩ := t
  refine ⟨⟨⟨?_, ?_, ?_, by omega⟩, rC_fr h.2 f (by decide)⟩, f.1 667 (by decide)⟩
  · rw [f.1 664 (by decide)]; exact h.1.1
  · rw [f.1 667 (by decide)]; exact h.1.2.1
  · rw [f.1 682 (by decide)]; exact h.1.2.2.1
theorem s_tellsMarks_L (n : Nat) (hn : 70000 ≤ n) {w : Nat} (hw : w ≤ 32) : ∀ (k c : Nat) (σ0 σ : ms_T) (v : Int32), 0 ≤ v.toInt → v.toInt ≤ (w : Int) → (w : Int) - v.toInt < (k : Int) → (ms_I σ 657).toInt = (w : Int) → tl σ0 σ c → (c : Int) ≤ 400 + 11 * v.toInt → ws (f_X12_tellsMarks_L25 n k σ v) (fun q => ∃ c', tl σ0 q.2 c' ∧ c' ≤ 900) := by
  intro k
  induction k with
  | zero => intro c σ0 σ v g0 g1 g2; omega
  | succ k ih =>
    intro c σ0 σ v g0 g1 g2 hi ht hc
    rw [f_X12_tellsMarks_L25.eq_2]
    refine ws_le (fun _ => ws_b (s_tells n ht (by omega) _) (fun τ hτ => ws_s ⟨_, hτ.1, by omega⟩)) (fun g => ?_)
    have e1 : (v + 1).toInt = v.toInt + 1 := by (try simp only [iw_add, iw_sub, iw_mul, t_m1, lt0, lt1, t_2, t_3, t_4, t_5, t_6, t_8, t_9, t_10, t_16, t_20, t_24, t_26, t_30, t_31, t_48, t_64, t_72, t_76, t_92, t_101, t_252, t_444, t_512, t_900, t_1980, t_65521, t_99999, t_mil]) <;> omega
    refine ws_b (s_tells n ht (by omega) _) (fun τ hτ => ws_g g0 (by omega) (ws_b (s_tellsNumber n hn _ hτ.1 (by omega)) (fun υ hυ => ?_)))
    obtain ⟨⟨c', h1, h2⟩, h3⟩ := hυ
    exact ws_l (ih c' σ0 υ (v + 1) (by omega) (by omega) (by omega) (by rw [h3, hτ.2]; exact hi) h1 (by omega))
theorem s_tellsMarks (n : Nat) (hn : 70000 ≤ n) {B : Int} {σ0 σ1 σ : ms_T} {w c : Nat} (hC : rC (ms_E σ 40)) (hy : wy B σ1 σ w) (hB : B ≤ 48) (hw : w ≤ 32) (ht : tl σ0 σ c) (hc : c ≤ 300) (r : Int32) (h0 : 0 ≤ r.toInt) (h1 : r.toInt ≤ 3) : ws (f_X12_tellsMarks n σ r) (fun q => ∃ c', tl σ0 q.2 c' ∧ c' ≤ 900) := by
  unfold f_X12_tellsMarks
  refine ws_b (s_fetches n hn hC hy hB (by omega) r h0 h1) (fun τ hτ => ?_)
  have t1 : tl σ0 τ c := ⟨fr_tr ht.1 (fr_sb hτ (by decide) (by decide)), by rw [hτ.1 697 (by simp)]; exact ht.2⟩
  refine ws_b (s_tells n t1 (by omega) _) (fun τ2 h2 => ws_b (s_tells n h2.1 (by omega) _) (fun τ3 h3 => ws_b (s_tells n h3.1 (by omega) _) (fun τ4 h4 => ?_)))
  exact s_tellsMarks_L n hn hw n (c + 1 + 1 + 1) σ0 τ4 0 (by decide) (by rw [lt0]; omega) (by rw [lt0]; omega) (by rw [h4.2, h3.2, h2.2, hτ.1 657 (by simp)]; exact hy.2.1) h4.1 (by rw [lt0]; omega)
theorem s_tell (n : Nat) (hn : 70000 ≤ n) (σ : ms_T) (hR : RI σ) (a1 a2 a3 : Int32) : ws (f_X12_tell n σ a1 a2 a3) (PK σ) := by
  unfold f_X12_tell
  refine ws_b (s_noEntry hR.2 a1 a2 a3) (fun r hr => ws_isP hR (fun e τ hτ hE hf => ?_))
  have := hr e
  have t0 : tl τ (ms_sI τ 697 0) 0 := ⟨fr_sI (by decide), by rw [mI_sI, if_pos rfl]; rfl⟩
  refine ws_l (ws_b (s_says n hn 14 (by decide +kernel) a2 t0 (by omega)) (fun σ1 h1 => ?_))
  obtain ⟨k1, t1, l1⟩ := h1
  refine ws_b (s_says n hn 18 (by decide +kernel) a3 t1 (by omega)) (fun σ2 h2 => ?_)
  obtain ⟨k2, t2, l2⟩ := h2
  refine ws_b (s_entryMark hn (rC_fr hτ.2 t2.1 (by decide)) a1 a2 (by omega) (by omega) (by omega) (by omega)) (fun x _ => ws_b (s_says n hn 16 (by decide +kernel) x t2 (by omega)) (fun σ3 h3 => ?_))
  obtain ⟨k3, t3, l3⟩ := h3
  refine ws_b (s_headOf n hn (rC_fr hτ.2 t3.1 (by decide)) a1 a3 (by omega) (by omega) (by omega) (by omega)) (fun y _ => ws_b (s_says n hn 13 (by decide +kernel) y t3 (by omega)) (fun σ4 h4 => ?_))
  obtain ⟨k4, t4, l4⟩ := h4
  refine ws_b (s_inclusion n hn σ4 a2 a3 (by omega) (by omega)) (fun σ5 h5 => ?_)
  obtain ⟨w, hw, hl⟩ := h5
  have t5 : tl τ σ5 k4 := ⟨fr_tr t4.1 (fr_sb hw.1 (by decide) (by decide)), by rw [hw.1.1 697 (by decide)]; exact t4.2⟩
  refine ws_c (s_tellsMarks n hn (rC_fr hτ.2 t5.1 (by decide)) hw (by omega) (by omega) t5 (by omega) a1 (by omega) (by omega)) (fun z ρ hρ => ?_)
  obtain ⟨c, hc, hc9⟩ := hρ
  exact ws_s (RI_697 hτ hc hc9)
theorem s_tellGrowth (n : Nat) (hn : 70000 ≤ n) (σ : ms_T) (hR : RI σ) (a1 a2 a3 : Int32) : ws (f_X12_tellGrowth n σ a1 a2 a3) (PK σ) := by
  have L := lits
  have hC := hR.2
  have hJ : ∀ w : Int32, (w = 0 → 0 ≤ a1.toInt ∧ a1.toInt ≤ 3 ∧ 0 ≤ a2.toInt ∧ a2.toInt ≤ a3.toInt ∧ a3.toInt ≤ 48) → ws (f_X12_tellGrowth_J20 n σ a1 a2 a3 w) (PK σ) := by
    intro w hw
    unfold f_X12_tellGrowth_J20
    refine ws_isP hR (fun e τ hτ hE hf => ?_)
    have := hw e
    have t0 : tl τ (ms_sI τ 697 0) 0 := ⟨fr_sI (by decide), by rw [mI_sI, if_pos rfl]; rfl⟩
    refine ws_l (ws_b (s_says n hn 11 (by decide +kernel) a2 t0 (by omega)) (fun σ1 h1 => ?_))
    obtain ⟨k1, t1, l1⟩ := h1
    refine ws_b (s_headOf n hn (rC_fr hτ.2 t1.1 (by decide)) a1 a2 (by omega) (by omega) (by omega) (by omega)) (fun x _ => ws_b (s_says n hn 16 (by decide +kernel) x t1 (by omega)) (fun σ2 h2 => ?_))
    obtain ⟨k2, t2, l2⟩ := h2
    refine ws_b (s_says n hn 20 (by decide +kernel) a3 t2 (by omega)) (fun σ3 h3 => ?_)
    obtain ⟨k3, t3, l3⟩ := h3
    refine ws_b (s_headOf n hn (rC_fr hτ.2 t3.1 (by decide)) a1 a3 (by omega) (by omega) (by omega) (by omega)) (fun y _ => ws_b (s_says n hn 13 (by decide +kernel) y t3 (by omega)) (fun σ4 h4 => ?_))
    obtain ⟨k4, t4, l4⟩ := h4
    refine ws_b (s_growth0 n hn σ4 a2 a3) (fun σ5 h5 => ?_)
    obtain ⟨w, hw, hl⟩ := h5
    have t5 : tl τ σ5 k4 := ⟨fr_tr t4.1 (fr_sb hw.1 (by decide) (by decide)), by rw [hw.1.1 697 (by decide)]; exact t4.2⟩
    refine ws_c (s_tellsMarks n hn (rC_fr hτ.2 t5.1 (by decide)) hw (by omega) (by omega) t5 (by omega) a1 (by omega) (by omega)) (fun z ρ hρ => ?_)
    obtain ⟨c, hc, hc9⟩ := hρ
    exact ws_s (RI_697 hτ hc hc9)
  unfold f_X12_tellGrowth
  repeat' (first
    | with_reducible refine ws_bo (s_isRecord (by assumption) _) (fun _ => ?_) (fun _ => ?_)
    | with_reducible refine ws_bo (s_isMark (by assumption) _) (fun _ => ?_) (fun _ => ?_)
    | with_reducible refine ws_bo (s_isIn _ _ _ _) (fun _ => ?_) (fun _ => ?_)
    | with_reducible refine ws_bo (s_isWatcher _ _) (fun _ => ?_) (fun _ => ?_)
    | with_reducible refine ws_bo (s_isThing _ _ _ _) (fun _ => ?_) (fun _ => ?_)
    | with_reducible refine ws_b (s_noSize (by assumption) _ _) (fun _ _ => ?_)
    | with_reducible refine ws_b (s_noEntry (by assumption) _ _ _) (fun _ _ => ?_)
    | with_reducible refine ws_b (s_sizeOf (by assumption) _ (by omega) (by omega)) (fun _ _ => ?_)
    | with_reducible refine ws_lt (fun _ => ?_) (fun _ => ?_)
    | with_reducible refine ws_le (fun _ => ?_) (fun _ => ?_)
    | with_reducible refine ws_ee (fun _ _ => ?_) (fun _ => ?_)
    | with_reducible refine ws_g (by decide) (by decide) ?_
    | with_reducible refine ws_g (by omega) (by omega) ?_)
  all_goals first
    | exact hJ _ (fun h => absurd h (by decide))
    | exact hJ _ (fun _ => by omega)
    | (refine hJ _ (fun h => ?_); rename_i q; have := q h; omega)
end JN7_22
section JN7_23
/-! ===== the reader ===== -/
/-- of the letters that are read: the end, where the word stands, what is wrong -/
def PI (σ : ms_T) : Prop := (0 ≤ (ms_I σ 676).toInt ∧ (ms_I σ 676).toInt ≤ 900) ∧ 0 ≤ (ms_I σ 672).toInt ∧ (ms_I σ 672).toInt < (ms_I σ 673).toInt ∧ (¬ (ms_I σ 674).toInt = 0 → (ms_I σ 673).toInt ≤ (ms_I σ 676).toInt) ∧ 0 ≤ (ms_I σ 670).toInt
theorem s_isOf (n : Nat) {σ : ms_T} (h : (ms_I σ 676).toInt ≤ 900) (a b c : Int32) (h0 : 0 ≤ a.toInt) : ws (f_X12_isOf n σ a b c) (fun r => r = 0 ∨ (r = 1 ∧ a.toInt < (ms_I σ 676).toInt)) := by
  unfold f_X12_isOf
  exact ws_le (fun _ => ws_s (Or.inl rfl)) (fun g => ws_g h0 (by omega) (ws_b (s_isIn n _ _ _) (fun _ _ => ws_i (fun _ => ws_s (Or.inl rfl)) (fun _ => ws_s (Or.inr ⟨rfl, g⟩)))))
theorem isOf_c (n : Nat) {σ τ : ms_T} (h1 : ms_I τ 676 = ms_I σ 676) (h2 : ∀ j, ms_E τ 47 j = ms_E σ 47 j) (a b c : Int32) : f_X12_isOf n τ a b c = f_X12_isOf n σ a b c := by
  unfold f_X12_isOf
  rw [h1, h2]
/-- what reads leaves -/
def rd (σ0 τ : ms_T) : Prop := fr [672, 673, 674, 675] [] σ0 τ ∧ 0 ≤ (ms_I τ 672).toInt ∧ (ms_I τ 672).toInt < (ms_I τ 673).toInt ∧ (¬ (ms_I τ 674).toInt = 0 → (ms_I τ 673).toInt ≤ (ms_I σ0 676).toInt)
theorem s_rd141 (n : Nat) (x : Int32) : ∀ (k : Nat) (σ0 σ : ms_T), fr [672, 673, 674, 675] [] σ0 σ → (ms_I σ0 676).toInt ≤ 900 → ms_I σ 672 = x → ms_I σ 674 = 1 → 0 ≤ x.toInt → x.toInt < (ms_I σ 673).toInt → (ms_I σ 673).toInt ≤ (ms_I σ0 676).toInt → 901 - (ms_I σ 673).toInt ≤ (k : Int) → ws (f_X12_reads_L141 n k σ) (fun τ => rd σ0 τ ∧ ms_I τ 672 = x) := by
  intro k
  induction k with
  | zero => intro σ0 σ hf h9 hx h4 g0 g1 g2 g3; omega
  | succ k ih =>
    intro σ0 σ hf h9 hx h4 g0 g1 g2 g3
    have e6 : ms_I σ 676 = ms_I σ0 676 := hf.1 676 (by decide)
    rw [f_X12_reads_L141.eq_2]
    refine ws_b (s_isOf n (by rw [e6]; exact h9) _ _ _ (by omega)) (fun r hr => ws_i (fun _ => ws_s ⟨⟨hf, by rw [hx]; exact g0, by rw [hx]; exact g1, fun _ => g2⟩, hx⟩) (fun q => ?_))
    have hlt := (hr.resolve_left q).2
    rw [e6] at hlt
    have e1 : (ms_I σ 673 + 1).toInt = (ms_I σ 673).toInt + 1 := by rw [iw_add, lt1]; omega
    have hJ : ∀ J, ws (f_X12_reads_J201 n (f_X12_reads_L141 n k) σ J) (fun τ => rd σ0 τ ∧ ms_I τ 672 = x) := by
      intro J
      unfold f_X12_reads_J201
      refine ws_l (ws_l (ih σ0 _ (fr_tr hf (fr_tr fr_sJ (fr_sI (by decide)))) h9 ?_ ?_ g0 ?_ ?_ ?_))
      · rw [mI_sI, if_neg (by decide), mI_sJ]; exact hx
      · rw [mI_sI, if_neg (by decide), mI_sJ]; exact h4
      · rw [mI_sI, if_pos rfl, mI_sJ, e1]; omega
      · rw [mI_sI, if_pos rfl, mI_sJ, e1]; omega
      · rw [mI_sI, if_pos rfl, mI_sJ, e1]; omega
    exact ws_i (fun _ => hJ _) (fun _ => ws_g (by omega) (by omega) (hJ _))
theorem s_rd245 (n : Nat) (x : Int32) : ∀ (k : Nat) (σ0 σ : ms_T), fr [672, 673, 674, 675] [] σ0 σ → (ms_I σ0 676).toInt ≤ 900 → ms_I σ 672 = x → 0 ≤ x.toInt → x.toInt < (ms_I σ 673).toInt → (ms_I σ 673).toInt ≤ (ms_I σ0 676).toInt → 901 - (ms_I σ 673).toInt ≤ (k : Int) → ws (f_X12_reads_L245 n k σ) (fun τ => rd σ0 τ ∧ ms_I τ 672 = x) := by
  intro k
  induction k with
  | zero => intro σ0 σ hf h9 hx g0 g1 g2 g3; omega
  | succ k ih =>
    intro σ0 σ hf h9 hx g0 g1 g2 g3
    have e6 : ms_I σ 676 = ms_I σ0 676 := hf.1 676 (by decide)
    rw [f_X12_reads_L245.eq_2]
    have hz : ∀ v : Int32, rd σ0 (ms_sI σ 674 v) ∧ ms_I (ms_sI σ 674 v) 672 = x := by
      intro v
      refine ⟨⟨fr_tr hf (fr_sI (by decide)), ?_, ?_, fun _ => ?_⟩, ?_⟩
      · rw [mI_sI, if_neg (by decide), hx]; exact g0
      · rw [mI_sI, if_neg (by decide), mI_sI, if_neg (by decide), hx]; exact g1
      · rw [mI_sI, if_neg (by decide)]; exact g2
      · rw [mI_sI, if_neg (by decide)]; exact hx
    refine ws_b (s_isOf n (by rw [e6]; exact h9) _ _ _ (by omega)) (fun r hr => ws_i (fun _ => ws_i (fun _ => ws_l (ws_s (hz _))) (fun _ => ws_l (ws_s (hz _)))) (fun q => ?_))
    have hlt := (hr.resolve_left q).2
    rw [e6] at hlt
    have e1 : (ms_I σ 673 + 1).toInt = (ms_I σ 673).toInt + 1 := by rw [iw_add, lt1]; omega
    have hJ : ∀ J, ws (f_X12_reads_J301 n (f_X12_reads_L245 n k) σ J) (fun τ => rd σ0 τ ∧ ms_I τ 672 = x) := by
      intro J
      unfold f_X12_reads_J301
      have e3 : ms_I (ms_sI σ 675 J) 673 = ms_I σ 673 := by rw [mI_sI, if_neg (by decide)]
      refine ws_l (ws_l (ih σ0 _ (fr_tr hf (fr_tr (fr_sI (by decide)) (fr_sI (by decide)))) h9 ?_ g0 ?_ ?_ ?_))
      · rw [mI_sI, if_neg (by decide), mI_sI, if_neg (by decide)]; exact hx
      · rw [mI_sI, if_pos rfl, e3, e1]; omega
      · rw [mI_sI, if_pos rfl, e3, e1]; omega
      · rw [mI_sI, if_pos rfl, e3, e1]; omega
    exact ws_i (fun _ => hJ _) (fun _ => ws_g (by omega) (by omega) (hJ _))
theorem s_rd60 (n : Nat) (hn : 70000 ≤ n) (σ0 σ : ms_T) (hf : fr [672, 673, 674, 675] [] σ0 σ) (h9 : (ms_I σ0 676).toInt ≤ 900) (h0 : 0 ≤ (ms_I σ 672).toInt) (h1 : (ms_I σ 672).toInt ≤ 2000) : ws (f_X12_reads_J60 n σ) (fun τ => rd σ0 τ ∧ ms_I τ 672 = ms_I σ 672) := by
  unfold f_X12_reads_J60
  refine ws_ln (fun σ3 hs3 => ?_)
  have x2 : ms_I σ3 672 = ms_I σ 672 := by rw [hs3, mI_sI, if_neg (by decide)]
  have x3 : (ms_I σ3 673).toInt = (ms_I σ 672).toInt + 1 := by rw [hs3, mI_sI, if_pos rfl, iw_add, lt1]; omega
  have f3 : fr [672, 673, 674, 675] [] σ0 σ3 := by rw [hs3]; exact fr_tr hf (fr_sI (by decide))
  have e6 : ms_I σ3 676 = ms_I σ0 676 := f3.1 676 (by decide)
  have hJ : ∀ w : Int32, (¬ w.toInt = 0 → (ms_I σ 672).toInt < (ms_I σ0 676).toInt) → ws (f_X12_reads_J105 n σ3 w) (fun τ => rd σ0 τ ∧ ms_I τ 672 = ms_I σ 672) := by
    intro w hw
    unfold f_X12_reads_J105
    refine ws_ln (fun σ5 hs5 => ?_)
    have y2 : ms_I σ5 672 = ms_I σ 672 := by rw [hs5, mI_sI, if_neg (by decide), x2]
    have y3 : (ms_I σ5 673).toInt = (ms_I σ 672).toInt + 1 := by rw [hs5, mI_sI, if_neg (by decide), x3]
    have y4 : ms_I σ5 674 = w := by rw [hs5, mI_sI, if_pos rfl]
    have f5 : fr [672, 673, 674, 675] [] σ0 σ5 := by rw [hs5]; exact fr_tr f3 (fr_sI (by decide))
    have e65 : ms_I σ5 676 = ms_I σ0 676 := f5.1 676 (by decide)
    have hq : ∀ b c, ws (f_X12_isOf n σ5 (ms_I σ5 672) b c) (fun r => r = 0 ∨ (r = 1 ∧ (ms_I σ5 672).toInt < (ms_I σ5 676).toInt)) := fun b c => s_isOf n (by rw [e65]; exact h9) _ b c (by rw [y2]; exact h0)
    have hend : rd σ0 σ5 ∧ ms_I σ5 672 = ms_I σ 672 := ⟨⟨f5, by rw [y2]; exact h0, by rw [y2]; omega, fun g => by rw [y4] at g; have := hw g; omega⟩, y2⟩
    obtain ⟨r, er, hr⟩ := hq 97 122
    refine ws_b (S := fun q => q = r) ⟨r, er, rfl⟩ (fun r' g1 => ?_)
    subst g1
    refine ws_i (fun _ => ?_) (fun q => ?_)
    · obtain ⟨s, es, hs⟩ := hq 48 57
      refine ws_b (S := fun q => q = s) ⟨s, es, rfl⟩ (fun s' g1 => ?_)
      subst g1
      refine ws_i (fun _ => ws_s hend) (fun q => ?_)
      have hlt := (hs.resolve_left q).2
      rw [y2, e65] at hlt
      refine ws_l (ws_ln (fun σ9 hs9 => ?_))
      have z2 : ms_I σ9 672 = ms_I σ 672 := by rw [hs9, mI_sI, if_neg (by decide), mI_sI, if_neg (by decide), y2]
      have z3 : ms_I σ9 673 = ms_I σ 672 := by rw [hs9, mI_sI, if_pos rfl, mI_sI, if_neg (by decide), y2]
      have f9 : fr [672, 673, 674, 675] [] σ0 σ9 := by rw [hs9]; exact fr_tr f5 (fr_tr (fr_sI (by decide)) (fr_sI (by decide)))
      have hE : ∀ j, ms_E σ9 47 j = ms_E σ5 47 j := fun j => by rw [f9.2 47 (by simp), f5.2 47 (by simp)]
      obtain ⟨n', rfl⟩ : ∃ n', n = n' + 1 := ⟨n - 1, by omega⟩
      have ei : f_X12_isOf (n' + 1) σ9 (ms_I σ9 673) 48 57 = some s' := by
        rw [isOf_c (n' + 1) (σ := σ5) (by rw [f9.1 676 (by decide), e65]) hE, z3, ← y2]; exact es
      rw [f_X12_reads_L245.eq_2]
      refine ws_b (S := fun t => t = s') ⟨s', ei, rfl⟩ (fun t' g1 => ?_)
      rw [g1, if_neg q]
      have e1 : (ms_I σ 672 + 1).toInt = (ms_I σ 672).toInt + 1 := by rw [iw_add, lt1]; omega
      have hJ3 : ∀ J, ws (f_X12_reads_J301 (n' + 1) (f_X12_reads_L245 (n' + 1) n') σ9 J) (fun τ => rd σ0 τ ∧ ms_I τ 672 = ms_I σ 672) := by
        intro J
        unfold f_X12_reads_J301
        have e3 : ms_I (ms_sI σ9 675 J) 673 = ms_I σ 672 := by rw [mI_sI, if_neg (by decide), z3]
        refine ws_l (ws_l (s_rd245 (n' + 1) (ms_I σ 672) n' σ0 _ (fr_tr f9 (fr_tr (fr_sI (by decide)) (fr_sI (by decide)))) h9 ?_ h0 ?_ ?_ ?_))
        · rw [mI_sI, if_neg (by decide), mI_sI, if_neg (by decide)]; exact z2
        · rw [mI_sI, if_pos rfl, e3, e1]; omega
        · rw [mI_sI, if_pos rfl, e3, e1]; omega
        · rw [mI_sI, if_pos rfl, e3, e1]; omega
      exact ws_i (fun _ => hJ3 _) (fun _ => ws_g (by rw [z3]; omega) (by rw [z3]; omega) (hJ3 _))
    · have hlt := (hr.resolve_left q).2
      rw [y2, e65] at hlt
      refine ws_l (ws_l (ws_ln (fun σ9 hs9 => ?_)))
      have z2 : ms_I σ9 672 = ms_I σ 672 := by rw [hs9, mI_sI, if_neg (by decide), mI_sJ, mI_sI, if_neg (by decide), y2]
      have z3 : ms_I σ9 673 = ms_I σ 672 := by rw [hs9, mI_sI, if_pos rfl, mI_sJ, mI_sI, if_neg (by decide), y2]
      have z4 : ms_I σ9 674 = 1 := by rw [hs9, mI_sI, if_neg (by decide), mI_sJ, mI_sI, if_pos rfl]
      have f9 : fr [672, 673, 674, 675] [] σ0 σ9 := by rw [hs9]; exact fr_tr f5 (fr_tr (fr_sI (by decide)) (fr_tr fr_sJ (fr_sI (by decide))))
      have hE : ∀ j, ms_E σ9 47 j = ms_E σ5 47 j := fun j => by rw [f9.2 47 (by simp), f5.2 47 (by simp)]
      obtain ⟨n', rfl⟩ : ∃ n', n = n' + 1 := ⟨n - 1, by omega⟩
      have ei : f_X12_isOf (n' + 1) σ9 (ms_I σ9 673) 97 122 = some r' := by
        rw [isOf_c (n' + 1) (σ := σ5) (by rw [f9.1 676 (by decide), e65]) hE, z3, ← y2]; exact er
      rw [f_X12_reads_L141.eq_2]
      refine ws_b (S := fun t => t = r') ⟨r', ei, rfl⟩ (fun t' g1 => ?_)
      rw [g1, if_neg q]
      have e1 : (ms_I σ 672 + 1).toInt = (ms_I σ 672).toInt + 1 := by rw [iw_add, lt1]; omega
      have hJ3 : ∀ J, ws (f_X12_reads_J201 (n' + 1) (f_X12_reads_L141 (n' + 1) n') σ9 J) (fun τ => rd σ0 τ ∧ ms_I τ 672 = ms_I σ 672) := by
        intro J
        unfold f_X12_reads_J201
        refine ws_l (ws_l (s_rd141 (n' + 1) (ms_I σ 672) n' σ0 _ (fr_tr f9 (fr_tr fr_sJ (fr_sI (by decide)))) h9 ?_ ?_ h0 ?_ ?_ ?_))
        · rw [mI_sI, if_neg (by decide), mI_sJ]; exact z2
        · rw [mI_sI, if_neg (by decide), mI_sJ]; exact z4
        · rw [mI_sI, if_pos rfl, mI_sJ, z3, e1]; omega
        · rw [mI_sI, if_pos rfl, mI_sJ, z3, e1]; omega
        · rw [mI_sI, if_pos rfl, mI_sJ, z3, e1]; omega
      exact ws_i (fun _ => hJ3 _) (fun _ => ws_g (by rw [z3]; omega) (by rw [z3]; omega) (hJ3 _))
  refine ws_lt (fun c => ws_g (by rw [x2]; omega) (by rw [x2, e6] at c; rw [x2]; omega) (ws_i (fun _ => hJ _ (fun _ => ?_)) (fun _ => hJ _ (fun _ => ?_)))) (fun _ => hJ _ (fun g => absurd lt0 g))
  · rw [x2, e6] at c; exact c
  · rw [x2, e6] at c; exact c
theorem s_rd8 (n : Nat) (hn : 70000 ≤ n) : ∀ (k : Nat) (σ0 σ : ms_T) (x : Int), fr [672, 673, 674, 675] [] σ0 σ → (ms_I σ0 676).toInt ≤ 900 → 0 ≤ x → x ≤ (ms_I σ 672).toInt → (ms_I σ 672).toInt ≤ 1000 → 1001 - (ms_I σ 672).toInt ≤ (k : Int) → ws (f_X12_reads_L8 n k σ) (fun τ => rd σ0 τ ∧ x ≤ (ms_I τ 672).toInt) := by
  intro k
  induction k with
  | zero => intro σ0 σ x hf h9 g0 g1 g2 g3; omega
  | succ k ih =>
    intro σ0 σ x hf h9 g0 g1 g2 g3
    have e6 : ms_I σ 676 = ms_I σ0 676 := hf.1 676 (by decide)
    rw [f_X12_reads_L8.eq_2, e6]
    have h60 : ws (f_X12_reads_J60 n σ) (fun τ => rd σ0 τ ∧ x ≤ (ms_I τ 672).toInt) := ws_m (s_rd60 n hn σ0 σ hf h9 (by omega) (by omega)) (fun τ hτ => ⟨hτ.1, by rw [hτ.2]; exact g1⟩)
    refine ws_le (fun _ => h60) (fun c => ?_)
    have hJ : ws (f_X12_reads_J47 n (f_X12_reads_L8 n k) σ) (fun τ => rd σ0 τ ∧ x ≤ (ms_I τ 672).toInt) := by
      unfold f_X12_reads_J47
      have e1 : (ms_I σ 672 + 1).toInt = (ms_I σ 672).toInt + 1 := by rw [iw_add, lt1]; omega
      refine ws_l (ih σ0 _ x (fr_tr hf (fr_sI (by decide))) h9 g0 ?_ ?_ ?_)
      · rw [mI_sI, if_pos rfl, e1]; omega
      · rw [mI_sI, if_pos rfl, e1]; omega
      · rw [mI_sI, if_pos rfl, e1]; omega
    exact ws_g (by omega) (by omega) (ws_i (fun _ => hJ) (fun _ => ws_g (by omega) (by omega) (ws_i (fun _ => hJ) (fun _ => h60))))
/-- reads: from a place within, the word goes on -/
theorem s_reads (n : Nat) (hn : 70000 ≤ n) (σ : ms_T) (h9 : (ms_I σ 676).toInt ≤ 900) (h0 : 0 ≤ (ms_I σ 673).toInt) (h1 : (ms_I σ 673).toInt ≤ (ms_I σ 676).toInt) : ws (f_X12_reads n σ) (fun τ => rd σ τ ∧ (ms_I σ 673).toInt < (ms_I τ 673).toInt) := by
  unfold f_X12_reads
  have e2 : ms_I (ms_sI σ 672 (ms_I σ 673)) 672 = ms_I σ 673 := by rw [mI_sI, if_pos rfl]
  refine ws_l (ws_m (s_rd8 n hn n σ _ (ms_I σ 673).toInt (fr_sI (by decide)) h9 h0 (by rw [e2]; omega) (by rw [e2]; omega) (by rw [e2]; omega)) (fun τ hτ => ⟨hτ.1, ?_⟩))
  have := hτ.1.2.2.1
  omega
/-! what must be -/
theorem s_must (n : Nat) (σ : ms_T) (a b : Int32) (h0 : 0 ≤ (ms_I σ 670).toInt) (hb : 0 < b.toInt) : ws (f_X12_must n σ a b) (fun τ => fr [670, 671] [] σ τ ∧ 0 ≤ (ms_I τ 670).toInt ∧ ((ms_I τ 670).toInt = 0 → ¬ a = 0 ∧ (ms_I σ 670).toInt = 0)) := by
  have hJ : ∀ w : Int32, 0 < w.toInt → ws (f_X12_must_J31 n σ w) (fun τ => fr [670, 671] [] σ τ ∧ 0 ≤ (ms_I τ 670).toInt ∧ ((ms_I τ 670).toInt = 0 → ¬ a = 0 ∧ (ms_I σ 670).toInt = 0)) := by
    intro w hw
    unfold f_X12_must_J31
    have e : ms_I (ms_sI (ms_sI σ 670 w) 671 (ms_I (ms_sI σ 670 w) 672)) 670 = w := by rw [mI_sI, if_neg (by decide), mI_sI, if_pos rfl]
    refine ws_l (ws_l (ws_s ⟨fr_tr (fr_sI (by decide)) (fr_sI (by decide)), by rw [e]; omega, fun q => by rw [e] at q; omega⟩))
  unfold f_X12_must f_X12_must_J30
  refine ws_i (fun _ => ws_le (fun _ => ws_i (fun _ => ws_i (fun _ => hJ _ (by decide)) (fun _ => hJ _ hb)) (fun _ => hJ _ hb)) (fun c => ws_s ⟨fr_rf, h0, fun q => by rw [lt0] at c; omega⟩)) (fun c => ws_s ⟨fr_rf, h0, fun q => ⟨c, q⟩⟩)
theorem s_isWord (n : Nat) (σ : ms_T) (a : Int32) (h0 : 0 ≤ a.toInt) (h1 : a.toInt ≤ 11) : ws (f_X12_isWord n σ a) (fun r => ¬ r = 0 → (ms_I σ 670).toInt = 0 ∧ (ms_I σ 674).toInt = 1) := by
  unfold f_X12_isWord
  refine ws_ee (fun _ e => ws_ee (fun _ g => ws_g h0 (by omega) (ws_i (fun _ => ws_i (fun _ => ws_s (fun q => absurd rfl q)) (fun _ => ws_s (fun _ => ⟨e, g⟩))) (fun _ => ws_s (fun q => absurd rfl q)))) (fun _ => ws_s (fun q => absurd rfl q))) (fun _ => ws_s (fun q => absurd rfl q))
end JN7_23
section JN7_24
/-! ===== words taken, lines ===== -/
theorem PI_w {σ τ : ms_T} (h : PI σ) (f : fr [670, 671] [] σ τ) (h0 : 0 ≤ (ms_I τ 670).toInt) : PI τ := by
  obtain ⟨h1, h2, h3, h4, h5⟩ := h
  unfold PI
  rw [f.1 676 (by decide), f.1 672 (by decide), f.1 673 (by decide), f.1 674 (by decide)]
  exact ⟨h1, h2, h3, h4, h0⟩
theorem PI_rd {σ τ : ms_T} (h : PI σ) (f : rd σ τ) : PI τ := by
  obtain ⟨h1, h2, h3, h4, h5⟩ := h
  obtain ⟨g1, g2, g3, g4⟩ := f
  unfold PI
  rw [g1.1 676 (by decide), g1.1 670 (by decide)]
  exact ⟨h1, g2, g3, g4, h5⟩
theorem PI_fr {wI wE : List Nat} {σ τ : ms_T} (h : PI σ) (f : fr wI wE σ τ) (k1 : 676 ∉ wI) (k2 : 672 ∉ wI) (k3 : 673 ∉ wI) (k4 : 674 ∉ wI) (k5 : 670 ∉ wI) : PI τ := by
  unfold PI
  rw [f.1 676 k1, f.1 672 k2, f.1 673 k3, f.1 674 k4, f.1 670 k5]
  exact h
/-- a word taken -/
def T (σ τ : ms_T) : Prop := fr [670, 671, 672, 673, 674, 675] [] σ τ ∧ PI τ ∧ ((ms_I τ 670).toInt = 0 → (ms_I σ 670).toInt = 0 ∧ (ms_I σ 673).toInt < (ms_I τ 673).toInt)
theorem T_tr {σ τ υ : ms_T} (h : T σ τ) (g : T τ υ) : T σ υ := by
  refine ⟨fr_tr h.1 g.1, g.2.1, fun e => ?_⟩
  have a := g.2.2 e
  have b := h.2.2 a.1
  exact ⟨b.1, by omega⟩
theorem s_reads1 (n : Nat) (hn : 70000 ≤ n) {σ : ms_T} (h : PI σ) (h4 : ¬ (ms_I σ 674).toInt = 0) : ws (f_X12_reads n σ) (fun τ => rd σ τ ∧ PI τ ∧ (ms_I σ 673).toInt < (ms_I τ 673).toInt) := by
  have h' := h
  obtain ⟨h1, h2, h3, h5, h6⟩ := h'
  exact ws_m (s_reads n hn σ h1.2 (by omega) (h5 h4)) (fun τ hτ => ⟨hτ.1, PI_rd h hτ.1, hτ.2⟩)
theorem T_rd {σ τ υ : ms_T} (f : fr [670, 671] [] σ τ) (h0 : (ms_I σ 670).toInt = 0) (hτ : rd τ υ ∧ PI υ ∧ (ms_I τ 673).toInt < (ms_I υ 673).toInt) : T σ υ := by
  refine ⟨fr_tr (fr_sb f (by decide) (by decide)) (fr_sb hτ.1.1 (by decide) (by decide)), hτ.2.1, fun _ => ⟨h0, ?_⟩⟩
  have := hτ.2.2
  rw [f.1 673 (by decide)] at this
  exact this
theorem s_tk (n : Nat) (hn : 70000 ≤ n) {σ τ : ms_T} (h : PI σ) (f : fr [670, 671] [] σ τ) (h0 : 0 ≤ (ms_I τ 670).toInt) (h1 : (ms_I τ 670).toInt = 0 → (ms_I σ 670).toInt = 0 ∧ ¬ (ms_I σ 674).toInt = 0) : ws (if ms_I τ 670 = 0 then ms_b (f_X12_reads n τ) fun υ => some υ else some τ) (T σ) := by
  have l0 := lt0
  refine ws_ee (fun _ e => ?_) (fun e => ws_s ⟨fr_sb f (by decide) (by decide), PI_w h f h0, fun q => by omega⟩)
  obtain ⟨q1, q2⟩ := h1 (by omega)
  exact ws_b (s_reads1 n hn (PI_w h f h0) (by rw [f.1 674 (by decide)]; exact q2)) (fun υ hυ => ws_s (T_rd f q1 hυ))
theorem s_takes (n : Nat) (hn : 70000 ≤ n) {σ : ms_T} (h : PI σ) (a : Int32) (h0 : 0 ≤ a.toInt) (h1 : a.toInt ≤ 11) : ws (f_X12_takes n σ a) (T σ) := by
  unfold f_X12_takes
  refine ws_b (s_isWord n σ a h0 h1) (fun r hr => ws_b (s_must n σ r 2 h.2.2.2.2 (by decide)) (fun τ hτ => s_tk n hn h hτ.1 hτ.2.1 (fun e => ?_)))
  have q := hτ.2.2 e
  have p := hr q.1
  exact ⟨q.2, by omega⟩
theorem s_takesEnd (n : Nat) (hn : 70000 ≤ n) {σ : ms_T} (h : PI σ) : ws (f_X12_takesEnd n σ) (T σ) := by
  have t3 := t_3
  unfold f_X12_takesEnd f_X12_takesEnd_J14
  refine ws_ee (fun _ g => ?_) (fun g => ?_)
  · exact ws_b (s_must n σ 1 2 h.2.2.2.2 (by decide)) (fun τ hτ => s_tk n hn h hτ.1 hτ.2.1 (fun e => ⟨(hτ.2.2 e).2, by omega⟩))
  · exact ws_b (s_must n σ 0 2 h.2.2.2.2 (by decide)) (fun τ hτ => s_tk n hn h hτ.1 hτ.2.1 (fun e => absurd rfl (hτ.2.2 e).1))
theorem s_takesNumber (n : Nat) (hn : 70000 ≤ n) {σ : ms_T} (h : PI σ) (a b : Int32) : ws (f_X12_takesNumber n σ a b) (fun q => T σ q.2 ∧ ((ms_I q.2 670).toInt = 0 → a.toInt ≤ q.1.toInt ∧ q.1.toInt ≤ b.toInt)) := by
  have l0 := lt0
  have t2 := t_2
  have hJ : ∀ w : Int32, (¬ w = 0 → ¬ (ms_I σ 674).toInt = 0) → ws (f_X12_takesNumber_J14 n σ a b w) (fun q => T σ q.2 ∧ ((ms_I q.2 670).toInt = 0 → a.toInt ≤ q.1.toInt ∧ q.1.toInt ≤ b.toInt)) := by
    intro w hw
    unfold f_X12_takesNumber_J14
    refine ws_b (s_must n σ w 2 h.2.2.2.2 (by decide)) (fun τ hτ => ws_b (s_isIn n _ _ _) (fun r hr => ws_b (s_must n τ r 3 hτ.2.1 (by decide)) (fun υ hυ => ws_l ?_)))
    have f2 : fr [670, 671] [] σ υ := fr_tr hτ.1 hυ.1
    refine ws_ee (fun _ e => ?_) (fun e => ws_s ⟨⟨fr_sb f2 (by decide) (by decide), PI_w h f2 hυ.2.1, fun q => by have q : (ms_I υ 670).toInt = 0 := q; omega⟩, fun q => by have q : (ms_I υ 670).toInt = 0 := q; omega⟩)
    have q1 := hυ.2.2 (by omega)
    have q2 := hτ.2.2 q1.2
    have hr1 := bo_1 hr (fun x => q1.1 (Int32.toInt_inj.mp x))
    have q3 := hw q2.1
    refine ws_b (s_reads1 n hn (PI_w h f2 hυ.2.1) (by rw [f2.1 674 (by decide)]; exact q3)) (fun ρ hρ => ws_s ⟨T_rd f2 q2.2 hρ, fun _ => ?_⟩)
    show a.toInt ≤ (ms_I υ 675).toInt ∧ (ms_I υ 675).toInt ≤ b.toInt
    rw [hυ.1.1 675 (by decide)]
    exact hr1
  unfold f_X12_takesNumber
  exact ws_ee (fun _ g => hJ _ (fun _ => by omega)) (fun _ => hJ _ (fun q => absurd rfl q))
theorem s_takesMark (n : Nat) (hn : 70000 ≤ n) {σ : ms_T} (h : PI σ) : ws (f_X12_takesMark n σ) (fun q => T σ q.2) := by
  unfold f_X12_takesMark
  exact ws_g (by decide) (by decide) (ws_c (s_takesNumber n hn h _ _) (fun x τ hτ => ws_s hτ.1))
/-! lines -/
def LI (σ : ms_T) : Prop := PI σ ∧ rC (ms_E σ 40) ∧ 0 ≤ (ms_I σ 679).toInt ∧ (ms_I σ 679).toInt ≤ 3
def FW : List Nat := [652, 653, 657, 658, 659, 660, 665, 670, 671, 672, 673, 674, 675, 679]
def FE : List Nat := [40, 42, 43, 44, 46]
def lnP (σ τ : ms_T) : Prop := fr FW FE σ τ ∧ LI τ ∧ ((ms_I τ 670).toInt = 0 → (ms_I σ 673).toInt < (ms_I τ 673).toInt)
theorem LI_T {σ τ : ms_T} (h : LI σ) (t : T σ τ) : LI τ := ⟨t.2.1, rC_fr h.2.1 t.1 (by decide), by rw [t.1.1 679 (by decide)]; exact h.2.2⟩
theorem s_addLine_J134 (n : Nat) (hn : 70000 ≤ n) {σ0 σ : ms_T} (hf : fr FW FE σ0 σ) (hL : LI σ) (hp : (ms_I σ0 673).toInt < (ms_I σ 673).toInt) (h0 : 0 ≤ (ms_I σ 665).toInt) (h1 : (ms_I σ 665).toInt ≤ 8) : ws (f_X12_addLine_J134 n σ) (lnP σ0) := by
  have l0 := lt0
  unfold f_X12_addLine_J134
  refine ws_b (s_takesEnd n hn hL.1) (fun τ hτ => ?_)
  have hLτ := LI_T hL hτ
  have fτ : fr FW FE σ0 τ := fr_tr hf (fr_sb hτ.1 (by decide) (by decide))
  refine ws_ee (fun _ e => ?_) (fun e => ws_s ⟨fτ, hLτ, fun q => by omega⟩)
  have hpr := (hτ.2.2 (by omega)).2
  refine ws_c (s_adds n hn τ hLτ.2.1 (by rw [hτ.1.1 665 (by decide)]; exact h0) (by rw [hτ.1.1 665 (by decide)]; exact h1) _ hLτ.2.2.1 hLτ.2.2.2) (fun x ρ hρ => ws_s ?_)
  have fρ : fr [652, 653] [40] τ ρ := hρ.1
  refine ⟨fr_tr fτ (fr_sb fρ (by decide) (by decide)), ⟨PI_fr hLτ.1 fρ (by decide) (by decide) (by decide) (by decide) (by decide), hρ.2, by rw [fρ.1 679 (by decide)]; exact hLτ.2.2⟩, fun _ => ?_⟩
  rw [fρ.1 673 (by decide)]
  omega
theorem s_addLine_L (n : Nat) (hn : 70000 ≤ n) : ∀ (k : Nat) (σ0 σ : ms_T) (v : Int32), fr FW FE σ0 σ → LI σ → (ms_I σ0 673).toInt < (ms_I σ 673).toInt → (ms_I σ 665).toInt = (ms_I σ 673).toInt - (ms_I σ 672).toInt → (ms_I σ 665).toInt ≤ 8 → ¬ (ms_I σ 674).toInt = 0 → 0 ≤ v.toInt → v.toInt ≤ 8 → 9 - v.toInt ≤ (k : Int) → ws (f_X12_addLine_L96 n k σ v) (lnP σ0) := by
  intro k
  induction k with
  | zero => intro σ0 σ v hf hL hp h5 h8 h4 g0 g1 g2; omega
  | succ k ih =>
    intro σ0 σ v hf hL hp h5 h8 h4 g0 g1 g2
    rw [f_X12_addLine_L96.eq_2]
    have hP := hL.1
    unfold PI at hP
    have hend := hP.2.2.2.1 h4
    refine ws_le (fun _ => ?_) (fun g => ?_)
    · refine ws_b (s_reads1 n hn hL.1 h4) (fun τ hτ => ?_)
      have e5 : ms_I τ 665 = ms_I σ 665 := hτ.1.1.1 665 (by decide)
      refine s_addLine_J134 n hn (fr_tr hf (fr_sb hτ.1.1 (by decide) (by decide))) ⟨hτ.2.1, rC_fr hL.2.1 hτ.1.1 (by decide), by rw [hτ.1.1.1 679 (by decide)]; exact hL.2.2⟩ (by have := hτ.2.2; omega) (by rw [e5]; omega) (by rw [e5]; omega)
    · have e1 : (ms_I σ 672 + v).toInt = (ms_I σ 672).toInt + v.toInt := by rw [iw_add]; omega
      have ff : fr [] [46] σ (ms_sE σ 46 v.toNatClampNeg (ms_E σ 47 (ms_I σ 672 + v).toNatClampNeg - 96)) := fr_sE (by decide)
      refine ws_g (by omega) (by omega) (ws_g g0 (by omega) (ws_l (ws_l (ih σ0 _ (v + 1) (fr_tr hf (fr_sE (by decide))) ⟨PI_fr hL.1 ff (by decide) (by decide) (by decide) (by decide) (by decide), rC_fr hL.2.1 ff (by decide), hL.2.2⟩ hp h5 h8 h4 (by (try simp only [iw_add, iw_sub, iw_mul, t_m1, lt0, lt1, t_2, t_3, t_4, t_5, t_6, t_8, t_9, t_10, t_16, t_20, t_24, t_26, t_30, t_31, t_48, t_64, t_72, t_76, t_92, t_101, t_252, t_444, t_512, t_900, t_1980, t_65521, t_99999, t_mil]) <;> omega) (by (try simp only [iw_add, iw_sub, iw_mul, t_m1, lt0, lt1, t_2, t_3, t_4, t_5, t_6, t_8, t_9, t_10, t_16, t_20, t_24, t_26, t_30, t_31, t_48, t_64, t_72, t_76, t_92, t_101, t_252, t_444, t_512, t_900, t_1980, t_65521, t_99999, t_mil]) <;> omega) (by (try simp only [iw_add, iw_sub, iw_mul, t_m1, lt0, lt1, t_2, t_3, t_4, t_5, t_6, t_8, t_9, t_10, t_16, t_20, t_24, t_26, t_30, t_31, t_48, t_64, t_72, t_76, t_92, t_101, t_252, t_444, t_512, t_900, t_1980, t_65521, t_99999, t_mil]) <;> omega)))))
theorem s_addLine (n : Nat) (hn : 70000 ≤ n) {σ : ms_T} (hL : LI σ) (h4 : ¬ (ms_I σ 674).toInt = 0) : ws (f_X12_addLine n σ) (lnP σ) := by
  have l0 := lt0
  have t8 := t_8
  have l1 := lt1
  have hJ : ∀ w : Int32, ws (f_X12_addLine_J19 n σ w) (lnP σ) := by
    intro w
    unfold f_X12_addLine_J19
    refine ws_b (s_must n σ w 6 hL.1.2.2.2.2 (by decide)) (fun τ hτ => ?_)
    have hPτ := PI_w hL.1 hτ.1 hτ.2.1
    have hLτ : LI τ := ⟨hPτ, rC_fr hL.2.1 hτ.1 (by decide), by rw [hτ.1.1 679 (by decide)]; exact hL.2.2⟩
    have fτ : fr FW FE σ τ := fr_sb hτ.1 (by decide) (by decide)
    refine ws_le (fun e => ?_) (fun e => ws_s ⟨fτ, hLτ, fun q => by omega⟩)
    refine ws_b (s_reads1 n hn hPτ (by rw [hτ.1.1 674 (by decide)]; exact h4)) (fun υ hυ => ?_)
    have f5 : fr [672, 673, 674, 675, 665] [] τ (ms_sI υ 665 0) := fr_tr (fr_sb hυ.1.1 (by decide) (by decide)) (fr_sI (by decide))
    have g5 : fr [665] [] υ (ms_sI υ 665 0) := fr_sI (by decide)
    have hL6 : LI (ms_sI υ 665 0) := ⟨PI_fr hυ.2.1 g5 (by decide) (by decide) (by decide) (by decide) (by decide), rC_fr hLτ.2.1 f5 (by decide), by rw [f5.1 679 (by decide)]; exact hLτ.2.2⟩
    have fσ : fr FW FE σ (ms_sI υ 665 0) := fr_tr fτ (fr_sb f5 (by decide) (by decide))
    have hpr : (ms_I σ 673).toInt < (ms_I (ms_sI υ 665 0) 673).toInt := by
      rw [mI_sI, if_neg (by decide)]
      have := hυ.2.2
      rw [hτ.1.1 673 (by decide)] at this
      exact this
    have z5 : ms_I (ms_sI υ 665 0) 665 = 0 := by rw [mI_sI, if_pos rfl]
    refine ws_l ?_
    generalize ms_sI υ 665 0 = φ at hL6 fσ hpr z5 ⊢
    refine ws_ee (fun _ g4 => ?_) (fun _ => ?_)
    · have hJ6 : ∀ w : Int32, (¬ w = 0 → (ms_I φ 673 - ms_I φ 672).toInt ≤ 8) → ws (f_X12_addLine_J69 n φ w) (lnP σ) := by
        intro w hw
        unfold f_X12_addLine_J69
        refine ws_b (s_must n φ w 4 hL6.1.2.2.2.2 (by decide)) (fun ρ hρ => ?_)
        have hPρ := PI_w hL6.1 hρ.1 hρ.2.1
        have hLρ : LI ρ := ⟨hPρ, rC_fr hL6.2.1 hρ.1 (by decide), by rw [hρ.1.1 679 (by decide)]; exact hL6.2.2⟩
        have fρ : fr FW FE σ ρ := fr_tr fσ (fr_sb hρ.1 (by decide) (by decide))
        refine ws_le (fun e => ws_l ?_) (fun e => ws_s ⟨fρ, hLρ, fun q => by omega⟩)
        have hq := hρ.2.1
        have hle := hw (hρ.2.2 (by omega)).1
        have hPP := hPρ
        unfold PI at hPP
        have k4 : ¬ (ms_I ρ 674).toInt = 0 := by rw [hρ.1.1 674 (by decide)]; omega
        have k5 := hPP.2.2.2.1 k4
        have e7 : (ms_I ρ 673 - ms_I ρ 672).toInt = (ms_I ρ 673).toInt - (ms_I ρ 672).toInt := by rw [iw_sub]; omega
        rw [← hρ.1.1 673 (by decide), ← hρ.1.1 672 (by decide)] at hle
        have gg : fr [665] [] ρ (ms_sI ρ 665 (ms_I ρ 673 - ms_I ρ 672)) := fr_sI (by decide)
        refine s_addLine_L n hn n σ _ 0 (fr_tr fρ (fr_sb gg (by decide) (by decide))) ⟨PI_fr hPρ gg (by decide) (by decide) (by decide) (by decide) (by decide), rC_fr hLρ.2.1 gg (by decide), by rw [gg.1 679 (by decide)]; exact hLρ.2.2⟩ ?_ ?_ ?_ ?_ (by decide) (by decide) (by rw [lt0]; omega)
        · rw [gg.1 673 (by decide), hρ.1.1 673 (by decide)]; exact hpr
        · rw [gg.1 673 (by decide), gg.1 672 (by decide), mI_sI, if_pos rfl]; exact e7
        · rw [mI_sI, if_pos rfl]; exact hle
        · rw [gg.1 674 (by decide)]; exact k4
      exact ws_lt (fun _ => hJ6 _ (fun q => absurd rfl q)) (fun g => hJ6 _ (fun _ => by omega))
    · exact s_addLine_J134 n hn fσ hL6 hpr (by rw [z5]; decide) (by rw [z5]; decide)
  unfold f_X12_addLine
  exact ws_b (s_sizeOf hL.2.1 _ hL.2.2.1 hL.2.2.2) (fun _ _ => ws_i (fun _ => hJ _) (fun _ => hJ _))
end JN7_24
section JN7_25
/-! ===== lines, load ===== -/
theorem s_forkLine (n : Nat) (hn : 70000 ≤ n) {σ : ms_T} (hL : LI σ) (h4 : ¬ (ms_I σ 674).toInt = 0) : ws (f_X12_forkLine n σ) (lnP σ) := by
  have l0 := lt0
  have t4 := t_4
  have hJ : ∀ w : Int32, (¬ w = 0 → (ms_E σ 40 0).toInt ≤ 3) → ws (f_X12_forkLine_J16 n σ w) (lnP σ) := by
    intro w hw
    unfold f_X12_forkLine_J16
    refine ws_b (s_must n σ w 6 hL.1.2.2.2.2 (by decide)) (fun τ hτ => ?_)
    have hPτ := PI_w hL.1 hτ.1 hτ.2.1
    have hLτ : LI τ := ⟨hPτ, rC_fr hL.2.1 hτ.1 (by decide), by rw [hτ.1.1 679 (by decide)]; exact hL.2.2⟩
    have fτ : fr FW FE σ τ := fr_sb hτ.1 (by decide) (by decide)
    refine ws_le (fun e => ?_) (fun e => ws_s ⟨fτ, hLτ, fun q => by omega⟩)
    have hk : (ms_E σ 40 0).toInt ≤ 3 := hw (hτ.2.2 (by have := hτ.2.1; omega)).1
    refine ws_b (s_reads1 n hn hPτ (by rw [hτ.1.1 674 (by decide)]; exact h4)) (fun υ hυ => ?_)
    have fυ : fr [672, 673, 674, 675] [] τ υ := hυ.1.1
    have hLυ : LI υ := ⟨hυ.2.1, rC_fr hLτ.2.1 fυ (by decide), by rw [fυ.1 679 (by decide)]; exact hLτ.2.2⟩
    have fσ : fr FW FE σ υ := fr_tr fτ (fr_sb fυ (by decide) (by decide))
    refine ws_b (s_sizeOf hLυ.2.1 _ hLυ.2.2.1 hLυ.2.2.2) (fun r hr => ws_c (s_takesNumber n hn hυ.2.1 0 r) (fun x ρ hρ => ?_))
    have hLρ := LI_T hLυ hρ.1
    refine ws_b (s_takesEnd n hn hLρ.1) (fun φ hφ => ?_)
    have hT := T_tr hρ.1 hφ
    have hLφ := LI_T hLρ hφ
    have fφ : fr FW FE σ φ := fr_tr fσ (fr_sb hT.1 (by decide) (by decide))
    refine ws_ee (fun _ e => ?_) (fun e => ws_s ⟨fφ, hLφ, fun q => by omega⟩)
    have q1 := hφ.2.2 (by omega)
    have q2 := hρ.2 q1.1
    have q3 := hT.2.2 (by omega)
    have hx : (x, ρ).1 = x := rfl
    have q2' : (0 : Int32).toInt ≤ x.toInt ∧ x.toInt ≤ r.toInt := q2
    have e9 : ms_I φ 679 = ms_I υ 679 := hT.1.1 679 (by decide)
    have eE : ∀ j, ms_E φ 40 j = ms_E σ 40 j := fun j => by rw [hT.1.2 40 (by decide), fυ.2 40 (by decide), hτ.1.2 40 (by decide)]
    refine ws_c (s_forks n hn φ hLφ.2.1 (ms_I φ 679) x hLφ.2.2.1 hLφ.2.2.2 (by omega)) (fun y ψ hψ => ws_l (ws_s ?_))
    have fψ : fr [652, 653] [40] φ ψ := hψ.1.1
    have hy : 0 ≤ y.toInt ∧ y.toInt ≤ 3 := hψ.2 (by rw [eE]; exact hk) (by
      have h2 := hr.1
      rw [eE, e9]
      rw [h2] at q2'
      have h3 : ∀ j, ms_E υ 40 j = ms_E σ 40 j := fun j => by rw [fυ.2 40 (by decide), hτ.1.2 40 (by decide)]
      rw [h3] at q2'
      exact q2'.2)
    have gψ : fr [679] [] ψ (ms_sI ψ 679 y) := fr_sI (by decide)
    have fall : fr FW FE φ (ms_sI ψ 679 y) := fr_tr (fr_sb fψ (by decide) (by decide)) (fr_sb gψ (by decide) (by decide))
    refine ⟨fr_tr fφ fall, ⟨PI_fr (PI_fr hLφ.1 fψ (by decide) (by decide) (by decide) (by decide) (by decide)) gψ (by decide) (by decide) (by decide) (by decide) (by decide), rC_fr hψ.1.2 gψ (by decide), by rw [mI_sI, if_pos rfl]; exact hy⟩, fun _ => ?_⟩
    rw [gψ.1 673 (by decide), fψ.1 673 (by decide)]
    have a1 := q3.2
    have a2 := hυ.2.2
    have a3 := hτ.1.1 673 (by decide)
    rw [a3] at a2
    omega
  unfold f_X12_forkLine
  rw [c0]
  exact ws_g (by decide) (by decide) (ws_le (fun _ => hJ _ (fun q => absurd rfl q)) (fun g => hJ _ (fun _ => by omega)))
theorem lnP_T {σ τ : ms_T} (hL : LI σ) (t : T σ τ) : lnP σ τ := ⟨fr_sb t.1 (by decide) (by decide), LI_T hL t, fun e => (t.2.2 e).2⟩
theorem lnP_st {σ τ ρ : ms_T} {wI wE : List Nat} (h : lnP σ τ) (f : fr wI wE τ ρ) (hC : rC (ms_E ρ 40)) (k1 : ∀ x ∈ wI, x ∈ FW) (k2 : ∀ x ∈ wE, x ∈ FE) (k : wI = [652, 653, 657, 658, 659, 660] ∨ wI = [652, 653]) : lnP σ ρ := by
  obtain ⟨h1, h2, h3⟩ := h
  have kk : ∀ x ∈ [676, 672, 673, 674, 670, 679], x ∉ wI := by
    rcases k with k | k <;> subst k <;> decide
  refine ⟨fr_tr h1 (fr_sb f k1 k2), ⟨PI_fr h2.1 f (kk _ (by decide)) (kk _ (by decide)) (kk _ (by decide)) (kk _ (by decide)) (kk _ (by decide)), hC, by rw [f.1 679 (kk _ (by decide))]; exact h2.2.2⟩, fun e => ?_⟩
  rw [f.1 673 (kk _ (by decide))]
  rw [f.1 670 (kk _ (by decide))] at e
  exact h3 e
theorem s_line (n : Nat) (hn : 70000 ≤ n) {σ : ms_T} (hL : LI σ) (h4 : ¬ (ms_I σ 674).toInt = 0) : ws (f_X12_line n σ) (lnP σ) := by
  have l0 := lt0
  have hC0 := hL.2.1.1
  unfold f_X12_line
  refine ws_b (s_isWord n σ 1 (by decide) (by decide)) (fun _ _ => ws_i (fun _ => ?_) (fun _ => ws_b (s_addLine n hn hL h4) (fun τ hτ => ws_s hτ)))
  refine ws_b (s_isWord n σ 2 (by decide) (by decide)) (fun _ _ => ws_i (fun _ => ?_) (fun _ => ?_))
  · refine ws_b (s_isWord n σ 3 (by decide) (by decide)) (fun _ _ => ws_i (fun _ => ?_) (fun _ => ws_b (s_forkLine n hn hL h4) (fun τ hτ => ws_s hτ)))
    refine ws_b (s_isWord n σ 4 (by decide) (by decide)) (fun _ _ => ws_i (fun _ => ?_) (fun _ => ?_))
    · refine ws_b (s_takes n hn hL.1 5 (by decide) (by decide)) (fun τ hτ => ws_c (s_takesNumber n hn hτ.2.1 0 3) (fun x υ hυ => ?_))
      have hT := T_tr hτ hυ.1
      have hLυ := LI_T hL hT
      refine ws_b (s_sizeOf hLυ.2.1 _ hLυ.2.2.1 hLυ.2.2.2) (fun r hr => ws_c (s_takesNumber n hn hLυ.1 0 r) (fun y ρ hρ => ?_))
      have hT2 := T_tr hT hρ.1
      refine ws_b (s_takesEnd n hn hρ.1.2.1) (fun φ hφ => ?_)
      have hT3 := T_tr hT2 hφ
      have hP := lnP_T hL hT3
      have hLφ := hP.2.1
      refine ws_ee (fun _ e => ?_) (fun _ => ws_s hP)
      have q1 := hφ.2.2 (by omega)
      have q2 : (0 : Int32).toInt ≤ y.toInt ∧ y.toInt ≤ r.toInt := hρ.2 q1.1
      have q3 := hρ.1.2.2 q1.1
      have q4 : (0 : Int32).toInt ≤ x.toInt ∧ x.toInt ≤ (3 : Int32).toInt := hυ.2 q3.1
      rw [t_3] at q4
      refine ws_c (s_shows n hn φ hLφ.2.1 x _ y (by omega) (by omega) hLφ.2.2.1 hLφ.2.2.2 (by omega) (by omega)) (fun z ψ hψ => ws_s ?_)
      exact lnP_st hP hψ.1 hψ.2 (by decide) (by decide) (Or.inl rfl)
    · have hJ3 : ∀ τ : ms_T, fr FW FE σ τ → LI τ → (ms_I σ 673).toInt ≤ (ms_I τ 673).toInt → ws (f_X12_line_J123 n τ) (lnP σ) := by
        intro τ fτ hLτ hle
        unfold f_X12_line_J123
        refine ws_b (s_takesEnd n hn hLτ.1) (fun υ hυ => ?_)
        have hP : lnP σ υ := ⟨fr_tr fτ (fr_sb hυ.1 (by decide) (by decide)), LI_T hLτ hυ, fun e => by have := (hυ.2.2 e).2; omega⟩
        refine ws_ee (fun _ e => ?_) (fun _ => ws_s hP)
        exact ws_c (s_freezes n hn υ hP.2.1.2.1 _ hP.2.1.2.2.1 hP.2.1.2.2.2) (fun z ψ hψ => ws_s (lnP_st hP hψ.1 hψ.2 (by decide) (by decide) (Or.inl rfl)))
      have hJ7 : ∀ w : Int32, ws (f_X12_line_J107 n σ w) (lnP σ) := by
        intro w
        unfold f_X12_line_J107
        refine ws_b (s_must n σ w 6 hL.1.2.2.2.2 (by decide)) (fun τ hτ => ?_)
        have hPτ := PI_w hL.1 hτ.1 hτ.2.1
        have hLτ : LI τ := ⟨hPτ, rC_fr hL.2.1 hτ.1 (by decide), by rw [hτ.1.1 679 (by decide)]; exact hL.2.2⟩
        have fτ : fr FW FE σ τ := fr_sb hτ.1 (by decide) (by decide)
        have e3 := hτ.1.1 673 (by decide)
        refine ws_i (fun _ => ?_) (fun _ => hJ3 τ fτ hLτ (by rw [e3]; omega))
        refine ws_b (s_reads1 n hn hPτ (by rw [hτ.1.1 674 (by decide)]; exact h4)) (fun υ hυ => ?_)
        have fυ : fr [672, 673, 674, 675] [] τ υ := hυ.1.1
        exact hJ3 υ (fr_tr fτ (fr_sb fυ (by decide) (by decide))) ⟨hυ.2.1, rC_fr hLτ.2.1 fυ (by decide), by rw [fυ.1 679 (by decide)]; exact hLτ.2.2⟩ (by have := hυ.2.2; rw [e3] at this; omega)
      exact ws_g (by decide) (by decide) (ws_i (fun _ => hJ7 _) (fun _ => hJ7 _))
  · refine ws_b (s_reads1 n hn hL.1 h4) (fun τ hτ => ?_)
    have fτ : fr [672, 673, 674, 675] [] σ τ := hτ.1.1
    have hLτ : LI τ := ⟨hτ.2.1, rC_fr hL.2.1 fτ (by decide), by rw [fτ.1 679 (by decide)]; exact hL.2.2⟩
    have hc := hLτ.2.1.1
    rw [c0]
    have e1 : (ms_E τ 40 0 - 1).toInt = (ms_E τ 40 0).toInt - 1 := by (try simp only [iw_add, iw_sub, iw_mul, t_m1, lt0, lt1, t_2, t_3, t_4, t_5, t_6, t_8, t_9, t_10, t_16, t_20, t_24, t_26, t_30, t_31, t_48, t_64, t_72, t_76, t_92, t_101, t_252, t_444, t_512, t_900, t_1980, t_65521, t_99999, t_mil]) <;> omega
    refine ws_g (by decide) (by decide) (ws_c (s_takesNumber n hn hτ.2.1 0 _) (fun x υ hυ => ?_))
    have hLυ := LI_T hLτ hυ.1
    have hJ5 : ∀ w : Int32, 0 ≤ w.toInt → w.toInt ≤ 3 → ws (f_X12_line_J57 n υ w) (lnP σ) := by
      intro w w0 w1
      unfold f_X12_line_J57
      have g : fr [679] [] υ (ms_sI υ 679 w) := fr_sI (by decide)
      have hL1 : LI (ms_sI υ 679 w) := ⟨PI_fr hLυ.1 g (by decide) (by decide) (by decide) (by decide) (by decide), rC_fr hLυ.2.1 g (by decide), by rw [mI_sI, if_pos rfl]; exact ⟨w0, w1⟩⟩
      refine ws_l (ws_b (s_takesEnd n hn hL1.1) (fun φ hφ => ws_s ?_))
      refine ⟨fr_tr (fr_sb fτ (by decide) (by decide)) (fr_tr (fr_sb hυ.1.1 (by decide) (by decide)) (fr_tr (fr_sb g (by decide) (by decide)) (fr_sb hφ.1 (by decide) (by decide)))), LI_T hL1 hφ, fun e => ?_⟩
      have a1 := hφ.2.2 e
      rw [g.1 670 (by decide), g.1 673 (by decide)] at a1
      have a2 := hυ.1.2.2 a1.1
      have a3 := hτ.2.2
      have a4 : (ms_I τ 673).toInt < (ms_I υ 673).toInt := a2.2
      omega
    refine ws_ee (fun _ e => ?_) (fun _ => hJ5 _ hLυ.2.2.1 hLυ.2.2.2)
    have q : (0 : Int32).toInt ≤ x.toInt ∧ x.toInt ≤ (ms_E τ 40 0 - 1).toInt := hυ.2 (by show (ms_I υ 670).toInt = 0; omega)
    exact hJ5 x (by omega) (by omega)
end JN7_25
section JN7_26
/-! ===== load ===== -/
theorem s_begins (n : Nat) (hn : 70000 ≤ n) {σ : ms_T} (a : Int32) (h0 : 0 ≤ a.toInt) (h1 : a.toInt ≤ 900) : ws (f_X12_begins n σ a) (fun τ => fr [670, 672, 673, 674, 675, 676] [] σ τ ∧ PI τ ∧ (ms_I τ 670).toInt = 0 ∧ ms_I τ 676 = a) := by
  unfold f_X12_begins
  refine ws_l (ws_l (ws_ln (fun σ3 hs => ?_)))
  have e6 : ms_I σ3 676 = a := by rw [hs, mI_sI, if_neg (by decide), mI_sI, if_neg (by decide), mI_sI, if_pos rfl]
  have e3 : ms_I σ3 673 = 0 := by rw [hs, mI_sI, if_neg (by decide), mI_sI, if_pos rfl]
  have e0 : ms_I σ3 670 = 0 := by rw [hs, mI_sI, if_pos rfl]
  have f3 : fr [670, 672, 673, 674, 675, 676] [] σ σ3 := by rw [hs]; exact fr_tr (fr_sI (by decide)) (fr_tr (fr_sI (by decide)) (fr_sI (by decide)))
  refine ws_b (s_reads n hn σ3 (by rw [e6]; exact h1) (by rw [e3]; decide) (by rw [e3, e6]; exact h0)) (fun τ hτ => ws_s ?_)
  have g := hτ.1.1
  have g6 := g.1 676 (by decide)
  have g0 := g.1 670 (by decide)
  refine ⟨fr_tr f3 (fr_sb g (by decide) (by decide)), ⟨by rw [g6, e6]; exact ⟨h0, h1⟩, hτ.1.2.1, hτ.1.2.2.1, fun q => by rw [g6]; exact hτ.1.2.2.2 q, by rw [g0, e0]; decide⟩, by rw [g0, e0]; rfl, by rw [g6, e6]⟩
theorem s_ends (n : Nat) (σ : ms_T) : ws (f_X12_ends n σ) (fun τ => fr [667, 668, 669, 652] [] σ τ ∧ ms_I τ 667 = 0) := by
  have hJ : ∀ (τ : ms_T) (w : Int32), fr [667, 668, 669, 652] [] σ τ → ms_I τ 667 = 0 → ws (f_X12_ends_J29 n τ w) (fun τ => fr [667, 668, 669, 652] [] σ τ ∧ ms_I τ 667 = 0) := by
    intro τ w hf h0
    unfold f_X12_ends_J29
    refine ws_l (ws_i (fun _ => ws_l (ws_s ⟨fr_tr hf (fr_tr (fr_sI (by decide)) (fr_sI (by decide))), ?_⟩)) (fun _ => ws_l (ws_s ⟨fr_tr hf (fr_tr (fr_sI (by decide)) (fr_sI (by decide))), ?_⟩)))
    · rw [mI_sI, if_neg (by decide), mI_sI, if_neg (by decide)]; exact h0
    · rw [mI_sI, if_neg (by decide), mI_sI, if_neg (by decide)]; exact h0
  unfold f_X12_ends
  have e : ms_I (ms_sI (ms_sI σ 667 0) 668 (ms_I (ms_sI σ 667 0) 670)) 667 = 0 := by rw [mI_sI, if_neg (by decide), mI_sI, if_pos rfl]
  have f : fr [667, 668, 669, 652] [] σ (ms_sI (ms_sI σ 667 0) 668 (ms_I (ms_sI σ 667 0) 670)) := fr_tr (fr_sI (by decide)) (fr_sI (by decide))
  exact ws_l (ws_l (ws_i (fun _ => hJ _ _ f e) (fun _ => hJ _ _ f e)))
theorem rC_ag {f g : Nat → Int32} (h : rC g) (e : ∀ j, j < 1980 → f j = g j) : rC f := by
  obtain ⟨h1, h2, h3, h4, h5, h6, h7, h8, h9⟩ := h
  refine ⟨?_, ?_, ?_, ?_, fun r hr => ?_, fun r hr => ?_, fun r hr => ?_, fun r hr => ?_, fun r hr => ?_⟩
  · rw [e _ (by omega)]; exact h1
  · rw [e _ (by omega)]; exact h2
  · rw [e _ (by omega)]; exact h3
  · rw [e _ (by omega)]; exact h4
  · rw [e _ (by omega)]; exact h5 r hr
  · rw [e _ (by omega)]; exact h6 r hr
  · rw [e _ (by omega)]; exact h7 r hr
  · rw [e _ (by omega)]; exact h8 r hr
  · rw [e _ (by omega)]; exact h9 r hr
/-- what load may change; what it keeps apart -/
def GW : List Nat := [652, 653, 657, 658, 659, 660, 665, 667, 668, 669, 670, 671, 672, 673, 674, 675, 676, 679]
def GE : List Nat := [40, 41, 42, 43, 44, 46]
def SV (σ0 τ : ms_T) : Prop := fr GW GE σ0 τ ∧ ∀ j, j < 1980 → ms_E τ 41 j = ms_E σ0 40 j
theorem RI_SV {σ0 τ : ms_T} (h : RI σ0) (s : fr GW GE σ0 τ) (hC : rC (ms_E τ 40)) (h0 : ms_I τ 667 = 0) : RI τ := by
  refine ⟨⟨?_, by rw [h0]; decide, ?_, ?_⟩, hC⟩
  · rw [s.1 664 (by decide)]; exact h.1.1
  · rw [s.1 682 (by decide)]; exact h.1.2.2.1
  · rw [s.1 697 (by decide)]; exact h.1.2.2.2
theorem s_load138 (n : Nat) {σ0 : ms_T} (hR : RI σ0) : ∀ (k : Nat) (σ : ms_T) (v : Int32), SV σ0 σ → ms_I σ 667 = 0 → (∀ j : Nat, (j : Int) < v.toInt → ms_E σ 40 j = ms_E σ0 40 j) → 0 ≤ v.toInt → v.toInt ≤ 1980 → 1981 - v.toInt ≤ (k : Int) → ws (f_X12_load_L138 n k σ v) (fun q => RI q.2 ∧ ms_I q.2 667 = 0) := by
  intro k
  induction k with
  | zero => intro σ v hs h7 hj g0 g1 g2; omega
  | succ k ih =>
    intro σ v hs h7 hj g0 g1 g2
    have t := t_1980
    rw [f_X12_load_L138.eq_2]
    refine ws_le (fun _ => ws_s ⟨RI_SV hR hs.1 (rC_ag hR.2 (fun j h => hj j (by omega))) h7, h7⟩) (fun _ => ?_)
    have e1 : (v + 1).toInt = v.toInt + 1 := by (try simp only [iw_add, iw_sub, iw_mul, t_m1, lt0, lt1, t_2, t_3, t_4, t_5, t_6, t_8, t_9, t_10, t_16, t_20, t_24, t_26, t_30, t_31, t_48, t_64, t_72, t_76, t_92, t_101, t_252, t_444, t_512, t_900, t_1980, t_65521, t_99999, t_mil]) <;> omega
    have hc := ic_clamp g0
    refine ws_g g0 (by omega) (ws_g g0 (by omega) (ws_l (ws_l (ih _ (v + 1) ⟨fr_tr hs.1 (fr_sE (by decide)), fun j h => ?_⟩ h7 (fun j h => ?_) (by omega) (by omega) (by omega)))))
    · rw [mE_sE, if_neg (fun q => absurd q.1 (by decide))]; exact hs.2 j h
    · rw [mE_sE]
      by_cases e : j = v.toNatClampNeg
      · rw [if_pos ⟨rfl, e⟩, e]; exact hs.2 _ (by omega)
      · rw [if_neg (fun q => e q.2)]; exact hj j (by omega)
theorem s_load118 (n : Nat) (hn : 70000 ≤ n) {σ0 σ : ms_T} (hR : RI σ0) (hs : SV σ0 σ) (hC : (ms_I σ 670).toInt = 0 → rC (ms_E σ 40)) : ws (f_X12_load_J118 n σ) (fun q => RI q.2 ∧ ms_I q.2 667 = 0) := by
  have l0 := lt0
  unfold f_X12_load_J118
  refine ws_b (s_ends n σ) (fun τ hτ => ?_)
  have fτ : fr GW GE σ0 τ := fr_tr hs.1 (fr_sb hτ.1 (by decide) (by decide))
  refine ws_ee (fun _ e => ws_g (by decide) (by decide) (ws_s ?_)) (fun _ => ?_)
  · rw [hτ.1.1 670 (by decide)] at e
    exact ⟨RI_SV hR fτ (rC_fr (hC (by omega)) hτ.1 (by decide)) hτ.2, hτ.2⟩
  · exact s_load138 n hR n τ 0 ⟨fτ, fun j h => by rw [hτ.1.2 41 (by decide)]; exact hs.2 j h⟩ hτ.2 (fun j h => by rw [lt0] at h; omega) (by decide) (by decide) (by rw [lt0]; omega)
theorem s_load97 (n : Nat) (hn : 70000 ≤ n) {σ0 : ms_T} (hR : RI σ0) : ∀ (k : Nat) (σ : ms_T), SV σ0 σ → ((ms_I σ 670).toInt = 0 → LI σ) → 1 ≤ k → ((ms_I σ 670).toInt = 0 → ¬ (ms_I σ 674).toInt = 0 → 902 - (ms_I σ 673).toInt ≤ (k : Int)) → ws (f_X12_load_L97 n k σ) (fun q => RI q.2 ∧ ms_I q.2 667 = 0) := by
  intro k
  induction k with
  | zero => intro σ hs hL hk hm; omega
  | succ k ih =>
    intro σ hs hL hk hm
    have l0 := lt0
    rw [f_X12_load_L97.eq_2]
    refine ws_ee (fun _ e => ws_ee (fun _ e4 => s_load118 n hn hR hs (fun q => (hL q).2.1)) (fun e4 => ?_)) (fun _ => s_load118 n hn hR hs (fun q => (hL q).2.1))
    have hL' := hL (by omega)
    have hm' := hm (by omega) (by omega)
    have hPP := hL'.1
    unfold PI at hPP
    have h3 := hPP.2.2.2.1 (by omega)
    refine ws_b (s_line n hn hL' (by omega)) (fun τ hτ => ih τ ⟨fr_tr hs.1 (fr_sb hτ.1 (by decide) (by decide)), fun j h => by rw [hτ.1.2 41 (by decide)]; exact hs.2 j h⟩ (fun _ => hτ.2.1) (by omega) (fun q _ => by have := hτ.2.2 q; omega))
theorem s_load28 (n : Nat) (hn : 70000 ≤ n) {σ0 : ms_T} (hR : RI σ0) (a : Int32) (h0 : 0 ≤ a.toInt) (h1 : a.toInt ≤ 900) : ∀ (k : Nat) (σ : ms_T) (v : Int32), fr [] [41] σ0 σ → (∀ j : Nat, (j : Int) < v.toInt → ms_E σ 41 j = ms_E σ0 40 j) → 0 ≤ v.toInt → v.toInt ≤ 1980 → 1981 - v.toInt ≤ (k : Int) → ws (f_X12_load_L28 n k σ a v) (fun q => RI q.2 ∧ ms_I q.2 667 = 0) := by
  intro k
  induction k with
  | zero => intro σ v hf hj g0 g1 g2; omega
  | succ k ih =>
    intro σ v hf hj g0 g1 g2
    have t := t_1980
    rw [f_X12_load_L28.eq_2]
    refine ws_le (fun _ => ?_) (fun _ => ?_)
    · refine ws_b (s_clears n (by omega) σ) (fun σ7 h7 => ?_)
      have hC7 := cl_rC h7
      have f7 : fr [] [40] σ σ7 := ⟨fun φ _ => h7.1 φ, fun κ hκ j => h7.2.1 κ j (by simpa using hκ)⟩
      have f8 : fr [679] [40] σ (ms_sI σ7 679 0) := fr_tr (fr_sb f7 (by decide) (by decide)) (fr_sI (by decide))
      have e8 : ms_I (ms_sI σ7 679 0) 679 = 0 := by rw [mI_sI, if_pos rfl]
      refine ws_l (ws_b (s_begins n hn a h0 h1) (fun σ9 h9 => ?_))
      have hL9 : LI σ9 := ⟨h9.2.1, rC_fr (rC_fr hC7 (fr_sI (wI := [679]) (wE := []) (by decide)) (by decide)) h9.1 (by decide), by rw [h9.1.1 679 (by decide), e8]; decide⟩
      have s9 : SV σ0 σ9 := ⟨fr_tr (fr_sb hf (by decide) (by decide)) (fr_tr (fr_sb f8 (by decide) (by decide)) (fr_sb h9.1 (by decide) (by decide))), fun j h => by rw [h9.1.2 41 (by decide), f8.2 41 (by decide)]; exact hj j (by omega)⟩
      have hfuel : ∀ τ : ms_T, PI τ → 902 - (ms_I τ 673).toInt ≤ (n : Int) := by
        intro τ h
        have h' := h
        obtain ⟨q1, q2, q3, q4, q5⟩ := h'
        omega
      refine ws_b (s_isWord n σ9 0 (by decide) (by decide)) (fun r hr => ws_i (fun _ => s_load97 n hn hR n σ9 s9 (fun _ => hL9) (by omega) (fun _ _ => hfuel _ h9.2.1)) (fun q => ?_))
      have hq := hr q
      refine ws_b (s_reads1 n hn h9.2.1 (by omega)) (fun σa ha => ?_)
      have fa : fr [672, 673, 674, 675] [] σ9 σa := ha.1.1
      have hLa : LI σa := ⟨ha.2.1, rC_fr hL9.2.1 fa (by decide), by rw [fa.1 679 (by decide)]; exact hL9.2.2⟩
      refine ws_c (s_takesNumber n hn ha.2.1 101 65521) (fun x σb hb => ws_g (by decide) (by decide) (ws_l ?_))
      have hLb := LI_T hLa hb.1
      have fe : fr [] [40] σb (ms_sE σb 40 (1 : Int32).toNatClampNeg x) := fr_sE (by decide)
      have hPe := PI_fr hLb.1 fe (by decide) (by decide) (by decide) (by decide) (by decide)
      refine ws_b (s_takesEnd n hn hPe) (fun σd hd => ?_)
      have fall : fr GW GE σ9 σd := fr_tr (fr_sb fa (by decide) (by decide)) (fr_tr (fr_sb hb.1.1 (by decide) (by decide)) (fr_tr (fr_sb fe (by decide) (by decide)) (fr_sb hd.1 (by decide) (by decide))))
      have e41 : ∀ j, ms_E σd 41 j = ms_E σ9 41 j := fun j => by rw [hd.1.2 41 (by decide), fe.2 41 (by decide), hb.1.1.2 41 (by decide), fa.2 41 (by decide)]
      refine s_load97 n hn hR n σd ⟨fr_tr s9.1 fall, fun j h => by rw [e41]; exact s9.2 j h⟩ (fun e => ⟨hd.2.1, ?_, ?_⟩) (by omega) (fun _ _ => hfuel _ hd.2.1)
      · have q1 := (hd.2.2 e).1
        have q1' : (ms_I σb 670).toInt = 0 := q1
        have q2 : (101 : Int32).toInt ≤ x.toInt ∧ x.toInt ≤ (65521 : Int32).toInt := hb.2 q1'
        rw [t_101, t_65521] at q2
        refine rC_fr (rC_sE hLb.2.1 ?_) hd.1 (by decide)
        rw [c1]
        exact ⟨fun _ => by omega, fun _ => by omega, fun _ => by omega, fun _ => by omega, fun _ _ _ => by omega, fun _ _ _ => by omega, fun _ _ _ => by omega, fun _ _ _ => by omega, fun _ _ _ => by omega⟩
      · rw [hd.1.1 679 (by decide), fe.1 679 (by decide)]; exact hLb.2.2
    · have e1 : (v + 1).toInt = v.toInt + 1 := by (try simp only [iw_add, iw_sub, iw_mul, t_m1, lt0, lt1, t_2, t_3, t_4, t_5, t_6, t_8, t_9, t_10, t_16, t_20, t_24, t_26, t_30, t_31, t_48, t_64, t_72, t_76, t_92, t_101, t_252, t_444, t_512, t_900, t_1980, t_65521, t_99999, t_mil]) <;> omega
      have hc := ic_clamp g0
      refine ws_g g0 (by omega) (ws_g g0 (by omega) (ws_l (ws_l (ih _ (v + 1) (fr_tr hf (fr_sE (by decide))) (fun j h => ?_) (by omega) (by omega) (by omega)))))
      rw [mE_sE]
      by_cases e : j = v.toNatClampNeg
      · rw [if_pos ⟨rfl, e⟩, e]; exact hf.2 40 (by decide) _
      · rw [if_neg (fun q => e q.2)]; exact hj j (by omega)
theorem s_load (n : Nat) (hn : 70000 ≤ n) (σ : ms_T) (hR : RI σ) (a1 : Int32) : ws (f_X12_load n σ a1) (fun res => RI res.2 ∧ ld_M σ a1 res.2) := by
  have l0 := lt0
  have h9 := hR.1.2.1
  unfold f_X12_load f_X12_load_J18
  refine ws_bo (s_isIn n _ _ _) (fun q => ?_) (fun q => ?_)
  · refine ws_is (fun τ h => ?_) (fun e => absurd e (by decide))
    obtain ⟨a, b, c⟩ := is_R hR h
    exact ⟨a, Or.inl ⟨by omega, b⟩⟩
  · refine ws_c (s_is n σ 0) (fun r τ h => ws_i (fun e => absurd rfl (bo_0 h.2 e)) (fun _ => ?_))
    obtain ⟨a, b, c⟩ := is_R hR h.1
    exact ws_m (s_load28 n hn a a1 (by omega) (by omega) n τ 0 fr_rf (fun j h => by rw [lt0] at h; omega) (by decide) (by decide) (by rw [lt0]; omega)) (fun res hres => ⟨hres.1, Or.inr ⟨by omega, hres.2⟩⟩)
end JN7_26
section JN7_27
/-! ===== hear ===== -/
def TM (σ τ : ms_T) : Prop := fr [670, 671, 672, 673, 674, 675] [44] σ τ ∧ PI τ ∧ ((ms_I τ 670).toInt = 0 → (ms_I σ 670).toInt = 0 ∧ (ms_I σ 673).toInt < (ms_I τ 673).toInt)
theorem TM_T {σ τ υ : ms_T} (h : T σ τ) (g : TM τ υ) : TM σ υ := by
  refine ⟨fr_tr (fr_sb h.1 (by decide) (by decide)) g.1, g.2.1, fun e => ?_⟩
  have a := g.2.2 e
  have b := h.2.2 a.1
  exact ⟨b.1, by omega⟩
theorem s_takesMarks_L (n : Nat) (hn : 70000 ≤ n) {σ0 : ms_T} (hC : rC (ms_E σ0 40)) : ∀ (k : Nat) (σ : ms_T) (v : Int32), TM σ0 σ → 0 ≤ v.toInt → v.toInt ≤ 64 → 66 - v.toInt ≤ (k : Int) → ws (f_X12_takesMarks_L8 n k σ v) (fun q => TM σ0 q.2) := by
  intro k
  induction k with
  | zero => intro σ v h g0 g1 g2; omega
  | succ k ih =>
    intro σ v h g0 g1 g2
    have l0 := lt0
    have t2 := t_2
    have t64 := t_64
    rw [f_X12_takesMarks_L8.eq_2]
    have h82 : ws (f_X12_takesMarks_J82 n σ v) (fun q => TM σ0 q.2) := by
      unfold f_X12_takesMarks_J82
      refine ws_b (s_takesEnd n hn h.2.1) (fun τ hτ => ws_s ⟨fr_tr h.1 (fr_sb hτ.1 (by decide) (by decide)), hτ.2.1, fun e => ?_⟩)
      have a := hτ.2.2 e
      have b := h.2.2 a.1
      exact ⟨b.1, by show _ < (ms_I τ 673).toInt; have := a.2; have := b.2; omega⟩
    refine ws_ee (fun _ e => ws_ee (fun _ e4 => ?_) (fun _ => h82)) (fun _ => h82)
    refine ws_b (s_isMark (rC_fr hC h.1 (by decide)) _) (fun r hr => ws_b (s_must n σ r 3 h.2.1.2.2.2.2 (by decide)) (fun τ hτ => ?_))
    have hPτ := PI_w h.2.1 hτ.1 hτ.2.1
    have hJ : ∀ w : Int32, (¬ w = 0 → v.toInt < 64) → ws (f_X12_takesMarks_J48 n (f_X12_takesMarks_L8 n k) τ v w) (fun q => TM σ0 q.2) := by
      intro w hw
      unfold f_X12_takesMarks_J48
      refine ws_b (s_must n τ w 6 hτ.2.1 (by decide)) (fun υ hυ => ?_)
      have f2 : fr [670, 671] [] σ υ := fr_tr hτ.1 hυ.1
      have hPυ := PI_w h.2.1 f2 hυ.2.1
      refine ws_le (fun e => ?_) (fun e => ws_s ⟨fr_tr h.1 (fr_sb f2 (by decide) (by decide)), hPυ, fun q => by have q : (ms_I υ 670).toInt = 0 := q; omega⟩)
      have hq := hυ.2.2 (by have := hυ.2.1; omega)
      have hv := hw hq.1
      have fe : fr [] [44] υ (ms_sE υ 44 v.toNatClampNeg (ms_I υ 675)) := fr_sE (by decide)
      have hPe := PI_fr hPυ fe (by decide) (by decide) (by decide) (by decide) (by decide)
      refine ws_g g0 (by omega) (ws_l (ws_l (ws_b (s_reads1 n hn hPe (by rw [fe.1 674 (by decide), f2.1 674 (by decide)]; omega)) (fun ρ hρ => ?_))))
      have fρ : fr [672, 673, 674, 675] [] _ ρ := hρ.1.1
      refine ih ρ (v + 1) ⟨fr_tr h.1 (fr_tr (fr_sb f2 (by decide) (by decide)) (fr_tr (fr_sb fe (by decide) (by decide)) (fr_sb fρ (by decide) (by decide)))), hρ.2.1, fun _ => ?_⟩ (by (try simp only [iw_add, iw_sub, iw_mul, t_m1, lt0, lt1, t_2, t_3, t_4, t_5, t_6, t_8, t_9, t_10, t_16, t_20, t_24, t_26, t_30, t_31, t_48, t_64, t_72, t_76, t_92, t_101, t_252, t_444, t_512, t_900, t_1980, t_65521, t_99999, t_mil]) <;> omega) (by (try simp only [iw_add, iw_sub, iw_mul, t_m1, lt0, lt1, t_2, t_3, t_4, t_5, t_6, t_8, t_9, t_10, t_16, t_20, t_24, t_26, t_30, t_31, t_48, t_64, t_72, t_76, t_92, t_101, t_252, t_444, t_512, t_900, t_1980, t_65521, t_99999, t_mil]) <;> omega) (by (try simp only [iw_add, iw_sub, iw_mul, t_m1, lt0, lt1, t_2, t_3, t_4, t_5, t_6, t_8, t_9, t_10, t_16, t_20, t_24, t_26, t_30, t_31, t_48, t_64, t_72, t_76, t_92, t_101, t_252, t_444, t_512, t_900, t_1980, t_65521, t_99999, t_mil]) <;> omega)
      have b := h.2.2 (by omega)
      have c := hρ.2.2
      rw [fe.1 673 (by decide), f2.1 673 (by decide)] at c
      exact ⟨b.1, by have := b.2; omega⟩
    exact ws_le (fun _ => hJ _ (fun q => absurd rfl q)) (fun g => hJ _ (fun _ => by omega))
theorem s_takesMarks (n : Nat) (hn : 70000 ≤ n) {σ : ms_T} (hC : rC (ms_E σ 40)) (h : PI σ) : ws (f_X12_takesMarks n σ) (fun q => TM σ q.2) := by
  unfold f_X12_takesMarks
  refine ws_b (s_takes n hn h 11 (by decide) (by decide)) (fun τ hτ => ?_)
  exact s_takesMarks_L n hn hC n τ 0 ⟨fr_sb hτ.1 (by decide) (by decide), hτ.2.1, hτ.2.2⟩ (by decide) (by decide) (by rw [lt0]; omega)
def HW : List Nat := [657, 658, 659, 660, 670, 671, 672, 673, 674, 675]
def HE : List Nat := [42, 43, 44]
def SI (σ : ms_T) (q : Int32 × ms_T) : Prop := fr HW HE σ q.2 ∧ PI q.2 ∧ ((ms_I q.2 670).toInt = 0 → (ms_I σ 673).toInt < (ms_I q.2 673).toInt)
theorem SI_w {σ τ υ : ms_T} {wI wE : List Nat} (h : TM σ τ) (f : fr wI wE τ υ) (k1 : ∀ x ∈ wI, x ∈ [657, 658, 659, 660]) (k2 : ∀ x ∈ wE, x ∈ HE) (r : Int32) : SI σ (r, υ) := by
  have f' : fr [657, 658, 659, 660] HE τ υ := fr_sb f k1 k2
  refine ⟨fr_tr (fr_sb h.1 (by decide) (by decide)) (fr_sb f' (by decide) (by decide)), PI_fr h.2.1 f' (by decide) (by decide) (by decide) (by decide) (by decide), fun e => ?_⟩
  have e : (ms_I υ 670).toInt = 0 := e
  show _ < (ms_I υ 673).toInt
  rw [f'.1 670 (by decide)] at e
  rw [f'.1 673 (by decide)]
  exact (h.2.2 e).2
theorem s_statementIn (n : Nat) (hn : 70000 ≤ n) {σ : ms_T} (hC : rC (ms_E σ 40)) (h : PI σ) (h0 : (ms_I σ 670).toInt = 0) (h4 : ¬ (ms_I σ 674).toInt = 0) : ws (f_X12_statementIn n σ) (SI σ) := by
  have l0 := lt0
  unfold f_X12_statementIn
  refine ws_b (s_reads1 n hn h h4) (fun σ1 h1 => ?_)
  have T1 : T σ σ1 := T_rd fr_rf h0 h1
  refine ws_c (s_takesNumber n hn T1.2.1 0 99999) (fun x σ2 h2 => ?_)
  have T2 := T_tr T1 h2.1
  refine ws_b (s_takes n hn T2.2.1 8 (by decide) (by decide)) (fun σ3 h3 => ?_)
  have T3 := T_tr T2 h3
  refine ws_c (s_takesNumber n hn T3.2.1 (x + 1) 99999) (fun y σ4 h4 => ?_)
  have T4 := T_tr T3 h4.1
  refine ws_b (s_takes n hn T4.2.1 9 (by decide) (by decide)) (fun σ5 h5 => ?_)
  have T5 := T_tr T4 h5
  refine ws_c (s_takesMark n hn T5.2.1) (fun u σ6 h6 => ?_)
  have T6 := T_tr T5 h6
  refine ws_b (s_takes n hn T6.2.1 10 (by decide) (by decide)) (fun σ7 h7 => ?_)
  have T7 := T_tr T6 h7
  refine ws_c (s_takesMark n hn T7.2.1) (fun w σ8 h8 => ?_)
  have T8 := T_tr T7 h8
  refine ws_c (s_takesMarks n hn (rC_fr hC T8.1 (by decide)) T8.2.1) (fun z σ9 h9 => ?_)
  have T9 := TM_T T8 h9
  have p9 := T9.2.1.2.2.2.2
  refine ws_le (fun e => ?_) (fun e => ws_s (SI_w T9 (wI := []) (wE := []) fr_rf (by simp) (by simp) 0))
  have e8 := (h9.2.2 (show (ms_I σ9 670).toInt = 0 by have : 0 ≤ (ms_I σ9 670).toInt := p9; omega)).1
  have e7 := (h8.2.2 e8).1
  have e6 := (h7.2.2 e7).1
  have e5 := (h6.2.2 e6).1
  have e4 := (h5.2.2 e5).1
  have q4 : (x + 1).toInt ≤ y.toInt ∧ y.toInt ≤ (99999 : Int32).toInt := h4.2 e4
  have e3 := (h4.1.2.2 e4).1
  have e2 := (h3.2.2 e3).1
  have q2 : (0 : Int32).toInt ≤ x.toInt ∧ x.toInt ≤ (99999 : Int32).toInt := h2.2 e2
  rw [t_99999] at q2
  have ex : (x + 1).toInt = x.toInt + 1 := by (try simp only [iw_add, iw_sub, iw_mul, t_m1, lt0, lt1, t_2, t_3, t_4, t_5, t_6, t_8, t_9, t_10, t_16, t_20, t_24, t_26, t_30, t_31, t_48, t_64, t_72, t_76, t_92, t_101, t_252, t_444, t_512, t_900, t_1980, t_65521, t_99999, t_mil]) <;> omega
  exact ws_c (s_whyIn n hn σ9 (rC_fr hC T9.1 (by decide)) z u x y w (by omega) (by omega)) (fun b ρ hρ => ws_s (SI_w T9 hρ (by decide) (by decide) b))
theorem s_statementGrow (n : Nat) (hn : 70000 ≤ n) {σ : ms_T} (hC : rC (ms_E σ 40)) (h : PI σ) : ws (f_X12_statementGrow n σ) (SI σ) := by
  have l0 := lt0
  unfold f_X12_statementGrow
  refine ws_b (s_takes n hn h 7 (by decide) (by decide)) (fun σ1 T1 => ?_)
  refine ws_c (s_takesNumber n hn T1.2.1 0 99999) (fun x σ2 h2 => ?_)
  have T2 := T_tr T1 h2.1
  refine ws_b (s_takes n hn T2.2.1 9 (by decide) (by decide)) (fun σ3 h3 => ?_)
  have T3 := T_tr T2 h3
  refine ws_c (s_takesMark n hn T3.2.1) (fun u σ4 h4 => ?_)
  have T4 := T_tr T3 h4
  refine ws_b (s_takes n hn T4.2.1 2 (by decide) (by decide)) (fun σ5 h5 => ?_)
  have T5 := T_tr T4 h5
  refine ws_c (s_takesNumber n hn T5.2.1 x 99999) (fun y σ6 h6 => ?_)
  have T6 := T_tr T5 h6.1
  refine ws_b (s_takes n hn T6.2.1 10 (by decide) (by decide)) (fun σ7 h7 => ?_)
  have T7 := T_tr T6 h7
  refine ws_c (s_takesMark n hn T7.2.1) (fun w σ8 h8 => ?_)
  have T8 := T_tr T7 h8
  refine ws_c (s_takesMarks n hn (rC_fr hC T8.1 (by decide)) T8.2.1) (fun z σ9 h9 => ?_)
  have T9 := TM_T T8 h9
  have p9 := T9.2.1.2.2.2.2
  refine ws_le (fun e => ?_) (fun e => ws_s (SI_w T9 (wI := []) (wE := []) fr_rf (by simp) (by simp) 0))
  have e8 := (h9.2.2 (show (ms_I σ9 670).toInt = 0 by have : 0 ≤ (ms_I σ9 670).toInt := p9; omega)).1
  have e7 := (h8.2.2 e8).1
  have e6 := (h7.2.2 e7).1
  have q6 : x.toInt ≤ y.toInt ∧ y.toInt ≤ (99999 : Int32).toInt := h6.2 e6
  have e5 := (h6.1.2.2 e6).1
  have e4 := (h5.2.2 e5).1
  have e3 := (h4.2.2 e4).1
  have e2 := (h3.2.2 e3).1
  have q2 : (0 : Int32).toInt ≤ x.toInt ∧ x.toInt ≤ (99999 : Int32).toInt := h2.2 e2
  exact ws_c (s_whyGrown n hn σ9 (rC_fr hC T9.1 (by decide)) z x u y w (by omega) (by omega)) (fun b ρ hρ => ws_s (SI_w T9 hρ (by decide) (by decide) b))
def KW : List Nat := [652, 653, 657, 658, 659, 660, 667, 668, 669, 670, 671, 672, 673, 674, 675, 676]
def KE : List Nat := [42, 43, 44, 49, 50]
theorem s_hear169 (n : Nat) {σ0 : ms_T} (hR : RI σ0) (m x : Int32) (h0 : 0 ≤ m.toInt) (h1 : m.toInt ≤ 20) : ∀ (k : Nat) (σ : ms_T) (v : Int32), fr KW KE σ0 σ → ms_I σ 667 = 0 → 0 ≤ v.toInt → v.toInt ≤ 20 → 21 - v.toInt ≤ (k : Int) → ws (f_X12_hear_L169 n k σ m x v) (fun q => RI q.2 ∧ ms_I q.2 667 = 0) := by
  intro k
  induction k with
  | zero => intro σ v hf h7 g0 g1 g2; omega
  | succ k ih =>
    intro σ v hf h7 g0 g1 g2
    rw [f_X12_hear_L169.eq_2]
    refine ws_le (fun _ => ws_l (ws_s ⟨⟨⟨?_, ?_, ?_, ?_⟩, rC_fr hR.2 (fr_tr (wI := 682 :: KW) (wE := KE) (fr_sb hf (by decide) (by decide)) (fr_sI (by decide))) (by decide)⟩, ?_⟩)) (fun _ => ?_)
    · show 0 ≤ (ms_I (ms_sI σ 682 m) 664).toInt ∧ _
      rw [mI_sI, if_neg (by decide), hf.1 664 (by decide)]; exact hR.1.1
    · show 0 ≤ (ms_I (ms_sI σ 682 m) 667).toInt ∧ _
      rw [mI_sI, if_neg (by decide), h7]; decide
    · show 0 ≤ (ms_I (ms_sI σ 682 m) 682).toInt ∧ _
      rw [mI_sI, if_pos rfl]; exact ⟨h0, h1⟩
    · show 0 ≤ (ms_I (ms_sI σ 682 m) 697).toInt ∧ _
      rw [mI_sI, if_neg (by decide), hf.1 697 (by decide)]; exact hR.1.2.2.2
    · show ms_I (ms_sI σ 682 m) 667 = 0
      rw [mI_sI, if_neg (by decide)]; exact h7
    · exact ws_g g0 (by omega) (ws_g g0 (by omega) (ws_l (ws_l (ih _ (v + 1) (fr_tr hf (fr_sE (by decide))) h7 (by (try simp only [iw_add, iw_sub, iw_mul, t_m1, lt0, lt1, t_2, t_3, t_4, t_5, t_6, t_8, t_9, t_10, t_16, t_20, t_24, t_26, t_30, t_31, t_48, t_64, t_72, t_76, t_92, t_101, t_252, t_444, t_512, t_900, t_1980, t_65521, t_99999, t_mil]) <;> omega) (by (try simp only [iw_add, iw_sub, iw_mul, t_m1, lt0, lt1, t_2, t_3, t_4, t_5, t_6, t_8, t_9, t_10, t_16, t_20, t_24, t_26, t_30, t_31, t_48, t_64, t_72, t_76, t_92, t_101, t_252, t_444, t_512, t_900, t_1980, t_65521, t_99999, t_mil]) <;> omega) (by (try simp only [iw_add, iw_sub, iw_mul, t_m1, lt0, lt1, t_2, t_3, t_4, t_5, t_6, t_8, t_9, t_10, t_16, t_20, t_24, t_26, t_30, t_31, t_48, t_64, t_72, t_76, t_92, t_101, t_252, t_444, t_512, t_900, t_1980, t_65521, t_99999, t_mil]) <;> omega)))))
theorem s_hear153 (n : Nat) (hn : 70000 ≤ n) {σ0 σ : ms_T} (hR : RI σ0) (hf : fr KW KE σ0 σ) (m x : Int32) (h0 : 0 ≤ m.toInt) (h1 : m.toInt ≤ 20) : ws (f_X12_hear_J153 n σ m x) (fun q => RI q.2 ∧ ms_I q.2 667 = 0) := by
  unfold f_X12_hear_J153
  refine ws_b (s_ends n σ) (fun τ hτ => ?_)
  have fτ : fr KW KE σ0 τ := fr_tr hf (fr_sb hτ.1 (by decide) (by decide))
  refine ws_i (fun _ => s_hear169 n hR m x h0 h1 n τ 0 fτ hτ.2 (by decide) (by decide) (by rw [lt0]; omega)) (fun _ => ws_s ⟨⟨⟨?_, ?_, ?_, ?_⟩, rC_fr hR.2 fτ (by decide)⟩, hτ.2⟩)
  · show 0 ≤ (ms_I τ 664).toInt ∧ _
    rw [fτ.1 664 (by decide)]; exact hR.1.1
  · show 0 ≤ (ms_I τ 667).toInt ∧ _
    rw [hτ.2]; decide
  · show 0 ≤ (ms_I τ 682).toInt ∧ _
    rw [fτ.1 682 (by decide)]; exact hR.1.2.2.1
  · show 0 ≤ (ms_I τ 697).toInt ∧ _
    rw [fτ.1 697 (by decide)]; exact hR.1.2.2.2
theorem s_hear35 (n : Nat) (hn : 70000 ≤ n) {σ0 : ms_T} (hR : RI σ0) : ∀ (k : Nat) (σ : ms_T) (m x : Int32), fr KW KE σ0 σ → PI σ → 0 ≤ m.toInt → m.toInt ≤ 20 → 1 ≤ k → ((ms_I σ 670).toInt = 0 → ¬ (ms_I σ 674).toInt = 0 → 902 - (ms_I σ 673).toInt ≤ (k : Int)) → ws (f_X12_hear_L35 n k σ m x) (fun q => RI q.2 ∧ ms_I q.2 667 = 0) := by
  intro k
  induction k with
  | zero => intro σ m x hf hP h0 h1 hk hm; omega
  | succ k ih =>
    intro σ m x hf hP h0 h1 hk hm
    have l0 := lt0
    have t20 := t_20
    rw [f_X12_hear_L35.eq_2]
    refine ws_ee (fun _ e => ws_ee (fun _ _ => s_hear153 n hn hR hf m x h0 h1) (fun e4 => ?_)) (fun _ => s_hear153 n hn hR hf m x h0 h1)
    have hm' := hm (by omega) (by omega)
    have hPP := hP
    unfold PI at hPP
    have h3 := hPP.2.2.2.1 (by omega)
    have hJ : ∀ w : Int32, ws (f_X12_hear_J73 n (f_X12_hear_L35 n k) σ m x w) (fun q => RI q.2 ∧ ms_I q.2 667 = 0) := by
      intro w
      unfold f_X12_hear_J73
      refine ws_b (s_must n σ w 2 hP.2.2.2.2 (by decide)) (fun τ hτ => ?_)
      have hJ8 : ∀ w : Int32, (¬ w = 0 → m.toInt < 20) → ws (f_X12_hear_J89 n (f_X12_hear_L35 n k) τ m x w) (fun q => RI q.2 ∧ ms_I q.2 667 = 0) := by
        intro w hw
        unfold f_X12_hear_J89
        refine ws_b (s_must n τ w 6 hτ.2.1 (by decide)) (fun υ hυ => ?_)
        have f2 : fr [670, 671] [] σ υ := fr_tr hτ.1 hυ.1
        have hPυ := PI_w hP f2 hυ.2.1
        have fυ : fr KW KE σ0 υ := fr_tr hf (fr_sb f2 (by decide) (by decide))
        refine ws_le (fun e => ?_) (fun _ => s_hear153 n hn hR fυ m x h0 h1)
        have hq := hυ.2.2 (by have := hυ.2.1; omega)
        have hv := hw hq.1
        have u0 : (ms_I υ 670).toInt = 0 := by have := hυ.2.1; omega
        have hJ9 : ∀ (r : Int32) (ρ : ms_T), SI υ (r, ρ) → ws (f_X12_hear_J129 n (f_X12_hear_L35 n k) ρ m x r m) (fun q => RI q.2 ∧ ms_I q.2 667 = 0) := by
          intro r ρ hs
          have fe : fr [] [50] ρ (ms_sE ρ 50 m.toNatClampNeg r) := fr_sE (by decide)
          have fρ : fr HW HE υ ρ := hs.1
          have hPρ : PI ρ := hs.2.1
          have hpr : (ms_I ρ 670).toInt = 0 → (ms_I υ 673).toInt < (ms_I ρ 673).toInt := hs.2.2
          have e7 := f2.1 673 (by decide)
          rw [e7] at hpr
          have hgo : ∀ z : Int32, ws (f_X12_hear_L35 n k (ms_sE ρ 50 m.toNatClampNeg r) (m + 1) z) (fun q => RI q.2 ∧ ms_I q.2 667 = 0) := by
            intro z
            refine ih _ (m + 1) z (fr_tr fυ (fr_tr (fr_sb fρ (by decide) (by decide)) (fr_sb fe (by decide) (by decide)))) (PI_fr hPρ fe (by decide) (by decide) (by decide) (by decide) (by decide)) (by (try simp only [iw_add, iw_sub, iw_mul, t_m1, lt0, lt1, t_2, t_3, t_4, t_5, t_6, t_8, t_9, t_10, t_16, t_20, t_24, t_26, t_30, t_31, t_48, t_64, t_72, t_76, t_92, t_101, t_252, t_444, t_512, t_900, t_1980, t_65521, t_99999, t_mil]) <;> omega) (by (try simp only [iw_add, iw_sub, iw_mul, t_m1, lt0, lt1, t_2, t_3, t_4, t_5, t_6, t_8, t_9, t_10, t_16, t_20, t_24, t_26, t_30, t_31, t_48, t_64, t_72, t_76, t_92, t_101, t_252, t_444, t_512, t_900, t_1980, t_65521, t_99999, t_mil]) <;> omega) (by omega) (fun q _ => ?_)
            have q' : (ms_I ρ 670).toInt = 0 := q
            have := hpr q'
            show 902 - (ms_I ρ 673).toInt ≤ _
            omega
          unfold f_X12_hear_J129 f_X12_hear_J145
          exact ws_g h0 (by omega) (ws_l (ws_g h0 (by omega) (ws_i (fun _ => ws_l (ws_l (hgo _))) (fun _ => ws_l (ws_l (hgo _))))))
        refine ws_b (s_isWord n υ 6 (by decide) (by decide)) (fun r hr => ws_i (fun _ => ?_) (fun q => ?_))
        · exact ws_c (s_statementGrow n hn (rC_fr hR.2 fυ (by decide)) hPυ) (fun a ρ hρ => hJ9 a ρ hρ)
        · exact ws_c (s_statementIn n hn (rC_fr hR.2 fυ (by decide)) hPυ u0 (by have := (hr q).2; omega)) (fun a ρ hρ => hJ9 a ρ hρ)
      exact ws_le (fun _ => hJ8 _ (fun q => absurd rfl q)) (fun g => hJ8 _ (fun _ => by omega))
    unfold f_X12_hear_J68
    exact ws_b (s_isWord n σ 6 (by decide) (by decide)) (fun _ _ => ws_i (fun _ => ws_b (s_isWord n σ 7 (by decide) (by decide)) (fun _ _ => ws_i (fun _ => hJ _) (fun _ => hJ _))) (fun _ => hJ _))
theorem s_hear (n : Nat) (hn : 70000 ≤ n) (σ : ms_T) (hR : RI σ) (a1 : Int32) : ws (f_X12_hear n σ a1) (fun res => RI res.2 ∧ ld_M σ a1 res.2) := by
  have l0 := lt0
  have h9 := hR.1.2.1
  unfold f_X12_hear f_X12_hear_J18
  refine ws_bo (s_isIn n _ _ _) (fun q => ?_) (fun q => ?_)
  · refine ws_is (fun τ h => ?_) (fun e => absurd e (by decide))
    obtain ⟨a, b, c⟩ := is_R hR h
    exact ⟨a, Or.inl ⟨by omega, b⟩⟩
  · refine ws_c (s_is n σ 0) (fun r τ h => ws_i (fun e => absurd rfl (bo_0 h.2 e)) (fun _ => ?_))
    obtain ⟨a, b, c⟩ := is_R hR h.1
    refine ws_b (s_begins n hn a1 (by omega) (by omega)) (fun υ hυ => ?_)
    have hPP := hυ.2.1
    unfold PI at hPP
    exact ws_m (s_hear35 n hn a n υ 0 0 (fr_sb hυ.1 (by decide) (by decide)) hυ.2.1 (by decide) (by decide) (by omega) (fun _ _ => by omega)) (fun res hres => ⟨hres.1, Or.inr ⟨by omega, hres.2⟩⟩)
end JN7_27
section JN7_28
/-! ===== bits; extend ===== -/
theorem and_split (u w m M : Nat) (hu : u < 256) (hm : m < 256) : (u + 256 * w) &&& (m + 256 * M) = (u &&& m) + 256 * (w &&& M) := by
  have e1 : u + 256 * w = 2 ^ 8 * w + u := by omega
  have e2 : m + 256 * M = 2 ^ 8 * M + m := by omega
  have h3 : u &&& m < 2 ^ 8 := Nat.and_lt_two_pow _ (by omega)
  have e3 : (u &&& m) + 256 * (w &&& M) = 2 ^ 8 * (w &&& M) + (u &&& m) := by omega
  rw [e1, e2, e3]
  apply Nat.eq_of_testBit_eq
  intro i
  rw [Nat.testBit_and, Nat.testBit_two_pow_mul_add _ (by omega), Nat.testBit_two_pow_mul_add _ (by omega), Nat.testBit_two_pow_mul_add _ h3]
  split
  · rw [Nat.testBit_and]
  · rw [Nat.testBit_and]
def bg1 (b : Nat) : Nat := b - ((b / 2) &&& 85)
def bg2 (y : Nat) : Nat := (y &&& 51) + ((y / 4) &&& 51)
def bg3 (y : Nat) : Nat := (y + y / 16) &&& 15
def bgg (b : Nat) : Nat := bg3 (bg2 (bg1 b))
theorem bk1 : ∀ b < 256, ∀ c < 2, (b / 2 + 128 * c) &&& 85 = (b / 2) &&& 85 := by decide +kernel
theorem bk1' : ∀ b < 256, (b / 2) &&& 85 ≤ b ∧ bg1 b < 256 := by decide +kernel
theorem bk2 : ∀ b < 256, ∀ c < 4, (b / 4 + 64 * c) &&& 51 = (b / 4) &&& 51 := by decide +kernel
theorem bk2' : ∀ b < 256, bg2 (bg1 b) ≤ 68 := by decide +kernel
theorem bk2n : ∀ b < 256, bg2 (bg1 b) % 16 ≤ 4 := by decide +kernel
theorem bk3 : ∀ b < 69, ∀ c < 5, (b + b / 16 + 16 * c) &&& 15 = bg3 b := by decide +kernel
theorem bk3' : ∀ b < 256, bgg b ≤ 8 := by decide +kernel
theorem bkt : ∀ b < 256, ∀ t < 9, b % 2 ^ t = 2 ^ t - 1 → t ≤ bgg b := by decide +kernel
theorem bk63 : ∀ b < 64, b &&& 63 = b := by decide +kernel
theorem and3 (x0 x1 x2 m : Nat) (h0 : x0 < 256) (h1 : x1 < 256) (h2 : x2 < 256) (hm : m < 256) : (x0 + 256 * (x1 + 256 * x2)) &&& (m + 256 * (m + 256 * (m + 256 * m))) = (x0 &&& m) + 256 * ((x1 &&& m) + 256 * (x2 &&& m)) := by
  rw [and_split _ _ _ _ h0 hm, and_split _ _ _ _ h1 hm]
  have : x2 &&& (m + 256 * m) = x2 &&& m := by
    have h := and_split x2 0 m m h2 hm
    rw [Nat.mul_zero, Nat.add_zero, Nat.zero_and, Nat.mul_zero, Nat.add_zero] at h
    exact h
  rw [this]
/-- the count of a number of three bytes, on whole numbers -/
def bc (A : Nat) : Nat :=
  let x1 := A - ((A / 2) &&& 1431655765)
  let x2 := (x1 &&& 858993459) + ((x1 / 4) &&& 858993459)
  let x3 := (x2 + x2 / 16) &&& 252645135
  let x4 := x3 + x3 / 256
  let x5 := x4 + x4 / 65536
  x5 &&& 63
theorem bc_eq (b0 b1 b2 : Nat) (h0 : b0 < 256) (h1 : b1 < 256) (h2 : b2 < 256) : bc (b0 + 256 * (b1 + 256 * b2)) = bgg b0 + bgg b1 + bgg b2 := by
  have e85 : 1431655765 = 85 + 256 * (85 + 256 * (85 + 256 * 85)) := by decide
  have e51 : 858993459 = 51 + 256 * (51 + 256 * (51 + 256 * 51)) := by decide
  have e15 : 252645135 = 15 + 256 * (15 + 256 * (15 + 256 * 15)) := by decide
  unfold bc
  simp only
  have s1 : (b0 + 256 * (b1 + 256 * b2)) - (((b0 + 256 * (b1 + 256 * b2)) / 2) &&& 1431655765) = bg1 b0 + 256 * (bg1 b1 + 256 * bg1 b2) := by
    have d : (b0 + 256 * (b1 + 256 * b2)) / 2 = (b0 / 2 + 128 * (b1 % 2)) + 256 * ((b1 / 2 + 128 * (b2 % 2)) + 256 * (b2 / 2 + 128 * 0)) := by omega
    rw [d, e85, and3 _ _ _ _ (by omega) (by omega) (by omega) (by omega), bk1 b0 h0 _ (by omega), bk1 b1 h1 _ (by omega), bk1 b2 h2 0 (by omega)]
    have a0 := (bk1' b0 h0).1
    have a1 := (bk1' b1 h1).1
    have a2 := (bk1' b2 h2).1
    unfold bg1
    omega
  rw [s1]
  have y0 := (bk1' b0 h0).2
  have y1 := (bk1' b1 h1).2
  have y2 := (bk1' b2 h2).2
  have s2 : ((bg1 b0 + 256 * (bg1 b1 + 256 * bg1 b2)) &&& 858993459) + (((bg1 b0 + 256 * (bg1 b1 + 256 * bg1 b2)) / 4) &&& 858993459) = bg2 (bg1 b0) + 256 * (bg2 (bg1 b1) + 256 * bg2 (bg1 b2)) := by
    have d : (bg1 b0 + 256 * (bg1 b1 + 256 * bg1 b2)) / 4 = (bg1 b0 / 4 + 64 * (bg1 b1 % 4)) + 256 * ((bg1 b1 / 4 + 64 * (bg1 b2 % 4)) + 256 * (bg1 b2 / 4 + 64 * 0)) := by omega
    rw [d, e51, and3 _ _ _ _ y0 y1 y2 (by omega), and3 _ _ _ _ (by omega) (by omega) (by omega) (by omega), bk2 _ y0 _ (by omega), bk2 _ y1 _ (by omega), bk2 _ y2 0 (by omega)]
    unfold bg2
    omega
  rw [s2]
  have z0 := bk2' b0 h0
  have z1 := bk2' b1 h1
  have z2 := bk2' b2 h2
  have s3 : ((bg2 (bg1 b0) + 256 * (bg2 (bg1 b1) + 256 * bg2 (bg1 b2))) + (bg2 (bg1 b0) + 256 * (bg2 (bg1 b1) + 256 * bg2 (bg1 b2))) / 16) &&& 252645135 = bgg b0 + 256 * (bgg b1 + 256 * bgg b2) := by
    have n1 := bk2n b1 h1
    have n2 := bk2n b2 h2
    have d : (bg2 (bg1 b0) + 256 * (bg2 (bg1 b1) + 256 * bg2 (bg1 b2))) + (bg2 (bg1 b0) + 256 * (bg2 (bg1 b1) + 256 * bg2 (bg1 b2))) / 16 = (bg2 (bg1 b0) + bg2 (bg1 b0) / 16 + 16 * (bg2 (bg1 b1) % 16)) + 256 * ((bg2 (bg1 b1) + bg2 (bg1 b1) / 16 + 16 * (bg2 (bg1 b2) % 16)) + 256 * (bg2 (bg1 b2) + bg2 (bg1 b2) / 16 + 16 * 0)) := by omega
    rw [d, e15, and3 _ _ _ _ (by omega) (by omega) (by omega) (by omega), bk3 _ (by omega) _ (by omega), bk3 _ (by omega) _ (by omega), bk3 _ (by omega) 0 (by omega)]
    rfl
  rw [s3]
  have p0 := bk3' b0 h0
  have p1 := bk3' b1 h1
  have p2 := bk3' b2 h2
  have s4 : ((bgg b0 + 256 * (bgg b1 + 256 * bgg b2)) + (bgg b0 + 256 * (bgg b1 + 256 * bgg b2)) / 256) = (bgg b0 + bgg b1) + 256 * ((bgg b1 + bgg b2) + 256 * bgg b2) := by omega
  rw [s4]
  have s5 : ((bgg b0 + bgg b1) + 256 * ((bgg b1 + bgg b2) + 256 * bgg b2)) + ((bgg b0 + bgg b1) + 256 * ((bgg b1 + bgg b2) + 256 * bgg b2)) / 65536 = (bgg b0 + bgg b1 + bgg b2) + 256 * ((bgg b1 + bgg b2) + 256 * bgg b2) := by omega
  rw [s5]
  have h := and_split (bgg b0 + bgg b1 + bgg b2) ((bgg b1 + bgg b2) + 256 * bgg b2) 63 0 (by omega) (by omega)
  rw [Nat.and_zero, Nat.mul_zero, Nat.add_zero, Nat.add_zero] at h
  rw [h]
  exact bk63 _ (by omega)
theorem bc_t (A t : Nat) (hA : A < 1048576) (ht : t ≤ 20) (h : A % 2 ^ t = 2 ^ t - 1) : t ≤ bc A := by
  have e : A = A % 256 + 256 * (A / 256 % 256 + 256 * (A / 65536)) := by omega
  rw [e, bc_eq _ _ _ (by omega) (by omega) (by omega)]
  have hp : ∀ k, 2 ^ k ≥ 1 := fun k => Nat.one_le_two_pow
  by_cases t8 : t ≤ 8
  · have q : A % 256 % 2 ^ t = 2 ^ t - 1 := by
      rw [show (256 : Nat) = 2 ^ 8 from rfl, Nat.mod_mod_of_dvd _ (Nat.pow_dvd_pow 2 t8)]; exact h
    have := bkt (A % 256) (by omega) t (by omega) q
    omega
  · have q8 : A % 256 = 255 := by
      have d := Nat.mod_mod_of_dvd A (Nat.pow_dvd_pow 2 (show 8 ≤ t by omega))
      rw [h] at d
      have : (2 ^ t - 1) % 2 ^ 8 = 255 := by
        obtain ⟨s, rfl⟩ : ∃ s, t = 8 + s := ⟨t - 8, by omega⟩
        rw [Nat.pow_add]
        have := hp s
        omega
      omega
    have g255 : bgg 255 = 8 := by decide +kernel
    rw [q8, g255]
    by_cases t16 : t ≤ 16
    · have q : A / 256 % 256 % 2 ^ (t - 8) = 2 ^ (t - 8) - 1 := by
        rw [show (A / 256 % 256) = A / 256 % 2 ^ 8 from rfl, Nat.mod_mod_of_dvd _ (Nat.pow_dvd_pow 2 (show t - 8 ≤ 8 by omega))]
        obtain ⟨s, rfl⟩ : ∃ s, t = 8 + s := ⟨t - 8, by omega⟩
        rw [Nat.pow_add, Nat.mod_mul] at h
        rw [show 8 + s - 8 = s by omega]
        have hs := hp s
        have h2 : A % 256 + 256 * (A / 256 % 2 ^ s) = 256 * 2 ^ s - 1 := h
        generalize 2 ^ s = P at hs h2 ⊢
        generalize A / 256 % P = X at h2 ⊢
        omega
      have := bkt (A / 256 % 256) (by omega) (t - 8) (by omega) q
      omega
    · have q16 : A / 256 % 256 = 255 := by
        obtain ⟨s, rfl⟩ : ∃ s, t = 16 + s := ⟨t - 16, by omega⟩
        rw [Nat.pow_add, Nat.mod_mul] at h
        have := hp s
        omega
      rw [q16, g255]
      have q : A / 65536 % 2 ^ (t - 16) = 2 ^ (t - 16) - 1 := by
        obtain ⟨s, rfl⟩ : ∃ s, t = 16 + s := ⟨t - 16, by omega⟩
        rw [Nat.pow_add, Nat.mod_mul] at h
        rw [show 16 + s - 16 = s by omega]
        have hs := hp s
        have h2 : A % 65536 + 65536 * (A / 65536 % 2 ^ s) = 65536 * 2 ^ s - 1 := h
        generalize 2 ^ s = P at hs h2 ⊢
        generalize A / 65536 % P = X at h2 ⊢
        omega
      have := bkt (A / 65536) (by omega) (t - 16) (by omega) q
      omega
theorem bN (x : Int32) (h : 0 ≤ x.toInt) : x.toInt = (x.toBitVec.toNat : Int) ∧ x.toBitVec.toNat < 2147483648 := by
  have e : x.toInt = x.toBitVec.toInt := rfl
  rw [e, BitVec.toInt_eq_toNat_cond] at h ⊢
  have := x.toBitVec.isLt
  split at h
  · rename_i q
    rw [if_pos q]
    omega
  · omega
theorem n_sh1 (x : Int32) : ((x.toUInt32 >>> (((1 : Int32)).toUInt32 &&& Int32.toUInt32 31)).toInt32).toBitVec.toNat = x.toBitVec.toNat / 2 := by
  show (x.toBitVec >>> (1#32 : BitVec 32)).toNat = _
  rw [BitVec.ushiftRight_eq', BitVec.toNat_ushiftRight, Nat.shiftRight_eq_div_pow]
  rfl
theorem n_sh2 (x : Int32) : ((x.toUInt32 >>> (((2 : Int32)).toUInt32 &&& Int32.toUInt32 31)).toInt32).toBitVec.toNat = x.toBitVec.toNat / 4 := by
  show (x.toBitVec >>> (2#32 : BitVec 32)).toNat = _
  rw [BitVec.ushiftRight_eq', BitVec.toNat_ushiftRight, Nat.shiftRight_eq_div_pow]
  rfl
theorem n_sh4 (x : Int32) : ((x.toUInt32 >>> (((4 : Int32)).toUInt32 &&& Int32.toUInt32 31)).toInt32).toBitVec.toNat = x.toBitVec.toNat / 16 := by
  show (x.toBitVec >>> (4#32 : BitVec 32)).toNat = _
  rw [BitVec.ushiftRight_eq', BitVec.toNat_ushiftRight, Nat.shiftRight_eq_div_pow]
  rfl
theorem n_sh8 (x : Int32) : ((x.toUInt32 >>> (((8 : Int32)).toUInt32 &&& Int32.toUInt32 31)).toInt32).toBitVec.toNat = x.toBitVec.toNat / 256 := by
  show (x.toBitVec >>> (8#32 : BitVec 32)).toNat = _
  rw [BitVec.ushiftRight_eq', BitVec.toNat_ushiftRight, Nat.shiftRight_eq_div_pow]
  rfl
theorem n_sh16 (x : Int32) : ((x.toUInt32 >>> (((16 : Int32)).toUInt32 &&& Int32.toUInt32 31)).toInt32).toBitVec.toNat = x.toBitVec.toNat / 65536 := by
  show (x.toBitVec >>> (16#32 : BitVec 32)).toNat = _
  rw [BitVec.ushiftRight_eq', BitVec.toNat_ushiftRight, Nat.shiftRight_eq_div_pow]
  rfl
theorem n_and (x y : Int32) : (x &&& y).toBitVec.toNat = x.toBitVec.toNat &&& y.toBitVec.toNat := by
  show (x.toBitVec &&& y.toBitVec).toNat = _
  exact BitVec.toNat_and _ _
theorem n_add (x y : Int32) : (x + y).toBitVec.toNat = (x.toBitVec.toNat + y.toBitVec.toNat) % 4294967296 := by
  show (x.toBitVec + y.toBitVec).toNat = _
  exact BitVec.toNat_add _ _
theorem n_sub (x y : Int32) (h : y.toBitVec.toNat ≤ x.toBitVec.toNat) : (x - y).toBitVec.toNat = x.toBitVec.toNat - y.toBitVec.toNat := by
  show (x.toBitVec - y.toBitVec).toNat = _
  rw [BitVec.toNat_sub]
  have := x.toBitVec.isLt
  have := y.toBitVec.isLt
  omega
theorem s_bitCount2 (n : Nat) (a : Int32) (h0 : 0 ≤ a.toInt) (h1 : a.toInt ≤ 1000000) : ws (f_J6_bitCount_0f7a4 n a) (fun r => r.toInt = (bc a.toInt.toNat : Int)) := by
  obtain ⟨eA, -⟩ := bN a h0
  have eN : a.toInt.toNat = a.toBitVec.toNat := by omega
  rw [eN]
  have hA : a.toBitVec.toNat ≤ 1000000 := by omega
  unfold f_J6_bitCount_0f7a4
  refine ws_ln (fun x1 e1 => ws_ln (fun x2 e2 => ws_ln (fun x3 e3 => ws_ln (fun x4 e4 => ws_ln (fun x5 e5 => ws_s ?_)))))
  have m1 : (1431655765 : Int32).toBitVec.toNat = 1431655765 := by decide
  have m2 : (858993459 : Int32).toBitVec.toNat = 858993459 := by decide
  have m3 : (252645135 : Int32).toBitVec.toNat = 252645135 := by decide
  have m4 : (63 : Int32).toBitVec.toNat = 63 := by decide
  have l1 : a.toBitVec.toNat / 2 &&& 1431655765 ≤ a.toBitVec.toNat := Nat.le_trans Nat.and_le_left (Nat.div_le_self _ _)
  have q1 : x1.toBitVec.toNat = a.toBitVec.toNat - (a.toBitVec.toNat / 2 &&& 1431655765) := by
    have e : (((a).toUInt32 >>> (((1 : Int32)).toUInt32 &&& Int32.toUInt32 31)).toInt32 &&& (1431655765 : Int32)).toBitVec.toNat = a.toBitVec.toNat / 2 &&& 1431655765 := by rw [n_and, n_sh1, m1]
    rw [e1, n_sub _ _ (by rw [e]; exact l1), e]
  have b1 : x1.toBitVec.toNat ≤ 1000000 := by omega
  have q2 : x2.toBitVec.toNat = (x1.toBitVec.toNat &&& 858993459) + (x1.toBitVec.toNat / 4 &&& 858993459) ∧ x2.toBitVec.toNat ≤ 2000000 := by
    have a1 : x1.toBitVec.toNat &&& 858993459 ≤ x1.toBitVec.toNat := Nat.and_le_left
    have a2 : x1.toBitVec.toNat / 4 &&& 858993459 ≤ x1.toBitVec.toNat / 4 := Nat.and_le_left
    rw [e2, n_add, n_and, n_and, n_sh2, m2, Nat.mod_eq_of_lt (by omega)]
    exact ⟨rfl, by omega⟩
  have q3 : x3.toBitVec.toNat = (x2.toBitVec.toNat + x2.toBitVec.toNat / 16 &&& 252645135) ∧ x3.toBitVec.toNat ≤ 4000000 := by
    have a1 : x2.toBitVec.toNat + x2.toBitVec.toNat / 16 &&& 252645135 ≤ x2.toBitVec.toNat + x2.toBitVec.toNat / 16 := Nat.and_le_left
    rw [e3, n_and, n_add, n_sh4, m3, Nat.mod_eq_of_lt (by omega)]
    exact ⟨rfl, by omega⟩
  have q4 : x4.toBitVec.toNat = x3.toBitVec.toNat + x3.toBitVec.toNat / 256 ∧ x4.toBitVec.toNat ≤ 8000000 := by
    rw [e4, n_add, n_sh8, Nat.mod_eq_of_lt (by omega)]
    exact ⟨rfl, by omega⟩
  have q5 : x5.toBitVec.toNat = x4.toBitVec.toNat + x4.toBitVec.toNat / 65536 := by
    rw [e5, n_add, n_sh16, Nat.mod_eq_of_lt (by omega)]
  rw [(bN _ (and63 x5).1).1, n_and, m4, q5, q4.1, q3.1, q2.1, q1]
  rfl
end JN7_28
section JN7_29
theorem s_extend_L (n : Nat) (A P : Nat) (hA : A < 1048576) (hP : P = bc A) (hP63 : P ≤ 63) : ∀ (k t : Nat) (τ : ms_T) (x v : Int32), RI τ → (ms_E τ 40 2).toInt = (P : Int) - t → A % 2 ^ t = 2 ^ t - 1 → v.toInt = ((A / 2 ^ t : Nat) : Int) → t ≤ 20 → 21 - (t : Int) ≤ (k : Int) → ws (f_X12_extend_L55 n k τ x v) (PK τ) := by
  intro k
  induction k with
  | zero => intro t τ x v hR hc hm hv ht hk; omega
  | succ k ih =>
    intro t τ x v hR hc hm hv ht hk
    rw [f_X12_extend_L55.eq_2, c2]
    have h64 := hR.2.2.2.1
    have hv0 : 0 ≤ v.toInt := by
      generalize A / 2 ^ t = Q at hv
      omega
    have hrem : (v - v / 2 * 2).toInt = v.toInt % 2 := by rw [ii_rem (x := v) (y := 2) hv0 (by decide), t_2]
    have l1 := lt1
    refine ws_ee (fun _ e => ?_) (fun e => ?_)
    · have ho : A / 2 ^ t % 2 = 1 := by omega
      have hp := Nat.one_le_two_pow (n := t)
      have ht2 : t + 1 ≤ 20 := by
        rcases Nat.lt_or_ge t 20 with q | q
        · omega
        · have e20 : t = 20 := by omega
          rw [e20, Nat.div_eq_of_lt (by omega)] at ho
          omega
      have hm2 : A % 2 ^ (t + 1) = 2 ^ (t + 1) - 1 := by
        rw [Nat.pow_succ, Nat.mod_mul, hm, ho]
        omega
      have hle := bc_t A (t + 1) hA ht2 hm2
      rw [← hP] at hle
      have e1 : (ms_E τ 40 2 - 1).toInt = (P : Int) - t - 1 := by rw [iw_sub, lt1]; omega
      have ed : (v / 2).toInt = ((A / 2 ^ (t + 1) : Nat) : Int) := by
        rw [ii_div hv0 (by decide), t_2, hv, Nat.pow_succ, ← Nat.div_div_eq_div_mul]
        generalize A / 2 ^ t = Q
        omega
      refine ws_g (by decide) (by decide) (ws_g (by decide) (by decide) (ws_ln (fun σ1 hs => ?_)))
      have hR1 : RI σ1 := by rw [hs]; exact RI_sE hR ⟨fun _ => by omega, fun _ => by omega, fun _ => by omega, fun _ => by omega, fun _ _ _ => by omega, fun _ _ _ => by omega, fun _ _ _ => by omega, fun _ _ _ => by omega, fun _ _ _ => by omega⟩
      have ez : ms_E σ1 40 2 = ms_E τ 40 2 - 1 := by rw [hs, mE_sE, if_pos ⟨rfl, rfl⟩]
      have e7 : ms_I σ1 667 = ms_I τ 667 := by rw [hs]; rfl
      have e8 : ((8 : Int32) + ms_E σ1 40 2).toInt = 8 + ((P : Int) - t - 1) := by rw [iw_add, ez, e1, t_8]; omega
      refine ws_g (by decide) (by decide) (ws_g (by omega) (by omega) (ws_b (s_both hR1.2 _ _) (fun y _ => ws_l (ws_m (ih (t + 1) σ1 y (v / 2) hR1 (by rw [ez, e1]; omega) hm2 ed ht2 (by omega)) (fun q hq => pk_tr e7 hq)))))
    · have e8 : ((8 : Int32) + ms_E τ 40 2).toInt = 8 + (ms_E τ 40 2).toInt := by rw [iw_add, t_8]; omega
      have e1 : (ms_E τ 40 2 + 1).toInt = (ms_E τ 40 2).toInt + 1 := by rw [iw_add, lt1]; omega
      have ec := cl_n (i := (8 : Int32) + ms_E τ 40 2) (k := 8 + (ms_E τ 40 2).toInt.toNat) (by omega)
      refine ws_g (by decide) (by decide) (ws_g (by omega) (by omega) (ws_l (ws_g (by decide) (by decide) (ws_g (by decide) (by decide) (ws_l (ws_g (by decide) (by decide) (ws_s (PKs ?_ rfl _))))))))
      rw [ec]
      refine RI_sE (RI_sE hR (rc_f (by omega))) ?_
      rw [mE_sE, if_neg (fun q => by omega)]
      exact ⟨fun _ => by omega, fun _ => by omega, fun _ => by omega, fun _ => by omega, fun _ _ _ => by omega, fun _ _ _ => by omega, fun _ _ _ => by omega, fun _ _ _ => by omega, fun _ _ _ => by omega⟩
theorem s_extend (n : Nat) (hn : 70000 ≤ n) (σ : ms_T) (hR : RI σ) (a1 a2 : Int32) : ws (f_X12_extend n σ a1 a2) (PK σ) := by
  have L := lits
  have tm := t_mil
  have hC := hR.2
  have hJ : ∀ w : Int32, (w = 0 → 0 ≤ a1.toInt ∧ a1.toInt ≤ 1000000 ∧ (ms_E σ 40 2).toInt = (bc a1.toInt.toNat : Int) ∧ bc a1.toInt.toNat ≤ 63) → ws (f_X12_extend_J42 n σ a1 a2 w) (PK σ) := by
    intro w hw
    unfold f_X12_extend_J42
    refine ws_isP hR (fun e τ hτ hE hf => ?_)
    obtain ⟨q1, q2, q3, q4⟩ := hw e
    rw [← hE] at q3
    exact s_extend_L n a1.toInt.toNat _ (by omega) rfl q4 n 0 τ a2 a1 hτ (by omega) (by rw [Nat.pow_zero, Nat.mod_one]) (by rw [Nat.pow_zero, Nat.div_one]; omega) (by omega) (by omega)
  unfold f_X12_extend
  rw [c2]
  refine ws_bo (s_isIn n _ _ _) (fun _ => hJ _ (fun h => absurd h (by decide))) (fun q => ws_bo (s_isMark hC _) (fun _ => hJ _ (fun h => absurd h (by decide))) (fun _ => ?_))
  obtain ⟨r, er, hr⟩ := s_bitCount2 n a1 (by omega) (by omega)
  obtain ⟨r', er', hr'⟩ := s_bitCount n a1
  rw [er] at er'
  cases er'
  refine ws_b (S := fun x => x = r) ⟨r, er, rfl⟩ (fun x hx => ?_)
  subst hx
  refine ws_g (by decide) (by decide) (ws_ee (fun _ e => hJ _ (fun _ => ⟨by omega, by omega, by omega, by omega⟩)) (fun _ => hJ _ (fun h => absurd h (by decide))))
end JN7_29
section JN7_30
/-! ===== the class as pure functions over the picture: rows over them ===== -/
def hq_m {R : Type} (o : Option Nat) (x : Option R) (k : Nat → Option R) : Option R := match o with
  | none => x
  | some b => k b
def hq_c {A S R : Type} (x : Option (A × S)) (k : A → S → Option R) : Option R := match x with
  | some q => k q.1 q.2
  | none => none
theorem hq_N {R : Type} {x : Option R} {k : Nat → Option R} {r : R} (h : hq_m none x k = some r) : x = some r := h
theorem hq_S {R : Type} {b : Nat} {x : Option R} {k : Nat → Option R} {r : R} (h : hq_m (some b) x k = some r) : k b = some r := h
theorem hq_E {R : Type} {o : Option Nat} {x : Option R} {k : Nat → Option R} {r : R} (h : hq_m o x k = some r) : (o = none ∧ x = some r) ∨ ∃ b, o = some b ∧ k b = some r := by
  cases o with
  | none => exact Or.inl ⟨rfl, h⟩
  | some b => exact Or.inr ⟨b, rfl, h⟩
theorem hq_cE {A S R : Type} {x : Option (A × S)} {k : A → S → Option R} {r : R} (h : hq_c x k = some r) : ∃ a σ, x = some (a, σ) ∧ k a σ = some r := by
  cases x with
  | none => cases h
  | some q => exact ⟨q.1, q.2, rfl, h⟩
section HPD
variable {p : Program} {l : Launch} {e : Env} {R : Room} {s : State} {m : MethodId} {args : Array Value} {below : List Frame} {meth : Method} {c : Code} {H : Heap} {locs : List Loc} {cells slots : Nat} {Q : State → Prop} {cc : ByteArray} {nL : Nat} {own : String} {Γ : hp_G} {α0 α : hp_T} {Iv : hp_T → hp_T → Prop} {pc pc' : Nat} {ls : Array Slot} {rest st : List Value} {mc ms κ : Nat} {aa : Array Value} {v w : cw_W}
theorem d_ci {r : Int32} {τ : hp_T} (B : hp_B Γ (cw w) s α0 α H locs) (hr : va_Run p l e R s m args below meth c H locs cells slots mc ms (F0 m pc ls st) rest (hp_Qi Γ (fun r' β => r' = r ∧ β = τ ∧ cw v α β) aa) (hp_A Γ)) (hs : cw_sub v w = true) (hpc : pc + 3 = pc')
    (kk : ∀ (H1 : Heap) (locs1 : List Loc), hp_B Γ (cw w) s α0 τ H1 locs1 → W p l e R s m args below meth c H1 locs1 (cells + mc) (slots + ms) Q (F0 m pc' ls (.int r :: rest))) : W p l e R s m args below meth c H locs cells slots Q (F0 m pc ls st) :=
  q_ci B hr (fun _ _ h => cw_tr B.2.2 h.2.2 hs) hpc (fun r' β H1 L1 h B1 => by rw [h.1]; rw [h.2.1] at B1; exact kk H1 L1 B1)
theorem d_cv {τ : hp_T} (B : hp_B Γ (cw w) s α0 α H locs) (hr : va_Run p l e R s m args below meth c H locs cells slots mc ms (F0 m pc ls st) rest (hp_Qv Γ (fun β => β = τ ∧ cw v α β) aa) (hp_A Γ)) (hs : cw_sub v w = true) (hpc : pc + 3 = pc')
    (kk : ∀ (H1 : Heap) (locs1 : List Loc), hp_B Γ (cw w) s α0 τ H1 locs1 → W p l e R s m args below meth c H1 locs1 (cells + mc) (slots + ms) Q (F0 m pc' ls rest)) : W p l e R s m args below meth c H locs cells slots Q (F0 m pc ls st) :=
  q_cv B hr (fun _ h => cw_tr B.2.2 h.2 hs) hpc (fun β H1 L1 h B1 => by rw [h.1] at B1; exact kk H1 L1 B1)
/-- of what changes nothing -/
theorem d_pi {r : Int32} (B : hp_B Γ Iv s α0 α H locs) (hr : va_Run p l e R s m args below meth c H locs cells slots mc ms (F0 m pc ls st) rest (hp_Qi Γ (fun r' β => β = α ∧ r' = r) aa) (hp_A Γ)) (hpc : pc + 3 = pc')
    (kk : ∀ (H1 : Heap) (locs1 : List Loc), hp_B Γ Iv s α0 α H1 locs1 → W p l e R s m args below meth c H1 locs1 (cells + mc) (slots + ms) Q (F0 m pc' ls (.int r :: rest))) : W p l e R s m args below meth c H locs cells slots Q (F0 m pc ls st) :=
  q_ci B hr (fun _ _ h => by rw [h.1]; exact B.2.2) hpc (fun r' β H1 L1 h B1 => by rw [h.2]; rw [h.1] at B1; exact kk H1 L1 B1)
theorem d_pq {r : Option Nat} (B : hp_B Γ (cw w) s α0 α H locs) (hr : va_Run p l e R s m args below meth c H locs cells slots mc ms (F0 m pc ls st) rest (hp_Qq Γ (fun r' β => (β = α ∧ r' = r) ∧ ∀ b, r' = some b → hp_K α b = κ) aa) (hp_A Γ)) (hpc : pc + 3 = pc')
    (kk : ∀ (H1 : Heap) (locs1 : List Loc), hp_B Γ (cw w) s α0 α H1 locs1 → (∀ b, r = some b → hp_K α0 b = κ) → W p l e R s m args below meth c H1 locs1 (cells + mc) (slots + ms) Q (F0 m pc' ls (va_rf r :: rest))) : W p l e R s m args below meth c H locs cells slots Q (F0 m pc ls st) :=
  q_cq B hr (fun _ _ h => by rw [h.1.1]; exact B.2.2) hpc (fun r' β H1 L1 h B1 => by
    rw [h.1.2]; rw [h.1.1] at B1
    exact kk H1 L1 B1 (fun b hb => cw_k' B.2.2 (h.2 b (h.1.2.trans hb))))
end HPD
end JN7_30
section JN7_31
def f_J6_numberOfLeadingZeros_0f7a4_J73 (n : Nat) (v0_h5 : Int32) (v1_h5 : Int32) : Option Int32 :=
  some (v1_h5 - ((v0_h5).toUInt32 >>> (((1 : Int32)).toUInt32 &&& Int32.toUInt32 31)).toInt32)
def f_J6_numberOfLeadingZeros_0f7a4_J61 (n : Nat) (v0_h4 : Int32) (v1_h4 : Int32) : Option Int32 :=
  if v0_h4 < (4 : Int32) then
    f_J6_numberOfLeadingZeros_0f7a4_J73 n v0_h4 v1_h4
  else
    ms_l (v1_h4 + (-2)) fun x7 =>
    ms_l (((v0_h4).toUInt32 >>> (((2 : Int32)).toUInt32 &&& Int32.toUInt32 31)).toInt32) fun x8 =>
    f_J6_numberOfLeadingZeros_0f7a4_J73 n x8 x7
def f_J6_numberOfLeadingZeros_0f7a4_J48 (n : Nat) (v0_h3 : Int32) (v1_h3 : Int32) : Option Int32 :=
  if v0_h3 < (16 : Int32) then
    f_J6_numberOfLeadingZeros_0f7a4_J61 n v0_h3 v1_h3
  else
    ms_l (v1_h3 + (-4)) fun x10 =>
    ms_l (((v0_h3).toUInt32 >>> (((4 : Int32)).toUInt32 &&& Int32.toUInt32 31)).toInt32) fun x11 =>
    f_J6_numberOfLeadingZeros_0f7a4_J61 n x11 x10
def f_J6_numberOfLeadingZeros_0f7a4_J33 (n : Nat) (v0_h2 : Int32) (v1_h2 : Int32) : Option Int32 :=
  if v0_h2 < (256 : Int32) then
    f_J6_numberOfLeadingZeros_0f7a4_J48 n v0_h2 v1_h2
  else
    ms_l (v1_h2 + (-8)) fun x13 =>
    ms_l (((v0_h2).toUInt32 >>> (((8 : Int32)).toUInt32 &&& Int32.toUInt32 31)).toInt32) fun x14 =>
    f_J6_numberOfLeadingZeros_0f7a4_J48 n x14 x13
def f_J6_numberOfLeadingZeros_0f7a4 (n : Nat) (a0 : Int32) : Option Int32 :=
  if 0 < a0 then
    if a0 < (65536 : Int32) then
      f_J6_numberOfLeadingZeros_0f7a4_J33 n a0 (31 : Int32)
    else
      ms_l ((31 : Int32) + (-16)) fun x16 =>
      ms_l (((a0).toUInt32 >>> (((16 : Int32)).toUInt32 &&& Int32.toUInt32 31)).toInt32) fun x17 =>
      f_J6_numberOfLeadingZeros_0f7a4_J33 n x17 x16
  else
    if a0 = 0 then
      some (32 : Int32)
    else
      some (0 : Int32)
set_option maxRecDepth 100000 in
set_option maxHeartbeats 4000000 in
theorem n_J6_numberOfLeadingZeros_0f7a4 (n : Nat) (Γ : hp_G) (l : Launch) (α : hp_T) (g : GC α) (a0 : Int32) (res : Int32) (hf : f_J6_numberOfLeadingZeros_0f7a4 n a0 = some res) : Met l yJ6_numberOfLeadingZeros_0f7a4 (hp_ws yJ6_numberOfLeadingZeros_0f7a4 cJ6_numberOfLeadingZeros_0f7a4 2 (some .int)) (hp_rm 0 0 0) (hp_Pc Γ α [.int a0]) (hp_Qi Γ (fun r β => β = α ∧ r = res)) 0 0 (hp_A Γ) := by
  unfold f_J6_numberOfLeadingZeros_0f7a4 at hf
  refine hp_start (by decide) ?_
  intro p e s m below meth c C hr hlk B0 hnm
  have C : hp_C Γ p m c cJ6_numberOfLeadingZeros_0f7a4 2 s ([.int a0] : List Value).toArray RJ6 := C
  have hx := C.1.1
  have hb := C.1.2.1
  have hown := C.1.2.2.2.1
  have hts := C.1.2.2.2.2
  have B : hp_B Γ (cw w_J6_numberOfLeadingZeros_0f7a4) s α α s.heap [] := ⟨B0.1, B0.2.1, cw_rf g⟩
  have hl := lv_entry ([.int a0]) (n := 2) (Nat.le_of_ble_eq_true rfl)
  show W p l e (hp_rm 0 0 0) s m ([.int a0] : List Value).toArray below meth c s.heap [] 0 0 (MQ below (hp_Qi Γ (fun r β => β = α ∧ r = res)) ([.int a0] : List Value).toArray s 0 0 (hp_A Γ)) (entryFrame m ([.int a0] : List Value).toArray 2)
  rw [lg_entry_eq]
  generalize (lg_sl ([.int a0]) ++ List.replicate (2 - (lg_sl ([.int a0])).length) Slot.unset).toArray = ls at hl ⊢
  have hl : lv_has ls 2 [(0, .int a0)] := hl
  refine lv_iload_n hx hb dJ6_numberOfLeadingZeros_0f7a4_0 rfl (lv_at hl 0 rfl) (hp_n (n := 1) rfl ?_)
  refine lv_if_gt (tgt := 15) hx hb dJ6_numberOfLeadingZeros_0f7a4_1 (by decide) (fun c1 => ?_) (fun c1 => hp_n (n := 4) rfl ?_)
  ·
    replace hf := ms_iT c1 hf
    refine lv_bipush (v := 31) hx hb dJ6_numberOfLeadingZeros_0f7a4_15 (by decide) (hp_n (n := 17) rfl ?_)
    refine lv_istore_n (lv' := [(1, .int (31 : Int32)), (0, .int a0)]) hx hb dJ6_numberOfLeadingZeros_0f7a4_17 rfl hl (by decide) rfl (fun ls hl => hp_n (n := 18) rfl ?_)
    refine lv_iload_n hx hb dJ6_numberOfLeadingZeros_0f7a4_18 rfl (lv_at hl 1 rfl) (hp_n (n := 19) rfl ?_)
    refine lv_ldcw hx hb hown (hts _ kc_J6_264) dJ6_numberOfLeadingZeros_0f7a4_19 (hp_n (n := 22) rfl ?_)
    have J33 : ∀ (Hh2 : Heap) (Lh2 : List Loc) (Bh2 : hp_B Γ (cw w_J6_numberOfLeadingZeros_0f7a4) s α α Hh2 Lh2) (v0_h2 : Int32) (v1_h2 : Int32) (ls : Array Slot) (hl : lv_has ls 2 [(0, .int v0_h2), (1, .int v1_h2)]) (hf : f_J6_numberOfLeadingZeros_0f7a4_J33 n v0_h2 v1_h2 = some res), W p l e (hp_rm 0 0 0) s m ([.int a0] : List Value).toArray below meth c Hh2 Lh2 0 0 (MQ below (hp_Qi Γ (fun r β => β = α ∧ r = res)) ([.int a0] : List Value).toArray s 0 0 (hp_A Γ)) (F0 m 33 ls []) := by
      intro Hh2 Lh2 Bh2 v0_h2 v1_h2 ls hl hf
      unfold f_J6_numberOfLeadingZeros_0f7a4_J33 at hf
      refine lv_iload_n hx hb dJ6_numberOfLeadingZeros_0f7a4_33 rfl (lv_at hl 0 rfl) (hp_n (n := 34) rfl ?_)
      refine lv_sipush (v := 256) hx hb dJ6_numberOfLeadingZeros_0f7a4_34 (by decide) (hp_n (n := 37) rfl ?_)
      have J48 : ∀ (Hh3 : Heap) (Lh3 : List Loc) (Bh3 : hp_B Γ (cw w_J6_numberOfLeadingZeros_0f7a4) s α α Hh3 Lh3) (v0_h3 : Int32) (v1_h3 : Int32) (ls : Array Slot) (hl : lv_has ls 2 [(0, .int v0_h3), (1, .int v1_h3)]) (hf : f_J6_numberOfLeadingZeros_0f7a4_J48 n v0_h3 v1_h3 = some res), W p l e (hp_rm 0 0 0) s m ([.int a0] : List Value).toArray below meth c Hh3 Lh3 0 0 (MQ below (hp_Qi Γ (fun r β => β = α ∧ r = res)) ([.int a0] : List Value).toArray s 0 0 (hp_A Γ)) (F0 m 48 ls []) := by
        intro Hh3 Lh3 Bh3 v0_h3 v1_h3 ls hl hf
        unfold f_J6_numberOfLeadingZeros_0f7a4_J48 at hf
        refine lv_iload_n hx hb dJ6_numberOfLeadingZeros_0f7a4_48 rfl (lv_at hl 0 rfl) (hp_n (n := 49) rfl ?_)
        refine lv_bipush (v := 16) hx hb dJ6_numberOfLeadingZeros_0f7a4_49 (by decide) (hp_n (n := 51) rfl ?_)
        have J61 : ∀ (Hh4 : Heap) (Lh4 : List Loc) (Bh4 : hp_B Γ (cw w_J6_numberOfLeadingZeros_0f7a4) s α α Hh4 Lh4) (v0_h4 : Int32) (v1_h4 : Int32) (ls : Array Slot) (hl : lv_has ls 2 [(0, .int v0_h4), (1, .int v1_h4)]) (hf : f_J6_numberOfLeadingZeros_0f7a4_J61 n v0_h4 v1_h4 = some res), W p l e (hp_rm 0 0 0) s m ([.int a0] : List Value).toArray below meth c Hh4 Lh4 0 0 (MQ below (hp_Qi Γ (fun r β => β = α ∧ r = res)) ([.int a0] : List Value).toArray s 0 0 (hp_A Γ)) (F0 m 61 ls []) := by
          intro Hh4 Lh4 Bh4 v0_h4 v1_h4 ls hl hf
          unfold f_J6_numberOfLeadingZeros_0f7a4_J61 at hf
          refine lv_iload_n hx hb dJ6_numberOfLeadingZeros_0f7a4_61 rfl (lv_at hl 0 rfl) (hp_n (n := 62) rfl ?_)
          refine lv_iconst (v := 4) hx hb dJ6_numberOfLeadingZeros_0f7a4_62 (by decide) (hp_n (n := 63) rfl ?_)
          have J73 : ∀ (Hh5 : Heap) (Lh5 : List Loc) (Bh5 : hp_B Γ (cw w_J6_numberOfLeadingZeros_0f7a4) s α α Hh5 Lh5) (v0_h5 : Int32) (v1_h5 : Int32) (ls : Array Slot) (hl : lv_has ls 2 [(0, .int v0_h5), (1, .int v1_h5)]) (hf : f_J6_numberOfLeadingZeros_0f7a4_J73 n v0_h5 v1_h5 = some res), W p l e (hp_rm 0 0 0) s m ([.int a0] : List Value).toArray below meth c Hh5 Lh5 0 0 (MQ below (hp_Qi Γ (fun r β => β = α ∧ r = res)) ([.int a0] : List Value).toArray s 0 0 (hp_A Γ)) (F0 m 73 ls []) := by
            intro Hh5 Lh5 Bh5 v0_h5 v1_h5 ls hl hf
            unfold f_J6_numberOfLeadingZeros_0f7a4_J73 at hf
            refine lv_iload_n hx hb dJ6_numberOfLeadingZeros_0f7a4_73 rfl (lv_at hl 1 rfl) (hp_n (n := 74) rfl ?_)
            refine lv_iload_n hx hb dJ6_numberOfLeadingZeros_0f7a4_74 rfl (lv_at hl 0 rfl) (hp_n (n := 75) rfl ?_)
            refine lv_iconst (v := 1) hx hb dJ6_numberOfLeadingZeros_0f7a4_75 (by decide) (hp_n (n := 76) rfl ?_)
            refine lv_iushr hx hb dJ6_numberOfLeadingZeros_0f7a4_76 rfl (hp_n (n := 77) rfl ?_)
            refine lv_isub hx hb dJ6_numberOfLeadingZeros_0f7a4_77 (hp_n (n := 78) rfl ?_)
            cases hf
            exact q_iret C Bh5 hr hlk ⟨rfl, rfl⟩ dJ6_numberOfLeadingZeros_0f7a4_78
          refine lv_icmp_lt (tgt := 73) hx hb dJ6_numberOfLeadingZeros_0f7a4_63 (by decide) (fun c6 => ?_) (fun c6 => hp_n (n := 66) rfl ?_)
          ·
            replace hf := ms_iT c6 hf
            exact J73 Hh4 Lh4 Bh4 v0_h4 v1_h4 ls (lv_sub hl [0, 1] rfl) hf
          ·
            replace hf := ms_iF c6 hf
            obtain ⟨x7, ex7⟩ : ∃ y : Int32, y = v1_h4 + (-2) := ⟨_, rfl⟩
            replace hf := ms_lE ex7 hf
            refine lv_iinc (v := x7) (lv' := [(1, .int x7), (0, .int v0_h4)]) hx hb dJ6_numberOfLeadingZeros_0f7a4_66 hl (k := 1) rfl (by rw [ex7]; rfl) (by decide) rfl (fun ls hl => hp_n (n := 69) rfl ?_)
            refine lv_iload_n hx hb dJ6_numberOfLeadingZeros_0f7a4_69 rfl (lv_at hl 1 rfl) (hp_n (n := 70) rfl ?_)
            refine lv_iconst (v := 2) hx hb dJ6_numberOfLeadingZeros_0f7a4_70 (by decide) (hp_n (n := 71) rfl ?_)
            refine lv_iushr hx hb dJ6_numberOfLeadingZeros_0f7a4_71 rfl (hp_n (n := 72) rfl ?_)
            refine lv_topi (fun x8 ex8 => ?_)
            replace hf := ms_lE ex8 hf
            refine lv_istore_n (lv' := [(0, .int x8), (1, .int x7)]) hx hb dJ6_numberOfLeadingZeros_0f7a4_72 rfl hl (by decide) rfl (fun ls hl => hp_n (n := 73) rfl ?_)
            exact J73 Hh4 Lh4 Bh4 x8 x7 ls (lv_sub hl [0, 1] rfl) hf
        refine lv_icmp_lt (tgt := 61) hx hb dJ6_numberOfLeadingZeros_0f7a4_51 (by decide) (fun c9 => ?_) (fun c9 => hp_n (n := 54) rfl ?_)
        ·
          replace hf := ms_iT c9 hf
          exact J61 Hh3 Lh3 Bh3 v0_h3 v1_h3 ls (lv_sub hl [0, 1] rfl) hf
        ·
          replace hf := ms_iF c9 hf
          obtain ⟨x10, ex10⟩ : ∃ y : Int32, y = v1_h3 + (-4) := ⟨_, rfl⟩
          replace hf := ms_lE ex10 hf
          refine lv_iinc (v := x10) (lv' := [(1, .int x10), (0, .int v0_h3)]) hx hb dJ6_numberOfLeadingZeros_0f7a4_54 hl (k := 1) rfl (by rw [ex10]; rfl) (by decide) rfl (fun ls hl => hp_n (n := 57) rfl ?_)
          refine lv_iload_n hx hb dJ6_numberOfLeadingZeros_0f7a4_57 rfl (lv_at hl 1 rfl) (hp_n (n := 58) rfl ?_)
          refine lv_iconst (v := 4) hx hb dJ6_numberOfLeadingZeros_0f7a4_58 (by decide) (hp_n (n := 59) rfl ?_)
          refine lv_iushr hx hb dJ6_numberOfLeadingZeros_0f7a4_59 rfl (hp_n (n := 60) rfl ?_)
          refine lv_topi (fun x11 ex11 => ?_)
          replace hf := ms_lE ex11 hf
          refine lv_istore_n (lv' := [(0, .int x11), (1, .int x10)]) hx hb dJ6_numberOfLeadingZeros_0f7a4_60 rfl hl (by decide) rfl (fun ls hl => hp_n (n := 61) rfl ?_)
          exact J61 Hh3 Lh3 Bh3 x11 x10 ls (lv_sub hl [0, 1] rfl) hf
      refine lv_icmp_lt (tgt := 48) hx hb dJ6_numberOfLeadingZeros_0f7a4_37 (by decide) (fun c12 => ?_) (fun c12 => hp_n (n := 40) rfl ?_)
      ·
        replace hf := ms_iT c12 hf
        exact J48 Hh2 Lh2 Bh2 v0_h2 v1_h2 ls (lv_sub hl [0, 1] rfl) hf
      ·
        replace hf := ms_iF c12 hf
        obtain ⟨x13, ex13⟩ : ∃ y : Int32, y = v1_h2 + (-8) := ⟨_, rfl⟩
        replace hf := ms_lE ex13 hf
        refine lv_iinc (v := x13) (lv' := [(1, .int x13), (0, .int v0_h2)]) hx hb dJ6_numberOfLeadingZeros_0f7a4_40 hl (k := 1) rfl (by rw [ex13]; rfl) (by decide) rfl (fun ls hl => hp_n (n := 43) rfl ?_)
        refine lv_iload_n hx hb dJ6_numberOfLeadingZeros_0f7a4_43 rfl (lv_at hl 1 rfl) (hp_n (n := 44) rfl ?_)
        refine lv_bipush (v := 8) hx hb dJ6_numberOfLeadingZeros_0f7a4_44 (by decide) (hp_n (n := 46) rfl ?_)
        refine lv_iushr hx hb dJ6_numberOfLeadingZeros_0f7a4_46 rfl (hp_n (n := 47) rfl ?_)
        refine lv_topi (fun x14 ex14 => ?_)
        replace hf := ms_lE ex14 hf
        refine lv_istore_n (lv' := [(0, .int x14), (1, .int x13)]) hx hb dJ6_numberOfLeadingZeros_0f7a4_47 rfl hl (by decide) rfl (fun ls hl => hp_n (n := 48) rfl ?_)
        exact J48 Hh2 Lh2 Bh2 x14 x13 ls (lv_sub hl [0, 1] rfl) hf
    refine lv_icmp_lt (tgt := 33) hx hb dJ6_numberOfLeadingZeros_0f7a4_22 (by decide) (fun c15 => ?_) (fun c15 => hp_n (n := 25) rfl ?_)
    ·
      replace hf := ms_iT c15 hf
      exact J33 s.heap [] B a0 (31 : Int32) ls (lv_sub hl [1, 0] rfl) hf
    ·
      replace hf := ms_iF c15 hf
      obtain ⟨x16, ex16⟩ : ∃ y : Int32, y = (31 : Int32) + (-16) := ⟨_, rfl⟩
      replace hf := ms_lE ex16 hf
      refine lv_iinc (v := x16) (lv' := [(1, .int x16), (0, .int a0)]) hx hb dJ6_numberOfLeadingZeros_0f7a4_25 hl (k := 0) rfl (by rw [ex16]; rfl) (by decide) rfl (fun ls hl => hp_n (n := 28) rfl ?_)
      refine lv_iload_n hx hb dJ6_numberOfLeadingZeros_0f7a4_28 rfl (lv_at hl 1 rfl) (hp_n (n := 29) rfl ?_)
      refine lv_bipush (v := 16) hx hb dJ6_numberOfLeadingZeros_0f7a4_29 (by decide) (hp_n (n := 31) rfl ?_)
      refine lv_iushr hx hb dJ6_numberOfLeadingZeros_0f7a4_31 rfl (hp_n (n := 32) rfl ?_)
      refine lv_topi (fun x17 ex17 => ?_)
      replace hf := ms_lE ex17 hf
      refine lv_istore_n (lv' := [(0, .int x17), (1, .int x16)]) hx hb dJ6_numberOfLeadingZeros_0f7a4_32 rfl hl (by decide) rfl (fun ls hl => hp_n (n := 33) rfl ?_)
      exact J33 s.heap [] B x17 x16 ls (lv_sub hl [0, 1] rfl) hf
  ·
    replace hf := ms_iF c1 hf
    refine lv_iload_n hx hb dJ6_numberOfLeadingZeros_0f7a4_4 rfl (lv_at hl 0 rfl) (hp_n (n := 5) rfl ?_)
    refine lv_if_ne (tgt := 13) hx hb dJ6_numberOfLeadingZeros_0f7a4_5 (by decide) (fun c18 => ?_) (fun c18 => hp_n (n := 8) rfl ?_)
    ·
      replace hf := ms_iF c18 hf
      refine lv_iconst (v := 0) hx hb dJ6_numberOfLeadingZeros_0f7a4_13 (by decide) (hp_n (n := 14) rfl ?_)
      cases hf
      exact q_iret C B hr hlk ⟨rfl, rfl⟩ dJ6_numberOfLeadingZeros_0f7a4_14
    ·
      replace hf := ms_iT c18 hf
      refine lv_bipush (v := 32) hx hb dJ6_numberOfLeadingZeros_0f7a4_8 (by decide) (hp_n (n := 10) rfl ?_)
      refine lv_goto (tgt := 14) hx hb dJ6_numberOfLeadingZeros_0f7a4_10 (by decide) ?_
      cases hf
      exact q_iret C B hr hlk ⟨rfl, rfl⟩ dJ6_numberOfLeadingZeros_0f7a4_14
def f_J6_highestOneBit_0f7a4 (n : Nat) (a0 : Int32) : Option Int32 :=
  ms_b (f_J6_numberOfLeadingZeros_0f7a4 n a0) fun rh1 =>
  some (a0 &&& (((-2147483648 : Int32)).toUInt32 >>> ((rh1).toUInt32 &&& Int32.toUInt32 31)).toInt32)
set_option maxRecDepth 100000 in
set_option maxHeartbeats 4000000 in
theorem n_J6_highestOneBit_0f7a4 (n : Nat) (Γ : hp_G) (l : Launch) (α : hp_T) (g : GC α) (a0 : Int32) (res : Int32) (hf : f_J6_highestOneBit_0f7a4 n a0 = some res) : Met l yJ6_highestOneBit_0f7a4 (hp_ws yJ6_highestOneBit_0f7a4 cJ6_highestOneBit_0f7a4 1 (some .int)) (hp_rm 1 0 0) (hp_Pc Γ α [.int a0]) (hp_Qi Γ (fun r β => β = α ∧ r = res)) 0 0 (hp_A Γ) := by
  unfold f_J6_highestOneBit_0f7a4 at hf
  refine hp_start (by decide) ?_
  intro p e s m below meth c C hr hlk B0 hnm
  have C : hp_C Γ p m c cJ6_highestOneBit_0f7a4 1 s ([.int a0] : List Value).toArray RJ6 := C
  have hx := C.1.1
  have hb := C.1.2.1
  have hown := C.1.2.2.2.1
  have hts := C.1.2.2.2.2
  have B : hp_B Γ (cw w_J6_highestOneBit_0f7a4) s α α s.heap [] := ⟨B0.1, B0.2.1, cw_rf g⟩
  have hl := lv_entry ([.int a0]) (n := 1) (Nat.le_of_ble_eq_true rfl)
  show W p l e (hp_rm 1 0 0) s m ([.int a0] : List Value).toArray below meth c s.heap [] 0 0 (MQ below (hp_Qi Γ (fun r β => β = α ∧ r = res)) ([.int a0] : List Value).toArray s 0 0 (hp_A Γ)) (entryFrame m ([.int a0] : List Value).toArray 1)
  rw [lg_entry_eq]
  generalize (lg_sl ([.int a0]) ++ List.replicate (1 - (lg_sl ([.int a0])).length) Slot.unset).toArray = ls at hl ⊢
  have hl : lv_has ls 1 [(0, .int a0)] := hl
  refine lv_iload_n hx hb dJ6_highestOneBit_0f7a4_0 rfl (lv_at hl 0 rfl) (hp_n (n := 1) rfl ?_)
  refine lv_ldc hx hb hown (hts _ kc_J6_127) dJ6_highestOneBit_0f7a4_1 (hp_n (n := 3) rfl ?_)
  refine lv_iload_n hx hb dJ6_highestOneBit_0f7a4_3 rfl (lv_at hl 0 rfl) (hp_n (n := 4) rfl ?_)
  obtain ⟨rh1, qh1, hf⟩ := ms_bE hf
  refine d_pi (pc' := 7) B (hp_runS (As := [.int a0]) (rest := [.int (-2147483648 : Int32), .int a0]) C B (n_J6_numberOfLeadingZeros_0f7a4 n Γ l α B.2.2.1 a0 rh1 qh1) lb_J6_numberOfLeadingZeros_0f7a4 ls_J6_numberOfLeadingZeros_0f7a4 lk_J6_51 rfl (by decide) rfl hl.1 rfl (Nat.le_of_ble_eq_true rfl) dJ6_highestOneBit_0f7a4_4 ⟨Nat.le_refl _, Nat.le_refl _⟩) rfl (fun Hh1 Lh1 Bh1 => ?_)
  refine lv_iushr hx hb dJ6_highestOneBit_0f7a4_7 rfl (hp_n (n := 8) rfl ?_)
  refine lv_iand hx hb dJ6_highestOneBit_0f7a4_8 (hp_n (n := 9) rfl ?_)
  cases hf
  exact q_iret C Bh1 hr hlk ⟨rfl, rfl⟩ dJ6_highestOneBit_0f7a4_9
def f_X11_firstPartOf (n : Nat) (a0 : Int32) : Option Int32 :=
  if (2 : Int32) ≤ a0 then
    ms_b (f_J6_highestOneBit_0f7a4 n (a0 - (1 : Int32))) fun rh2 =>
    some rh2
  else
    some (0 : Int32)
set_option maxRecDepth 100000 in
set_option maxHeartbeats 4000000 in
theorem n_X11_firstPartOf (n : Nat) (Γ : hp_G) (l : Launch) (α : hp_T) (g : GC α) (a0 : Int32) (res : Int32) (hf : f_X11_firstPartOf n a0 = some res) : Met l yX11_firstPartOf (hp_ws yX11_firstPartOf cX11_firstPartOf 1 (some .int)) (hp_rm 2 0 0) (hp_Pc Γ α [.int a0]) (hp_Qi Γ (fun r β => β = α ∧ r = res)) 0 0 (hp_A Γ) := by
  unfold f_X11_firstPartOf at hf
  refine hp_start (by decide) ?_
  intro p e s m below meth c C hr hlk B0 hnm
  have C : hp_C Γ p m c cX11_firstPartOf 1 s ([.int a0] : List Value).toArray RX11 := C
  have hx := C.1.1
  have hb := C.1.2.1
  have hown := C.1.2.2.2.1
  have hts := C.1.2.2.2.2
  have B : hp_B Γ (cw w_X11_firstPartOf) s α α s.heap [] := ⟨B0.1, B0.2.1, cw_rf g⟩
  have hl := lv_entry ([.int a0]) (n := 1) (Nat.le_of_ble_eq_true rfl)
  show W p l e (hp_rm 2 0 0) s m ([.int a0] : List Value).toArray below meth c s.heap [] 0 0 (MQ below (hp_Qi Γ (fun r β => β = α ∧ r = res)) ([.int a0] : List Value).toArray s 0 0 (hp_A Γ)) (entryFrame m ([.int a0] : List Value).toArray 1)
  rw [lg_entry_eq]
  generalize (lg_sl ([.int a0]) ++ List.replicate (1 - (lg_sl ([.int a0])).length) Slot.unset).toArray = ls at hl ⊢
  have hl : lv_has ls 1 [(0, .int a0)] := hl
  refine lv_iload_n hx hb dX11_firstPartOf_0 rfl (lv_at hl 0 rfl) (hp_n (n := 1) rfl ?_)
  refine lv_iconst (v := 2) hx hb dX11_firstPartOf_1 (by decide) (hp_n (n := 2) rfl ?_)
  refine lv_icmp_ge (tgt := 9) hx hb dX11_firstPartOf_2 (by decide) (fun c1 => ?_) (fun c1 => hp_n (n := 5) rfl ?_)
  ·
    replace hf := ms_iT c1 hf
    refine lv_iload_n hx hb dX11_firstPartOf_9 rfl (lv_at hl 0 rfl) (hp_n (n := 10) rfl ?_)
    refine lv_iconst (v := 1) hx hb dX11_firstPartOf_10 (by decide) (hp_n (n := 11) rfl ?_)
    refine lv_isub hx hb dX11_firstPartOf_11 (hp_n (n := 12) rfl ?_)
    obtain ⟨rh2, qh2, hf⟩ := ms_bE hf
    refine d_pi (pc' := 15) B (hp_runS (As := [.int (a0 - (1 : Int32))]) (rest := []) C B (n_J6_highestOneBit_0f7a4 n Γ l α B.2.2.1 (a0 - (1 : Int32)) rh2 qh2) lb_J6_highestOneBit_0f7a4 ls_J6_highestOneBit_0f7a4 lk_X11_463 rfl (by decide) rfl hl.1 rfl (Nat.le_of_ble_eq_true rfl) dX11_firstPartOf_12 ⟨Nat.le_refl _, Nat.le_refl _⟩) rfl (fun Hh2 Lh2 Bh2 => ?_)
    cases hf
    exact q_iret C Bh2 hr hlk ⟨rfl, rfl⟩ dX11_firstPartOf_15
  ·
    replace hf := ms_iF c1 hf
    refine lv_iconst (v := 0) hx hb dX11_firstPartOf_5 (by decide) (hp_n (n := 6) rfl ?_)
    refine lv_goto (tgt := 15) hx hb dX11_firstPartOf_6 (by decide) ?_
    cases hf
    exact q_iret C B hr hlk ⟨rfl, rfl⟩ dX11_firstPartOf_15
def f_X8_clear (n : Nat) (α : hp_T) (a0 : Nat) : Option hp_T :=
  ms_l (hp_sI α 453 a0 (0 : Int32)) fun αh1 =>
  ms_l (hp_sI αh1 454 a0 (0 : Int32)) fun αh2 =>
  some αh2
set_option maxRecDepth 100000 in
set_option maxHeartbeats 4000000 in
theorem n_X8_clear (n : Nat) (Γ : hp_G) (l : Launch) (α : hp_T) (g : GC α) (a0 : Nat) (k0 : hp_K α a0 = 9) (res : hp_T) (hf : f_X8_clear n α a0 = some res) : Met l yX8_clear (hp_ws yX8_clear cX8_clear 1 none) (hp_rm 0 0 0) (hp_Pc Γ α [.ref a0]) (hp_Qv Γ (fun β => β = res ∧ cw w_X8_clear α β)) 0 0 (hp_A Γ) := by
  unfold f_X8_clear at hf
  refine hp_start (by decide) ?_
  intro p e s m below meth c C hr hlk B0 hnm
  have C : hp_C Γ p m c cX8_clear 1 s ([.ref a0] : List Value).toArray RX8 := C
  have hx := C.1.1
  have hb := C.1.2.1
  have hown := C.1.2.2.2.1
  have hts := C.1.2.2.2.2
  have B : hp_B Γ (cw w_X8_clear) s α α s.heap [] := ⟨B0.1, B0.2.1, cw_rf g⟩
  have hl := lv_entry ([.ref a0]) (n := 1) (Nat.le_of_ble_eq_true rfl)
  show W p l e (hp_rm 0 0 0) s m ([.ref a0] : List Value).toArray below meth c s.heap [] 0 0 (MQ below (hp_Qv Γ (fun β => β = res ∧ cw w_X8_clear α β)) ([.ref a0] : List Value).toArray s 0 0 (hp_A Γ)) (entryFrame m ([.ref a0] : List Value).toArray 1)
  rw [lg_entry_eq]
  generalize (lg_sl ([.ref a0]) ++ List.replicate (1 - (lg_sl ([.ref a0])).length) Slot.unset).toArray = ls at hl ⊢
  have hl : lv_has ls 1 [(0, .ref a0)] := hl
  refine lv_aload_n hx hb dX8_clear_0 rfl (lv_at hl 0 rfl) (hp_n (n := 1) rfl ?_)
  refine lv_iconst (v := 0) hx hb dX8_clear_1 (by decide) (hp_n (n := 2) rfl ?_)
  refine q_puti (κ := 9) (k := 3) (φ := 453) (pc' := 5) C B (cw_k B.2.2 k0) fl_X8_22 rfl rfl rfl rfl rfl rfl (cw_sI B.2.2 (by decide) (fun _ => by decide)) dX8_clear_2 rfl (fun αh1 Hh1 Lh1 eh1 Bh1 => ?_)
  replace hf := ms_lE eh1 hf
  refine lv_aload_n hx hb dX8_clear_5 rfl (lv_at hl 0 rfl) (hp_n (n := 6) rfl ?_)
  refine lv_iconst (v := 0) hx hb dX8_clear_6 (by decide) (hp_n (n := 7) rfl ?_)
  refine q_puti (κ := 9) (k := 4) (φ := 454) (pc' := 10) C Bh1 (cw_k Bh1.2.2 k0) fl_X8_26 rfl rfl rfl rfl rfl rfl (cw_sI Bh1.2.2 (by decide) (fun h => absurd h (by decide))) dX8_clear_7 rfl (fun αh2 Hh2 Lh2 eh2 Bh2 => ?_)
  replace hf := ms_lE eh2 hf
  cases hf
  exact q_vret C Bh2 hr hlk ⟨rfl, Bh2.2.2⟩ dX8_clear_10
def f_X8_put (n : Nat) (α : hp_T) (a0 : Nat) (a1 : Int32) (a2 : Int32) (a3 : Int32) : Option hp_T :=
  ms_l (hp_I α 453 a0) fun x1 =>
  if x1 < 0 then
    some α
  else
    ms_l (hp_I α 453 a0) fun x3 =>
    if (64 : Int32) ≤ x3 then
      some α
    else
      ms_l (hp_R α 450 a0) fun b5 =>
      ms_l (hp_I α 453 a0) fun x6 =>
      ms_g x6 64 <|
      ms_l (hp_sE α 21 b5 (x6).toNatClampNeg a1) fun αh8 =>
      ms_l (hp_R αh8 451 a0) fun b9 =>
      ms_l (hp_I αh8 453 a0) fun x10 =>
      ms_g x10 64 <|
      ms_l (hp_sE αh8 22 b9 (x10).toNatClampNeg a2) fun αh12 =>
      ms_l (hp_R αh12 452 a0) fun b13 =>
      ms_l (hp_I αh12 453 a0) fun x14 =>
      ms_g x14 64 <|
      ms_l (hp_sE αh12 23 b13 (x14).toNatClampNeg (a3 &&& 1)) fun αh16 =>
      ms_l (hp_I αh16 453 a0) fun x17 =>
      ms_g (x17 + (1 : Int32)) 65 <|
      ms_l (hp_sI αh16 453 a0 (x17 + (1 : Int32))) fun αh18 =>
      some αh18
set_option maxRecDepth 100000 in
set_option maxHeartbeats 4000000 in
theorem n_X8_put (n : Nat) (Γ : hp_G) (l : Launch) (α : hp_T) (g : GC α) (a0 : Nat) (k0 : hp_K α a0 = 9) (a1 : Int32) (a2 : Int32) (a3 : Int32) (res : hp_T) (hf : f_X8_put n α a0 a1 a2 a3 = some res) : Met l yX8_put (hp_ws yX8_put cX8_put 4 none) (hp_rm 0 0 0) (hp_Pc Γ α [.ref a0, .int a1, .int a2, .int a3]) (hp_Qv Γ (fun β => β = res ∧ cw w_X8_put α β)) 0 0 (hp_A Γ) := by
  unfold f_X8_put at hf
  refine hp_start (by decide) ?_
  intro p e s m below meth c C hr hlk B0 hnm
  have C : hp_C Γ p m c cX8_put 4 s ([.ref a0, .int a1, .int a2, .int a3] : List Value).toArray RX8 := C
  have hx := C.1.1
  have hb := C.1.2.1
  have hown := C.1.2.2.2.1
  have hts := C.1.2.2.2.2
  have B : hp_B Γ (cw w_X8_put) s α α s.heap [] := ⟨B0.1, B0.2.1, cw_rf g⟩
  have hl := lv_entry ([.ref a0, .int a1, .int a2, .int a3]) (n := 4) (Nat.le_of_ble_eq_true rfl)
  show W p l e (hp_rm 0 0 0) s m ([.ref a0, .int a1, .int a2, .int a3] : List Value).toArray below meth c s.heap [] 0 0 (MQ below (hp_Qv Γ (fun β => β = res ∧ cw w_X8_put α β)) ([.ref a0, .int a1, .int a2, .int a3] : List Value).toArray s 0 0 (hp_A Γ)) (entryFrame m ([.ref a0, .int a1, .int a2, .int a3] : List Value).toArray 4)
  rw [lg_entry_eq]
  generalize (lg_sl ([.ref a0, .int a1, .int a2, .int a3]) ++ List.replicate (4 - (lg_sl ([.ref a0, .int a1, .int a2, .int a3])).length) Slot.unset).toArray = ls at hl ⊢
  have hl : lv_has ls 4 [(0, .ref a0), (1, .int a1), (2, .int a2), (3, .int a3)] := hl
  refine lv_aload_n hx hb dX8_put_0 rfl (lv_at hl 0 rfl) (hp_n (n := 1) rfl ?_)
  refine q_geti (κ := 9) (k := 3) (φ := 453) (pc' := 4) C B (cw_k B.2.2 k0) fl_X8_22 rfl rfl rfl dX8_put_1 rfl (fun x1 ex1 => ?_)
  replace hf := ms_lE ex1 hf
  refine lv_if_lt (tgt := 56) hx hb dX8_put_4 (by decide) (fun c2 => ?_) (fun c2 => hp_n (n := 7) rfl ?_)
  ·
    replace hf := ms_iT c2 hf
    cases hf
    exact q_vret C B hr hlk ⟨rfl, B.2.2⟩ dX8_put_56
  ·
    replace hf := ms_iF c2 hf
    refine lv_aload_n hx hb dX8_put_7 rfl (lv_at hl 0 rfl) (hp_n (n := 8) rfl ?_)
    refine q_geti (κ := 9) (k := 3) (φ := 453) (pc' := 11) C B (cw_k B.2.2 k0) fl_X8_22 rfl rfl rfl dX8_put_8 rfl (fun x3 ex3 => ?_)
    replace hf := ms_lE ex3 hf
    refine lv_bipush (v := 64) hx hb dX8_put_11 (by decide) (hp_n (n := 13) rfl ?_)
    refine lv_icmp_ge (tgt := 56) hx hb dX8_put_13 (by decide) (fun c4 => ?_) (fun c4 => hp_n (n := 16) rfl ?_)
    ·
      replace hf := ms_iT c4 hf
      cases hf
      exact q_vret C B hr hlk ⟨rfl, B.2.2⟩ dX8_put_56
    ·
      replace hf := ms_iF c4 hf
      refine lv_aload_n hx hb dX8_put_16 rfl (lv_at hl 0 rfl) (hp_n (n := 17) rfl ?_)
      refine q_getr (κ := 9) (k := 0) (φ := 450) (pc' := 20) C B (cw_k B.2.2 k0) fl_X8_9 rfl rfl rfl (cw_r B.2.2 k0 rfl rfl (by decide) (by decide)) dX8_put_17 rfl (fun b5 eb5 kb5 => ?_)
      replace hf := ms_lE eb5 hf
      refine lv_aload_n hx hb dX8_put_20 rfl (lv_at hl 0 rfl) (hp_n (n := 21) rfl ?_)
      refine q_geti (κ := 9) (k := 3) (φ := 453) (pc' := 24) C B (cw_k B.2.2 k0) fl_X8_22 rfl rfl rfl dX8_put_21 rfl (fun x6 ex6 => ?_)
      replace hf := ms_lE ex6 hf
      refine lv_iload_n hx hb dX8_put_24 rfl (lv_at hl 1 rfl) (hp_n (n := 25) rfl ?_)
      obtain ⟨g7, hf⟩ := ms_gE hf
      refine q_ias (κ := 21) (n := 64) (pc' := 26) C B (cw_k B.2.2 kb5) (by decide) rfl (vi_of g7.1 g7.2) rfl (cw_sE B.2.2 (by decide)) dX8_put_25 rfl (fun αh8 Hh8 Lh8 eh8 Bh8 => ?_)
      replace hf := ms_lE eh8 hf
      refine lv_aload_n hx hb dX8_put_26 rfl (lv_at hl 0 rfl) (hp_n (n := 27) rfl ?_)
      refine q_getr (κ := 9) (k := 1) (φ := 451) (pc' := 30) C Bh8 (cw_k Bh8.2.2 k0) fl_X8_15 rfl rfl rfl (cw_r Bh8.2.2 k0 rfl rfl (by decide) (by decide)) dX8_put_27 rfl (fun b9 eb9 kb9 => ?_)
      replace hf := ms_lE eb9 hf
      refine lv_aload_n hx hb dX8_put_30 rfl (lv_at hl 0 rfl) (hp_n (n := 31) rfl ?_)
      refine q_geti (κ := 9) (k := 3) (φ := 453) (pc' := 34) C Bh8 (cw_k Bh8.2.2 k0) fl_X8_22 rfl rfl rfl dX8_put_31 rfl (fun x10 ex10 => ?_)
      replace hf := ms_lE ex10 hf
      refine lv_iload_n hx hb dX8_put_34 rfl (lv_at hl 2 rfl) (hp_n (n := 35) rfl ?_)
      obtain ⟨g11, hf⟩ := ms_gE hf
      refine q_ias (κ := 22) (n := 64) (pc' := 36) C Bh8 (cw_k Bh8.2.2 kb9) (by decide) rfl (vi_of g11.1 g11.2) rfl (cw_sE Bh8.2.2 (by decide)) dX8_put_35 rfl (fun αh12 Hh12 Lh12 eh12 Bh12 => ?_)
      replace hf := ms_lE eh12 hf
      refine lv_aload_n hx hb dX8_put_36 rfl (lv_at hl 0 rfl) (hp_n (n := 37) rfl ?_)
      refine q_getr (κ := 9) (k := 2) (φ := 452) (pc' := 40) C Bh12 (cw_k Bh12.2.2 k0) fl_X8_18 rfl rfl rfl (cw_r Bh12.2.2 k0 rfl rfl (by decide) (by decide)) dX8_put_37 rfl (fun b13 eb13 kb13 => ?_)
      replace hf := ms_lE eb13 hf
      refine lv_aload_n hx hb dX8_put_40 rfl (lv_at hl 0 rfl) (hp_n (n := 41) rfl ?_)
      refine q_geti (κ := 9) (k := 3) (φ := 453) (pc' := 44) C Bh12 (cw_k Bh12.2.2 k0) fl_X8_22 rfl rfl rfl dX8_put_41 rfl (fun x14 ex14 => ?_)
      replace hf := ms_lE ex14 hf
      refine lv_iload_n hx hb dX8_put_44 rfl (lv_at hl 3 rfl) (hp_n (n := 45) rfl ?_)
      obtain ⟨g15, hf⟩ := ms_gE hf
      refine q_zas (κ := 23) (n := 64) (pc' := 46) (y := (a3 &&& 1)) C Bh12 (cw_k Bh12.2.2 kb13) (by decide) rfl (vi_of g15.1 g15.2) rfl rfl (cw_sE Bh12.2.2 (by decide)) dX8_put_45 rfl (fun αh16 Hh16 Lh16 eh16 Bh16 => ?_)
      replace hf := ms_lE eh16 hf
      refine lv_aload_n hx hb dX8_put_46 rfl (lv_at hl 0 rfl) (hp_n (n := 47) rfl ?_)
      refine lv_dup hx hb dX8_put_47 rfl (hp_n (n := 48) rfl ?_)
      refine q_geti (κ := 9) (k := 3) (φ := 453) (pc' := 51) C Bh16 (cw_k Bh16.2.2 k0) fl_X8_22 rfl rfl rfl dX8_put_48 rfl (fun x17 ex17 => ?_)
      replace hf := ms_lE ex17 hf
      refine lv_iconst (v := 1) hx hb dX8_put_51 (by decide) (hp_n (n := 52) rfl ?_)
      refine lv_iadd hx hb dX8_put_52 (hp_n (n := 53) rfl ?_)
      obtain ⟨g19, hf⟩ := ms_gE hf
      refine q_puti (κ := 9) (k := 3) (φ := 453) (pc' := 56) C Bh16 (cw_k Bh16.2.2 k0) fl_X8_22 rfl rfl rfl rfl rfl rfl (cw_sI Bh16.2.2 (by decide) (fun _ => ⟨g19.1, by have q9 := g19.2; omega⟩)) dX8_put_53 rfl (fun αh18 Hh18 Lh18 eh18 Bh18 => ?_)
      replace hf := ms_lE eh18 hf
      cases hf
      exact q_vret C Bh18 hr hlk ⟨rfl, Bh18.2.2⟩ dX8_put_56
def f_X8_turnRound_L2 (n : Nat) (a0 : Nat) : Nat → hp_T → Int32 → Option hp_T
  | 0, _, _ => none
  | k2 + 1, αh1, v1_h1 =>
    ms_l (hp_I αh1 453 a0) fun x2 =>
    if (x2 / (2 : Int32)) ≤ v1_h1 then
      some αh1
    else
      ms_l (hp_I αh1 453 a0) fun x4 =>
      ms_l (((x4 - (1 : Int32)) - v1_h1)) fun x5 =>
      if x5 < 0 then
        some αh1
      else
        if (64 : Int32) ≤ x5 then
          some αh1
        else
          if v1_h1 < (64 : Int32) then
            ms_l (hp_R αh1 450 a0) fun b9 =>
            ms_g v1_h1 64 <|
            ms_l ((hp_E αh1 21 b9 (v1_h1).toNatClampNeg)) fun x11 =>
            ms_l (hp_R αh1 450 a0) fun b12 =>
            ms_l (hp_R αh1 450 a0) fun b13 =>
            ms_g x5 64 <|
            ms_g v1_h1 64 <|
            ms_l (hp_sE αh1 21 b12 (v1_h1).toNatClampNeg (hp_E αh1 21 b13 (x5).toNatClampNeg)) fun αh16 =>
            ms_l (hp_R αh16 450 a0) fun b17 =>
            ms_g x5 64 <|
            ms_l (hp_sE αh16 21 b17 (x5).toNatClampNeg x11) fun αh19 =>
            ms_l (hp_R αh19 451 a0) fun b20 =>
            ms_g v1_h1 64 <|
            ms_l ((hp_E αh19 22 b20 (v1_h1).toNatClampNeg)) fun x22 =>
            ms_l (hp_R αh19 451 a0) fun b23 =>
            ms_l (hp_R αh19 451 a0) fun b24 =>
            ms_g x5 64 <|
            ms_g v1_h1 64 <|
            ms_l (hp_sE αh19 22 b23 (v1_h1).toNatClampNeg (hp_E αh19 22 b24 (x5).toNatClampNeg)) fun αh27 =>
            ms_l (hp_R αh27 451 a0) fun b28 =>
            ms_g x5 64 <|
            ms_l (hp_sE αh27 22 b28 (x5).toNatClampNeg x22) fun αh30 =>
            ms_l (hp_R αh30 452 a0) fun b31 =>
            ms_g v1_h1 64 <|
            ms_l ((hp_E αh30 23 b31 (v1_h1).toNatClampNeg)) fun x33 =>
            ms_l (hp_R αh30 452 a0) fun b34 =>
            ms_l (hp_R αh30 452 a0) fun b35 =>
            ms_g x5 64 <|
            ms_g v1_h1 64 <|
            ms_l (hp_sE αh30 23 b34 (v1_h1).toNatClampNeg ((hp_E αh30 23 b35 (x5).toNatClampNeg) &&& 1)) fun αh38 =>
            ms_l (hp_R αh38 452 a0) fun b39 =>
            ms_g x5 64 <|
            ms_l (hp_sE αh38 23 b39 (x5).toNatClampNeg (x33 &&& 1)) fun αh41 =>
            ms_l (v1_h1 + 1) fun x42 =>
            (f_X8_turnRound_L2 n a0 k2) αh41 x42
          else
            some αh1
def f_X8_turnRound (n : Nat) (α : hp_T) (a0 : Nat) : Option hp_T :=
  f_X8_turnRound_L2 n a0 n α (0 : Int32)
set_option maxRecDepth 100000 in
set_option maxHeartbeats 4000000 in
theorem n_X8_turnRound (n : Nat) (Γ : hp_G) (l : Launch) (α : hp_T) (g : GC α) (a0 : Nat) (k0 : hp_K α a0 = 9) (res : hp_T) (hf : f_X8_turnRound n α a0 = some res) : Met l yX8_turnRound (hp_ws yX8_turnRound cX8_turnRound 6 none) (hp_rm 0 0 0) (hp_Pc Γ α [.ref a0]) (hp_Qv Γ (fun β => β = res ∧ cw w_X8_turnRound α β)) 0 0 (hp_A Γ) := by
  unfold f_X8_turnRound at hf
  refine hp_start (by decide) ?_
  intro p e s m below meth c C hr hlk B0 hnm
  have C : hp_C Γ p m c cX8_turnRound 6 s ([.ref a0] : List Value).toArray RX8 := C
  have hx := C.1.1
  have hb := C.1.2.1
  have hown := C.1.2.2.2.1
  have hts := C.1.2.2.2.2
  have B : hp_B Γ (cw w_X8_turnRound) s α α s.heap [] := ⟨B0.1, B0.2.1, cw_rf g⟩
  have hl := lv_entry ([.ref a0]) (n := 6) (Nat.le_of_ble_eq_true rfl)
  show W p l e (hp_rm 0 0 0) s m ([.ref a0] : List Value).toArray below meth c s.heap [] 0 0 (MQ below (hp_Qv Γ (fun β => β = res ∧ cw w_X8_turnRound α β)) ([.ref a0] : List Value).toArray s 0 0 (hp_A Γ)) (entryFrame m ([.ref a0] : List Value).toArray 6)
  rw [lg_entry_eq]
  generalize (lg_sl ([.ref a0]) ++ List.replicate (6 - (lg_sl ([.ref a0])).length) Slot.unset).toArray = ls at hl ⊢
  have hl : lv_has ls 6 [(0, .ref a0)] := hl
  refine lv_iconst (v := 0) hx hb dX8_turnRound_0 (by decide) (hp_n (n := 1) rfl ?_)
  have J2 : ∀ (k2 : Nat) (αh1 : hp_T) (Hh1 : Heap) (Lh1 : List Loc) (Bh1 : hp_B Γ (cw w_X8_turnRound) s α αh1 Hh1 Lh1) (v1_h1 : Int32) (ls : Array Slot) (hl : lv_has ls 6 [(0, .ref a0), (1, .int v1_h1)]) (hf : f_X8_turnRound_L2 n a0 k2 αh1 v1_h1 = some res), W p l e (hp_rm 0 0 0) s m ([.ref a0] : List Value).toArray below meth c Hh1 Lh1 0 0 (MQ below (hp_Qv Γ (fun β => β = res ∧ cw w_X8_turnRound α β)) ([.ref a0] : List Value).toArray s 0 0 (hp_A Γ)) (F0 m 2 ls []) := by
    intro k2
    induction k2 with
    | zero => intro αh1 Hh1 Lh1 Bh1 v1_h1 ls hl hf; rw [f_X8_turnRound_L2.eq_1] at hf; cases hf
    | succ k2 ih2 =>
      intro αh1 Hh1 Lh1 Bh1 v1_h1 ls hl hf
      rw [f_X8_turnRound_L2.eq_2] at hf
      refine lv_iload_n hx hb dX8_turnRound_2 rfl (lv_at hl 1 rfl) (hp_n (n := 3) rfl ?_)
      refine lv_aload_n hx hb dX8_turnRound_3 rfl (lv_at hl 0 rfl) (hp_n (n := 4) rfl ?_)
      refine q_geti (κ := 9) (k := 3) (φ := 453) (pc' := 7) C Bh1 (cw_k Bh1.2.2 k0) fl_X8_22 rfl rfl rfl dX8_turnRound_4 rfl (fun x2 ex2 => ?_)
      replace hf := ms_lE ex2 hf
      refine lv_iconst (v := 2) hx hb dX8_turnRound_7 (by decide) (hp_n (n := 8) rfl ?_)
      refine lv_idiv hx hb dX8_turnRound_8 (by decide) (hp_n (n := 9) rfl ?_)
      refine lv_icmp_ge (tgt := 126) hx hb dX8_turnRound_9 (by decide) (fun c3 => ?_) (fun c3 => hp_n (n := 12) rfl ?_)
      ·
        replace hf := ms_iT c3 hf
        cases hf
        exact q_vret C Bh1 hr hlk ⟨rfl, Bh1.2.2⟩ dX8_turnRound_126
      ·
        replace hf := ms_iF c3 hf
        refine lv_aload_n hx hb dX8_turnRound_12 rfl (lv_at hl 0 rfl) (hp_n (n := 13) rfl ?_)
        refine q_geti (κ := 9) (k := 3) (φ := 453) (pc' := 16) C Bh1 (cw_k Bh1.2.2 k0) fl_X8_22 rfl rfl rfl dX8_turnRound_13 rfl (fun x4 ex4 => ?_)
        replace hf := ms_lE ex4 hf
        refine lv_iconst (v := 1) hx hb dX8_turnRound_16 (by decide) (hp_n (n := 17) rfl ?_)
        refine lv_isub hx hb dX8_turnRound_17 (hp_n (n := 18) rfl ?_)
        refine lv_iload_n hx hb dX8_turnRound_18 rfl (lv_at hl 1 rfl) (hp_n (n := 19) rfl ?_)
        refine lv_isub hx hb dX8_turnRound_19 (hp_n (n := 20) rfl ?_)
        refine lv_topi (fun x5 ex5 => ?_)
        replace hf := ms_lE ex5 hf
        refine lv_istore_n (lv' := [(2, .int x5), (0, .ref a0), (1, .int v1_h1)]) hx hb dX8_turnRound_20 rfl hl (by decide) rfl (fun ls hl => hp_n (n := 21) rfl ?_)
        refine lv_iload_n hx hb dX8_turnRound_21 rfl (lv_at hl 0 rfl) (hp_n (n := 22) rfl ?_)
        refine lv_if_lt (tgt := 37) hx hb dX8_turnRound_22 (by decide) (fun c6 => ?_) (fun c6 => hp_n (n := 25) rfl ?_)
        ·
          replace hf := ms_iT c6 hf
          cases hf
          exact q_vret C Bh1 hr hlk ⟨rfl, Bh1.2.2⟩ dX8_turnRound_37
        ·
          replace hf := ms_iF c6 hf
          refine lv_iload_n hx hb dX8_turnRound_25 rfl (lv_at hl 0 rfl) (hp_n (n := 26) rfl ?_)
          refine lv_bipush (v := 64) hx hb dX8_turnRound_26 (by decide) (hp_n (n := 28) rfl ?_)
          refine lv_icmp_ge (tgt := 37) hx hb dX8_turnRound_28 (by decide) (fun c7 => ?_) (fun c7 => hp_n (n := 31) rfl ?_)
          ·
            replace hf := ms_iT c7 hf
            cases hf
            exact q_vret C Bh1 hr hlk ⟨rfl, Bh1.2.2⟩ dX8_turnRound_37
          ·
            replace hf := ms_iF c7 hf
            refine lv_iload_n hx hb dX8_turnRound_31 rfl (lv_at hl 2 rfl) (hp_n (n := 32) rfl ?_)
            refine lv_bipush (v := 64) hx hb dX8_turnRound_32 (by decide) (hp_n (n := 34) rfl ?_)
            refine lv_icmp_lt (tgt := 38) hx hb dX8_turnRound_34 (by decide) (fun c8 => ?_) (fun c8 => hp_n (n := 37) rfl ?_)
            ·
              replace hf := ms_iT c8 hf
              refine lv_aload_n hx hb dX8_turnRound_38 rfl (lv_at hl 1 rfl) (hp_n (n := 39) rfl ?_)
              refine q_getr (κ := 9) (k := 0) (φ := 450) (pc' := 42) C Bh1 (cw_k Bh1.2.2 k0) fl_X8_9 rfl rfl rfl (cw_r Bh1.2.2 k0 rfl rfl (by decide) (by decide)) dX8_turnRound_39 rfl (fun b9 eb9 kb9 => ?_)
              replace hf := ms_lE eb9 hf
              refine lv_iload_n hx hb dX8_turnRound_42 rfl (lv_at hl 2 rfl) (hp_n (n := 43) rfl ?_)
              obtain ⟨g10, hf⟩ := ms_gE hf
              refine q_ial (κ := 21) (n := 64) (pc' := 44) C Bh1 (cw_k Bh1.2.2 kb9) (by decide) rfl (vi_of g10.1 g10.2) dX8_turnRound_43 rfl ?_
              refine lv_topi (fun x11 ex11 => ?_)
              replace hf := ms_lE ex11 hf
              refine lv_istore_n (lv' := [(3, .int x11), (2, .int x5), (0, .ref a0), (1, .int v1_h1)]) hx hb dX8_turnRound_44 rfl hl (by decide) rfl (fun ls hl => hp_n (n := 45) rfl ?_)
              refine lv_aload_n hx hb dX8_turnRound_45 rfl (lv_at hl 2 rfl) (hp_n (n := 46) rfl ?_)
              refine q_getr (κ := 9) (k := 0) (φ := 450) (pc' := 49) C Bh1 (cw_k Bh1.2.2 k0) fl_X8_9 rfl rfl rfl (cw_r Bh1.2.2 k0 rfl rfl (by decide) (by decide)) dX8_turnRound_46 rfl (fun b12 eb12 kb12 => ?_)
              replace hf := ms_lE eb12 hf
              refine lv_iload_n hx hb dX8_turnRound_49 rfl (lv_at hl 3 rfl) (hp_n (n := 50) rfl ?_)
              refine lv_aload_n hx hb dX8_turnRound_50 rfl (lv_at hl 2 rfl) (hp_n (n := 51) rfl ?_)
              refine q_getr (κ := 9) (k := 0) (φ := 450) (pc' := 54) C Bh1 (cw_k Bh1.2.2 k0) fl_X8_9 rfl rfl rfl (cw_r Bh1.2.2 k0 rfl rfl (by decide) (by decide)) dX8_turnRound_51 rfl (fun b13 eb13 kb13 => ?_)
              replace hf := ms_lE eb13 hf
              refine lv_iload_n hx hb dX8_turnRound_54 rfl (lv_at hl 1 rfl) (hp_n (n := 55) rfl ?_)
              obtain ⟨g14, hf⟩ := ms_gE hf
              refine q_ial (κ := 21) (n := 64) (pc' := 56) C Bh1 (cw_k Bh1.2.2 kb13) (by decide) rfl (vi_of g14.1 g14.2) dX8_turnRound_55 rfl ?_
              obtain ⟨g15, hf⟩ := ms_gE hf
              refine q_ias (κ := 21) (n := 64) (pc' := 57) C Bh1 (cw_k Bh1.2.2 kb12) (by decide) rfl (vi_of g15.1 g15.2) rfl (cw_sE Bh1.2.2 (by decide)) dX8_turnRound_56 rfl (fun αh16 Hh16 Lh16 eh16 Bh16 => ?_)
              replace hf := ms_lE eh16 hf
              refine lv_aload_n hx hb dX8_turnRound_57 rfl (lv_at hl 2 rfl) (hp_n (n := 58) rfl ?_)
              refine q_getr (κ := 9) (k := 0) (φ := 450) (pc' := 61) C Bh16 (cw_k Bh16.2.2 k0) fl_X8_9 rfl rfl rfl (cw_r Bh16.2.2 k0 rfl rfl (by decide) (by decide)) dX8_turnRound_58 rfl (fun b17 eb17 kb17 => ?_)
              replace hf := ms_lE eb17 hf
              refine lv_iload_n hx hb dX8_turnRound_61 rfl (lv_at hl 1 rfl) (hp_n (n := 62) rfl ?_)
              refine lv_iload_n hx hb dX8_turnRound_62 rfl (lv_at hl 0 rfl) (hp_n (n := 63) rfl ?_)
              obtain ⟨g18, hf⟩ := ms_gE hf
              refine q_ias (κ := 21) (n := 64) (pc' := 64) C Bh16 (cw_k Bh16.2.2 kb17) (by decide) rfl (vi_of g18.1 g18.2) rfl (cw_sE Bh16.2.2 (by decide)) dX8_turnRound_63 rfl (fun αh19 Hh19 Lh19 eh19 Bh19 => ?_)
              replace hf := ms_lE eh19 hf
              refine lv_aload_n hx hb dX8_turnRound_64 rfl (lv_at hl 2 rfl) (hp_n (n := 65) rfl ?_)
              refine q_getr (κ := 9) (k := 1) (φ := 451) (pc' := 68) C Bh19 (cw_k Bh19.2.2 k0) fl_X8_15 rfl rfl rfl (cw_r Bh19.2.2 k0 rfl rfl (by decide) (by decide)) dX8_turnRound_65 rfl (fun b20 eb20 kb20 => ?_)
              replace hf := ms_lE eb20 hf
              refine lv_iload_n hx hb dX8_turnRound_68 rfl (lv_at hl 3 rfl) (hp_n (n := 69) rfl ?_)
              obtain ⟨g21, hf⟩ := ms_gE hf
              refine q_ial (κ := 22) (n := 64) (pc' := 70) C Bh19 (cw_k Bh19.2.2 kb20) (by decide) rfl (vi_of g21.1 g21.2) dX8_turnRound_69 rfl ?_
              refine lv_topi (fun x22 ex22 => ?_)
              replace hf := ms_lE ex22 hf
              refine lv_istore (lv' := [(4, .int x22), (3, .int x11), (2, .int x5), (0, .ref a0), (1, .int v1_h1)]) hx hb dX8_turnRound_70 hl (by decide) rfl (fun ls hl => hp_n (n := 72) rfl ?_)
              refine lv_aload_n hx hb dX8_turnRound_72 rfl (lv_at hl 3 rfl) (hp_n (n := 73) rfl ?_)
              refine q_getr (κ := 9) (k := 1) (φ := 451) (pc' := 76) C Bh19 (cw_k Bh19.2.2 k0) fl_X8_15 rfl rfl rfl (cw_r Bh19.2.2 k0 rfl rfl (by decide) (by decide)) dX8_turnRound_73 rfl (fun b23 eb23 kb23 => ?_)
              replace hf := ms_lE eb23 hf
              refine lv_iload_n hx hb dX8_turnRound_76 rfl (lv_at hl 4 rfl) (hp_n (n := 77) rfl ?_)
              refine lv_aload_n hx hb dX8_turnRound_77 rfl (lv_at hl 3 rfl) (hp_n (n := 78) rfl ?_)
              refine q_getr (κ := 9) (k := 1) (φ := 451) (pc' := 81) C Bh19 (cw_k Bh19.2.2 k0) fl_X8_15 rfl rfl rfl (cw_r Bh19.2.2 k0 rfl rfl (by decide) (by decide)) dX8_turnRound_78 rfl (fun b24 eb24 kb24 => ?_)
              replace hf := ms_lE eb24 hf
              refine lv_iload_n hx hb dX8_turnRound_81 rfl (lv_at hl 2 rfl) (hp_n (n := 82) rfl ?_)
              obtain ⟨g25, hf⟩ := ms_gE hf
              refine q_ial (κ := 22) (n := 64) (pc' := 83) C Bh19 (cw_k Bh19.2.2 kb24) (by decide) rfl (vi_of g25.1 g25.2) dX8_turnRound_82 rfl ?_
              obtain ⟨g26, hf⟩ := ms_gE hf
              refine q_ias (κ := 22) (n := 64) (pc' := 84) C Bh19 (cw_k Bh19.2.2 kb23) (by decide) rfl (vi_of g26.1 g26.2) rfl (cw_sE Bh19.2.2 (by decide)) dX8_turnRound_83 rfl (fun αh27 Hh27 Lh27 eh27 Bh27 => ?_)
              replace hf := ms_lE eh27 hf
              refine lv_aload_n hx hb dX8_turnRound_84 rfl (lv_at hl 3 rfl) (hp_n (n := 85) rfl ?_)
              refine q_getr (κ := 9) (k := 1) (φ := 451) (pc' := 88) C Bh27 (cw_k Bh27.2.2 k0) fl_X8_15 rfl rfl rfl (cw_r Bh27.2.2 k0 rfl rfl (by decide) (by decide)) dX8_turnRound_85 rfl (fun b28 eb28 kb28 => ?_)
              replace hf := ms_lE eb28 hf
              refine lv_iload_n hx hb dX8_turnRound_88 rfl (lv_at hl 2 rfl) (hp_n (n := 89) rfl ?_)
              refine lv_iload hx hb dX8_turnRound_89 (lv_at hl 0 rfl) (hp_n (n := 91) rfl ?_)
              obtain ⟨g29, hf⟩ := ms_gE hf
              refine q_ias (κ := 22) (n := 64) (pc' := 92) C Bh27 (cw_k Bh27.2.2 kb28) (by decide) rfl (vi_of g29.1 g29.2) rfl (cw_sE Bh27.2.2 (by decide)) dX8_turnRound_91 rfl (fun αh30 Hh30 Lh30 eh30 Bh30 => ?_)
              replace hf := ms_lE eh30 hf
              refine lv_aload_n hx hb dX8_turnRound_92 rfl (lv_at hl 3 rfl) (hp_n (n := 93) rfl ?_)
              refine q_getr (κ := 9) (k := 2) (φ := 452) (pc' := 96) C Bh30 (cw_k Bh30.2.2 k0) fl_X8_18 rfl rfl rfl (cw_r Bh30.2.2 k0 rfl rfl (by decide) (by decide)) dX8_turnRound_93 rfl (fun b31 eb31 kb31 => ?_)
              replace hf := ms_lE eb31 hf
              refine lv_iload_n hx hb dX8_turnRound_96 rfl (lv_at hl 4 rfl) (hp_n (n := 97) rfl ?_)
              obtain ⟨g32, hf⟩ := ms_gE hf
              refine q_zal (κ := 23) (n := 64) (pc' := 98) C Bh30 (cw_k Bh30.2.2 kb31) (by decide) rfl (vi_of g32.1 g32.2) dX8_turnRound_97 rfl ?_
              refine lv_topi (fun x33 ex33 => ?_)
              replace hf := ms_lE ex33 hf
              refine lv_istore (lv' := [(5, .int x33), (4, .int x22), (3, .int x11), (2, .int x5), (0, .ref a0), (1, .int v1_h1)]) hx hb dX8_turnRound_98 hl (by decide) rfl (fun ls hl => hp_n (n := 100) rfl ?_)
              refine lv_aload_n hx hb dX8_turnRound_100 rfl (lv_at hl 4 rfl) (hp_n (n := 101) rfl ?_)
              refine q_getr (κ := 9) (k := 2) (φ := 452) (pc' := 104) C Bh30 (cw_k Bh30.2.2 k0) fl_X8_18 rfl rfl rfl (cw_r Bh30.2.2 k0 rfl rfl (by decide) (by decide)) dX8_turnRound_101 rfl (fun b34 eb34 kb34 => ?_)
              replace hf := ms_lE eb34 hf
              refine lv_iload_n hx hb dX8_turnRound_104 rfl (lv_at hl 5 rfl) (hp_n (n := 105) rfl ?_)
              refine lv_aload_n hx hb dX8_turnRound_105 rfl (lv_at hl 4 rfl) (hp_n (n := 106) rfl ?_)
              refine q_getr (κ := 9) (k := 2) (φ := 452) (pc' := 109) C Bh30 (cw_k Bh30.2.2 k0) fl_X8_18 rfl rfl rfl (cw_r Bh30.2.2 k0 rfl rfl (by decide) (by decide)) dX8_turnRound_106 rfl (fun b35 eb35 kb35 => ?_)
              replace hf := ms_lE eb35 hf
              refine lv_iload_n hx hb dX8_turnRound_109 rfl (lv_at hl 3 rfl) (hp_n (n := 110) rfl ?_)
              obtain ⟨g36, hf⟩ := ms_gE hf
              refine q_zal (κ := 23) (n := 64) (pc' := 111) C Bh30 (cw_k Bh30.2.2 kb35) (by decide) rfl (vi_of g36.1 g36.2) dX8_turnRound_110 rfl ?_
              obtain ⟨g37, hf⟩ := ms_gE hf
              refine q_zas (κ := 23) (n := 64) (pc' := 112) (y := ((hp_E αh30 23 b35 (x5).toNatClampNeg) &&& 1)) C Bh30 (cw_k Bh30.2.2 kb34) (by decide) rfl (vi_of g37.1 g37.2) rfl rfl (cw_sE Bh30.2.2 (by decide)) dX8_turnRound_111 rfl (fun αh38 Hh38 Lh38 eh38 Bh38 => ?_)
              replace hf := ms_lE eh38 hf
              refine lv_aload_n hx hb dX8_turnRound_112 rfl (lv_at hl 4 rfl) (hp_n (n := 113) rfl ?_)
              refine q_getr (κ := 9) (k := 2) (φ := 452) (pc' := 116) C Bh38 (cw_k Bh38.2.2 k0) fl_X8_18 rfl rfl rfl (cw_r Bh38.2.2 k0 rfl rfl (by decide) (by decide)) dX8_turnRound_113 rfl (fun b39 eb39 kb39 => ?_)
              replace hf := ms_lE eb39 hf
              refine lv_iload_n hx hb dX8_turnRound_116 rfl (lv_at hl 3 rfl) (hp_n (n := 117) rfl ?_)
              refine lv_iload hx hb dX8_turnRound_117 (lv_at hl 0 rfl) (hp_n (n := 119) rfl ?_)
              obtain ⟨g40, hf⟩ := ms_gE hf
              refine q_zas (κ := 23) (n := 64) (pc' := 120) (y := (x33 &&& 1)) C Bh38 (cw_k Bh38.2.2 kb39) (by decide) rfl (vi_of g40.1 g40.2) rfl rfl (cw_sE Bh38.2.2 (by decide)) dX8_turnRound_119 rfl (fun αh41 Hh41 Lh41 eh41 Bh41 => ?_)
              replace hf := ms_lE eh41 hf
              obtain ⟨x42, ex42⟩ : ∃ y : Int32, y = v1_h1 + 1 := ⟨_, rfl⟩
              replace hf := ms_lE ex42 hf
              refine lv_iinc (v := x42) (lv' := [(1, .int x42), (5, .int x33), (4, .int x22), (3, .int x11), (2, .int x5), (0, .ref a0)]) hx hb dX8_turnRound_120 hl (k := 5) rfl (by rw [ex42]; rfl) (by decide) rfl (fun ls hl => hp_n (n := 123) rfl ?_)
              refine lv_goto (tgt := 2) hx hb dX8_turnRound_123 (by decide) ?_
              exact ih2 αh41 Hh41 Lh41 Bh41 x42 ls (lv_sub hl [5, 0] rfl) hf
            ·
              replace hf := ms_iF c8 hf
              cases hf
              exact q_vret C Bh1 hr hlk ⟨rfl, Bh1.2.2⟩ dX8_turnRound_37
  refine lv_istore_n (lv' := [(1, .int (0 : Int32)), (0, .ref a0)]) hx hb dX8_turnRound_1 rfl hl (by decide) rfl (fun ls hl => hp_n (n := 2) rfl ?_)
  exact J2 n α s.heap [] B (0 : Int32) ls (lv_sub hl [1, 0] rfl) hf
def f_X8_toGrowth_J118 (n : Nat) (a0 : Nat) (αh5 : hp_T) : Option hp_T :=
  ms_b (f_X8_turnRound n αh5 a0) fun αh6 =>
  some αh6
def f_X8_toGrowth_J100 (n : Nat) (a0 : Nat) (αh4 : hp_T) (v3_h4 : Int32) (v4_h4 : Int32) (v5_h4 : Int32) : Option hp_T :=
  if v5_h4 = 0 then
    ms_b (f_X8_put n αh4 a0 v3_h4 v4_h4 (0 : Int32)) fun αh8 =>
    ms_l (hp_sI αh8 454 a0 (1 : Int32)) fun αh9 =>
    f_X8_toGrowth_J118 n a0 αh9
  else
    f_X8_toGrowth_J118 n a0 αh4
def f_X8_toGrowth_J94 (n : Nat) (a0 : Nat) (rec20 : hp_T → Int32 → Int32 → Int32 → Int32 → Int32 → Option hp_T) (αh13 : hp_T) (v1_h13 : Int32) (v3_h13 : Int32) (v4_h13 : Int32) (v5_h13 : Int32) (v6_h13 : Int32) : Option hp_T :=
  ms_l (v6_h13 + 1) fun x14 =>
  rec20 αh13 v1_h13 v3_h13 v4_h13 v5_h13 x14
def f_X8_toGrowth_L20 (n : Nat) (a0 : Nat) : Nat → hp_T → Int32 → Int32 → Int32 → Int32 → Int32 → Option hp_T
  | 0, _, _, _, _, _, _ => none
  | k20 + 1, αh3, v1_h3, v3_h3, v4_h3, v5_h3, v6_h3 =>
    if (40 : Int32) ≤ v6_h3 then
      f_X8_toGrowth_J100 n a0 αh3 v3_h3 v4_h3 v5_h3
    else
      if (v1_h3 - v3_h3) = v4_h3 then
        f_X8_toGrowth_J100 n a0 αh3 v3_h3 v4_h3 v5_h3
      else
        ms_b (f_X11_firstPartOf n v4_h3) fun rh12 =>
        if rh12 < (v1_h3 - v3_h3) then
          ms_b (f_X8_put n αh3 a0 v3_h3 rh12 (1 : Int32)) fun αh16 =>
          ms_l ((v3_h3 + rh12)) fun x17 =>
          ms_l ((v4_h3 - rh12)) fun x18 =>
          f_X8_toGrowth_J94 n a0 (f_X8_toGrowth_L20 n a0 k20) αh16 v1_h3 x17 x18 (0 : Int32) v6_h3
        else
          ms_b (f_X8_put n αh3 a0 (v3_h3 + rh12) (v4_h3 - rh12) (0 : Int32)) fun αh19 =>
          f_X8_toGrowth_J94 n a0 (f_X8_toGrowth_L20 n a0 k20) αh19 v1_h3 v3_h3 rh12 v5_h3 v6_h3
def f_X8_toGrowth (n : Nat) (α : hp_T) (a0 : Nat) (a1 : Int32) (a2 : Int32) : Option hp_T :=
  ms_b (f_X8_clear n α a0) fun αh1 =>
  if a1 = 0 then
    some αh1
  else
    f_X8_toGrowth_L20 n a0 n αh1 a1 (0 : Int32) a2 (1 : Int32) (0 : Int32)
set_option maxRecDepth 100000 in
set_option maxHeartbeats 4000000 in
theorem n_X8_toGrowth (n : Nat) (Γ : hp_G) (l : Launch) (α : hp_T) (g : GC α) (a0 : Nat) (k0 : hp_K α a0 = 9) (a1 : Int32) (a2 : Int32) (res : hp_T) (hf : f_X8_toGrowth n α a0 a1 a2 = some res) : Met l yX8_toGrowth (hp_ws yX8_toGrowth cX8_toGrowth 8 none) (hp_rm 3 0 0) (hp_Pc Γ α [.ref a0, .int a1, .int a2]) (hp_Qv Γ (fun β => β = res ∧ cw w_X8_toGrowth α β)) 0 0 (hp_A Γ) := by
  unfold f_X8_toGrowth at hf
  refine hp_start (by decide) ?_
  intro p e s m below meth c C hr hlk B0 hnm
  have C : hp_C Γ p m c cX8_toGrowth 8 s ([.ref a0, .int a1, .int a2] : List Value).toArray RX8 := C
  have hx := C.1.1
  have hb := C.1.2.1
  have hown := C.1.2.2.2.1
  have hts := C.1.2.2.2.2
  have B : hp_B Γ (cw w_X8_toGrowth) s α α s.heap [] := ⟨B0.1, B0.2.1, cw_rf g⟩
  have hl := lv_entry ([.ref a0, .int a1, .int a2]) (n := 8) (Nat.le_of_ble_eq_true rfl)
  show W p l e (hp_rm 3 0 0) s m ([.ref a0, .int a1, .int a2] : List Value).toArray below meth c s.heap [] 0 0 (MQ below (hp_Qv Γ (fun β => β = res ∧ cw w_X8_toGrowth α β)) ([.ref a0, .int a1, .int a2] : List Value).toArray s 0 0 (hp_A Γ)) (entryFrame m ([.ref a0, .int a1, .int a2] : List Value).toArray 8)
  rw [lg_entry_eq]
  generalize (lg_sl ([.ref a0, .int a1, .int a2]) ++ List.replicate (8 - (lg_sl ([.ref a0, .int a1, .int a2])).length) Slot.unset).toArray = ls at hl ⊢
  have hl : lv_has ls 8 [(0, .ref a0), (1, .int a1), (2, .int a2)] := hl
  refine lv_aload_n hx hb dX8_toGrowth_0 rfl (lv_at hl 0 rfl) (hp_n (n := 1) rfl ?_)
  obtain ⟨αh1, qh1, hf⟩ := ms_bE hf
  refine d_cv (pc' := 4) B (hp_runV (As := []) (rest := []) C B (n_X8_clear n Γ l α B.2.2.1 a0 (cw_k B.2.2 k0) αh1 qh1) lb_X8_clear lv_X8_clear lk_X8_30 (cw_k B.2.2 k0) rfl (by decide) rfl hl.1 rfl (Nat.le_of_ble_eq_true rfl) dX8_toGrowth_1 ⟨Nat.le_refl _, Nat.le_refl _⟩) (by decide) rfl (fun Hh1 Lh1 Bh1 => ?_)
  refine lv_iload_n hx hb dX8_toGrowth_4 rfl (lv_at hl 1 rfl) (hp_n (n := 5) rfl ?_)
  refine lv_if_ne (tgt := 9) hx hb dX8_toGrowth_5 (by decide) (fun c2 => ?_) (fun c2 => hp_n (n := 8) rfl ?_)
  ·
    replace hf := ms_iF c2 hf
    refine lv_iconst (v := 0) hx hb dX8_toGrowth_9 (by decide) (hp_n (n := 10) rfl ?_)
    refine lv_istore_n (lv' := [(3, .int (0 : Int32)), (0, .ref a0), (1, .int a1), (2, .int a2)]) hx hb dX8_toGrowth_10 rfl hl (by decide) rfl (fun ls hl => hp_n (n := 11) rfl ?_)
    refine lv_iload_n hx hb dX8_toGrowth_11 rfl (lv_at hl 3 rfl) (hp_n (n := 12) rfl ?_)
    refine lv_istore (lv' := [(4, .int a2), (3, .int (0 : Int32)), (0, .ref a0), (1, .int a1), (2, .int a2)]) hx hb dX8_toGrowth_12 hl (by decide) rfl (fun ls hl => hp_n (n := 14) rfl ?_)
    refine lv_iconst (v := 1) hx hb dX8_toGrowth_14 (by decide) (hp_n (n := 15) rfl ?_)
    refine lv_istore (lv' := [(5, .int (1 : Int32)), (4, .int a2), (3, .int (0 : Int32)), (0, .ref a0), (1, .int a1), (2, .int a2)]) hx hb dX8_toGrowth_15 hl (by decide) rfl (fun ls hl => hp_n (n := 17) rfl ?_)
    refine lv_iconst (v := 0) hx hb dX8_toGrowth_17 (by decide) (hp_n (n := 18) rfl ?_)
    have J20 : ∀ (k20 : Nat) (αh3 : hp_T) (Hh3 : Heap) (Lh3 : List Loc) (Bh3 : hp_B Γ (cw w_X8_toGrowth) s α αh3 Hh3 Lh3) (v1_h3 : Int32) (v3_h3 : Int32) (v4_h3 : Int32) (v5_h3 : Int32) (v6_h3 : Int32) (ls : Array Slot) (hl : lv_has ls 8 [(0, .ref a0), (1, .int v1_h3), (3, .int v3_h3), (4, .int v4_h3), (5, .int v5_h3), (6, .int v6_h3)]) (hf : f_X8_toGrowth_L20 n a0 k20 αh3 v1_h3 v3_h3 v4_h3 v5_h3 v6_h3 = some res), W p l e (hp_rm 3 0 0) s m ([.ref a0, .int a1, .int a2] : List Value).toArray below meth c Hh3 Lh3 0 0 (MQ below (hp_Qv Γ (fun β => β = res ∧ cw w_X8_toGrowth α β)) ([.ref a0, .int a1, .int a2] : List Value).toArray s 0 0 (hp_A Γ)) (F0 m 20 ls []) := by
      intro k20
      induction k20 with
      | zero => intro αh3 Hh3 Lh3 Bh3 v1_h3 v3_h3 v4_h3 v5_h3 v6_h3 ls hl hf; rw [f_X8_toGrowth_L20.eq_1] at hf; cases hf
      | succ k20 ih20 =>
        intro αh3 Hh3 Lh3 Bh3 v1_h3 v3_h3 v4_h3 v5_h3 v6_h3 ls hl hf
        rw [f_X8_toGrowth_L20.eq_2] at hf
        refine lv_iload hx hb dX8_toGrowth_20 (lv_at hl 5 rfl) (hp_n (n := 22) rfl ?_)
        refine lv_bipush (v := 40) hx hb dX8_toGrowth_22 (by decide) (hp_n (n := 24) rfl ?_)
        have J100 : ∀ (αh4 : hp_T) (Hh4 : Heap) (Lh4 : List Loc) (Bh4 : hp_B Γ (cw w_X8_toGrowth) s α αh4 Hh4 Lh4) (v3_h4 : Int32) (v4_h4 : Int32) (v5_h4 : Int32) (ls : Array Slot) (hl : lv_has ls 8 [(0, .ref a0), (3, .int v3_h4), (4, .int v4_h4), (5, .int v5_h4)]) (hf : f_X8_toGrowth_J100 n a0 αh4 v3_h4 v4_h4 v5_h4 = some res), W p l e (hp_rm 3 0 0) s m ([.ref a0, .int a1, .int a2] : List Value).toArray below meth c Hh4 Lh4 0 0 (MQ below (hp_Qv Γ (fun β => β = res ∧ cw w_X8_toGrowth α β)) ([.ref a0, .int a1, .int a2] : List Value).toArray s 0 0 (hp_A Γ)) (F0 m 100 ls []) := by
          intro αh4 Hh4 Lh4 Bh4 v3_h4 v4_h4 v5_h4 ls hl hf
          unfold f_X8_toGrowth_J100 at hf
          refine lv_iload hx hb dX8_toGrowth_100 (lv_at hl 3 rfl) (hp_n (n := 102) rfl ?_)
          have J118 : ∀ (αh5 : hp_T) (Hh5 : Heap) (Lh5 : List Loc) (Bh5 : hp_B Γ (cw w_X8_toGrowth) s α αh5 Hh5 Lh5) (ls : Array Slot) (hl : lv_has ls 8 [(0, .ref a0)]) (hf : f_X8_toGrowth_J118 n a0 αh5 = some res), W p l e (hp_rm 3 0 0) s m ([.ref a0, .int a1, .int a2] : List Value).toArray below meth c Hh5 Lh5 0 0 (MQ below (hp_Qv Γ (fun β => β = res ∧ cw w_X8_toGrowth α β)) ([.ref a0, .int a1, .int a2] : List Value).toArray s 0 0 (hp_A Γ)) (F0 m 118 ls []) := by
            intro αh5 Hh5 Lh5 Bh5 ls hl hf
            unfold f_X8_toGrowth_J118 at hf
            refine lv_aload_n hx hb dX8_toGrowth_118 rfl (lv_at hl 0 rfl) (hp_n (n := 119) rfl ?_)
            obtain ⟨αh6, qh6, hf⟩ := ms_bE hf
            refine d_cv (pc' := 122) Bh5 (hp_runV (As := []) (rest := []) C Bh5 (n_X8_turnRound n Γ l αh5 Bh5.2.2.1 a0 (cw_k Bh5.2.2 k0) αh6 qh6) lb_X8_turnRound lv_X8_turnRound lk_X8_41 (cw_k Bh5.2.2 k0) rfl (by decide) rfl hl.1 rfl (Nat.le_of_ble_eq_true rfl) dX8_toGrowth_119 ⟨Nat.le_refl _, Nat.le_refl _⟩) (by decide) rfl (fun Hh6 Lh6 Bh6 => ?_)
            cases hf
            exact q_vret C Bh6 hr hlk ⟨rfl, Bh6.2.2⟩ dX8_toGrowth_122
          refine lv_if_ne (tgt := 118) hx hb dX8_toGrowth_102 (by decide) (fun c7 => ?_) (fun c7 => hp_n (n := 105) rfl ?_)
          ·
            replace hf := ms_iF c7 hf
            exact J118 αh4 Hh4 Lh4 Bh4 ls (lv_sub hl [0] rfl) hf
          ·
            replace hf := ms_iT c7 hf
            refine lv_aload_n hx hb dX8_toGrowth_105 rfl (lv_at hl 0 rfl) (hp_n (n := 106) rfl ?_)
            refine lv_iload_n hx hb dX8_toGrowth_106 rfl (lv_at hl 1 rfl) (hp_n (n := 107) rfl ?_)
            refine lv_iload hx hb dX8_toGrowth_107 (lv_at hl 2 rfl) (hp_n (n := 109) rfl ?_)
            refine lv_iconst (v := 0) hx hb dX8_toGrowth_109 (by decide) (hp_n (n := 110) rfl ?_)
            obtain ⟨αh8, qh8, hf⟩ := ms_bE hf
            refine d_cv (pc' := 113) Bh4 (hp_runV (As := [.int v3_h4, .int v4_h4, .int (0 : Int32)]) (rest := []) C Bh4 (n_X8_put n Γ l αh4 Bh4.2.2.1 a0 (cw_k Bh4.2.2 k0) v3_h4 v4_h4 (0 : Int32) αh8 qh8) lb_X8_put lv_X8_put lk_X8_37 (cw_k Bh4.2.2 k0) rfl (by decide) rfl hl.1 rfl (Nat.le_of_ble_eq_true rfl) dX8_toGrowth_110 ⟨Nat.le_refl _, Nat.le_refl _⟩) (by decide) rfl (fun Hh8 Lh8 Bh8 => ?_)
            refine lv_aload_n hx hb dX8_toGrowth_113 rfl (lv_at hl 0 rfl) (hp_n (n := 114) rfl ?_)
            refine lv_iconst (v := 1) hx hb dX8_toGrowth_114 (by decide) (hp_n (n := 115) rfl ?_)
            refine q_puti (κ := 9) (k := 4) (φ := 454) (pc' := 118) C Bh8 (cw_k Bh8.2.2 k0) fl_X8_26 rfl rfl rfl rfl rfl rfl (cw_sI Bh8.2.2 (by decide) (fun h => absurd h (by decide))) dX8_toGrowth_115 rfl (fun αh9 Hh9 Lh9 eh9 Bh9 => ?_)
            replace hf := ms_lE eh9 hf
            exact J118 αh9 Hh9 Lh9 Bh9 ls (lv_sub hl [0] rfl) hf
        refine lv_icmp_ge (tgt := 100) hx hb dX8_toGrowth_24 (by decide) (fun c10 => ?_) (fun c10 => hp_n (n := 27) rfl ?_)
        ·
          replace hf := ms_iT c10 hf
          exact J100 αh3 Hh3 Lh3 Bh3 v3_h3 v4_h3 v5_h3 ls (lv_sub hl [0, 2, 3, 4] rfl) hf
        ·
          replace hf := ms_iF c10 hf
          refine lv_iload_n hx hb dX8_toGrowth_27 rfl (lv_at hl 1 rfl) (hp_n (n := 28) rfl ?_)
          refine lv_iload_n hx hb dX8_toGrowth_28 rfl (lv_at hl 2 rfl) (hp_n (n := 29) rfl ?_)
          refine lv_isub hx hb dX8_toGrowth_29 (hp_n (n := 30) rfl ?_)
          refine lv_iload hx hb dX8_toGrowth_30 (lv_at hl 3 rfl) (hp_n (n := 32) rfl ?_)
          refine lv_icmp_eq (tgt := 100) hx hb dX8_toGrowth_32 (by decide) (fun c11 => ?_) (fun c11 => hp_n (n := 35) rfl ?_)
          ·
            replace hf := ms_iT c11 hf
            exact J100 αh3 Hh3 Lh3 Bh3 v3_h3 v4_h3 v5_h3 ls (lv_sub hl [0, 2, 3, 4] rfl) hf
          ·
            replace hf := ms_iF c11 hf
            refine lv_iload hx hb dX8_toGrowth_35 (lv_at hl 3 rfl) (hp_n (n := 37) rfl ?_)
            obtain ⟨rh12, qh12, hf⟩ := ms_bE hf
            refine d_pi (pc' := 40) Bh3 (hp_runS (As := [.int v4_h3]) (rest := []) C Bh3 (n_X11_firstPartOf n Γ l αh3 Bh3.2.2.1 v4_h3 rh12 qh12) lb_X11_firstPartOf ls_X11_firstPartOf lk_X8_33 rfl (by decide) rfl hl.1 rfl (Nat.le_of_ble_eq_true rfl) dX8_toGrowth_37 ⟨Nat.le_refl _, Nat.le_refl _⟩) rfl (fun Hh12 Lh12 Bh12 => ?_)
            refine lv_istore (lv' := [(7, .int rh12), (0, .ref a0), (1, .int v1_h3), (3, .int v3_h3), (4, .int v4_h3), (5, .int v5_h3), (6, .int v6_h3)]) hx hb dX8_toGrowth_40 hl (by decide) rfl (fun ls hl => hp_n (n := 42) rfl ?_)
            refine lv_iload_n hx hb dX8_toGrowth_42 rfl (lv_at hl 2 rfl) (hp_n (n := 43) rfl ?_)
            refine lv_iload_n hx hb dX8_toGrowth_43 rfl (lv_at hl 3 rfl) (hp_n (n := 44) rfl ?_)
            refine lv_isub hx hb dX8_toGrowth_44 (hp_n (n := 45) rfl ?_)
            refine lv_iload hx hb dX8_toGrowth_45 (lv_at hl 0 rfl) (hp_n (n := 47) rfl ?_)
            have J94 : ∀ (αh13 : hp_T) (Hh13 : Heap) (Lh13 : List Loc) (Bh13 : hp_B Γ (cw w_X8_toGrowth) s α αh13 Hh13 Lh13) (v1_h13 : Int32) (v3_h13 : Int32) (v4_h13 : Int32) (v5_h13 : Int32) (v6_h13 : Int32) (ls : Array Slot) (hl : lv_has ls 8 [(0, .ref a0), (1, .int v1_h13), (3, .int v3_h13), (4, .int v4_h13), (5, .int v5_h13), (6, .int v6_h13)]) (hf : f_X8_toGrowth_J94 n a0 (f_X8_toGrowth_L20 n a0 k20) αh13 v1_h13 v3_h13 v4_h13 v5_h13 v6_h13 = some res), W p l e (hp_rm 3 0 0) s m ([.ref a0, .int a1, .int a2] : List Value).toArray below meth c Hh13 Lh13 0 0 (MQ below (hp_Qv Γ (fun β => β = res ∧ cw w_X8_toGrowth α β)) ([.ref a0, .int a1, .int a2] : List Value).toArray s 0 0 (hp_A Γ)) (F0 m 94 ls []) := by
              intro αh13 Hh13 Lh13 Bh13 v1_h13 v3_h13 v4_h13 v5_h13 v6_h13 ls hl hf
              unfold f_X8_toGrowth_J94 at hf
              obtain ⟨x14, ex14⟩ : ∃ y : Int32, y = v6_h13 + 1 := ⟨_, rfl⟩
              replace hf := ms_lE ex14 hf
              refine lv_iinc (v := x14) (lv' := [(6, .int x14), (0, .ref a0), (1, .int v1_h13), (3, .int v3_h13), (4, .int v4_h13), (5, .int v5_h13)]) hx hb dX8_toGrowth_94 hl (k := 5) rfl (by rw [ex14]; rfl) (by decide) rfl (fun ls hl => hp_n (n := 97) rfl ?_)
              refine lv_goto (tgt := 20) hx hb dX8_toGrowth_97 (by decide) ?_
              exact ih20 αh13 Hh13 Lh13 Bh13 v1_h13 v3_h13 v4_h13 v5_h13 x14 ls (lv_sub hl [1, 2, 3, 4, 5, 0] rfl) hf
            refine lv_icmp_gt (tgt := 71) hx hb dX8_toGrowth_47 (by decide) (fun c15 => ?_) (fun c15 => hp_n (n := 50) rfl ?_)
            ·
              replace hf := ms_iT c15 hf
              refine lv_aload_n hx hb dX8_toGrowth_71 rfl (lv_at hl 1 rfl) (hp_n (n := 72) rfl ?_)
              refine lv_iload_n hx hb dX8_toGrowth_72 rfl (lv_at hl 3 rfl) (hp_n (n := 73) rfl ?_)
              refine lv_iload hx hb dX8_toGrowth_73 (lv_at hl 0 rfl) (hp_n (n := 75) rfl ?_)
              refine lv_iconst (v := 1) hx hb dX8_toGrowth_75 (by decide) (hp_n (n := 76) rfl ?_)
              obtain ⟨αh16, qh16, hf⟩ := ms_bE hf
              refine d_cv (pc' := 79) Bh12 (hp_runV (As := [.int v3_h3, .int rh12, .int (1 : Int32)]) (rest := []) C Bh12 (n_X8_put n Γ l αh3 Bh12.2.2.1 a0 (cw_k Bh12.2.2 k0) v3_h3 rh12 (1 : Int32) αh16 qh16) lb_X8_put lv_X8_put lk_X8_37 (cw_k Bh12.2.2 k0) rfl (by decide) rfl hl.1 rfl (Nat.le_of_ble_eq_true rfl) dX8_toGrowth_76 ⟨Nat.le_refl _, Nat.le_refl _⟩) (by decide) rfl (fun Hh16 Lh16 Bh16 => ?_)
              refine lv_iload_n hx hb dX8_toGrowth_79 rfl (lv_at hl 3 rfl) (hp_n (n := 80) rfl ?_)
              refine lv_iload hx hb dX8_toGrowth_80 (lv_at hl 0 rfl) (hp_n (n := 82) rfl ?_)
              refine lv_iadd hx hb dX8_toGrowth_82 (hp_n (n := 83) rfl ?_)
              refine lv_topi (fun x17 ex17 => ?_)
              replace hf := ms_lE ex17 hf
              refine lv_istore_n (lv' := [(3, .int x17), (7, .int rh12), (0, .ref a0), (1, .int v1_h3), (4, .int v4_h3), (5, .int v5_h3), (6, .int v6_h3)]) hx hb dX8_toGrowth_83 rfl hl (by decide) rfl (fun ls hl => hp_n (n := 84) rfl ?_)
              refine lv_iload hx hb dX8_toGrowth_84 (lv_at hl 4 rfl) (hp_n (n := 86) rfl ?_)
              refine lv_iload hx hb dX8_toGrowth_86 (lv_at hl 1 rfl) (hp_n (n := 88) rfl ?_)
              refine lv_isub hx hb dX8_toGrowth_88 (hp_n (n := 89) rfl ?_)
              refine lv_topi (fun x18 ex18 => ?_)
              replace hf := ms_lE ex18 hf
              refine lv_istore (lv' := [(4, .int x18), (3, .int x17), (7, .int rh12), (0, .ref a0), (1, .int v1_h3), (5, .int v5_h3), (6, .int v6_h3)]) hx hb dX8_toGrowth_89 hl (by decide) rfl (fun ls hl => hp_n (n := 91) rfl ?_)
              refine lv_iconst (v := 0) hx hb dX8_toGrowth_91 (by decide) (hp_n (n := 92) rfl ?_)
              refine lv_istore (lv' := [(5, .int (0 : Int32)), (4, .int x18), (3, .int x17), (7, .int rh12), (0, .ref a0), (1, .int v1_h3), (6, .int v6_h3)]) hx hb dX8_toGrowth_92 hl (by decide) rfl (fun ls hl => hp_n (n := 94) rfl ?_)
              exact J94 αh16 Hh16 Lh16 Bh16 v1_h3 x17 x18 (0 : Int32) v6_h3 ls (lv_sub hl [4, 5, 2, 1, 0, 6] rfl) hf
            ·
              replace hf := ms_iF c15 hf
              refine lv_aload_n hx hb dX8_toGrowth_50 rfl (lv_at hl 1 rfl) (hp_n (n := 51) rfl ?_)
              refine lv_iload_n hx hb dX8_toGrowth_51 rfl (lv_at hl 3 rfl) (hp_n (n := 52) rfl ?_)
              refine lv_iload hx hb dX8_toGrowth_52 (lv_at hl 0 rfl) (hp_n (n := 54) rfl ?_)
              refine lv_iadd hx hb dX8_toGrowth_54 (hp_n (n := 55) rfl ?_)
              refine lv_iload hx hb dX8_toGrowth_55 (lv_at hl 4 rfl) (hp_n (n := 57) rfl ?_)
              refine lv_iload hx hb dX8_toGrowth_57 (lv_at hl 0 rfl) (hp_n (n := 59) rfl ?_)
              refine lv_isub hx hb dX8_toGrowth_59 (hp_n (n := 60) rfl ?_)
              refine lv_iconst (v := 0) hx hb dX8_toGrowth_60 (by decide) (hp_n (n := 61) rfl ?_)
              obtain ⟨αh19, qh19, hf⟩ := ms_bE hf
              refine d_cv (pc' := 64) Bh12 (hp_runV (As := [.int (v3_h3 + rh12), .int (v4_h3 - rh12), .int (0 : Int32)]) (rest := []) C Bh12 (n_X8_put n Γ l αh3 Bh12.2.2.1 a0 (cw_k Bh12.2.2 k0) (v3_h3 + rh12) (v4_h3 - rh12) (0 : Int32) αh19 qh19) lb_X8_put lv_X8_put lk_X8_37 (cw_k Bh12.2.2 k0) rfl (by decide) rfl hl.1 rfl (Nat.le_of_ble_eq_true rfl) dX8_toGrowth_61 ⟨Nat.le_refl _, Nat.le_refl _⟩) (by decide) rfl (fun Hh19 Lh19 Bh19 => ?_)
              refine lv_iload hx hb dX8_toGrowth_64 (lv_at hl 0 rfl) (hp_n (n := 66) rfl ?_)
              refine lv_istore (lv' := [(4, .int rh12), (7, .int rh12), (0, .ref a0), (1, .int v1_h3), (3, .int v3_h3), (5, .int v5_h3), (6, .int v6_h3)]) hx hb dX8_toGrowth_66 hl (by decide) rfl (fun ls hl => hp_n (n := 68) rfl ?_)
              refine lv_goto (tgt := 94) hx hb dX8_toGrowth_68 (by decide) ?_
              exact J94 αh19 Hh19 Lh19 Bh19 v1_h3 v3_h3 rh12 v5_h3 v6_h3 ls (lv_sub hl [2, 3, 4, 0, 5, 6] rfl) hf
    refine lv_istore (lv' := [(6, .int (0 : Int32)), (5, .int (1 : Int32)), (4, .int a2), (3, .int (0 : Int32)), (0, .ref a0), (1, .int a1), (2, .int a2)]) hx hb dX8_toGrowth_18 hl (by decide) rfl (fun ls hl => hp_n (n := 20) rfl ?_)
    exact J20 n αh1 Hh1 Lh1 Bh1 a1 (0 : Int32) a2 (1 : Int32) (0 : Int32) ls (lv_sub hl [4, 5, 3, 2, 1, 0] rfl) hf
  ·
    replace hf := ms_iT c2 hf
    cases hf
    exact q_vret C Bh1 hr hlk ⟨rfl, Bh1.2.2⟩ dX8_toGrowth_8
def f_X8_firstAt (n : Nat) (α : hp_T) (a0 : Nat) (a1 : Int32) : Option Int32 :=
  if a1 < 0 then
    some (0 : Int32)
  else
    ms_l (hp_I α 453 a0) fun x2 =>
    if x2 ≤ a1 then
      some (0 : Int32)
    else
      ms_l (hp_R α 450 a0) fun b4 =>
      if (64 : Int32) ≤ a1 then
        some (0 : Int32)
      else
        ms_l (hp_R α 450 a0) fun b6 =>
        ms_g a1 64 <|
        some (hp_E α 21 b6 (a1).toNatClampNeg)
set_option maxRecDepth 100000 in
set_option maxHeartbeats 4000000 in
theorem n_X8_firstAt (n : Nat) (Γ : hp_G) (l : Launch) (α : hp_T) (g : GC α) (a0 : Nat) (k0 : hp_K α a0 = 9) (a1 : Int32) (res : Int32) (hf : f_X8_firstAt n α a0 a1 = some res) : Met l yX8_firstAt (hp_ws yX8_firstAt cX8_firstAt 2 (some .int)) (hp_rm 0 0 0) (hp_Pc Γ α [.ref a0, .int a1]) (hp_Qi Γ (fun r β => β = α ∧ r = res)) 0 0 (hp_A Γ) := by
  unfold f_X8_firstAt at hf
  refine hp_start (by decide) ?_
  intro p e s m below meth c C hr hlk B0 hnm
  have C : hp_C Γ p m c cX8_firstAt 2 s ([.ref a0, .int a1] : List Value).toArray RX8 := C
  have hx := C.1.1
  have hb := C.1.2.1
  have hown := C.1.2.2.2.1
  have hts := C.1.2.2.2.2
  have B : hp_B Γ (cw w_X8_firstAt) s α α s.heap [] := ⟨B0.1, B0.2.1, cw_rf g⟩
  have hl := lv_entry ([.ref a0, .int a1]) (n := 2) (Nat.le_of_ble_eq_true rfl)
  show W p l e (hp_rm 0 0 0) s m ([.ref a0, .int a1] : List Value).toArray below meth c s.heap [] 0 0 (MQ below (hp_Qi Γ (fun r β => β = α ∧ r = res)) ([.ref a0, .int a1] : List Value).toArray s 0 0 (hp_A Γ)) (entryFrame m ([.ref a0, .int a1] : List Value).toArray 2)
  rw [lg_entry_eq]
  generalize (lg_sl ([.ref a0, .int a1]) ++ List.replicate (2 - (lg_sl ([.ref a0, .int a1])).length) Slot.unset).toArray = ls at hl ⊢
  have hl : lv_has ls 2 [(0, .ref a0), (1, .int a1)] := hl
  refine lv_iload_n hx hb dX8_firstAt_0 rfl (lv_at hl 1 rfl) (hp_n (n := 1) rfl ?_)
  refine lv_if_lt (tgt := 30) hx hb dX8_firstAt_1 (by decide) (fun c1 => ?_) (fun c1 => hp_n (n := 4) rfl ?_)
  ·
    replace hf := ms_iT c1 hf
    refine lv_iconst (v := 0) hx hb dX8_firstAt_30 (by decide) (hp_n (n := 31) rfl ?_)
    cases hf
    exact q_iret C B hr hlk ⟨rfl, rfl⟩ dX8_firstAt_31
  ·
    replace hf := ms_iF c1 hf
    refine lv_iload_n hx hb dX8_firstAt_4 rfl (lv_at hl 1 rfl) (hp_n (n := 5) rfl ?_)
    refine lv_aload_n hx hb dX8_firstAt_5 rfl (lv_at hl 0 rfl) (hp_n (n := 6) rfl ?_)
    refine q_geti (κ := 9) (k := 3) (φ := 453) (pc' := 9) C B (cw_k B.2.2 k0) fl_X8_22 rfl rfl rfl dX8_firstAt_6 rfl (fun x2 ex2 => ?_)
    replace hf := ms_lE ex2 hf
    refine lv_icmp_ge (tgt := 30) hx hb dX8_firstAt_9 (by decide) (fun c3 => ?_) (fun c3 => hp_n (n := 12) rfl ?_)
    ·
      replace hf := ms_iT c3 hf
      refine lv_iconst (v := 0) hx hb dX8_firstAt_30 (by decide) (hp_n (n := 31) rfl ?_)
      cases hf
      exact q_iret C B hr hlk ⟨rfl, rfl⟩ dX8_firstAt_31
    ·
      replace hf := ms_iF c3 hf
      refine lv_iload_n hx hb dX8_firstAt_12 rfl (lv_at hl 1 rfl) (hp_n (n := 13) rfl ?_)
      refine lv_aload_n hx hb dX8_firstAt_13 rfl (lv_at hl 0 rfl) (hp_n (n := 14) rfl ?_)
      refine q_getr (κ := 9) (k := 0) (φ := 450) (pc' := 17) C B (cw_k B.2.2 k0) fl_X8_9 rfl rfl rfl (cw_r B.2.2 k0 rfl rfl (by decide) (by decide)) dX8_firstAt_14 rfl (fun b4 eb4 kb4 => ?_)
      replace hf := ms_lE eb4 hf
      refine q_alen (κ := 21) (t := 0) (n := 64) (x := 64) (ty := .int) (pc' := 18) C B (cw_k B.2.2 kb4) (by decide) rfl rfl rfl dX8_firstAt_17 rfl ?_
      refine lv_icmp_ge (tgt := 30) hx hb dX8_firstAt_18 (by decide) (fun c5 => ?_) (fun c5 => hp_n (n := 21) rfl ?_)
      ·
        replace hf := ms_iT c5 hf
        refine lv_iconst (v := 0) hx hb dX8_firstAt_30 (by decide) (hp_n (n := 31) rfl ?_)
        cases hf
        exact q_iret C B hr hlk ⟨rfl, rfl⟩ dX8_firstAt_31
      ·
        replace hf := ms_iF c5 hf
        refine lv_aload_n hx hb dX8_firstAt_21 rfl (lv_at hl 0 rfl) (hp_n (n := 22) rfl ?_)
        refine q_getr (κ := 9) (k := 0) (φ := 450) (pc' := 25) C B (cw_k B.2.2 k0) fl_X8_9 rfl rfl rfl (cw_r B.2.2 k0 rfl rfl (by decide) (by decide)) dX8_firstAt_22 rfl (fun b6 eb6 kb6 => ?_)
        replace hf := ms_lE eb6 hf
        refine lv_iload_n hx hb dX8_firstAt_25 rfl (lv_at hl 1 rfl) (hp_n (n := 26) rfl ?_)
        obtain ⟨g7, hf⟩ := ms_gE hf
        refine q_ial (κ := 21) (n := 64) (pc' := 27) C B (cw_k B.2.2 kb6) (by decide) rfl (vi_of g7.1 g7.2) dX8_firstAt_26 rfl ?_
        refine lv_goto (tgt := 31) hx hb dX8_firstAt_27 (by decide) ?_
        cases hf
        exact q_iret C B hr hlk ⟨rfl, rfl⟩ dX8_firstAt_31
def f_X8_manyAt (n : Nat) (α : hp_T) (a0 : Nat) (a1 : Int32) : Option Int32 :=
  if a1 < 0 then
    some (0 : Int32)
  else
    ms_l (hp_I α 453 a0) fun x2 =>
    if x2 ≤ a1 then
      some (0 : Int32)
    else
      ms_l (hp_R α 451 a0) fun b4 =>
      if (64 : Int32) ≤ a1 then
        some (0 : Int32)
      else
        ms_l (hp_R α 451 a0) fun b6 =>
        ms_g a1 64 <|
        some (hp_E α 22 b6 (a1).toNatClampNeg)
set_option maxRecDepth 100000 in
set_option maxHeartbeats 4000000 in
theorem n_X8_manyAt (n : Nat) (Γ : hp_G) (l : Launch) (α : hp_T) (g : GC α) (a0 : Nat) (k0 : hp_K α a0 = 9) (a1 : Int32) (res : Int32) (hf : f_X8_manyAt n α a0 a1 = some res) : Met l yX8_manyAt (hp_ws yX8_manyAt cX8_manyAt 2 (some .int)) (hp_rm 0 0 0) (hp_Pc Γ α [.ref a0, .int a1]) (hp_Qi Γ (fun r β => β = α ∧ r = res)) 0 0 (hp_A Γ) := by
  unfold f_X8_manyAt at hf
  refine hp_start (by decide) ?_
  intro p e s m below meth c C hr hlk B0 hnm
  have C : hp_C Γ p m c cX8_manyAt 2 s ([.ref a0, .int a1] : List Value).toArray RX8 := C
  have hx := C.1.1
  have hb := C.1.2.1
  have hown := C.1.2.2.2.1
  have hts := C.1.2.2.2.2
  have B : hp_B Γ (cw w_X8_manyAt) s α α s.heap [] := ⟨B0.1, B0.2.1, cw_rf g⟩
  have hl := lv_entry ([.ref a0, .int a1]) (n := 2) (Nat.le_of_ble_eq_true rfl)
  show W p l e (hp_rm 0 0 0) s m ([.ref a0, .int a1] : List Value).toArray below meth c s.heap [] 0 0 (MQ below (hp_Qi Γ (fun r β => β = α ∧ r = res)) ([.ref a0, .int a1] : List Value).toArray s 0 0 (hp_A Γ)) (entryFrame m ([.ref a0, .int a1] : List Value).toArray 2)
  rw [lg_entry_eq]
  generalize (lg_sl ([.ref a0, .int a1]) ++ List.replicate (2 - (lg_sl ([.ref a0, .int a1])).length) Slot.unset).toArray = ls at hl ⊢
  have hl : lv_has ls 2 [(0, .ref a0), (1, .int a1)] := hl
  refine lv_iload_n hx hb dX8_manyAt_0 rfl (lv_at hl 1 rfl) (hp_n (n := 1) rfl ?_)
  refine lv_if_lt (tgt := 30) hx hb dX8_manyAt_1 (by decide) (fun c1 => ?_) (fun c1 => hp_n (n := 4) rfl ?_)
  ·
    replace hf := ms_iT c1 hf
    refine lv_iconst (v := 0) hx hb dX8_manyAt_30 (by decide) (hp_n (n := 31) rfl ?_)
    cases hf
    exact q_iret C B hr hlk ⟨rfl, rfl⟩ dX8_manyAt_31
  ·
    replace hf := ms_iF c1 hf
    refine lv_iload_n hx hb dX8_manyAt_4 rfl (lv_at hl 1 rfl) (hp_n (n := 5) rfl ?_)
    refine lv_aload_n hx hb dX8_manyAt_5 rfl (lv_at hl 0 rfl) (hp_n (n := 6) rfl ?_)
    refine q_geti (κ := 9) (k := 3) (φ := 453) (pc' := 9) C B (cw_k B.2.2 k0) fl_X8_22 rfl rfl rfl dX8_manyAt_6 rfl (fun x2 ex2 => ?_)
    replace hf := ms_lE ex2 hf
    refine lv_icmp_ge (tgt := 30) hx hb dX8_manyAt_9 (by decide) (fun c3 => ?_) (fun c3 => hp_n (n := 12) rfl ?_)
    ·
      replace hf := ms_iT c3 hf
      refine lv_iconst (v := 0) hx hb dX8_manyAt_30 (by decide) (hp_n (n := 31) rfl ?_)
      cases hf
      exact q_iret C B hr hlk ⟨rfl, rfl⟩ dX8_manyAt_31
    ·
      replace hf := ms_iF c3 hf
      refine lv_iload_n hx hb dX8_manyAt_12 rfl (lv_at hl 1 rfl) (hp_n (n := 13) rfl ?_)
      refine lv_aload_n hx hb dX8_manyAt_13 rfl (lv_at hl 0 rfl) (hp_n (n := 14) rfl ?_)
      refine q_getr (κ := 9) (k := 1) (φ := 451) (pc' := 17) C B (cw_k B.2.2 k0) fl_X8_15 rfl rfl rfl (cw_r B.2.2 k0 rfl rfl (by decide) (by decide)) dX8_manyAt_14 rfl (fun b4 eb4 kb4 => ?_)
      replace hf := ms_lE eb4 hf
      refine q_alen (κ := 22) (t := 0) (n := 64) (x := 64) (ty := .int) (pc' := 18) C B (cw_k B.2.2 kb4) (by decide) rfl rfl rfl dX8_manyAt_17 rfl ?_
      refine lv_icmp_ge (tgt := 30) hx hb dX8_manyAt_18 (by decide) (fun c5 => ?_) (fun c5 => hp_n (n := 21) rfl ?_)
      ·
        replace hf := ms_iT c5 hf
        refine lv_iconst (v := 0) hx hb dX8_manyAt_30 (by decide) (hp_n (n := 31) rfl ?_)
        cases hf
        exact q_iret C B hr hlk ⟨rfl, rfl⟩ dX8_manyAt_31
      ·
        replace hf := ms_iF c5 hf
        refine lv_aload_n hx hb dX8_manyAt_21 rfl (lv_at hl 0 rfl) (hp_n (n := 22) rfl ?_)
        refine q_getr (κ := 9) (k := 1) (φ := 451) (pc' := 25) C B (cw_k B.2.2 k0) fl_X8_15 rfl rfl rfl (cw_r B.2.2 k0 rfl rfl (by decide) (by decide)) dX8_manyAt_22 rfl (fun b6 eb6 kb6 => ?_)
        replace hf := ms_lE eb6 hf
        refine lv_iload_n hx hb dX8_manyAt_25 rfl (lv_at hl 1 rfl) (hp_n (n := 26) rfl ?_)
        obtain ⟨g7, hf⟩ := ms_gE hf
        refine q_ial (κ := 22) (n := 64) (pc' := 27) C B (cw_k B.2.2 kb6) (by decide) rfl (vi_of g7.1 g7.2) dX8_manyAt_26 rfl ?_
        refine lv_goto (tgt := 31) hx hb dX8_manyAt_27 (by decide) ?_
        cases hf
        exact q_iret C B hr hlk ⟨rfl, rfl⟩ dX8_manyAt_31
def f_X11_answer (n : Nat) (α : hp_T) (a0 : Nat) (a1 : Int32) : Option (Int32 × hp_T) :=
  ms_l (hp_sI α 600 a0 (0 : Int32)) fun αh1 =>
  some (a1, αh1)
set_option maxRecDepth 100000 in
set_option maxHeartbeats 4000000 in
theorem n_X11_answer (n : Nat) (Γ : hp_G) (l : Launch) (α : hp_T) (g : GC α) (a0 : Nat) (k0 : hp_K α a0 = 12) (a1 : Int32) (res : (Int32 × hp_T)) (hf : f_X11_answer n α a0 a1 = some res) : Met l yX11_answer (hp_ws yX11_answer cX11_answer 2 (some .int)) (hp_rm 0 0 0) (hp_Pc Γ α [.ref a0, .int a1]) (hp_Qi Γ (fun r β => r = res.1 ∧ β = res.2 ∧ cw w_X11_answer α β)) 0 0 (hp_A Γ) := by
  unfold f_X11_answer at hf
  refine hp_start (by decide) ?_
  intro p e s m below meth c C hr hlk B0 hnm
  have C : hp_C Γ p m c cX11_answer 2 s ([.ref a0, .int a1] : List Value).toArray RX11 := C
  have hx := C.1.1
  have hb := C.1.2.1
  have hown := C.1.2.2.2.1
  have hts := C.1.2.2.2.2
  have B : hp_B Γ (cw w_X11_answer) s α α s.heap [] := ⟨B0.1, B0.2.1, cw_rf g⟩
  have hl := lv_entry ([.ref a0, .int a1]) (n := 2) (Nat.le_of_ble_eq_true rfl)
  show W p l e (hp_rm 0 0 0) s m ([.ref a0, .int a1] : List Value).toArray below meth c s.heap [] 0 0 (MQ below (hp_Qi Γ (fun r β => r = res.1 ∧ β = res.2 ∧ cw w_X11_answer α β)) ([.ref a0, .int a1] : List Value).toArray s 0 0 (hp_A Γ)) (entryFrame m ([.ref a0, .int a1] : List Value).toArray 2)
  rw [lg_entry_eq]
  generalize (lg_sl ([.ref a0, .int a1]) ++ List.replicate (2 - (lg_sl ([.ref a0, .int a1])).length) Slot.unset).toArray = ls at hl ⊢
  have hl : lv_has ls 2 [(0, .ref a0), (1, .int a1)] := hl
  refine lv_aload_n hx hb dX11_answer_0 rfl (lv_at hl 0 rfl) (hp_n (n := 1) rfl ?_)
  refine lv_iconst (v := 0) hx hb dX11_answer_1 (by decide) (hp_n (n := 2) rfl ?_)
  refine q_puti (κ := 12) (k := 0) (φ := 600) (pc' := 5) C B (cw_k B.2.2 k0) fl_X11_9 rfl rfl rfl rfl rfl rfl (cw_sI B.2.2 (by decide) (fun h => absurd h (by decide))) dX11_answer_2 rfl (fun αh1 Hh1 Lh1 eh1 Bh1 => ?_)
  replace hf := ms_lE eh1 hf
  refine lv_iload_n hx hb dX11_answer_5 rfl (lv_at hl 1 rfl) (hp_n (n := 6) rfl ?_)
  cases hf
  exact q_iret C Bh1 hr hlk ⟨rfl, rfl, Bh1.2.2⟩ dX11_answer_6
def f_X11_refuse (n : Nat) (α : hp_T) (a0 : Nat) (a1 : Int32) : Option (Int32 × hp_T) :=
  ms_l (hp_sI α 600 a0 a1) fun αh1 =>
  some ((-1 : Int32), αh1)
set_option maxRecDepth 100000 in
set_option maxHeartbeats 4000000 in
theorem n_X11_refuse (n : Nat) (Γ : hp_G) (l : Launch) (α : hp_T) (g : GC α) (a0 : Nat) (k0 : hp_K α a0 = 12) (a1 : Int32) (res : (Int32 × hp_T)) (hf : f_X11_refuse n α a0 a1 = some res) : Met l yX11_refuse (hp_ws yX11_refuse cX11_refuse 2 (some .int)) (hp_rm 0 0 0) (hp_Pc Γ α [.ref a0, .int a1]) (hp_Qi Γ (fun r β => r = res.1 ∧ β = res.2 ∧ cw w_X11_refuse α β)) 0 0 (hp_A Γ) := by
  unfold f_X11_refuse at hf
  refine hp_start (by decide) ?_
  intro p e s m below meth c C hr hlk B0 hnm
  have C : hp_C Γ p m c cX11_refuse 2 s ([.ref a0, .int a1] : List Value).toArray RX11 := C
  have hx := C.1.1
  have hb := C.1.2.1
  have hown := C.1.2.2.2.1
  have hts := C.1.2.2.2.2
  have B : hp_B Γ (cw w_X11_refuse) s α α s.heap [] := ⟨B0.1, B0.2.1, cw_rf g⟩
  have hl := lv_entry ([.ref a0, .int a1]) (n := 2) (Nat.le_of_ble_eq_true rfl)
  show W p l e (hp_rm 0 0 0) s m ([.ref a0, .int a1] : List Value).toArray below meth c s.heap [] 0 0 (MQ below (hp_Qi Γ (fun r β => r = res.1 ∧ β = res.2 ∧ cw w_X11_refuse α β)) ([.ref a0, .int a1] : List Value).toArray s 0 0 (hp_A Γ)) (entryFrame m ([.ref a0, .int a1] : List Value).toArray 2)
  rw [lg_entry_eq]
  generalize (lg_sl ([.ref a0, .int a1]) ++ List.replicate (2 - (lg_sl ([.ref a0, .int a1])).length) Slot.unset).toArray = ls at hl ⊢
  have hl : lv_has ls 2 [(0, .ref a0), (1, .int a1)] := hl
  refine lv_aload_n hx hb dX11_refuse_0 rfl (lv_at hl 0 rfl) (hp_n (n := 1) rfl ?_)
  refine lv_iload_n hx hb dX11_refuse_1 rfl (lv_at hl 1 rfl) (hp_n (n := 2) rfl ?_)
  refine q_puti (κ := 12) (k := 0) (φ := 600) (pc' := 5) C B (cw_k B.2.2 k0) fl_X11_9 rfl rfl rfl rfl rfl rfl (cw_sI B.2.2 (by decide) (fun h => absurd h (by decide))) dX11_refuse_2 rfl (fun αh1 Hh1 Lh1 eh1 Bh1 => ?_)
  replace hf := ms_lE eh1 hf
  refine lv_iconst (v := (-1)) hx hb dX11_refuse_5 (by decide) (hp_n (n := 6) rfl ?_)
  cases hf
  exact q_iret C Bh1 hr hlk ⟨rfl, rfl, Bh1.2.2⟩ dX11_refuse_6
def f_X9_clear (n : Nat) (α : hp_T) (a0 : Nat) : Option hp_T :=
  ms_l (hp_sI α 501 a0 (0 : Int32)) fun αh1 =>
  some αh1
set_option maxRecDepth 100000 in
set_option maxHeartbeats 4000000 in
theorem n_X9_clear (n : Nat) (Γ : hp_G) (l : Launch) (α : hp_T) (g : GC α) (a0 : Nat) (k0 : hp_K α a0 = 10) (res : hp_T) (hf : f_X9_clear n α a0 = some res) : Met l yX9_clear (hp_ws yX9_clear cX9_clear 1 none) (hp_rm 0 0 0) (hp_Pc Γ α [.ref a0]) (hp_Qv Γ (fun β => β = res ∧ cw w_X9_clear α β)) 0 0 (hp_A Γ) := by
  unfold f_X9_clear at hf
  refine hp_start (by decide) ?_
  intro p e s m below meth c C hr hlk B0 hnm
  have C : hp_C Γ p m c cX9_clear 1 s ([.ref a0] : List Value).toArray RX9 := C
  have hx := C.1.1
  have hb := C.1.2.1
  have hown := C.1.2.2.2.1
  have hts := C.1.2.2.2.2
  have B : hp_B Γ (cw w_X9_clear) s α α s.heap [] := ⟨B0.1, B0.2.1, cw_rf g⟩
  have hl := lv_entry ([.ref a0]) (n := 1) (Nat.le_of_ble_eq_true rfl)
  show W p l e (hp_rm 0 0 0) s m ([.ref a0] : List Value).toArray below meth c s.heap [] 0 0 (MQ below (hp_Qv Γ (fun β => β = res ∧ cw w_X9_clear α β)) ([.ref a0] : List Value).toArray s 0 0 (hp_A Γ)) (entryFrame m ([.ref a0] : List Value).toArray 1)
  rw [lg_entry_eq]
  generalize (lg_sl ([.ref a0]) ++ List.replicate (1 - (lg_sl ([.ref a0])).length) Slot.unset).toArray = ls at hl ⊢
  have hl : lv_has ls 1 [(0, .ref a0)] := hl
  refine lv_aload_n hx hb dX9_clear_0 rfl (lv_at hl 0 rfl) (hp_n (n := 1) rfl ?_)
  refine lv_iconst (v := 0) hx hb dX9_clear_1 (by decide) (hp_n (n := 2) rfl ?_)
  refine q_puti (κ := 10) (k := 1) (φ := 501) (pc' := 5) C B (cw_k B.2.2 k0) fl_X9_15 rfl rfl rfl rfl rfl rfl (cw_sI B.2.2 (by decide) (fun h => absurd h (by decide))) dX9_clear_2 rfl (fun αh1 Hh1 Lh1 eh1 Bh1 => ?_)
  replace hf := ms_lE eh1 hf
  cases hf
  exact q_vret C Bh1 hr hlk ⟨rfl, Bh1.2.2⟩ dX9_clear_5
def f_X9_put (n : Nat) (α : hp_T) (a0 : Nat) (a1 : Int32) : Option hp_T :=
  ms_l (hp_I α 501 a0) fun x1 =>
  if x1 < 0 then
    some α
  else
    ms_l (hp_I α 501 a0) fun x3 =>
    ms_l (hp_R α 500 a0) fun b4 =>
    if (8 : Int32) ≤ x3 then
      some α
    else
      ms_l (hp_R α 500 a0) fun b6 =>
      ms_l (hp_I α 501 a0) fun x7 =>
      ms_g x7 8 <|
      ms_l (hp_sE α 27 b6 (x7).toNatClampNeg ((a1).toInt8.toInt32).toInt8.toInt32) fun αh9 =>
      ms_l (hp_I αh9 501 a0) fun x10 =>
      ms_l (hp_sI αh9 501 a0 (x10 + (1 : Int32))) fun αh11 =>
      some αh11
set_option maxRecDepth 100000 in
set_option maxHeartbeats 4000000 in
theorem n_X9_put (n : Nat) (Γ : hp_G) (l : Launch) (α : hp_T) (g : GC α) (a0 : Nat) (k0 : hp_K α a0 = 10) (a1 : Int32) (res : hp_T) (hf : f_X9_put n α a0 a1 = some res) : Met l yX9_put (hp_ws yX9_put cX9_put 2 none) (hp_rm 0 0 0) (hp_Pc Γ α [.ref a0, .int a1]) (hp_Qv Γ (fun β => β = res ∧ cw w_X9_put α β)) 0 0 (hp_A Γ) := by
  unfold f_X9_put at hf
  refine hp_start (by decide) ?_
  intro p e s m below meth c C hr hlk B0 hnm
  have C : hp_C Γ p m c cX9_put 2 s ([.ref a0, .int a1] : List Value).toArray RX9 := C
  have hx := C.1.1
  have hb := C.1.2.1
  have hown := C.1.2.2.2.1
  have hts := C.1.2.2.2.2
  have B : hp_B Γ (cw w_X9_put) s α α s.heap [] := ⟨B0.1, B0.2.1, cw_rf g⟩
  have hl := lv_entry ([.ref a0, .int a1]) (n := 2) (Nat.le_of_ble_eq_true rfl)
  show W p l e (hp_rm 0 0 0) s m ([.ref a0, .int a1] : List Value).toArray below meth c s.heap [] 0 0 (MQ below (hp_Qv Γ (fun β => β = res ∧ cw w_X9_put α β)) ([.ref a0, .int a1] : List Value).toArray s 0 0 (hp_A Γ)) (entryFrame m ([.ref a0, .int a1] : List Value).toArray 2)
  rw [lg_entry_eq]
  generalize (lg_sl ([.ref a0, .int a1]) ++ List.replicate (2 - (lg_sl ([.ref a0, .int a1])).length) Slot.unset).toArray = ls at hl ⊢
  have hl : lv_has ls 2 [(0, .ref a0), (1, .int a1)] := hl
  refine lv_aload_n hx hb dX9_put_0 rfl (lv_at hl 0 rfl) (hp_n (n := 1) rfl ?_)
  refine q_geti (κ := 10) (k := 1) (φ := 501) (pc' := 4) C B (cw_k B.2.2 k0) fl_X9_15 rfl rfl rfl dX9_put_1 rfl (fun x1 ex1 => ?_)
  replace hf := ms_lE ex1 hf
  refine lv_if_lt (tgt := 40) hx hb dX9_put_4 (by decide) (fun c2 => ?_) (fun c2 => hp_n (n := 7) rfl ?_)
  ·
    replace hf := ms_iT c2 hf
    cases hf
    exact q_vret C B hr hlk ⟨rfl, B.2.2⟩ dX9_put_40
  ·
    replace hf := ms_iF c2 hf
    refine lv_aload_n hx hb dX9_put_7 rfl (lv_at hl 0 rfl) (hp_n (n := 8) rfl ?_)
    refine q_geti (κ := 10) (k := 1) (φ := 501) (pc' := 11) C B (cw_k B.2.2 k0) fl_X9_15 rfl rfl rfl dX9_put_8 rfl (fun x3 ex3 => ?_)
    replace hf := ms_lE ex3 hf
    refine lv_aload_n hx hb dX9_put_11 rfl (lv_at hl 0 rfl) (hp_n (n := 12) rfl ?_)
    refine q_getr (κ := 10) (k := 0) (φ := 500) (pc' := 15) C B (cw_k B.2.2 k0) fl_X9_9 rfl rfl rfl (cw_r B.2.2 k0 rfl rfl (by decide) (by decide)) dX9_put_12 rfl (fun b4 eb4 kb4 => ?_)
    replace hf := ms_lE eb4 hf
    refine q_alen (κ := 27) (t := 1) (n := 8) (x := 8) (ty := .byte) (pc' := 16) C B (cw_k B.2.2 kb4) (by decide) rfl rfl rfl dX9_put_15 rfl ?_
    refine lv_icmp_ge (tgt := 40) hx hb dX9_put_16 (by decide) (fun c5 => ?_) (fun c5 => hp_n (n := 19) rfl ?_)
    ·
      replace hf := ms_iT c5 hf
      cases hf
      exact q_vret C B hr hlk ⟨rfl, B.2.2⟩ dX9_put_40
    ·
      replace hf := ms_iF c5 hf
      refine lv_aload_n hx hb dX9_put_19 rfl (lv_at hl 0 rfl) (hp_n (n := 20) rfl ?_)
      refine q_getr (κ := 10) (k := 0) (φ := 500) (pc' := 23) C B (cw_k B.2.2 k0) fl_X9_9 rfl rfl rfl (cw_r B.2.2 k0 rfl rfl (by decide) (by decide)) dX9_put_20 rfl (fun b6 eb6 kb6 => ?_)
      replace hf := ms_lE eb6 hf
      refine lv_aload_n hx hb dX9_put_23 rfl (lv_at hl 0 rfl) (hp_n (n := 24) rfl ?_)
      refine q_geti (κ := 10) (k := 1) (φ := 501) (pc' := 27) C B (cw_k B.2.2 k0) fl_X9_15 rfl rfl rfl dX9_put_24 rfl (fun x7 ex7 => ?_)
      replace hf := ms_lE ex7 hf
      refine lv_iload_n hx hb dX9_put_27 rfl (lv_at hl 1 rfl) (hp_n (n := 28) rfl ?_)
      refine lv_i2b hx hb dX9_put_28 rfl (hp_n (n := 29) rfl ?_)
      obtain ⟨g8, hf⟩ := ms_gE hf
      refine q_bas (κ := 27) (n := 8) (pc' := 30) (y := ((a1).toInt8.toInt32).toInt8.toInt32) C B (cw_k B.2.2 kb6) (by decide) rfl (vi_of g8.1 g8.2) rfl rfl (cw_sE B.2.2 (by decide)) dX9_put_29 rfl (fun αh9 Hh9 Lh9 eh9 Bh9 => ?_)
      replace hf := ms_lE eh9 hf
      refine lv_aload_n hx hb dX9_put_30 rfl (lv_at hl 0 rfl) (hp_n (n := 31) rfl ?_)
      refine lv_dup hx hb dX9_put_31 rfl (hp_n (n := 32) rfl ?_)
      refine q_geti (κ := 10) (k := 1) (φ := 501) (pc' := 35) C Bh9 (cw_k Bh9.2.2 k0) fl_X9_15 rfl rfl rfl dX9_put_32 rfl (fun x10 ex10 => ?_)
      replace hf := ms_lE ex10 hf
      refine lv_iconst (v := 1) hx hb dX9_put_35 (by decide) (hp_n (n := 36) rfl ?_)
      refine lv_iadd hx hb dX9_put_36 (hp_n (n := 37) rfl ?_)
      refine q_puti (κ := 10) (k := 1) (φ := 501) (pc' := 40) C Bh9 (cw_k Bh9.2.2 k0) fl_X9_15 rfl rfl rfl rfl rfl rfl (cw_sI Bh9.2.2 (by decide) (fun h => absurd h (by decide))) dX9_put_37 rfl (fun αh11 Hh11 Lh11 eh11 Bh11 => ?_)
      replace hf := ms_lE eh11 hf
      cases hf
      exact q_vret C Bh11 hr hlk ⟨rfl, Bh11.2.2⟩ dX9_put_40
def f_X11_type_J77 (n : Nat) (a0 : Nat) (αh4 : hp_T) : Option (Int32 × hp_T) :=
  ms_l (hp_R αh4 606 a0) fun b5 =>
  ms_l (hp_R αh4 607 a0) fun b6 =>
  ms_l (hp_sR αh4 606 a0 b6) fun αh7 =>
  ms_l (hp_sR αh7 607 a0 b5) fun αh8 =>
  ms_l (hp_R αh8 606 a0) fun b9 =>
  ms_l (hp_I αh8 501 b9) fun x10 =>
  some (x10, αh8)
def f_X11_type_J43 (n : Nat) (a0 : Nat) (rec9 : hp_T → Int32 → Int32 → Int32 → Option (Int32 × hp_T)) (αh12 : hp_T) (v1_h12 : Int32) (v2_h12 : Int32) (v3_h12 : Int32) (w0_h12 : Int32) : Option (Int32 × hp_T) :=
  if w0_h12 = 0 then
    f_X11_type_J77 n a0 αh12
  else
    if w0_h12 ≤ (26 : Int32) then
      ms_l (hp_R αh12 607 a0) fun b15 =>
      ms_b (f_X9_put n αh12 b15 w0_h12) fun αh16 =>
      ms_l (v3_h12 + 1) fun x17 =>
      rec9 αh16 v1_h12 v2_h12 x17
    else
      some ((-1 : Int32), αh12)
def f_X11_type_L9 (n : Nat) (a0 : Nat) : Nat → hp_T → Int32 → Int32 → Int32 → Option (Int32 × hp_T)
  | 0, _, _, _, _ => none
  | k9 + 1, αh3, v1_h3, v2_h3, v3_h3 =>
    if (8 : Int32) ≤ v3_h3 then
      f_X11_type_J77 n a0 αh3
    else
      if (6 : Int32) ≤ v3_h3 then
        f_X11_type_J43 n a0 (f_X11_type_L9 n a0 k9) αh3 v1_h3 v2_h3 v3_h3 (((v2_h3).toUInt32 >>> ((((5 : Int32) * (v3_h3 - (6 : Int32)))).toUInt32 &&& Int32.toUInt32 31)).toInt32 &&& (31 : Int32))
      else
        f_X11_type_J43 n a0 (f_X11_type_L9 n a0 k9) αh3 v1_h3 v2_h3 v3_h3 (((v1_h3).toUInt32 >>> ((((5 : Int32) * v3_h3)).toUInt32 &&& Int32.toUInt32 31)).toInt32 &&& (31 : Int32))
def f_X11_type (n : Nat) (α : hp_T) (a0 : Nat) (a1 : Int32) (a2 : Int32) : Option (Int32 × hp_T) :=
  ms_l (hp_R α 607 a0) fun b1 =>
  ms_b (f_X9_clear n α b1) fun αh2 =>
  f_X11_type_L9 n a0 n αh2 a1 a2 (0 : Int32)
set_option maxRecDepth 100000 in
set_option maxHeartbeats 4000000 in
theorem n_X11_type (n : Nat) (Γ : hp_G) (l : Launch) (α : hp_T) (g : GC α) (a0 : Nat) (k0 : hp_K α a0 = 12) (a1 : Int32) (a2 : Int32) (res : (Int32 × hp_T)) (hf : f_X11_type n α a0 a1 a2 = some res) : Met l yX11_type (hp_ws yX11_type cX11_type 5 (some .int)) (hp_rm 1 0 0) (hp_Pc Γ α [.ref a0, .int a1, .int a2]) (hp_Qi Γ (fun r β => r = res.1 ∧ β = res.2 ∧ cw w_X11_type α β)) 0 0 (hp_A Γ) := by
  unfold f_X11_type at hf
  refine hp_start (by decide) ?_
  intro p e s m below meth c C hr hlk B0 hnm
  have C : hp_C Γ p m c cX11_type 5 s ([.ref a0, .int a1, .int a2] : List Value).toArray RX11 := C
  have hx := C.1.1
  have hb := C.1.2.1
  have hown := C.1.2.2.2.1
  have hts := C.1.2.2.2.2
  have B : hp_B Γ (cw w_X11_type) s α α s.heap [] := ⟨B0.1, B0.2.1, cw_rf g⟩
  have hl := lv_entry ([.ref a0, .int a1, .int a2]) (n := 5) (Nat.le_of_ble_eq_true rfl)
  show W p l e (hp_rm 1 0 0) s m ([.ref a0, .int a1, .int a2] : List Value).toArray below meth c s.heap [] 0 0 (MQ below (hp_Qi Γ (fun r β => r = res.1 ∧ β = res.2 ∧ cw w_X11_type α β)) ([.ref a0, .int a1, .int a2] : List Value).toArray s 0 0 (hp_A Γ)) (entryFrame m ([.ref a0, .int a1, .int a2] : List Value).toArray 5)
  rw [lg_entry_eq]
  generalize (lg_sl ([.ref a0, .int a1, .int a2]) ++ List.replicate (5 - (lg_sl ([.ref a0, .int a1, .int a2])).length) Slot.unset).toArray = ls at hl ⊢
  have hl : lv_has ls 5 [(0, .ref a0), (1, .int a1), (2, .int a2)] := hl
  refine lv_aload_n hx hb dX11_type_0 rfl (lv_at hl 0 rfl) (hp_n (n := 1) rfl ?_)
  refine q_getr (κ := 12) (k := 7) (φ := 607) (pc' := 4) C B (cw_k B.2.2 k0) fl_X11_44 rfl rfl rfl (cw_r B.2.2 k0 rfl rfl (by decide) (by decide)) dX11_type_1 rfl (fun b1 eb1 kb1 => ?_)
  replace hf := ms_lE eb1 hf
  obtain ⟨αh2, qh2, hf⟩ := ms_bE hf
  refine d_cv (pc' := 7) B (hp_runV (As := []) (rest := []) C B (n_X9_clear n Γ l α B.2.2.1 b1 (cw_k B.2.2 kb1) αh2 qh2) lb_X9_clear lv_X9_clear lk_X11_144 (cw_k B.2.2 kb1) rfl (by decide) rfl hl.1 rfl (Nat.le_of_ble_eq_true rfl) dX11_type_4 ⟨Nat.le_refl _, Nat.le_refl _⟩) (by decide) rfl (fun Hh2 Lh2 Bh2 => ?_)
  refine lv_iconst (v := 0) hx hb dX11_type_7 (by decide) (hp_n (n := 8) rfl ?_)
  have J9 : ∀ (k9 : Nat) (αh3 : hp_T) (Hh3 : Heap) (Lh3 : List Loc) (Bh3 : hp_B Γ (cw w_X11_type) s α αh3 Hh3 Lh3) (v1_h3 : Int32) (v2_h3 : Int32) (v3_h3 : Int32) (ls : Array Slot) (hl : lv_has ls 5 [(0, .ref a0), (1, .int v1_h3), (2, .int v2_h3), (3, .int v3_h3)]) (hf : f_X11_type_L9 n a0 k9 αh3 v1_h3 v2_h3 v3_h3 = some res), W p l e (hp_rm 1 0 0) s m ([.ref a0, .int a1, .int a2] : List Value).toArray below meth c Hh3 Lh3 0 0 (MQ below (hp_Qi Γ (fun r β => r = res.1 ∧ β = res.2 ∧ cw w_X11_type α β)) ([.ref a0, .int a1, .int a2] : List Value).toArray s 0 0 (hp_A Γ)) (F0 m 9 ls []) := by
    intro k9
    induction k9 with
    | zero => intro αh3 Hh3 Lh3 Bh3 v1_h3 v2_h3 v3_h3 ls hl hf; rw [f_X11_type_L9.eq_1] at hf; cases hf
    | succ k9 ih9 =>
      intro αh3 Hh3 Lh3 Bh3 v1_h3 v2_h3 v3_h3 ls hl hf
      rw [f_X11_type_L9.eq_2] at hf
      refine lv_iload_n hx hb dX11_type_9 rfl (lv_at hl 3 rfl) (hp_n (n := 10) rfl ?_)
      refine lv_bipush (v := 8) hx hb dX11_type_10 (by decide) (hp_n (n := 12) rfl ?_)
      have J77 : ∀ (αh4 : hp_T) (Hh4 : Heap) (Lh4 : List Loc) (Bh4 : hp_B Γ (cw w_X11_type) s α αh4 Hh4 Lh4) (ls : Array Slot) (hl : lv_has ls 5 [(0, .ref a0)]) (hf : f_X11_type_J77 n a0 αh4 = some res), W p l e (hp_rm 1 0 0) s m ([.ref a0, .int a1, .int a2] : List Value).toArray below meth c Hh4 Lh4 0 0 (MQ below (hp_Qi Γ (fun r β => r = res.1 ∧ β = res.2 ∧ cw w_X11_type α β)) ([.ref a0, .int a1, .int a2] : List Value).toArray s 0 0 (hp_A Γ)) (F0 m 77 ls []) := by
        intro αh4 Hh4 Lh4 Bh4 ls hl hf
        unfold f_X11_type_J77 at hf
        refine lv_aload_n hx hb dX11_type_77 rfl (lv_at hl 0 rfl) (hp_n (n := 78) rfl ?_)
        refine q_getr (κ := 12) (k := 6) (φ := 606) (pc' := 81) C Bh4 (cw_k Bh4.2.2 k0) fl_X11_40 rfl rfl rfl (cw_r Bh4.2.2 k0 rfl rfl (by decide) (by decide)) dX11_type_78 rfl (fun b5 eb5 kb5 => ?_)
        replace hf := ms_lE eb5 hf
        refine lv_astore_n (lv' := [(3, .ref b5), (0, .ref a0)]) hx hb dX11_type_81 rfl hl (by decide) rfl (fun ls hl => hp_n (n := 82) rfl ?_)
        refine lv_aload_n hx hb dX11_type_82 rfl (lv_at hl 1 rfl) (hp_n (n := 83) rfl ?_)
        refine lv_aload_n hx hb dX11_type_83 rfl (lv_at hl 1 rfl) (hp_n (n := 84) rfl ?_)
        refine q_getr (κ := 12) (k := 7) (φ := 607) (pc' := 87) C Bh4 (cw_k Bh4.2.2 k0) fl_X11_44 rfl rfl rfl (cw_r Bh4.2.2 k0 rfl rfl (by decide) (by decide)) dX11_type_84 rfl (fun b6 eb6 kb6 => ?_)
        replace hf := ms_lE eb6 hf
        refine q_putr (κ := 12) (k := 6) (φ := 606) (pc' := 90) C Bh4 (cw_k Bh4.2.2 k0) fl_X11_40 rfl rfl rfl rfl rfl rfl (cw_sR Bh4.2.2 (by decide) (Or.inl kb6)) dX11_type_87 rfl (fun αh7 Hh7 Lh7 eh7 Bh7 => ?_)
        replace hf := ms_lE eh7 hf
        refine lv_aload_n hx hb dX11_type_90 rfl (lv_at hl 1 rfl) (hp_n (n := 91) rfl ?_)
        refine lv_aload_n hx hb dX11_type_91 rfl (lv_at hl 0 rfl) (hp_n (n := 92) rfl ?_)
        refine q_putr (κ := 12) (k := 7) (φ := 607) (pc' := 95) C Bh7 (cw_k Bh7.2.2 k0) fl_X11_44 rfl rfl rfl rfl rfl rfl (cw_sR Bh7.2.2 (by decide) (Or.inl kb5)) dX11_type_92 rfl (fun αh8 Hh8 Lh8 eh8 Bh8 => ?_)
        replace hf := ms_lE eh8 hf
        refine lv_aload_n hx hb dX11_type_95 rfl (lv_at hl 1 rfl) (hp_n (n := 96) rfl ?_)
        refine q_getr (κ := 12) (k := 6) (φ := 606) (pc' := 99) C Bh8 (cw_k Bh8.2.2 k0) fl_X11_40 rfl rfl rfl (cw_r Bh8.2.2 k0 rfl rfl (by decide) (by decide)) dX11_type_96 rfl (fun b9 eb9 kb9 => ?_)
        replace hf := ms_lE eb9 hf
        refine q_geti (κ := 10) (k := 1) (φ := 501) (pc' := 102) C Bh8 (cw_k Bh8.2.2 kb9) fl_X11_150 rfl rfl rfl dX11_type_99 rfl (fun x10 ex10 => ?_)
        replace hf := ms_lE ex10 hf
        cases hf
        exact q_iret C Bh8 hr hlk ⟨rfl, rfl, Bh8.2.2⟩ dX11_type_102
      refine lv_icmp_ge (tgt := 77) hx hb dX11_type_12 (by decide) (fun c11 => ?_) (fun c11 => hp_n (n := 15) rfl ?_)
      ·
        replace hf := ms_iT c11 hf
        exact J77 αh3 Hh3 Lh3 Bh3 ls (lv_sub hl [0] rfl) hf
      ·
        replace hf := ms_iF c11 hf
        refine lv_iload_n hx hb dX11_type_15 rfl (lv_at hl 3 rfl) (hp_n (n := 16) rfl ?_)
        refine lv_bipush (v := 6) hx hb dX11_type_16 (by decide) (hp_n (n := 18) rfl ?_)
        have J43 : ∀ (αh12 : hp_T) (Hh12 : Heap) (Lh12 : List Loc) (Bh12 : hp_B Γ (cw w_X11_type) s α αh12 Hh12 Lh12) (v1_h12 : Int32) (v2_h12 : Int32) (v3_h12 : Int32) (w0_h12 : Int32) (ls : Array Slot) (hl : lv_has ls 5 [(0, .ref a0), (1, .int v1_h12), (2, .int v2_h12), (3, .int v3_h12)]) (hf : f_X11_type_J43 n a0 (f_X11_type_L9 n a0 k9) αh12 v1_h12 v2_h12 v3_h12 w0_h12 = some res), W p l e (hp_rm 1 0 0) s m ([.ref a0, .int a1, .int a2] : List Value).toArray below meth c Hh12 Lh12 0 0 (MQ below (hp_Qi Γ (fun r β => r = res.1 ∧ β = res.2 ∧ cw w_X11_type α β)) ([.ref a0, .int a1, .int a2] : List Value).toArray s 0 0 (hp_A Γ)) (F0 m 43 ls [.int w0_h12]) := by
          intro αh12 Hh12 Lh12 Bh12 v1_h12 v2_h12 v3_h12 w0_h12 ls hl hf
          unfold f_X11_type_J43 at hf
          refine lv_istore (lv' := [(4, .int w0_h12), (0, .ref a0), (1, .int v1_h12), (2, .int v2_h12), (3, .int v3_h12)]) hx hb dX11_type_43 hl (by decide) rfl (fun ls hl => hp_n (n := 45) rfl ?_)
          refine lv_iload hx hb dX11_type_45 (lv_at hl 0 rfl) (hp_n (n := 47) rfl ?_)
          refine lv_if_ne (tgt := 53) hx hb dX11_type_47 (by decide) (fun c13 => ?_) (fun c13 => hp_n (n := 50) rfl ?_)
          ·
            replace hf := ms_iF c13 hf
            refine lv_iload hx hb dX11_type_53 (lv_at hl 0 rfl) (hp_n (n := 55) rfl ?_)
            refine lv_bipush (v := 26) hx hb dX11_type_55 (by decide) (hp_n (n := 57) rfl ?_)
            refine lv_icmp_le (tgt := 62) hx hb dX11_type_57 (by decide) (fun c14 => ?_) (fun c14 => hp_n (n := 60) rfl ?_)
            ·
              replace hf := ms_iT c14 hf
              refine lv_aload_n hx hb dX11_type_62 rfl (lv_at hl 1 rfl) (hp_n (n := 63) rfl ?_)
              refine q_getr (κ := 12) (k := 7) (φ := 607) (pc' := 66) C Bh12 (cw_k Bh12.2.2 k0) fl_X11_44 rfl rfl rfl (cw_r Bh12.2.2 k0 rfl rfl (by decide) (by decide)) dX11_type_63 rfl (fun b15 eb15 kb15 => ?_)
              replace hf := ms_lE eb15 hf
              refine lv_iload hx hb dX11_type_66 (lv_at hl 0 rfl) (hp_n (n := 68) rfl ?_)
              obtain ⟨αh16, qh16, hf⟩ := ms_bE hf
              refine d_cv (pc' := 71) Bh12 (hp_runV (As := [.int w0_h12]) (rest := []) C Bh12 (n_X9_put n Γ l αh12 Bh12.2.2.1 b15 (cw_k Bh12.2.2 kb15) w0_h12 αh16 qh16) lb_X9_put lv_X9_put lk_X11_147 (cw_k Bh12.2.2 kb15) rfl (by decide) rfl hl.1 rfl (Nat.le_of_ble_eq_true rfl) dX11_type_68 ⟨Nat.le_refl _, Nat.le_refl _⟩) (by decide) rfl (fun Hh16 Lh16 Bh16 => ?_)
              obtain ⟨x17, ex17⟩ : ∃ y : Int32, y = v3_h12 + 1 := ⟨_, rfl⟩
              replace hf := ms_lE ex17 hf
              refine lv_iinc (v := x17) (lv' := [(3, .int x17), (4, .int w0_h12), (0, .ref a0), (1, .int v1_h12), (2, .int v2_h12)]) hx hb dX11_type_71 hl (k := 4) rfl (by rw [ex17]; rfl) (by decide) rfl (fun ls hl => hp_n (n := 74) rfl ?_)
              refine lv_goto (tgt := 9) hx hb dX11_type_74 (by decide) ?_
              exact ih9 αh16 Hh16 Lh16 Bh16 v1_h12 v2_h12 x17 ls (lv_sub hl [2, 3, 4, 0] rfl) hf
            ·
              replace hf := ms_iF c14 hf
              refine lv_iconst (v := (-1)) hx hb dX11_type_60 (by decide) (hp_n (n := 61) rfl ?_)
              cases hf
              exact q_iret C Bh12 hr hlk ⟨rfl, rfl, Bh12.2.2⟩ dX11_type_61
          ·
            replace hf := ms_iT c13 hf
            refine lv_goto (tgt := 77) hx hb dX11_type_50 (by decide) ?_
            exact J77 αh12 Hh12 Lh12 Bh12 ls (lv_sub hl [1] rfl) hf
        refine lv_icmp_ge (tgt := 32) hx hb dX11_type_18 (by decide) (fun c18 => ?_) (fun c18 => hp_n (n := 21) rfl ?_)
        ·
          replace hf := ms_iT c18 hf
          refine lv_iload_n hx hb dX11_type_32 rfl (lv_at hl 2 rfl) (hp_n (n := 33) rfl ?_)
          refine lv_iconst (v := 5) hx hb dX11_type_33 (by decide) (hp_n (n := 34) rfl ?_)
          refine lv_iload_n hx hb dX11_type_34 rfl (lv_at hl 3 rfl) (hp_n (n := 35) rfl ?_)
          refine lv_bipush (v := 6) hx hb dX11_type_35 (by decide) (hp_n (n := 37) rfl ?_)
          refine lv_isub hx hb dX11_type_37 (hp_n (n := 38) rfl ?_)
          refine lv_imul hx hb dX11_type_38 (hp_n (n := 39) rfl ?_)
          refine lv_iushr hx hb dX11_type_39 rfl (hp_n (n := 40) rfl ?_)
          refine lv_bipush (v := 31) hx hb dX11_type_40 (by decide) (hp_n (n := 42) rfl ?_)
          refine lv_iand hx hb dX11_type_42 (hp_n (n := 43) rfl ?_)
          exact J43 αh3 Hh3 Lh3 Bh3 v1_h3 v2_h3 v3_h3 (((v2_h3).toUInt32 >>> ((((5 : Int32) * (v3_h3 - (6 : Int32)))).toUInt32 &&& Int32.toUInt32 31)).toInt32 &&& (31 : Int32)) ls (lv_sub hl [0, 1, 2, 3] rfl) hf
        ·
          replace hf := ms_iF c18 hf
          refine lv_iload_n hx hb dX11_type_21 rfl (lv_at hl 1 rfl) (hp_n (n := 22) rfl ?_)
          refine lv_iconst (v := 5) hx hb dX11_type_22 (by decide) (hp_n (n := 23) rfl ?_)
          refine lv_iload_n hx hb dX11_type_23 rfl (lv_at hl 3 rfl) (hp_n (n := 24) rfl ?_)
          refine lv_imul hx hb dX11_type_24 (hp_n (n := 25) rfl ?_)
          refine lv_iushr hx hb dX11_type_25 rfl (hp_n (n := 26) rfl ?_)
          refine lv_bipush (v := 31) hx hb dX11_type_26 (by decide) (hp_n (n := 28) rfl ?_)
          refine lv_iand hx hb dX11_type_28 (hp_n (n := 29) rfl ?_)
          refine lv_goto (tgt := 43) hx hb dX11_type_29 (by decide) ?_
          exact J43 αh3 Hh3 Lh3 Bh3 v1_h3 v2_h3 v3_h3 (((v1_h3).toUInt32 >>> ((((5 : Int32) * v3_h3)).toUInt32 &&& Int32.toUInt32 31)).toInt32 &&& (31 : Int32)) ls (lv_sub hl [0, 1, 2, 3] rfl) hf
  refine lv_istore_n (lv' := [(3, .int (0 : Int32)), (0, .ref a0), (1, .int a1), (2, .int a2)]) hx hb dX11_type_8 rfl hl (by decide) rfl (fun ls hl => hp_n (n := 9) rfl ?_)
  exact J9 n αh2 Hh2 Lh2 Bh2 a1 a2 (0 : Int32) ls (lv_sub hl [1, 2, 3, 0] rfl) hf
end JN7_31
